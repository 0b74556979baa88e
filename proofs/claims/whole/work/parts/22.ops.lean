set_option maxHeartbeats 1000000 in
set_option maxRecDepth 100000 in
theorem op_setRate {p : Program} {l : Launch} {e : Env} {s : State} {m : MethodId} {args : Array Value} {below : List Frame} {meth : Method} {c : Code} {H : Heap} {locs : List Loc} {cells slots : Nat} {Q : State → Prop} {ls : Array Slot} {G : va_G} {cA cL cD : ClassId} {ad0 ad1 : Nat → Nat} {σ τ : RS} {fo : Nat → Int64} {fd : Nat → UInt64} {ou od bx L : Nat} {xs : Nat → Int32} {b : BS} (CF : CallFix p m c cL_law 9 s args AW RL) (hL : LX l G cA cL cD ad0 ad1 ou od bx L xs s) (hS : va_S (AL s) s.heap H locs) (hH : LH G cA cL cD ad0 ad1 ou od σ τ fo fd H) (hRc0 : Rc σ b) (hRo0 : Ro σ b) (hRc1 : Rc τ b) (hRo1 : Ro τ b) (hI : InvC b) (hOi : InvO b) {i : Nat} (hi : 6 * i + 6 ≤ L) (hl : lv_has ls 9 [(0, .ref (bx)), (1, .ref (ad0 0)), (2, .ref (ad1 0)), (3, .ref (ou)), (4, .ref (od)), (5, .int (nI (6 * i)))]) (hcs : cells + 2 ≤ 656478 ∧ slots + 11 ≤ 7126671) (kk : ∀ (b' : BS) (σ' τ' : RS) (fo' : Nat → Int64) (fd' : Nat → UInt64) (H' : Heap) (locs' : List Loc) (ls' : Array Slot), LH G cA cL cD ad0 ad1 ou od σ' τ' fo' fd' H' → Rc σ' b' → Ro σ' b' → Rc τ' b' → Ro τ' b' → InvC b' → InvO b' → va_S (AL s) s.heap H' locs' → lv_has ls' 9 [(0, .ref (bx)), (1, .ref (ad0 0)), (2, .ref (ad1 0)), (3, .ref (ou)), (4, .ref (od)), (5, .int (nI (6 * i)))] → W p l e room_1 s m args below meth c H' locs' (cells + 2) (slots + 11) Q (F0 m 1448 ls' [])) : W p l e room_1 s m args below meth c H locs cells slots Q (F0 m 140 ls []) := by
  obtain ⟨hX, hbl, hK, hKL, hKD, hE, hj0, hj1, ha0, ha1, hou, hod, d01, d0o, d1o, d0d, d1d, dod, hfl, hL3⟩ := id hL
  have i_cu := hI.2.1
  have hw10 := hOi.1
  by_cases hg : 0 ≤ (xs (6 * i + 1)).toInt ∧ (xs (6 * i + 1)).toInt < 5 ∧ 0 ≤ (xs (6 * i + 2)).toInt ∧ (xs (6 * i + 2)).toInt < 5 ∧ (xs (6 * i + 1)).toInt ≠ (xs (6 * i + 2)).toInt ∧ 0 ≤ (xs (6 * i + 3)).toInt ∧ (xs (6 * i + 3)).toInt ≤ 9999
  · obtain ⟨f, h_f, e_f⟩ := nI_ex (x := xs (6 * i + 1)) (n := 5) (by omega) (by omega)
    obtain ⟨t, h_t, e_t⟩ := nI_ex (x := xs (6 * i + 2)) (n := 5) (by omega) (by omega)
    obtain ⟨v, h_v, e_v⟩ := nI_ex (x := xs (6 * i + 3)) (n := 10000) (by omega) (by omega)
    rw [e_f, e_t, e_v] at hg
    have z_f := nIz (n := f) (by omega)
    have z_t := nIz (n := t) (by omega)
    have z_v := nIz (n := v) (by omega)
    refine lv_aload_n CF.1 CF.2.1 dL_law_140 rfl (lv_at hl 1 rfl) ?_
    refine lv_aload_n CF.1 CF.2.1 dL_law_141 rfl (lv_at hl 0 rfl) ?_
    refine lv_iload CF.1 CF.2.1 dL_law_142 (lv_at hl 5 rfl) ?_
    refine lv_iconst (v := nI 1) CF.1 CF.2.1 dL_law_144 (by decide) ?_
    refine o_iadd CF dL_law_145 ?_
    refine x_sld CF hL hS (i := 6 * i + 1) (by omega) e_f dL_law_146 ?_
    refine lv_aload_n CF.1 CF.2.1 dL_law_147 rfl (lv_at hl 0 rfl) ?_
    refine lv_iload CF.1 CF.2.1 dL_law_148 (lv_at hl 5 rfl) ?_
    refine lv_iconst (v := nI 2) CF.1 CF.2.1 dL_law_150 (by decide) ?_
    refine o_iadd CF dL_law_151 ?_
    refine x_sld CF hL hS (i := 6 * i + 2) (by omega) e_t dL_law_152 ?_
    refine lv_aload_n CF.1 CF.2.1 dL_law_153 rfl (lv_at hl 0 rfl) ?_
    refine lv_iload CF.1 CF.2.1 dL_law_154 (lv_at hl 5 rfl) ?_
    refine lv_iconst (v := nI 3) CF.1 CF.2.1 dL_law_156 (by decide) ?_
    refine o_iadd CF dL_law_157 ?_
    refine x_sld CF hL hS (i := 6 * i + 3) (by omega) e_v dL_law_158 ?_
    refine lv_aload_n CF.1 CF.2.1 dL_law_159 rfl (lv_at hl 3 rfl) ?_
    refine k_W CF hL hS hH (As := [.ref (ad0 0), .int (nI (f)), .int (nI (t)), .int (nI (v)), .ref (ou)]) (rest := []) (wk_setRate l hj0 (b := b) hI hRc0 hRo0 hOi (f := f) (t := t) (v := v) (by omega) (by omega) (by omega) (by omega) d0o) lk_RL_L_setRate rfl hl.1 ⟨Nat.le_of_ble_eq_true rfl, Nat.le_of_ble_eq_true rfl⟩ ⟨Nat.le_trans (by omega) hcs.1, Nat.le_trans (by omega) hcs.2⟩ (Nat.le_of_ble_eq_true rfl) rfl dL_law_160 (fun r1 uw H1 locs hp1 hH1 hS1 => ?_)
    obtain ⟨rfl, hv1, hR0, hO0⟩ := hp1
    refine lv_istore (lv' := [(6, .int (nI (0))), (0, .ref (bx)), (1, .ref (ad0 0)), (2, .ref (ad1 0)), (3, .ref (ou)), (4, .ref (od)), (5, .int (nI (6 * i)))]) CF.1 CF.2.1 dL_law_163 hl (by decide) rfl (fun ls hl => ?_)
    refine lv_aload_n CF.1 CF.2.1 dL_law_165 rfl (lv_at hl 3 rfl) ?_
    refine lv_aload_n CF.1 CF.2.1 dL_law_166 rfl (lv_at hl 1 rfl) ?_
    refine lv_iload CF.1 CF.2.1 dL_law_167 (lv_at hl 6 rfl) ?_
    refine lv_iconst (v := nI 1) CF.1 CF.2.1 dL_law_169 (by decide) ?_
    refine o_iadd CF dL_law_170 ?_
    refine x_sld CF hL hS1 (i := 6 * i + 1) (by omega) e_f dL_law_171 ?_
    refine lv_aload_n CF.1 CF.2.1 dL_law_172 rfl (lv_at hl 1 rfl) ?_
    refine lv_iload CF.1 CF.2.1 dL_law_173 (lv_at hl 6 rfl) ?_
    refine lv_iconst (v := nI 2) CF.1 CF.2.1 dL_law_175 (by decide) ?_
    refine o_iadd CF dL_law_176 ?_
    refine x_sld CF hL hS1 (i := 6 * i + 2) (by omega) e_t dL_law_177 ?_
    refine lv_aload_n CF.1 CF.2.1 dL_law_178 rfl (lv_at hl 1 rfl) ?_
    refine lv_iload CF.1 CF.2.1 dL_law_179 (lv_at hl 6 rfl) ?_
    refine lv_iconst (v := nI 3) CF.1 CF.2.1 dL_law_181 (by decide) ?_
    refine o_iadd CF dL_law_182 ?_
    refine x_sld CF hL hS1 (i := 6 * i + 3) (by omega) e_v dL_law_183 ?_
    refine k_Mi CF hL hS1 hH1 (As := [.int (nI (f)), .int (nI (t)), .int (nI (v))]) (rest := []) (c1_setRate l hj1 (b := b) hI hRc1 hRo1 hOi (f := f) (t := t) (v := v) (by omega) (by omega) (by omega) (by omega)) rfl lk_RL_X1_setRate rfl hl.1 ⟨Nat.le_of_ble_eq_true rfl, Nat.le_of_ble_eq_true rfl⟩ ⟨Nat.le_trans (by omega) hcs.1, Nat.le_trans (by omega) hcs.2⟩ (Nat.le_of_ble_eq_true rfl) rfl dL_law_184 (fun r2 τ2 H2 locs hp2 hH2 hS2 => ?_)
    obtain ⟨rfl, hR1, hO1, hT⟩ := hp2
    refine lv_istore (lv' := [(7, .int (nI (b 0 3 - s_rate b f t v 0 3))), (6, .int (nI (0))), (0, .ref (bx)), (1, .ref (ad0 0)), (2, .ref (ad1 0)), (3, .ref (ou)), (4, .ref (od)), (5, .int (nI (6 * i)))]) CF.1 CF.2.1 dL_law_187 hl (by decide) rfl (fun ls hl => ?_)
    refine lv_aload_n CF.1 CF.2.1 dL_law_189 rfl (lv_at hl 4 rfl) ?_
    refine c1_i CF hK hH2.2.1 (As := []) (rest := []) (c1_thrown l) rfl lk_RL_X1_thrown rfl hl.1 ⟨Nat.le_of_ble_eq_true rfl, Nat.le_of_ble_eq_true rfl⟩ ⟨Nat.le_trans (by omega) hcs.1, Nat.le_trans (by omega) hcs.2⟩ (Nat.le_of_ble_eq_true rfl) rfl dL_law_190 (fun r3 hr3 => ?_)
    rw [hT] at hr3
    subst hr3
    refine lv_iload CF.1 CF.2.1 dL_law_193 (lv_at hl 1 rfl) ?_
    refine z_icmp_eq CF (tgt := 200) (nIz (by omega)) (nIz (by omega)) dL_law_195 (by decide) (fun _ => ?_) (fun h => absurd h (by decide))
    refine lv_iload CF.1 CF.2.1 dL_law_200 (lv_at hl 1 rfl) ?_
    refine z_if_ne CF (tgt := 217) (nIz (by omega)) dL_law_202 (by decide) (fun h => absurd h (by decide)) (fun _ => ?_)
    refine lv_aload_n CF.1 CF.2.1 dL_law_205 rfl (lv_at hl 5 rfl) ?_
    refine lv_iconst (v := nI 0) CF.1 CF.2.1 dL_law_206 (by decide) ?_
    refine x_lald CF hL hS2 hH2 hv1 dL_law_207 ?_
    refine lv_iload CF.1 CF.2.1 dL_law_208 (lv_at hl 0 rfl) ?_
    refine lv_i2l CF.1 CF.2.1 dL_law_210 rfl ?_
    refine z_lcmp_eq CF (tgt := 217) rfl rfl dL_law_211 dL_law_212 (by decide) (fun h_5 => ?_) (fun h_6 => absurd h_6 (by omega))
    refine lv_goto (tgt := 1448) CF.1 CF.2.1 dL_law_217 (by decide) ?_
    refine W.widen (k := cells + 2) (n := slots + 11) (by omega) (by omega) ?_
    exact kk (s_rate b f t v) _ _ _ _ _ _ ls hH2 hR0 hO0 hR1 hO1 (iv_setRate hI hOi (f := f) (t := t) (v := v) (by omega) (by omega) (by omega) (by omega)).1 (iv_setRate hI hOi (f := f) (t := t) (v := v) (by omega) (by omega) (by omega) (by omega)).2 hS2 (lv_sub hl [2, 3, 4, 5, 6, 7] rfl)
  · refine lv_aload_n CF.1 CF.2.1 dL_law_140 rfl (lv_at hl 1 rfl) ?_
    refine lv_aload_n CF.1 CF.2.1 dL_law_141 rfl (lv_at hl 0 rfl) ?_
    refine lv_iload CF.1 CF.2.1 dL_law_142 (lv_at hl 5 rfl) ?_
    refine lv_iconst (v := nI 1) CF.1 CF.2.1 dL_law_144 (by decide) ?_
    refine o_iadd CF dL_law_145 ?_
    refine x_sld CF hL hS (i := 6 * i + 1) (by omega) rfl dL_law_146 ?_
    refine lv_aload_n CF.1 CF.2.1 dL_law_147 rfl (lv_at hl 0 rfl) ?_
    refine lv_iload CF.1 CF.2.1 dL_law_148 (lv_at hl 5 rfl) ?_
    refine lv_iconst (v := nI 2) CF.1 CF.2.1 dL_law_150 (by decide) ?_
    refine o_iadd CF dL_law_151 ?_
    refine x_sld CF hL hS (i := 6 * i + 2) (by omega) rfl dL_law_152 ?_
    refine lv_aload_n CF.1 CF.2.1 dL_law_153 rfl (lv_at hl 0 rfl) ?_
    refine lv_iload CF.1 CF.2.1 dL_law_154 (lv_at hl 5 rfl) ?_
    refine lv_iconst (v := nI 3) CF.1 CF.2.1 dL_law_156 (by decide) ?_
    refine o_iadd CF dL_law_157 ?_
    refine x_sld CF hL hS (i := 6 * i + 3) (by omega) rfl dL_law_158 ?_
    refine lv_aload_n CF.1 CF.2.1 dL_law_159 rfl (lv_at hl 3 rfl) ?_
    refine k_W CF hL hS hH (As := [.ref (ad0 0), .int (xs (6 * i + 1)), .int (xs (6 * i + 2)), .int (xs (6 * i + 3)), .ref (ou)]) (rest := []) (wb_setRate l hfl hj0 (b := b) hI hRc0 hRo0 hOi (xs (6 * i + 1)) (xs (6 * i + 2)) (xs (6 * i + 3)) hg d0o) lk_RL_L_setRate rfl hl.1 ⟨Nat.le_of_ble_eq_true rfl, Nat.le_of_ble_eq_true rfl⟩ ⟨Nat.le_trans (by omega) hcs.1, Nat.le_trans (by omega) hcs.2⟩ (Nat.le_of_ble_eq_true rfl) rfl dL_law_160 (fun r1 uw H1 locs hp1 hH1 hS1 => ?_)
    obtain ⟨hd1, rfl⟩ := hp1
    have hH1 : LH G cA cL cD ad0 ad1 ou od σ τ fo fd H1 := hH1
    rcases hd1 with ⟨rfl, hc1⟩ | ⟨rfl, hc1⟩
    · refine lv_istore (lv' := [(6, .int (nI (1))), (0, .ref (bx)), (1, .ref (ad0 0)), (2, .ref (ad1 0)), (3, .ref (ou)), (4, .ref (od)), (5, .int (nI (6 * i)))]) CF.1 CF.2.1 dL_law_163 hl (by decide) rfl (fun ls hl => ?_)
      refine lv_aload_n CF.1 CF.2.1 dL_law_165 rfl (lv_at hl 3 rfl) ?_
      refine lv_aload_n CF.1 CF.2.1 dL_law_166 rfl (lv_at hl 1 rfl) ?_
      refine lv_iload CF.1 CF.2.1 dL_law_167 (lv_at hl 6 rfl) ?_
      refine lv_iconst (v := nI 1) CF.1 CF.2.1 dL_law_169 (by decide) ?_
      refine o_iadd CF dL_law_170 ?_
      refine x_sld CF hL hS1 (i := 6 * i + 1) (by omega) rfl dL_law_171 ?_
      refine lv_aload_n CF.1 CF.2.1 dL_law_172 rfl (lv_at hl 1 rfl) ?_
      refine lv_iload CF.1 CF.2.1 dL_law_173 (lv_at hl 6 rfl) ?_
      refine lv_iconst (v := nI 2) CF.1 CF.2.1 dL_law_175 (by decide) ?_
      refine o_iadd CF dL_law_176 ?_
      refine x_sld CF hL hS1 (i := 6 * i + 2) (by omega) rfl dL_law_177 ?_
      refine lv_aload_n CF.1 CF.2.1 dL_law_178 rfl (lv_at hl 1 rfl) ?_
      refine lv_iload CF.1 CF.2.1 dL_law_179 (lv_at hl 6 rfl) ?_
      refine lv_iconst (v := nI 3) CF.1 CF.2.1 dL_law_181 (by decide) ?_
      refine o_iadd CF dL_law_182 ?_
      refine x_sld CF hL hS1 (i := 6 * i + 3) (by omega) rfl dL_law_183 ?_
      refine k_Mi CF hL hS1 hH1 (As := [.int (xs (6 * i + 1)), .int (xs (6 * i + 2)), .int (xs (6 * i + 3))]) (rest := []) (b1_setRate l hj1 (b := b) hI hRc1 hRo1 hOi (xs (6 * i + 1)) (xs (6 * i + 2)) (xs (6 * i + 3)) hg) rfl lk_RL_X1_setRate rfl hl.1 ⟨Nat.le_of_ble_eq_true rfl, Nat.le_of_ble_eq_true rfl⟩ ⟨Nat.le_trans (by omega) hcs.1, Nat.le_trans (by omega) hcs.2⟩ (Nat.le_of_ble_eq_true rfl) rfl dL_law_184 (fun r2 τ2 H2 locs hp2 hH2 hS2 => ?_)
      obtain ⟨hR1, hO1, hd2⟩ := hp2
      rcases hd2 with ⟨hT, hc2⟩ | ⟨hT, hc2⟩
      · refine lv_istore (lv' := [(7, .int (r2)), (6, .int (nI (1))), (0, .ref (bx)), (1, .ref (ad0 0)), (2, .ref (ad1 0)), (3, .ref (ou)), (4, .ref (od)), (5, .int (nI (6 * i)))]) CF.1 CF.2.1 dL_law_187 hl (by decide) rfl (fun ls hl => ?_)
        refine lv_aload_n CF.1 CF.2.1 dL_law_189 rfl (lv_at hl 4 rfl) ?_
        refine c1_i CF hK hH2.2.1 (As := []) (rest := []) (c1_thrown l) rfl lk_RL_X1_thrown rfl hl.1 ⟨Nat.le_of_ble_eq_true rfl, Nat.le_of_ble_eq_true rfl⟩ ⟨Nat.le_trans (by omega) hcs.1, Nat.le_trans (by omega) hcs.2⟩ (Nat.le_of_ble_eq_true rfl) rfl dL_law_190 (fun r3 hr3 => ?_)
        rw [hT] at hr3
        subst hr3
        refine lv_iload CF.1 CF.2.1 dL_law_193 (lv_at hl 1 rfl) ?_
        refine z_icmp_eq CF (tgt := 200) (nIz (by omega)) (nIz (by omega)) dL_law_195 (by decide) (fun _ => ?_) (fun h => absurd h (by decide))
        refine lv_iload CF.1 CF.2.1 dL_law_200 (lv_at hl 1 rfl) ?_
        refine z_if_ne CF (tgt := 217) (nIz (by omega)) dL_law_202 (by decide) (fun _ => ?_) (fun h => absurd h (by decide))
        refine lv_goto (tgt := 1448) CF.1 CF.2.1 dL_law_217 (by decide) ?_
        refine W.widen (k := cells + 2) (n := slots + 11) (by omega) (by omega) ?_
        exact kk (b) _ _ _ _ _ _ ls hH2 hRc0 hRo0 hR1 hO1 hI hOi hS2 (lv_sub hl [2, 3, 4, 5, 6, 7] rfl)
      · exact (show False by omega).elim
    · refine lv_istore (lv' := [(6, .int (nI (2))), (0, .ref (bx)), (1, .ref (ad0 0)), (2, .ref (ad1 0)), (3, .ref (ou)), (4, .ref (od)), (5, .int (nI (6 * i)))]) CF.1 CF.2.1 dL_law_163 hl (by decide) rfl (fun ls hl => ?_)
      refine lv_aload_n CF.1 CF.2.1 dL_law_165 rfl (lv_at hl 3 rfl) ?_
      refine lv_aload_n CF.1 CF.2.1 dL_law_166 rfl (lv_at hl 1 rfl) ?_
      refine lv_iload CF.1 CF.2.1 dL_law_167 (lv_at hl 6 rfl) ?_
      refine lv_iconst (v := nI 1) CF.1 CF.2.1 dL_law_169 (by decide) ?_
      refine o_iadd CF dL_law_170 ?_
      refine x_sld CF hL hS1 (i := 6 * i + 1) (by omega) rfl dL_law_171 ?_
      refine lv_aload_n CF.1 CF.2.1 dL_law_172 rfl (lv_at hl 1 rfl) ?_
      refine lv_iload CF.1 CF.2.1 dL_law_173 (lv_at hl 6 rfl) ?_
      refine lv_iconst (v := nI 2) CF.1 CF.2.1 dL_law_175 (by decide) ?_
      refine o_iadd CF dL_law_176 ?_
      refine x_sld CF hL hS1 (i := 6 * i + 2) (by omega) rfl dL_law_177 ?_
      refine lv_aload_n CF.1 CF.2.1 dL_law_178 rfl (lv_at hl 1 rfl) ?_
      refine lv_iload CF.1 CF.2.1 dL_law_179 (lv_at hl 6 rfl) ?_
      refine lv_iconst (v := nI 3) CF.1 CF.2.1 dL_law_181 (by decide) ?_
      refine o_iadd CF dL_law_182 ?_
      refine x_sld CF hL hS1 (i := 6 * i + 3) (by omega) rfl dL_law_183 ?_
      refine k_Mi CF hL hS1 hH1 (As := [.int (xs (6 * i + 1)), .int (xs (6 * i + 2)), .int (xs (6 * i + 3))]) (rest := []) (b1_setRate l hj1 (b := b) hI hRc1 hRo1 hOi (xs (6 * i + 1)) (xs (6 * i + 2)) (xs (6 * i + 3)) hg) rfl lk_RL_X1_setRate rfl hl.1 ⟨Nat.le_of_ble_eq_true rfl, Nat.le_of_ble_eq_true rfl⟩ ⟨Nat.le_trans (by omega) hcs.1, Nat.le_trans (by omega) hcs.2⟩ (Nat.le_of_ble_eq_true rfl) rfl dL_law_184 (fun r2 τ2 H2 locs hp2 hH2 hS2 => ?_)
      obtain ⟨hR1, hO1, hd2⟩ := hp2
      rcases hd2 with ⟨hT, hc2⟩ | ⟨hT, hc2⟩
      · exact (show False by omega).elim
      · refine lv_istore (lv' := [(7, .int (r2)), (6, .int (nI (2))), (0, .ref (bx)), (1, .ref (ad0 0)), (2, .ref (ad1 0)), (3, .ref (ou)), (4, .ref (od)), (5, .int (nI (6 * i)))]) CF.1 CF.2.1 dL_law_187 hl (by decide) rfl (fun ls hl => ?_)
        refine lv_aload_n CF.1 CF.2.1 dL_law_189 rfl (lv_at hl 4 rfl) ?_
        refine c1_i CF hK hH2.2.1 (As := []) (rest := []) (c1_thrown l) rfl lk_RL_X1_thrown rfl hl.1 ⟨Nat.le_of_ble_eq_true rfl, Nat.le_of_ble_eq_true rfl⟩ ⟨Nat.le_trans (by omega) hcs.1, Nat.le_trans (by omega) hcs.2⟩ (Nat.le_of_ble_eq_true rfl) rfl dL_law_190 (fun r3 hr3 => ?_)
        rw [hT] at hr3
        subst hr3
        refine lv_iload CF.1 CF.2.1 dL_law_193 (lv_at hl 1 rfl) ?_
        refine z_icmp_eq CF (tgt := 200) (nIz (by omega)) (nIz (by omega)) dL_law_195 (by decide) (fun _ => ?_) (fun h => absurd h (by decide))
        refine lv_iload CF.1 CF.2.1 dL_law_200 (lv_at hl 1 rfl) ?_
        refine z_if_ne CF (tgt := 217) (nIz (by omega)) dL_law_202 (by decide) (fun _ => ?_) (fun h => absurd h (by decide))
        refine lv_goto (tgt := 1448) CF.1 CF.2.1 dL_law_217 (by decide) ?_
        refine W.widen (k := cells + 2) (n := slots + 11) (by omega) (by omega) ?_
        exact kk (b) _ _ _ _ _ _ ls hH2 hRc0 hRo0 hR1 hO1 hI hOi hS2 (lv_sub hl [2, 3, 4, 5, 6, 7] rfl)
set_option maxHeartbeats 1000000 in
set_option maxRecDepth 100000 in
theorem op_setSpread {p : Program} {l : Launch} {e : Env} {s : State} {m : MethodId} {args : Array Value} {below : List Frame} {meth : Method} {c : Code} {H : Heap} {locs : List Loc} {cells slots : Nat} {Q : State → Prop} {ls : Array Slot} {G : va_G} {cA cL cD : ClassId} {ad0 ad1 : Nat → Nat} {σ τ : RS} {fo : Nat → Int64} {fd : Nat → UInt64} {ou od bx L : Nat} {xs : Nat → Int32} {b : BS} (CF : CallFix p m c cL_law 9 s args AW RL) (hL : LX l G cA cL cD ad0 ad1 ou od bx L xs s) (hS : va_S (AL s) s.heap H locs) (hH : LH G cA cL cD ad0 ad1 ou od σ τ fo fd H) (hRc0 : Rc σ b) (hRo0 : Ro σ b) (hRc1 : Rc τ b) (hRo1 : Ro τ b) (hI : InvC b) (hOi : InvO b) {i : Nat} (hi : 6 * i + 6 ≤ L) (hl : lv_has ls 9 [(0, .ref (bx)), (1, .ref (ad0 0)), (2, .ref (ad1 0)), (3, .ref (ou)), (4, .ref (od)), (5, .int (nI (6 * i)))]) (hcs : cells + 2 ≤ 656478 ∧ slots + 11 ≤ 7126671) (kk : ∀ (b' : BS) (σ' τ' : RS) (fo' : Nat → Int64) (fd' : Nat → UInt64) (H' : Heap) (locs' : List Loc) (ls' : Array Slot), LH G cA cL cD ad0 ad1 ou od σ' τ' fo' fd' H' → Rc σ' b' → Ro σ' b' → Rc τ' b' → Ro τ' b' → InvC b' → InvO b' → va_S (AL s) s.heap H' locs' → lv_has ls' 9 [(0, .ref (bx)), (1, .ref (ad0 0)), (2, .ref (ad1 0)), (3, .ref (ou)), (4, .ref (od)), (5, .int (nI (6 * i)))] → W p l e room_1 s m args below meth c H' locs' (cells + 2) (slots + 11) Q (F0 m 1448 ls' [])) : W p l e room_1 s m args below meth c H locs cells slots Q (F0 m 220 ls []) := by
  obtain ⟨hX, hbl, hK, hKL, hKD, hE, hj0, hj1, ha0, ha1, hou, hod, d01, d0o, d1o, d0d, d1d, dod, hfl, hL3⟩ := id hL
  have i_cu := hI.2.1
  have hw10 := hOi.1
  by_cases hg : 0 ≤ (xs (6 * i + 1)).toInt ∧ (xs (6 * i + 1)).toInt ≤ 50
  · obtain ⟨v, h_v, e_v⟩ := nI_ex (x := xs (6 * i + 1)) (n := 51) (by omega) (by omega)
    rw [e_v] at hg
    have z_v := nIz (n := v) (by omega)
    refine lv_aload_n CF.1 CF.2.1 dL_law_220 rfl (lv_at hl 1 rfl) ?_
    refine lv_aload_n CF.1 CF.2.1 dL_law_221 rfl (lv_at hl 0 rfl) ?_
    refine lv_iload CF.1 CF.2.1 dL_law_222 (lv_at hl 5 rfl) ?_
    refine lv_iconst (v := nI 1) CF.1 CF.2.1 dL_law_224 (by decide) ?_
    refine o_iadd CF dL_law_225 ?_
    refine x_sld CF hL hS (i := 6 * i + 1) (by omega) e_v dL_law_226 ?_
    refine lv_aload_n CF.1 CF.2.1 dL_law_227 rfl (lv_at hl 3 rfl) ?_
    refine k_W CF hL hS hH (As := [.ref (ad0 0), .int (nI (v)), .ref (ou)]) (rest := []) (wk_setSpread l hj0 (b := b) hI hRc0 hRo0 hOi (v := v) (by omega) d0o) lk_RL_L_setSpread rfl hl.1 ⟨Nat.le_of_ble_eq_true rfl, Nat.le_of_ble_eq_true rfl⟩ ⟨Nat.le_trans (by omega) hcs.1, Nat.le_trans (by omega) hcs.2⟩ (Nat.le_of_ble_eq_true rfl) rfl dL_law_228 (fun r1 uw H1 locs hp1 hH1 hS1 => ?_)
    obtain ⟨rfl, hv1, hR0, hO0⟩ := hp1
    refine lv_istore (lv' := [(6, .int (nI (0))), (0, .ref (bx)), (1, .ref (ad0 0)), (2, .ref (ad1 0)), (3, .ref (ou)), (4, .ref (od)), (5, .int (nI (6 * i)))]) CF.1 CF.2.1 dL_law_231 hl (by decide) rfl (fun ls hl => ?_)
    refine lv_aload_n CF.1 CF.2.1 dL_law_233 rfl (lv_at hl 3 rfl) ?_
    refine lv_aload_n CF.1 CF.2.1 dL_law_234 rfl (lv_at hl 1 rfl) ?_
    refine lv_iload CF.1 CF.2.1 dL_law_235 (lv_at hl 6 rfl) ?_
    refine lv_iconst (v := nI 1) CF.1 CF.2.1 dL_law_237 (by decide) ?_
    refine o_iadd CF dL_law_238 ?_
    refine x_sld CF hL hS1 (i := 6 * i + 1) (by omega) e_v dL_law_239 ?_
    refine k_Mi CF hL hS1 hH1 (As := [.int (nI (v))]) (rest := []) (c1_setSpread l hj1 (b := b) hI hRc1 hRo1 hOi (v := v) (by omega)) rfl lk_RL_X1_setSpread rfl hl.1 ⟨Nat.le_of_ble_eq_true rfl, Nat.le_of_ble_eq_true rfl⟩ ⟨Nat.le_trans (by omega) hcs.1, Nat.le_trans (by omega) hcs.2⟩ (Nat.le_of_ble_eq_true rfl) rfl dL_law_240 (fun r2 τ2 H2 locs hp2 hH2 hS2 => ?_)
    obtain ⟨rfl, hR1, hO1, hT⟩ := hp2
    refine lv_istore (lv' := [(7, .int (nI (b 0 3 - s_spread b v 0 3))), (6, .int (nI (0))), (0, .ref (bx)), (1, .ref (ad0 0)), (2, .ref (ad1 0)), (3, .ref (ou)), (4, .ref (od)), (5, .int (nI (6 * i)))]) CF.1 CF.2.1 dL_law_243 hl (by decide) rfl (fun ls hl => ?_)
    refine lv_aload_n CF.1 CF.2.1 dL_law_245 rfl (lv_at hl 4 rfl) ?_
    refine c1_i CF hK hH2.2.1 (As := []) (rest := []) (c1_thrown l) rfl lk_RL_X1_thrown rfl hl.1 ⟨Nat.le_of_ble_eq_true rfl, Nat.le_of_ble_eq_true rfl⟩ ⟨Nat.le_trans (by omega) hcs.1, Nat.le_trans (by omega) hcs.2⟩ (Nat.le_of_ble_eq_true rfl) rfl dL_law_246 (fun r3 hr3 => ?_)
    rw [hT] at hr3
    subst hr3
    refine lv_iload CF.1 CF.2.1 dL_law_249 (lv_at hl 1 rfl) ?_
    refine z_icmp_eq CF (tgt := 256) (nIz (by omega)) (nIz (by omega)) dL_law_251 (by decide) (fun _ => ?_) (fun h => absurd h (by decide))
    refine lv_iload CF.1 CF.2.1 dL_law_256 (lv_at hl 1 rfl) ?_
    refine z_if_ne CF (tgt := 273) (nIz (by omega)) dL_law_258 (by decide) (fun h => absurd h (by decide)) (fun _ => ?_)
    refine lv_aload_n CF.1 CF.2.1 dL_law_261 rfl (lv_at hl 5 rfl) ?_
    refine lv_iconst (v := nI 0) CF.1 CF.2.1 dL_law_262 (by decide) ?_
    refine x_lald CF hL hS2 hH2 hv1 dL_law_263 ?_
    refine lv_iload CF.1 CF.2.1 dL_law_264 (lv_at hl 0 rfl) ?_
    refine lv_i2l CF.1 CF.2.1 dL_law_266 rfl ?_
    refine z_lcmp_eq CF (tgt := 273) rfl rfl dL_law_267 dL_law_268 (by decide) (fun h_5 => ?_) (fun h_6 => absurd h_6 (by omega))
    refine lv_goto (tgt := 1448) CF.1 CF.2.1 dL_law_273 (by decide) ?_
    refine W.widen (k := cells + 2) (n := slots + 11) (by omega) (by omega) ?_
    exact kk (s_spread b v) _ _ _ _ _ _ ls hH2 hR0 hO0 hR1 hO1 (iv_setSpread hI hOi (v := v) (by omega)).1 (iv_setSpread hI hOi (v := v) (by omega)).2 hS2 (lv_sub hl [2, 3, 4, 5, 6, 7] rfl)
  · refine lv_aload_n CF.1 CF.2.1 dL_law_220 rfl (lv_at hl 1 rfl) ?_
    refine lv_aload_n CF.1 CF.2.1 dL_law_221 rfl (lv_at hl 0 rfl) ?_
    refine lv_iload CF.1 CF.2.1 dL_law_222 (lv_at hl 5 rfl) ?_
    refine lv_iconst (v := nI 1) CF.1 CF.2.1 dL_law_224 (by decide) ?_
    refine o_iadd CF dL_law_225 ?_
    refine x_sld CF hL hS (i := 6 * i + 1) (by omega) rfl dL_law_226 ?_
    refine lv_aload_n CF.1 CF.2.1 dL_law_227 rfl (lv_at hl 3 rfl) ?_
    refine k_W CF hL hS hH (As := [.ref (ad0 0), .int (xs (6 * i + 1)), .ref (ou)]) (rest := []) (wb_setSpread l hfl hj0 (b := b) hI hRc0 hRo0 hOi (xs (6 * i + 1)) hg d0o) lk_RL_L_setSpread rfl hl.1 ⟨Nat.le_of_ble_eq_true rfl, Nat.le_of_ble_eq_true rfl⟩ ⟨Nat.le_trans (by omega) hcs.1, Nat.le_trans (by omega) hcs.2⟩ (Nat.le_of_ble_eq_true rfl) rfl dL_law_228 (fun r1 uw H1 locs hp1 hH1 hS1 => ?_)
    obtain ⟨hd1, rfl⟩ := hp1
    have hH1 : LH G cA cL cD ad0 ad1 ou od σ τ fo fd H1 := hH1
    obtain ⟨rfl, hc1⟩ := hd1
    refine lv_istore (lv' := [(6, .int (nI (1))), (0, .ref (bx)), (1, .ref (ad0 0)), (2, .ref (ad1 0)), (3, .ref (ou)), (4, .ref (od)), (5, .int (nI (6 * i)))]) CF.1 CF.2.1 dL_law_231 hl (by decide) rfl (fun ls hl => ?_)
    refine lv_aload_n CF.1 CF.2.1 dL_law_233 rfl (lv_at hl 3 rfl) ?_
    refine lv_aload_n CF.1 CF.2.1 dL_law_234 rfl (lv_at hl 1 rfl) ?_
    refine lv_iload CF.1 CF.2.1 dL_law_235 (lv_at hl 6 rfl) ?_
    refine lv_iconst (v := nI 1) CF.1 CF.2.1 dL_law_237 (by decide) ?_
    refine o_iadd CF dL_law_238 ?_
    refine x_sld CF hL hS1 (i := 6 * i + 1) (by omega) rfl dL_law_239 ?_
    refine k_Mi CF hL hS1 hH1 (As := [.int (xs (6 * i + 1))]) (rest := []) (b1_setSpread l hj1 (b := b) hI hRc1 hRo1 hOi (xs (6 * i + 1)) hg) rfl lk_RL_X1_setSpread rfl hl.1 ⟨Nat.le_of_ble_eq_true rfl, Nat.le_of_ble_eq_true rfl⟩ ⟨Nat.le_trans (by omega) hcs.1, Nat.le_trans (by omega) hcs.2⟩ (Nat.le_of_ble_eq_true rfl) rfl dL_law_240 (fun r2 τ2 H2 locs hp2 hH2 hS2 => ?_)
    obtain ⟨hR1, hO1, hd2⟩ := hp2
    have hT := hd2.1
    refine lv_istore (lv' := [(7, .int (r2)), (6, .int (nI (1))), (0, .ref (bx)), (1, .ref (ad0 0)), (2, .ref (ad1 0)), (3, .ref (ou)), (4, .ref (od)), (5, .int (nI (6 * i)))]) CF.1 CF.2.1 dL_law_243 hl (by decide) rfl (fun ls hl => ?_)
    refine lv_aload_n CF.1 CF.2.1 dL_law_245 rfl (lv_at hl 4 rfl) ?_
    refine c1_i CF hK hH2.2.1 (As := []) (rest := []) (c1_thrown l) rfl lk_RL_X1_thrown rfl hl.1 ⟨Nat.le_of_ble_eq_true rfl, Nat.le_of_ble_eq_true rfl⟩ ⟨Nat.le_trans (by omega) hcs.1, Nat.le_trans (by omega) hcs.2⟩ (Nat.le_of_ble_eq_true rfl) rfl dL_law_246 (fun r3 hr3 => ?_)
    rw [hT] at hr3
    subst hr3
    refine lv_iload CF.1 CF.2.1 dL_law_249 (lv_at hl 1 rfl) ?_
    refine z_icmp_eq CF (tgt := 256) (nIz (by omega)) (nIz (by omega)) dL_law_251 (by decide) (fun _ => ?_) (fun h => absurd h (by decide))
    refine lv_iload CF.1 CF.2.1 dL_law_256 (lv_at hl 1 rfl) ?_
    refine z_if_ne CF (tgt := 273) (nIz (by omega)) dL_law_258 (by decide) (fun _ => ?_) (fun h => absurd h (by decide))
    refine lv_goto (tgt := 1448) CF.1 CF.2.1 dL_law_273 (by decide) ?_
    refine W.widen (k := cells + 2) (n := slots + 11) (by omega) (by omega) ?_
    exact kk (b) _ _ _ _ _ _ ls hH2 hRc0 hRo0 hR1 hO1 hI hOi hS2 (lv_sub hl [2, 3, 4, 5, 6, 7] rfl)
set_option maxHeartbeats 1000000 in
set_option maxRecDepth 100000 in
theorem op_setLimit {p : Program} {l : Launch} {e : Env} {s : State} {m : MethodId} {args : Array Value} {below : List Frame} {meth : Method} {c : Code} {H : Heap} {locs : List Loc} {cells slots : Nat} {Q : State → Prop} {ls : Array Slot} {G : va_G} {cA cL cD : ClassId} {ad0 ad1 : Nat → Nat} {σ τ : RS} {fo : Nat → Int64} {fd : Nat → UInt64} {ou od bx L : Nat} {xs : Nat → Int32} {b : BS} (CF : CallFix p m c cL_law 9 s args AW RL) (hL : LX l G cA cL cD ad0 ad1 ou od bx L xs s) (hS : va_S (AL s) s.heap H locs) (hH : LH G cA cL cD ad0 ad1 ou od σ τ fo fd H) (hRc0 : Rc σ b) (hRo0 : Ro σ b) (hRc1 : Rc τ b) (hRo1 : Ro τ b) (hI : InvC b) (hOi : InvO b) {i : Nat} (hi : 6 * i + 6 ≤ L) (hl : lv_has ls 9 [(0, .ref (bx)), (1, .ref (ad0 0)), (2, .ref (ad1 0)), (3, .ref (ou)), (4, .ref (od)), (5, .int (nI (6 * i)))]) (hcs : cells + 2 ≤ 656478 ∧ slots + 11 ≤ 7126671) (kk : ∀ (b' : BS) (σ' τ' : RS) (fo' : Nat → Int64) (fd' : Nat → UInt64) (H' : Heap) (locs' : List Loc) (ls' : Array Slot), LH G cA cL cD ad0 ad1 ou od σ' τ' fo' fd' H' → Rc σ' b' → Ro σ' b' → Rc τ' b' → Ro τ' b' → InvC b' → InvO b' → va_S (AL s) s.heap H' locs' → lv_has ls' 9 [(0, .ref (bx)), (1, .ref (ad0 0)), (2, .ref (ad1 0)), (3, .ref (ou)), (4, .ref (od)), (5, .int (nI (6 * i)))] → W p l e room_1 s m args below meth c H' locs' (cells + 2) (slots + 11) Q (F0 m 1448 ls' [])) : W p l e room_1 s m args below meth c H locs cells slots Q (F0 m 276 ls []) := by
  obtain ⟨hX, hbl, hK, hKL, hKD, hE, hj0, hj1, ha0, ha1, hou, hod, d01, d0o, d1o, d0d, d1d, dod, hfl, hL3⟩ := id hL
  have i_cu := hI.2.1
  have hw10 := hOi.1
  by_cases hg : 0 ≤ (xs (6 * i + 1)).toInt ∧ (xs (6 * i + 1)).toInt < 5 ∧ 0 ≤ (xs (6 * i + 2)).toInt ∧ (xs (6 * i + 2)).toInt ≤ 99999
  · obtain ⟨t, h_t, e_t⟩ := nI_ex (x := xs (6 * i + 1)) (n := 5) (by omega) (by omega)
    obtain ⟨v, h_v, e_v⟩ := nI_ex (x := xs (6 * i + 2)) (n := 100000) (by omega) (by omega)
    rw [e_t, e_v] at hg
    have z_t := nIz (n := t) (by omega)
    have z_v := nIz (n := v) (by omega)
    refine lv_aload_n CF.1 CF.2.1 dL_law_276 rfl (lv_at hl 1 rfl) ?_
    refine lv_aload_n CF.1 CF.2.1 dL_law_277 rfl (lv_at hl 0 rfl) ?_
    refine lv_iload CF.1 CF.2.1 dL_law_278 (lv_at hl 5 rfl) ?_
    refine lv_iconst (v := nI 1) CF.1 CF.2.1 dL_law_280 (by decide) ?_
    refine o_iadd CF dL_law_281 ?_
    refine x_sld CF hL hS (i := 6 * i + 1) (by omega) e_t dL_law_282 ?_
    refine lv_aload_n CF.1 CF.2.1 dL_law_283 rfl (lv_at hl 0 rfl) ?_
    refine lv_iload CF.1 CF.2.1 dL_law_284 (lv_at hl 5 rfl) ?_
    refine lv_iconst (v := nI 2) CF.1 CF.2.1 dL_law_286 (by decide) ?_
    refine o_iadd CF dL_law_287 ?_
    refine x_sld CF hL hS (i := 6 * i + 2) (by omega) e_v dL_law_288 ?_
    refine lv_aload_n CF.1 CF.2.1 dL_law_289 rfl (lv_at hl 3 rfl) ?_
    refine k_W CF hL hS hH (As := [.ref (ad0 0), .int (nI (t)), .int (nI (v)), .ref (ou)]) (rest := []) (wk_setLimit l hj0 (b := b) hI hRc0 hRo0 hOi (t := t) (v := v) (by omega) (by omega) d0o) lk_RL_L_setLimit rfl hl.1 ⟨Nat.le_of_ble_eq_true rfl, Nat.le_of_ble_eq_true rfl⟩ ⟨Nat.le_trans (by omega) hcs.1, Nat.le_trans (by omega) hcs.2⟩ (Nat.le_of_ble_eq_true rfl) rfl dL_law_290 (fun r1 uw H1 locs hp1 hH1 hS1 => ?_)
    obtain ⟨rfl, hv1, hR0, hO0⟩ := hp1
    refine lv_istore (lv' := [(6, .int (nI (0))), (0, .ref (bx)), (1, .ref (ad0 0)), (2, .ref (ad1 0)), (3, .ref (ou)), (4, .ref (od)), (5, .int (nI (6 * i)))]) CF.1 CF.2.1 dL_law_293 hl (by decide) rfl (fun ls hl => ?_)
    refine lv_aload_n CF.1 CF.2.1 dL_law_295 rfl (lv_at hl 3 rfl) ?_
    refine lv_aload_n CF.1 CF.2.1 dL_law_296 rfl (lv_at hl 1 rfl) ?_
    refine lv_iload CF.1 CF.2.1 dL_law_297 (lv_at hl 6 rfl) ?_
    refine lv_iconst (v := nI 1) CF.1 CF.2.1 dL_law_299 (by decide) ?_
    refine o_iadd CF dL_law_300 ?_
    refine x_sld CF hL hS1 (i := 6 * i + 1) (by omega) e_t dL_law_301 ?_
    refine lv_aload_n CF.1 CF.2.1 dL_law_302 rfl (lv_at hl 1 rfl) ?_
    refine lv_iload CF.1 CF.2.1 dL_law_303 (lv_at hl 6 rfl) ?_
    refine lv_iconst (v := nI 2) CF.1 CF.2.1 dL_law_305 (by decide) ?_
    refine o_iadd CF dL_law_306 ?_
    refine x_sld CF hL hS1 (i := 6 * i + 2) (by omega) e_v dL_law_307 ?_
    refine k_Mi CF hL hS1 hH1 (As := [.int (nI (t)), .int (nI (v))]) (rest := []) (c1_setLimit l hj1 (b := b) hI hRc1 hRo1 hOi (t := t) (v := v) (by omega) (by omega)) rfl lk_RL_X1_setLimit rfl hl.1 ⟨Nat.le_of_ble_eq_true rfl, Nat.le_of_ble_eq_true rfl⟩ ⟨Nat.le_trans (by omega) hcs.1, Nat.le_trans (by omega) hcs.2⟩ (Nat.le_of_ble_eq_true rfl) rfl dL_law_308 (fun r2 τ2 H2 locs hp2 hH2 hS2 => ?_)
    obtain ⟨rfl, hR1, hO1, hT⟩ := hp2
    refine lv_istore (lv' := [(7, .int (nI (b 4 t))), (6, .int (nI (0))), (0, .ref (bx)), (1, .ref (ad0 0)), (2, .ref (ad1 0)), (3, .ref (ou)), (4, .ref (od)), (5, .int (nI (6 * i)))]) CF.1 CF.2.1 dL_law_311 hl (by decide) rfl (fun ls hl => ?_)
    refine lv_aload_n CF.1 CF.2.1 dL_law_313 rfl (lv_at hl 4 rfl) ?_
    refine c1_i CF hK hH2.2.1 (As := []) (rest := []) (c1_thrown l) rfl lk_RL_X1_thrown rfl hl.1 ⟨Nat.le_of_ble_eq_true rfl, Nat.le_of_ble_eq_true rfl⟩ ⟨Nat.le_trans (by omega) hcs.1, Nat.le_trans (by omega) hcs.2⟩ (Nat.le_of_ble_eq_true rfl) rfl dL_law_314 (fun r3 hr3 => ?_)
    rw [hT] at hr3
    subst hr3
    refine lv_iload CF.1 CF.2.1 dL_law_317 (lv_at hl 1 rfl) ?_
    refine z_icmp_eq CF (tgt := 324) (nIz (by omega)) (nIz (by omega)) dL_law_319 (by decide) (fun _ => ?_) (fun h => absurd h (by decide))
    refine lv_iload CF.1 CF.2.1 dL_law_324 (lv_at hl 1 rfl) ?_
    refine z_if_ne CF (tgt := 341) (nIz (by omega)) dL_law_326 (by decide) (fun h => absurd h (by decide)) (fun _ => ?_)
    refine lv_aload_n CF.1 CF.2.1 dL_law_329 rfl (lv_at hl 5 rfl) ?_
    refine lv_iconst (v := nI 0) CF.1 CF.2.1 dL_law_330 (by decide) ?_
    refine x_lald CF hL hS2 hH2 hv1 dL_law_331 ?_
    refine lv_iload CF.1 CF.2.1 dL_law_332 (lv_at hl 0 rfl) ?_
    refine lv_i2l CF.1 CF.2.1 dL_law_334 rfl ?_
    refine z_lcmp_eq CF (tgt := 341) rfl rfl dL_law_335 dL_law_336 (by decide) (fun h_5 => ?_) (fun h_6 => absurd h_6 (by omega))
    refine lv_goto (tgt := 1448) CF.1 CF.2.1 dL_law_341 (by decide) ?_
    refine W.widen (k := cells + 2) (n := slots + 11) (by omega) (by omega) ?_
    exact kk (upN b 4 t v) _ _ _ _ _ _ ls hH2 hR0 hO0 hR1 hO1 (iv_setLimit hI hOi (t := t) (v := v) (by omega) (by omega)).1 (iv_setLimit hI hOi (t := t) (v := v) (by omega) (by omega)).2 hS2 (lv_sub hl [2, 3, 4, 5, 6, 7] rfl)
  · refine lv_aload_n CF.1 CF.2.1 dL_law_276 rfl (lv_at hl 1 rfl) ?_
    refine lv_aload_n CF.1 CF.2.1 dL_law_277 rfl (lv_at hl 0 rfl) ?_
    refine lv_iload CF.1 CF.2.1 dL_law_278 (lv_at hl 5 rfl) ?_
    refine lv_iconst (v := nI 1) CF.1 CF.2.1 dL_law_280 (by decide) ?_
    refine o_iadd CF dL_law_281 ?_
    refine x_sld CF hL hS (i := 6 * i + 1) (by omega) rfl dL_law_282 ?_
    refine lv_aload_n CF.1 CF.2.1 dL_law_283 rfl (lv_at hl 0 rfl) ?_
    refine lv_iload CF.1 CF.2.1 dL_law_284 (lv_at hl 5 rfl) ?_
    refine lv_iconst (v := nI 2) CF.1 CF.2.1 dL_law_286 (by decide) ?_
    refine o_iadd CF dL_law_287 ?_
    refine x_sld CF hL hS (i := 6 * i + 2) (by omega) rfl dL_law_288 ?_
    refine lv_aload_n CF.1 CF.2.1 dL_law_289 rfl (lv_at hl 3 rfl) ?_
    refine k_W CF hL hS hH (As := [.ref (ad0 0), .int (xs (6 * i + 1)), .int (xs (6 * i + 2)), .ref (ou)]) (rest := []) (wb_setLimit l hfl hj0 (b := b) hI hRc0 hRo0 hOi (xs (6 * i + 1)) (xs (6 * i + 2)) hg d0o) lk_RL_L_setLimit rfl hl.1 ⟨Nat.le_of_ble_eq_true rfl, Nat.le_of_ble_eq_true rfl⟩ ⟨Nat.le_trans (by omega) hcs.1, Nat.le_trans (by omega) hcs.2⟩ (Nat.le_of_ble_eq_true rfl) rfl dL_law_290 (fun r1 uw H1 locs hp1 hH1 hS1 => ?_)
    obtain ⟨hd1, rfl⟩ := hp1
    have hH1 : LH G cA cL cD ad0 ad1 ou od σ τ fo fd H1 := hH1
    rcases hd1 with ⟨rfl, hc1⟩ | ⟨rfl, hc1⟩
    · refine lv_istore (lv' := [(6, .int (nI (1))), (0, .ref (bx)), (1, .ref (ad0 0)), (2, .ref (ad1 0)), (3, .ref (ou)), (4, .ref (od)), (5, .int (nI (6 * i)))]) CF.1 CF.2.1 dL_law_293 hl (by decide) rfl (fun ls hl => ?_)
      refine lv_aload_n CF.1 CF.2.1 dL_law_295 rfl (lv_at hl 3 rfl) ?_
      refine lv_aload_n CF.1 CF.2.1 dL_law_296 rfl (lv_at hl 1 rfl) ?_
      refine lv_iload CF.1 CF.2.1 dL_law_297 (lv_at hl 6 rfl) ?_
      refine lv_iconst (v := nI 1) CF.1 CF.2.1 dL_law_299 (by decide) ?_
      refine o_iadd CF dL_law_300 ?_
      refine x_sld CF hL hS1 (i := 6 * i + 1) (by omega) rfl dL_law_301 ?_
      refine lv_aload_n CF.1 CF.2.1 dL_law_302 rfl (lv_at hl 1 rfl) ?_
      refine lv_iload CF.1 CF.2.1 dL_law_303 (lv_at hl 6 rfl) ?_
      refine lv_iconst (v := nI 2) CF.1 CF.2.1 dL_law_305 (by decide) ?_
      refine o_iadd CF dL_law_306 ?_
      refine x_sld CF hL hS1 (i := 6 * i + 2) (by omega) rfl dL_law_307 ?_
      refine k_Mi CF hL hS1 hH1 (As := [.int (xs (6 * i + 1)), .int (xs (6 * i + 2))]) (rest := []) (b1_setLimit l hj1 (b := b) hI hRc1 hRo1 hOi (xs (6 * i + 1)) (xs (6 * i + 2)) hg) rfl lk_RL_X1_setLimit rfl hl.1 ⟨Nat.le_of_ble_eq_true rfl, Nat.le_of_ble_eq_true rfl⟩ ⟨Nat.le_trans (by omega) hcs.1, Nat.le_trans (by omega) hcs.2⟩ (Nat.le_of_ble_eq_true rfl) rfl dL_law_308 (fun r2 τ2 H2 locs hp2 hH2 hS2 => ?_)
      obtain ⟨hR1, hO1, hd2⟩ := hp2
      rcases hd2 with ⟨hT, hc2⟩ | ⟨hT, hc2⟩
      · refine lv_istore (lv' := [(7, .int (r2)), (6, .int (nI (1))), (0, .ref (bx)), (1, .ref (ad0 0)), (2, .ref (ad1 0)), (3, .ref (ou)), (4, .ref (od)), (5, .int (nI (6 * i)))]) CF.1 CF.2.1 dL_law_311 hl (by decide) rfl (fun ls hl => ?_)
        refine lv_aload_n CF.1 CF.2.1 dL_law_313 rfl (lv_at hl 4 rfl) ?_
        refine c1_i CF hK hH2.2.1 (As := []) (rest := []) (c1_thrown l) rfl lk_RL_X1_thrown rfl hl.1 ⟨Nat.le_of_ble_eq_true rfl, Nat.le_of_ble_eq_true rfl⟩ ⟨Nat.le_trans (by omega) hcs.1, Nat.le_trans (by omega) hcs.2⟩ (Nat.le_of_ble_eq_true rfl) rfl dL_law_314 (fun r3 hr3 => ?_)
        rw [hT] at hr3
        subst hr3
        refine lv_iload CF.1 CF.2.1 dL_law_317 (lv_at hl 1 rfl) ?_
        refine z_icmp_eq CF (tgt := 324) (nIz (by omega)) (nIz (by omega)) dL_law_319 (by decide) (fun _ => ?_) (fun h => absurd h (by decide))
        refine lv_iload CF.1 CF.2.1 dL_law_324 (lv_at hl 1 rfl) ?_
        refine z_if_ne CF (tgt := 341) (nIz (by omega)) dL_law_326 (by decide) (fun _ => ?_) (fun h => absurd h (by decide))
        refine lv_goto (tgt := 1448) CF.1 CF.2.1 dL_law_341 (by decide) ?_
        refine W.widen (k := cells + 2) (n := slots + 11) (by omega) (by omega) ?_
        exact kk (b) _ _ _ _ _ _ ls hH2 hRc0 hRo0 hR1 hO1 hI hOi hS2 (lv_sub hl [2, 3, 4, 5, 6, 7] rfl)
      · exact (show False by omega).elim
    · refine lv_istore (lv' := [(6, .int (nI (2))), (0, .ref (bx)), (1, .ref (ad0 0)), (2, .ref (ad1 0)), (3, .ref (ou)), (4, .ref (od)), (5, .int (nI (6 * i)))]) CF.1 CF.2.1 dL_law_293 hl (by decide) rfl (fun ls hl => ?_)
      refine lv_aload_n CF.1 CF.2.1 dL_law_295 rfl (lv_at hl 3 rfl) ?_
      refine lv_aload_n CF.1 CF.2.1 dL_law_296 rfl (lv_at hl 1 rfl) ?_
      refine lv_iload CF.1 CF.2.1 dL_law_297 (lv_at hl 6 rfl) ?_
      refine lv_iconst (v := nI 1) CF.1 CF.2.1 dL_law_299 (by decide) ?_
      refine o_iadd CF dL_law_300 ?_
      refine x_sld CF hL hS1 (i := 6 * i + 1) (by omega) rfl dL_law_301 ?_
      refine lv_aload_n CF.1 CF.2.1 dL_law_302 rfl (lv_at hl 1 rfl) ?_
      refine lv_iload CF.1 CF.2.1 dL_law_303 (lv_at hl 6 rfl) ?_
      refine lv_iconst (v := nI 2) CF.1 CF.2.1 dL_law_305 (by decide) ?_
      refine o_iadd CF dL_law_306 ?_
      refine x_sld CF hL hS1 (i := 6 * i + 2) (by omega) rfl dL_law_307 ?_
      refine k_Mi CF hL hS1 hH1 (As := [.int (xs (6 * i + 1)), .int (xs (6 * i + 2))]) (rest := []) (b1_setLimit l hj1 (b := b) hI hRc1 hRo1 hOi (xs (6 * i + 1)) (xs (6 * i + 2)) hg) rfl lk_RL_X1_setLimit rfl hl.1 ⟨Nat.le_of_ble_eq_true rfl, Nat.le_of_ble_eq_true rfl⟩ ⟨Nat.le_trans (by omega) hcs.1, Nat.le_trans (by omega) hcs.2⟩ (Nat.le_of_ble_eq_true rfl) rfl dL_law_308 (fun r2 τ2 H2 locs hp2 hH2 hS2 => ?_)
      obtain ⟨hR1, hO1, hd2⟩ := hp2
      rcases hd2 with ⟨hT, hc2⟩ | ⟨hT, hc2⟩
      · exact (show False by omega).elim
      · refine lv_istore (lv' := [(7, .int (r2)), (6, .int (nI (2))), (0, .ref (bx)), (1, .ref (ad0 0)), (2, .ref (ad1 0)), (3, .ref (ou)), (4, .ref (od)), (5, .int (nI (6 * i)))]) CF.1 CF.2.1 dL_law_311 hl (by decide) rfl (fun ls hl => ?_)
        refine lv_aload_n CF.1 CF.2.1 dL_law_313 rfl (lv_at hl 4 rfl) ?_
        refine c1_i CF hK hH2.2.1 (As := []) (rest := []) (c1_thrown l) rfl lk_RL_X1_thrown rfl hl.1 ⟨Nat.le_of_ble_eq_true rfl, Nat.le_of_ble_eq_true rfl⟩ ⟨Nat.le_trans (by omega) hcs.1, Nat.le_trans (by omega) hcs.2⟩ (Nat.le_of_ble_eq_true rfl) rfl dL_law_314 (fun r3 hr3 => ?_)
        rw [hT] at hr3
        subst hr3
        refine lv_iload CF.1 CF.2.1 dL_law_317 (lv_at hl 1 rfl) ?_
        refine z_icmp_eq CF (tgt := 324) (nIz (by omega)) (nIz (by omega)) dL_law_319 (by decide) (fun _ => ?_) (fun h => absurd h (by decide))
        refine lv_iload CF.1 CF.2.1 dL_law_324 (lv_at hl 1 rfl) ?_
        refine z_if_ne CF (tgt := 341) (nIz (by omega)) dL_law_326 (by decide) (fun _ => ?_) (fun h => absurd h (by decide))
        refine lv_goto (tgt := 1448) CF.1 CF.2.1 dL_law_341 (by decide) ?_
        refine W.widen (k := cells + 2) (n := slots + 11) (by omega) (by omega) ?_
        exact kk (b) _ _ _ _ _ _ ls hH2 hRc0 hRo0 hR1 hO1 hI hOi hS2 (lv_sub hl [2, 3, 4, 5, 6, 7] rfl)
set_option maxHeartbeats 1000000 in
set_option maxRecDepth 100000 in
theorem op_stock {p : Program} {l : Launch} {e : Env} {s : State} {m : MethodId} {args : Array Value} {below : List Frame} {meth : Method} {c : Code} {H : Heap} {locs : List Loc} {cells slots : Nat} {Q : State → Prop} {ls : Array Slot} {G : va_G} {cA cL cD : ClassId} {ad0 ad1 : Nat → Nat} {σ τ : RS} {fo : Nat → Int64} {fd : Nat → UInt64} {ou od bx L : Nat} {xs : Nat → Int32} {b : BS} (CF : CallFix p m c cL_law 9 s args AW RL) (hL : LX l G cA cL cD ad0 ad1 ou od bx L xs s) (hS : va_S (AL s) s.heap H locs) (hH : LH G cA cL cD ad0 ad1 ou od σ τ fo fd H) (hRc0 : Rc σ b) (hRo0 : Ro σ b) (hRc1 : Rc τ b) (hRo1 : Ro τ b) (hI : InvC b) (hOi : InvO b) {i : Nat} (hi : 6 * i + 6 ≤ L) (hl : lv_has ls 9 [(0, .ref (bx)), (1, .ref (ad0 0)), (2, .ref (ad1 0)), (3, .ref (ou)), (4, .ref (od)), (5, .int (nI (6 * i)))]) (hcs : cells + 2 ≤ 656478 ∧ slots + 11 ≤ 7126671) (kk : ∀ (b' : BS) (σ' τ' : RS) (fo' : Nat → Int64) (fd' : Nat → UInt64) (H' : Heap) (locs' : List Loc) (ls' : Array Slot), LH G cA cL cD ad0 ad1 ou od σ' τ' fo' fd' H' → Rc σ' b' → Ro σ' b' → Rc τ' b' → Ro τ' b' → InvC b' → InvO b' → va_S (AL s) s.heap H' locs' → lv_has ls' 9 [(0, .ref (bx)), (1, .ref (ad0 0)), (2, .ref (ad1 0)), (3, .ref (ou)), (4, .ref (od)), (5, .int (nI (6 * i)))] → W p l e room_1 s m args below meth c H' locs' (cells + 2) (slots + 11) Q (F0 m 1448 ls' [])) : W p l e room_1 s m args below meth c H locs cells slots Q (F0 m 344 ls []) := by
  obtain ⟨hX, hbl, hK, hKL, hKD, hE, hj0, hj1, ha0, ha1, hou, hod, d01, d0o, d1o, d0d, d1d, dod, hfl, hL3⟩ := id hL
  have i_cu := hI.2.1
  have hw10 := hOi.1
  by_cases hg : 0 ≤ (xs (6 * i + 1)).toInt ∧ (xs (6 * i + 1)).toInt < 5 ∧ 1 ≤ (xs (6 * i + 2)).toInt ∧ (xs (6 * i + 2)).toInt ≤ 99999
  · obtain ⟨t, h_t, e_t⟩ := nI_ex (x := xs (6 * i + 1)) (n := 5) (by omega) (by omega)
    obtain ⟨v, h_v, e_v⟩ := nI_ex (x := xs (6 * i + 2)) (n := 100000) (by omega) (by omega)
    rw [e_t, e_v] at hg
    have z_t := nIz (n := t) (by omega)
    have z_v := nIz (n := v) (by omega)
    refine lv_aload_n CF.1 CF.2.1 dL_law_344 rfl (lv_at hl 1 rfl) ?_
    refine lv_aload_n CF.1 CF.2.1 dL_law_345 rfl (lv_at hl 0 rfl) ?_
    refine lv_iload CF.1 CF.2.1 dL_law_346 (lv_at hl 5 rfl) ?_
    refine lv_iconst (v := nI 1) CF.1 CF.2.1 dL_law_348 (by decide) ?_
    refine o_iadd CF dL_law_349 ?_
    refine x_sld CF hL hS (i := 6 * i + 1) (by omega) e_t dL_law_350 ?_
    refine lv_aload_n CF.1 CF.2.1 dL_law_351 rfl (lv_at hl 0 rfl) ?_
    refine lv_iload CF.1 CF.2.1 dL_law_352 (lv_at hl 5 rfl) ?_
    refine lv_iconst (v := nI 2) CF.1 CF.2.1 dL_law_354 (by decide) ?_
    refine o_iadd CF dL_law_355 ?_
    refine x_sld CF hL hS (i := 6 * i + 2) (by omega) e_v dL_law_356 ?_
    refine lv_aload_n CF.1 CF.2.1 dL_law_357 rfl (lv_at hl 3 rfl) ?_
    refine k_W CF hL hS hH (As := [.ref (ad0 0), .int (nI (t)), .int (nI (v)), .ref (ou)]) (rest := []) (wk_stock l hj0 (b := b) hI hRc0 hRo0 hOi (t := t) (v := v) (by omega) (by omega) (by omega) d0o) lk_RL_L_stock rfl hl.1 ⟨Nat.le_of_ble_eq_true rfl, Nat.le_of_ble_eq_true rfl⟩ ⟨Nat.le_trans (by omega) hcs.1, Nat.le_trans (by omega) hcs.2⟩ (Nat.le_of_ble_eq_true rfl) rfl dL_law_358 (fun r1 uw H1 locs hp1 hH1 hS1 => ?_)
    obtain ⟨rfl, hv1, hR0, hO0⟩ := hp1
    refine lv_istore (lv' := [(6, .int (nI (0))), (0, .ref (bx)), (1, .ref (ad0 0)), (2, .ref (ad1 0)), (3, .ref (ou)), (4, .ref (od)), (5, .int (nI (6 * i)))]) CF.1 CF.2.1 dL_law_361 hl (by decide) rfl (fun ls hl => ?_)
    refine lv_aload_n CF.1 CF.2.1 dL_law_363 rfl (lv_at hl 3 rfl) ?_
    refine lv_aload_n CF.1 CF.2.1 dL_law_364 rfl (lv_at hl 1 rfl) ?_
    refine lv_iload CF.1 CF.2.1 dL_law_365 (lv_at hl 6 rfl) ?_
    refine lv_iconst (v := nI 1) CF.1 CF.2.1 dL_law_367 (by decide) ?_
    refine o_iadd CF dL_law_368 ?_
    refine x_sld CF hL hS1 (i := 6 * i + 1) (by omega) e_t dL_law_369 ?_
    refine lv_aload_n CF.1 CF.2.1 dL_law_370 rfl (lv_at hl 1 rfl) ?_
    refine lv_iload CF.1 CF.2.1 dL_law_371 (lv_at hl 6 rfl) ?_
    refine lv_iconst (v := nI 2) CF.1 CF.2.1 dL_law_373 (by decide) ?_
    refine o_iadd CF dL_law_374 ?_
    refine x_sld CF hL hS1 (i := 6 * i + 2) (by omega) e_v dL_law_375 ?_
    refine k_Mi CF hL hS1 hH1 (As := [.int (nI (t)), .int (nI (v))]) (rest := []) (c1_stock l hj1 (b := b) hI hRc1 hRo1 hOi (t := t) (v := v) (by omega) (by omega) (by omega)) rfl lk_RL_X1_stock rfl hl.1 ⟨Nat.le_of_ble_eq_true rfl, Nat.le_of_ble_eq_true rfl⟩ ⟨Nat.le_trans (by omega) hcs.1, Nat.le_trans (by omega) hcs.2⟩ (Nat.le_of_ble_eq_true rfl) rfl dL_law_376 (fun r2 τ2 H2 locs hp2 hH2 hS2 => ?_)
    obtain ⟨rfl, hR1, hO1, hT⟩ := hp2
    refine lv_istore (lv' := [(7, .int (nI (min (b 2 t + v) 999999))), (6, .int (nI (0))), (0, .ref (bx)), (1, .ref (ad0 0)), (2, .ref (ad1 0)), (3, .ref (ou)), (4, .ref (od)), (5, .int (nI (6 * i)))]) CF.1 CF.2.1 dL_law_379 hl (by decide) rfl (fun ls hl => ?_)
    refine lv_aload_n CF.1 CF.2.1 dL_law_381 rfl (lv_at hl 4 rfl) ?_
    refine c1_i CF hK hH2.2.1 (As := []) (rest := []) (c1_thrown l) rfl lk_RL_X1_thrown rfl hl.1 ⟨Nat.le_of_ble_eq_true rfl, Nat.le_of_ble_eq_true rfl⟩ ⟨Nat.le_trans (by omega) hcs.1, Nat.le_trans (by omega) hcs.2⟩ (Nat.le_of_ble_eq_true rfl) rfl dL_law_382 (fun r3 hr3 => ?_)
    rw [hT] at hr3
    subst hr3
    refine lv_iload CF.1 CF.2.1 dL_law_385 (lv_at hl 1 rfl) ?_
    refine z_icmp_eq CF (tgt := 392) (nIz (by omega)) (nIz (by omega)) dL_law_387 (by decide) (fun _ => ?_) (fun h => absurd h (by decide))
    refine lv_iload CF.1 CF.2.1 dL_law_392 (lv_at hl 1 rfl) ?_
    refine z_if_ne CF (tgt := 409) (nIz (by omega)) dL_law_394 (by decide) (fun h => absurd h (by decide)) (fun _ => ?_)
    refine lv_aload_n CF.1 CF.2.1 dL_law_397 rfl (lv_at hl 5 rfl) ?_
    refine lv_iconst (v := nI 0) CF.1 CF.2.1 dL_law_398 (by decide) ?_
    refine x_lald CF hL hS2 hH2 hv1 dL_law_399 ?_
    refine lv_iload CF.1 CF.2.1 dL_law_400 (lv_at hl 0 rfl) ?_
    refine lv_i2l CF.1 CF.2.1 dL_law_402 rfl ?_
    refine z_lcmp_eq CF (tgt := 409) rfl rfl dL_law_403 dL_law_404 (by decide) (fun h_5 => ?_) (fun h_6 => absurd h_6 (by omega))
    refine lv_goto (tgt := 1448) CF.1 CF.2.1 dL_law_409 (by decide) ?_
    refine W.widen (k := cells + 2) (n := slots + 11) (by omega) (by omega) ?_
    exact kk (upN b 2 t (min (b 2 t + v) 999999)) _ _ _ _ _ _ ls hH2 hR0 hO0 hR1 hO1 (iv_stock hI hOi (t := t) (v := v) (by omega) (by omega) (by omega)).1 (iv_stock hI hOi (t := t) (v := v) (by omega) (by omega) (by omega)).2 hS2 (lv_sub hl [2, 3, 4, 5, 6, 7] rfl)
  · refine lv_aload_n CF.1 CF.2.1 dL_law_344 rfl (lv_at hl 1 rfl) ?_
    refine lv_aload_n CF.1 CF.2.1 dL_law_345 rfl (lv_at hl 0 rfl) ?_
    refine lv_iload CF.1 CF.2.1 dL_law_346 (lv_at hl 5 rfl) ?_
    refine lv_iconst (v := nI 1) CF.1 CF.2.1 dL_law_348 (by decide) ?_
    refine o_iadd CF dL_law_349 ?_
    refine x_sld CF hL hS (i := 6 * i + 1) (by omega) rfl dL_law_350 ?_
    refine lv_aload_n CF.1 CF.2.1 dL_law_351 rfl (lv_at hl 0 rfl) ?_
    refine lv_iload CF.1 CF.2.1 dL_law_352 (lv_at hl 5 rfl) ?_
    refine lv_iconst (v := nI 2) CF.1 CF.2.1 dL_law_354 (by decide) ?_
    refine o_iadd CF dL_law_355 ?_
    refine x_sld CF hL hS (i := 6 * i + 2) (by omega) rfl dL_law_356 ?_
    refine lv_aload_n CF.1 CF.2.1 dL_law_357 rfl (lv_at hl 3 rfl) ?_
    refine k_W CF hL hS hH (As := [.ref (ad0 0), .int (xs (6 * i + 1)), .int (xs (6 * i + 2)), .ref (ou)]) (rest := []) (wb_stock l hfl hj0 (b := b) hI hRc0 hRo0 hOi (xs (6 * i + 1)) (xs (6 * i + 2)) hg d0o) lk_RL_L_stock rfl hl.1 ⟨Nat.le_of_ble_eq_true rfl, Nat.le_of_ble_eq_true rfl⟩ ⟨Nat.le_trans (by omega) hcs.1, Nat.le_trans (by omega) hcs.2⟩ (Nat.le_of_ble_eq_true rfl) rfl dL_law_358 (fun r1 uw H1 locs hp1 hH1 hS1 => ?_)
    obtain ⟨hd1, rfl⟩ := hp1
    have hH1 : LH G cA cL cD ad0 ad1 ou od σ τ fo fd H1 := hH1
    rcases hd1 with ⟨rfl, hc1⟩ | ⟨rfl, hc1⟩
    · refine lv_istore (lv' := [(6, .int (nI (1))), (0, .ref (bx)), (1, .ref (ad0 0)), (2, .ref (ad1 0)), (3, .ref (ou)), (4, .ref (od)), (5, .int (nI (6 * i)))]) CF.1 CF.2.1 dL_law_361 hl (by decide) rfl (fun ls hl => ?_)
      refine lv_aload_n CF.1 CF.2.1 dL_law_363 rfl (lv_at hl 3 rfl) ?_
      refine lv_aload_n CF.1 CF.2.1 dL_law_364 rfl (lv_at hl 1 rfl) ?_
      refine lv_iload CF.1 CF.2.1 dL_law_365 (lv_at hl 6 rfl) ?_
      refine lv_iconst (v := nI 1) CF.1 CF.2.1 dL_law_367 (by decide) ?_
      refine o_iadd CF dL_law_368 ?_
      refine x_sld CF hL hS1 (i := 6 * i + 1) (by omega) rfl dL_law_369 ?_
      refine lv_aload_n CF.1 CF.2.1 dL_law_370 rfl (lv_at hl 1 rfl) ?_
      refine lv_iload CF.1 CF.2.1 dL_law_371 (lv_at hl 6 rfl) ?_
      refine lv_iconst (v := nI 2) CF.1 CF.2.1 dL_law_373 (by decide) ?_
      refine o_iadd CF dL_law_374 ?_
      refine x_sld CF hL hS1 (i := 6 * i + 2) (by omega) rfl dL_law_375 ?_
      refine k_Mi CF hL hS1 hH1 (As := [.int (xs (6 * i + 1)), .int (xs (6 * i + 2))]) (rest := []) (b1_stock l hj1 (b := b) hI hRc1 hRo1 hOi (xs (6 * i + 1)) (xs (6 * i + 2)) hg) rfl lk_RL_X1_stock rfl hl.1 ⟨Nat.le_of_ble_eq_true rfl, Nat.le_of_ble_eq_true rfl⟩ ⟨Nat.le_trans (by omega) hcs.1, Nat.le_trans (by omega) hcs.2⟩ (Nat.le_of_ble_eq_true rfl) rfl dL_law_376 (fun r2 τ2 H2 locs hp2 hH2 hS2 => ?_)
      obtain ⟨hR1, hO1, hd2⟩ := hp2
      rcases hd2 with ⟨hT, hc2⟩ | ⟨hT, hc2⟩
      · refine lv_istore (lv' := [(7, .int (r2)), (6, .int (nI (1))), (0, .ref (bx)), (1, .ref (ad0 0)), (2, .ref (ad1 0)), (3, .ref (ou)), (4, .ref (od)), (5, .int (nI (6 * i)))]) CF.1 CF.2.1 dL_law_379 hl (by decide) rfl (fun ls hl => ?_)
        refine lv_aload_n CF.1 CF.2.1 dL_law_381 rfl (lv_at hl 4 rfl) ?_
        refine c1_i CF hK hH2.2.1 (As := []) (rest := []) (c1_thrown l) rfl lk_RL_X1_thrown rfl hl.1 ⟨Nat.le_of_ble_eq_true rfl, Nat.le_of_ble_eq_true rfl⟩ ⟨Nat.le_trans (by omega) hcs.1, Nat.le_trans (by omega) hcs.2⟩ (Nat.le_of_ble_eq_true rfl) rfl dL_law_382 (fun r3 hr3 => ?_)
        rw [hT] at hr3
        subst hr3
        refine lv_iload CF.1 CF.2.1 dL_law_385 (lv_at hl 1 rfl) ?_
        refine z_icmp_eq CF (tgt := 392) (nIz (by omega)) (nIz (by omega)) dL_law_387 (by decide) (fun _ => ?_) (fun h => absurd h (by decide))
        refine lv_iload CF.1 CF.2.1 dL_law_392 (lv_at hl 1 rfl) ?_
        refine z_if_ne CF (tgt := 409) (nIz (by omega)) dL_law_394 (by decide) (fun _ => ?_) (fun h => absurd h (by decide))
        refine lv_goto (tgt := 1448) CF.1 CF.2.1 dL_law_409 (by decide) ?_
        refine W.widen (k := cells + 2) (n := slots + 11) (by omega) (by omega) ?_
        exact kk (b) _ _ _ _ _ _ ls hH2 hRc0 hRo0 hR1 hO1 hI hOi hS2 (lv_sub hl [2, 3, 4, 5, 6, 7] rfl)
      · exact (show False by omega).elim
    · refine lv_istore (lv' := [(6, .int (nI (2))), (0, .ref (bx)), (1, .ref (ad0 0)), (2, .ref (ad1 0)), (3, .ref (ou)), (4, .ref (od)), (5, .int (nI (6 * i)))]) CF.1 CF.2.1 dL_law_361 hl (by decide) rfl (fun ls hl => ?_)
      refine lv_aload_n CF.1 CF.2.1 dL_law_363 rfl (lv_at hl 3 rfl) ?_
      refine lv_aload_n CF.1 CF.2.1 dL_law_364 rfl (lv_at hl 1 rfl) ?_
      refine lv_iload CF.1 CF.2.1 dL_law_365 (lv_at hl 6 rfl) ?_
      refine lv_iconst (v := nI 1) CF.1 CF.2.1 dL_law_367 (by decide) ?_
      refine o_iadd CF dL_law_368 ?_
      refine x_sld CF hL hS1 (i := 6 * i + 1) (by omega) rfl dL_law_369 ?_
      refine lv_aload_n CF.1 CF.2.1 dL_law_370 rfl (lv_at hl 1 rfl) ?_
      refine lv_iload CF.1 CF.2.1 dL_law_371 (lv_at hl 6 rfl) ?_
      refine lv_iconst (v := nI 2) CF.1 CF.2.1 dL_law_373 (by decide) ?_
      refine o_iadd CF dL_law_374 ?_
      refine x_sld CF hL hS1 (i := 6 * i + 2) (by omega) rfl dL_law_375 ?_
      refine k_Mi CF hL hS1 hH1 (As := [.int (xs (6 * i + 1)), .int (xs (6 * i + 2))]) (rest := []) (b1_stock l hj1 (b := b) hI hRc1 hRo1 hOi (xs (6 * i + 1)) (xs (6 * i + 2)) hg) rfl lk_RL_X1_stock rfl hl.1 ⟨Nat.le_of_ble_eq_true rfl, Nat.le_of_ble_eq_true rfl⟩ ⟨Nat.le_trans (by omega) hcs.1, Nat.le_trans (by omega) hcs.2⟩ (Nat.le_of_ble_eq_true rfl) rfl dL_law_376 (fun r2 τ2 H2 locs hp2 hH2 hS2 => ?_)
      obtain ⟨hR1, hO1, hd2⟩ := hp2
      rcases hd2 with ⟨hT, hc2⟩ | ⟨hT, hc2⟩
      · exact (show False by omega).elim
      · refine lv_istore (lv' := [(7, .int (r2)), (6, .int (nI (2))), (0, .ref (bx)), (1, .ref (ad0 0)), (2, .ref (ad1 0)), (3, .ref (ou)), (4, .ref (od)), (5, .int (nI (6 * i)))]) CF.1 CF.2.1 dL_law_379 hl (by decide) rfl (fun ls hl => ?_)
        refine lv_aload_n CF.1 CF.2.1 dL_law_381 rfl (lv_at hl 4 rfl) ?_
        refine c1_i CF hK hH2.2.1 (As := []) (rest := []) (c1_thrown l) rfl lk_RL_X1_thrown rfl hl.1 ⟨Nat.le_of_ble_eq_true rfl, Nat.le_of_ble_eq_true rfl⟩ ⟨Nat.le_trans (by omega) hcs.1, Nat.le_trans (by omega) hcs.2⟩ (Nat.le_of_ble_eq_true rfl) rfl dL_law_382 (fun r3 hr3 => ?_)
        rw [hT] at hr3
        subst hr3
        refine lv_iload CF.1 CF.2.1 dL_law_385 (lv_at hl 1 rfl) ?_
        refine z_icmp_eq CF (tgt := 392) (nIz (by omega)) (nIz (by omega)) dL_law_387 (by decide) (fun _ => ?_) (fun h => absurd h (by decide))
        refine lv_iload CF.1 CF.2.1 dL_law_392 (lv_at hl 1 rfl) ?_
        refine z_if_ne CF (tgt := 409) (nIz (by omega)) dL_law_394 (by decide) (fun _ => ?_) (fun h => absurd h (by decide))
        refine lv_goto (tgt := 1448) CF.1 CF.2.1 dL_law_409 (by decide) ?_
        refine W.widen (k := cells + 2) (n := slots + 11) (by omega) (by omega) ?_
        exact kk (b) _ _ _ _ _ _ ls hH2 hRc0 hRo0 hR1 hO1 hI hOi hS2 (lv_sub hl [2, 3, 4, 5, 6, 7] rfl)
set_option maxHeartbeats 1000000 in
set_option maxRecDepth 100000 in
theorem op_come {p : Program} {l : Launch} {e : Env} {s : State} {m : MethodId} {args : Array Value} {below : List Frame} {meth : Method} {c : Code} {H : Heap} {locs : List Loc} {cells slots : Nat} {Q : State → Prop} {ls : Array Slot} {G : va_G} {cA cL cD : ClassId} {ad0 ad1 : Nat → Nat} {σ τ : RS} {fo : Nat → Int64} {fd : Nat → UInt64} {ou od bx L : Nat} {xs : Nat → Int32} {b : BS} (CF : CallFix p m c cL_law 9 s args AW RL) (hL : LX l G cA cL cD ad0 ad1 ou od bx L xs s) (hS : va_S (AL s) s.heap H locs) (hH : LH G cA cL cD ad0 ad1 ou od σ τ fo fd H) (hRc0 : Rc σ b) (hRo0 : Ro σ b) (hRc1 : Rc τ b) (hRo1 : Ro τ b) (hI : InvC b) (hOi : InvO b) {i : Nat} (hi : 6 * i + 6 ≤ L) (hl : lv_has ls 9 [(0, .ref (bx)), (1, .ref (ad0 0)), (2, .ref (ad1 0)), (3, .ref (ou)), (4, .ref (od)), (5, .int (nI (6 * i)))]) (hcs : cells + 2 ≤ 656478 ∧ slots + 11 ≤ 7126671) (kk : ∀ (b' : BS) (σ' τ' : RS) (fo' : Nat → Int64) (fd' : Nat → UInt64) (H' : Heap) (locs' : List Loc) (ls' : Array Slot), LH G cA cL cD ad0 ad1 ou od σ' τ' fo' fd' H' → Rc σ' b' → Ro σ' b' → Rc τ' b' → Ro τ' b' → InvC b' → InvO b' → va_S (AL s) s.heap H' locs' → lv_has ls' 9 [(0, .ref (bx)), (1, .ref (ad0 0)), (2, .ref (ad1 0)), (3, .ref (ou)), (4, .ref (od)), (5, .int (nI (6 * i)))] → W p l e room_1 s m args below meth c H' locs' (cells + 2) (slots + 11) Q (F0 m 1448 ls' [])) : W p l e room_1 s m args below meth c H locs cells slots Q (F0 m 425 ls []) := by
  obtain ⟨hX, hbl, hK, hKL, hKD, hE, hj0, hj1, ha0, ha1, hou, hod, d01, d0o, d1o, d0d, d1d, dod, hfl, hL3⟩ := id hL
  have i_cu := hI.2.1
  have hw10 := hOi.1
  by_cases hg : b 0 2 < 6
  · refine lv_aload_n CF.1 CF.2.1 dL_law_425 rfl (lv_at hl 1 rfl) ?_
    refine lv_aload_n CF.1 CF.2.1 dL_law_426 rfl (lv_at hl 3 rfl) ?_
    refine k_W CF hL hS hH (As := [.ref (ad0 0), .ref (ou)]) (rest := []) (wk_come l hj0 (b := b) hI hRc0 hRo0 hOi  (by omega) d0o) lk_RL_L_come rfl hl.1 ⟨Nat.le_of_ble_eq_true rfl, Nat.le_of_ble_eq_true rfl⟩ ⟨Nat.le_trans (by omega) hcs.1, Nat.le_trans (by omega) hcs.2⟩ (Nat.le_of_ble_eq_true rfl) rfl dL_law_427 (fun r1 uw H1 locs hp1 hH1 hS1 => ?_)
    obtain ⟨rfl, hv1, hR0, hO0⟩ := hp1
    refine lv_istore (lv' := [(6, .int (nI (0))), (0, .ref (bx)), (1, .ref (ad0 0)), (2, .ref (ad1 0)), (3, .ref (ou)), (4, .ref (od)), (5, .int (nI (6 * i)))]) CF.1 CF.2.1 dL_law_430 hl (by decide) rfl (fun ls hl => ?_)
    refine lv_aload_n CF.1 CF.2.1 dL_law_432 rfl (lv_at hl 3 rfl) ?_
    refine k_Mi CF hL hS1 hH1 (As := []) (rest := []) (c1_come l hj1 (b := b) hI hRc1 hRo1 hOi  (by omega)) rfl lk_RL_X1_come rfl hl.1 ⟨Nat.le_of_ble_eq_true rfl, Nat.le_of_ble_eq_true rfl⟩ ⟨Nat.le_trans (by omega) hcs.1, Nat.le_trans (by omega) hcs.2⟩ (Nat.le_of_ble_eq_true rfl) rfl dL_law_433 (fun r2 τ2 H2 locs hp2 hH2 hS2 => ?_)
    obtain ⟨rfl, hR1, hO1, hT⟩ := hp2
    refine lv_istore (lv' := [(7, .int (nI (b 0 2))), (6, .int (nI (0))), (0, .ref (bx)), (1, .ref (ad0 0)), (2, .ref (ad1 0)), (3, .ref (ou)), (4, .ref (od)), (5, .int (nI (6 * i)))]) CF.1 CF.2.1 dL_law_436 hl (by decide) rfl (fun ls hl => ?_)
    refine lv_aload_n CF.1 CF.2.1 dL_law_438 rfl (lv_at hl 4 rfl) ?_
    refine c1_i CF hK hH2.2.1 (As := []) (rest := []) (c1_thrown l) rfl lk_RL_X1_thrown rfl hl.1 ⟨Nat.le_of_ble_eq_true rfl, Nat.le_of_ble_eq_true rfl⟩ ⟨Nat.le_trans (by omega) hcs.1, Nat.le_trans (by omega) hcs.2⟩ (Nat.le_of_ble_eq_true rfl) rfl dL_law_439 (fun r3 hr3 => ?_)
    rw [hT] at hr3
    subst hr3
    refine lv_iload CF.1 CF.2.1 dL_law_442 (lv_at hl 1 rfl) ?_
    refine z_icmp_eq CF (tgt := 449) (nIz (by omega)) (nIz (by omega)) dL_law_444 (by decide) (fun _ => ?_) (fun h => absurd h (by decide))
    refine lv_iload CF.1 CF.2.1 dL_law_449 (lv_at hl 1 rfl) ?_
    refine z_if_ne CF (tgt := 466) (nIz (by omega)) dL_law_451 (by decide) (fun h => absurd h (by decide)) (fun _ => ?_)
    refine lv_aload_n CF.1 CF.2.1 dL_law_454 rfl (lv_at hl 5 rfl) ?_
    refine lv_iconst (v := nI 0) CF.1 CF.2.1 dL_law_455 (by decide) ?_
    refine x_lald CF hL hS2 hH2 hv1 dL_law_456 ?_
    refine lv_iload CF.1 CF.2.1 dL_law_457 (lv_at hl 0 rfl) ?_
    refine lv_i2l CF.1 CF.2.1 dL_law_459 rfl ?_
    refine z_lcmp_eq CF (tgt := 466) rfl rfl dL_law_460 dL_law_461 (by decide) (fun h_5 => ?_) (fun h_6 => absurd h_6 (by omega))
    refine lv_goto (tgt := 1448) CF.1 CF.2.1 dL_law_466 (by decide) ?_
    refine W.widen (k := cells + 2) (n := slots + 11) (by omega) (by omega) ?_
    exact kk (upN b 0 2 (b 0 2 + 1)) _ _ _ _ _ _ ls hH2 hR0 hO0 hR1 hO1 (iv_come hI hOi  (by omega)).1 (iv_come hI hOi  (by omega)).2 hS2 (lv_sub hl [2, 3, 4, 5, 6, 7] rfl)
  · refine lv_aload_n CF.1 CF.2.1 dL_law_425 rfl (lv_at hl 1 rfl) ?_
    refine lv_aload_n CF.1 CF.2.1 dL_law_426 rfl (lv_at hl 3 rfl) ?_
    refine k_W CF hL hS hH (As := [.ref (ad0 0), .ref (ou)]) (rest := []) (wb_come l hfl hj0 (b := b) hI hRc0 hRo0 hOi  hg d0o) lk_RL_L_come rfl hl.1 ⟨Nat.le_of_ble_eq_true rfl, Nat.le_of_ble_eq_true rfl⟩ ⟨Nat.le_trans (by omega) hcs.1, Nat.le_trans (by omega) hcs.2⟩ (Nat.le_of_ble_eq_true rfl) rfl dL_law_427 (fun r1 uw H1 locs hp1 hH1 hS1 => ?_)
    obtain ⟨hd1, rfl⟩ := hp1
    have hH1 : LH G cA cL cD ad0 ad1 ou od σ τ fo fd H1 := hH1
    obtain ⟨rfl, hc1⟩ := hd1
    refine lv_istore (lv' := [(6, .int (nI (1))), (0, .ref (bx)), (1, .ref (ad0 0)), (2, .ref (ad1 0)), (3, .ref (ou)), (4, .ref (od)), (5, .int (nI (6 * i)))]) CF.1 CF.2.1 dL_law_430 hl (by decide) rfl (fun ls hl => ?_)
    refine lv_aload_n CF.1 CF.2.1 dL_law_432 rfl (lv_at hl 3 rfl) ?_
    refine k_Mi CF hL hS1 hH1 (As := []) (rest := []) (b1_come l hj1 (b := b) hI hRc1 hRo1 hOi  hg) rfl lk_RL_X1_come rfl hl.1 ⟨Nat.le_of_ble_eq_true rfl, Nat.le_of_ble_eq_true rfl⟩ ⟨Nat.le_trans (by omega) hcs.1, Nat.le_trans (by omega) hcs.2⟩ (Nat.le_of_ble_eq_true rfl) rfl dL_law_433 (fun r2 τ2 H2 locs hp2 hH2 hS2 => ?_)
    obtain ⟨hR1, hO1, hd2⟩ := hp2
    have hT := hd2.1
    refine lv_istore (lv' := [(7, .int (r2)), (6, .int (nI (1))), (0, .ref (bx)), (1, .ref (ad0 0)), (2, .ref (ad1 0)), (3, .ref (ou)), (4, .ref (od)), (5, .int (nI (6 * i)))]) CF.1 CF.2.1 dL_law_436 hl (by decide) rfl (fun ls hl => ?_)
    refine lv_aload_n CF.1 CF.2.1 dL_law_438 rfl (lv_at hl 4 rfl) ?_
    refine c1_i CF hK hH2.2.1 (As := []) (rest := []) (c1_thrown l) rfl lk_RL_X1_thrown rfl hl.1 ⟨Nat.le_of_ble_eq_true rfl, Nat.le_of_ble_eq_true rfl⟩ ⟨Nat.le_trans (by omega) hcs.1, Nat.le_trans (by omega) hcs.2⟩ (Nat.le_of_ble_eq_true rfl) rfl dL_law_439 (fun r3 hr3 => ?_)
    rw [hT] at hr3
    subst hr3
    refine lv_iload CF.1 CF.2.1 dL_law_442 (lv_at hl 1 rfl) ?_
    refine z_icmp_eq CF (tgt := 449) (nIz (by omega)) (nIz (by omega)) dL_law_444 (by decide) (fun _ => ?_) (fun h => absurd h (by decide))
    refine lv_iload CF.1 CF.2.1 dL_law_449 (lv_at hl 1 rfl) ?_
    refine z_if_ne CF (tgt := 466) (nIz (by omega)) dL_law_451 (by decide) (fun _ => ?_) (fun h => absurd h (by decide))
    refine lv_goto (tgt := 1448) CF.1 CF.2.1 dL_law_466 (by decide) ?_
    refine W.widen (k := cells + 2) (n := slots + 11) (by omega) (by omega) ?_
    exact kk (b) _ _ _ _ _ _ ls hH2 hRc0 hRo0 hR1 hO1 hI hOi hS2 (lv_sub hl [2, 3, 4, 5, 6, 7] rfl)
set_option maxHeartbeats 1000000 in
set_option maxRecDepth 100000 in
theorem op_earn {p : Program} {l : Launch} {e : Env} {s : State} {m : MethodId} {args : Array Value} {below : List Frame} {meth : Method} {c : Code} {H : Heap} {locs : List Loc} {cells slots : Nat} {Q : State → Prop} {ls : Array Slot} {G : va_G} {cA cL cD : ClassId} {ad0 ad1 : Nat → Nat} {σ τ : RS} {fo : Nat → Int64} {fd : Nat → UInt64} {ou od bx L : Nat} {xs : Nat → Int32} {b : BS} (CF : CallFix p m c cL_law 9 s args AW RL) (hL : LX l G cA cL cD ad0 ad1 ou od bx L xs s) (hS : va_S (AL s) s.heap H locs) (hH : LH G cA cL cD ad0 ad1 ou od σ τ fo fd H) (hRc0 : Rc σ b) (hRo0 : Ro σ b) (hRc1 : Rc τ b) (hRo1 : Ro τ b) (hI : InvC b) (hOi : InvO b) {i : Nat} (hi : 6 * i + 6 ≤ L) (hl : lv_has ls 9 [(0, .ref (bx)), (1, .ref (ad0 0)), (2, .ref (ad1 0)), (3, .ref (ou)), (4, .ref (od)), (5, .int (nI (6 * i)))]) (hcs : cells + 2 ≤ 656478 ∧ slots + 11 ≤ 7126671) (kk : ∀ (b' : BS) (σ' τ' : RS) (fo' : Nat → Int64) (fd' : Nat → UInt64) (H' : Heap) (locs' : List Loc) (ls' : Array Slot), LH G cA cL cD ad0 ad1 ou od σ' τ' fo' fd' H' → Rc σ' b' → Ro σ' b' → Rc τ' b' → Ro τ' b' → InvC b' → InvO b' → va_S (AL s) s.heap H' locs' → lv_has ls' 9 [(0, .ref (bx)), (1, .ref (ad0 0)), (2, .ref (ad1 0)), (3, .ref (ou)), (4, .ref (od)), (5, .int (nI (6 * i)))] → W p l e room_1 s m args below meth c H' locs' (cells + 2) (slots + 11) Q (F0 m 1448 ls' [])) : W p l e room_1 s m args below meth c H locs cells slots Q (F0 m 469 ls []) := by
  obtain ⟨hX, hbl, hK, hKL, hKD, hE, hj0, hj1, ha0, ha1, hou, hod, d01, d0o, d1o, d0d, d1d, dod, hfl, hL3⟩ := id hL
  have i_cu := hI.2.1
  have hw10 := hOi.1
  by_cases hg : 0 ≤ (xs (6 * i + 1)).toInt ∧ (xs (6 * i + 1)).toInt < (b 0 2 : Nat) ∧ 0 ≤ (xs (6 * i + 2)).toInt ∧ (xs (6 * i + 2)).toInt < 5 ∧ 1 ≤ (xs (6 * i + 3)).toInt ∧ (xs (6 * i + 3)).toInt ≤ 99999
  · obtain ⟨u, h_u, e_u⟩ := nI_ex (x := xs (6 * i + 1)) (n := b 0 2) (by omega) (by omega)
    obtain ⟨t, h_t, e_t⟩ := nI_ex (x := xs (6 * i + 2)) (n := 5) (by omega) (by omega)
    obtain ⟨v, h_v, e_v⟩ := nI_ex (x := xs (6 * i + 3)) (n := 100000) (by omega) (by omega)
    rw [e_u, e_t, e_v] at hg
    have z_u := nIz (n := u) (by omega)
    have z_t := nIz (n := t) (by omega)
    have z_v := nIz (n := v) (by omega)
    refine lv_aload_n CF.1 CF.2.1 dL_law_469 rfl (lv_at hl 1 rfl) ?_
    refine lv_aload_n CF.1 CF.2.1 dL_law_470 rfl (lv_at hl 0 rfl) ?_
    refine lv_iload CF.1 CF.2.1 dL_law_471 (lv_at hl 5 rfl) ?_
    refine lv_iconst (v := nI 1) CF.1 CF.2.1 dL_law_473 (by decide) ?_
    refine o_iadd CF dL_law_474 ?_
    refine x_sld CF hL hS (i := 6 * i + 1) (by omega) e_u dL_law_475 ?_
    refine lv_aload_n CF.1 CF.2.1 dL_law_476 rfl (lv_at hl 0 rfl) ?_
    refine lv_iload CF.1 CF.2.1 dL_law_477 (lv_at hl 5 rfl) ?_
    refine lv_iconst (v := nI 2) CF.1 CF.2.1 dL_law_479 (by decide) ?_
    refine o_iadd CF dL_law_480 ?_
    refine x_sld CF hL hS (i := 6 * i + 2) (by omega) e_t dL_law_481 ?_
    refine lv_aload_n CF.1 CF.2.1 dL_law_482 rfl (lv_at hl 0 rfl) ?_
    refine lv_iload CF.1 CF.2.1 dL_law_483 (lv_at hl 5 rfl) ?_
    refine lv_iconst (v := nI 3) CF.1 CF.2.1 dL_law_485 (by decide) ?_
    refine o_iadd CF dL_law_486 ?_
    refine x_sld CF hL hS (i := 6 * i + 3) (by omega) e_v dL_law_487 ?_
    refine lv_aload_n CF.1 CF.2.1 dL_law_488 rfl (lv_at hl 3 rfl) ?_
    refine k_W CF hL hS hH (As := [.ref (ad0 0), .int (nI (u)), .int (nI (t)), .int (nI (v)), .ref (ou)]) (rest := []) (wk_earn l hj0 (b := b) hI hRc0 hRo0 hOi (u := u) (t := t) (v := v) (by omega) (by omega) (by omega) (by omega) d0o) lk_RL_L_earn rfl hl.1 ⟨Nat.le_of_ble_eq_true rfl, Nat.le_of_ble_eq_true rfl⟩ ⟨Nat.le_trans (by omega) hcs.1, Nat.le_trans (by omega) hcs.2⟩ (Nat.le_of_ble_eq_true rfl) rfl dL_law_489 (fun r1 uw H1 locs hp1 hH1 hS1 => ?_)
    obtain ⟨rfl, hv1, hR0, hO0⟩ := hp1
    refine lv_istore (lv' := [(6, .int (nI (0))), (0, .ref (bx)), (1, .ref (ad0 0)), (2, .ref (ad1 0)), (3, .ref (ou)), (4, .ref (od)), (5, .int (nI (6 * i)))]) CF.1 CF.2.1 dL_law_492 hl (by decide) rfl (fun ls hl => ?_)
    refine lv_aload_n CF.1 CF.2.1 dL_law_494 rfl (lv_at hl 3 rfl) ?_
    refine lv_aload_n CF.1 CF.2.1 dL_law_495 rfl (lv_at hl 1 rfl) ?_
    refine lv_iload CF.1 CF.2.1 dL_law_496 (lv_at hl 6 rfl) ?_
    refine lv_iconst (v := nI 1) CF.1 CF.2.1 dL_law_498 (by decide) ?_
    refine o_iadd CF dL_law_499 ?_
    refine x_sld CF hL hS1 (i := 6 * i + 1) (by omega) e_u dL_law_500 ?_
    refine lv_aload_n CF.1 CF.2.1 dL_law_501 rfl (lv_at hl 1 rfl) ?_
    refine lv_iload CF.1 CF.2.1 dL_law_502 (lv_at hl 6 rfl) ?_
    refine lv_iconst (v := nI 2) CF.1 CF.2.1 dL_law_504 (by decide) ?_
    refine o_iadd CF dL_law_505 ?_
    refine x_sld CF hL hS1 (i := 6 * i + 2) (by omega) e_t dL_law_506 ?_
    refine lv_aload_n CF.1 CF.2.1 dL_law_507 rfl (lv_at hl 1 rfl) ?_
    refine lv_iload CF.1 CF.2.1 dL_law_508 (lv_at hl 6 rfl) ?_
    refine lv_iconst (v := nI 3) CF.1 CF.2.1 dL_law_510 (by decide) ?_
    refine o_iadd CF dL_law_511 ?_
    refine x_sld CF hL hS1 (i := 6 * i + 3) (by omega) e_v dL_law_512 ?_
    refine k_Mi CF hL hS1 hH1 (As := [.int (nI (u)), .int (nI (t)), .int (nI (v))]) (rest := []) (c1_earn l hj1 (b := b) hI hRc1 hRo1 hOi (u := u) (t := t) (v := v) (by omega) (by omega) (by omega) (by omega)) rfl lk_RL_X1_earn rfl hl.1 ⟨Nat.le_of_ble_eq_true rfl, Nat.le_of_ble_eq_true rfl⟩ ⟨Nat.le_trans (by omega) hcs.1, Nat.le_trans (by omega) hcs.2⟩ (Nat.le_of_ble_eq_true rfl) rfl dL_law_513 (fun r2 τ2 H2 locs hp2 hH2 hS2 => ?_)
    obtain ⟨rfl, hR1, hO1, hT⟩ := hp2
    refine lv_istore (lv' := [(7, .int (nI (min (b 6 (u * 5 + t) + v) 999999))), (6, .int (nI (0))), (0, .ref (bx)), (1, .ref (ad0 0)), (2, .ref (ad1 0)), (3, .ref (ou)), (4, .ref (od)), (5, .int (nI (6 * i)))]) CF.1 CF.2.1 dL_law_516 hl (by decide) rfl (fun ls hl => ?_)
    refine lv_aload_n CF.1 CF.2.1 dL_law_518 rfl (lv_at hl 4 rfl) ?_
    refine c1_i CF hK hH2.2.1 (As := []) (rest := []) (c1_thrown l) rfl lk_RL_X1_thrown rfl hl.1 ⟨Nat.le_of_ble_eq_true rfl, Nat.le_of_ble_eq_true rfl⟩ ⟨Nat.le_trans (by omega) hcs.1, Nat.le_trans (by omega) hcs.2⟩ (Nat.le_of_ble_eq_true rfl) rfl dL_law_519 (fun r3 hr3 => ?_)
    rw [hT] at hr3
    subst hr3
    refine lv_iload CF.1 CF.2.1 dL_law_522 (lv_at hl 1 rfl) ?_
    refine z_icmp_eq CF (tgt := 529) (nIz (by omega)) (nIz (by omega)) dL_law_524 (by decide) (fun _ => ?_) (fun h => absurd h (by decide))
    refine lv_iload CF.1 CF.2.1 dL_law_529 (lv_at hl 1 rfl) ?_
    refine z_if_ne CF (tgt := 546) (nIz (by omega)) dL_law_531 (by decide) (fun h => absurd h (by decide)) (fun _ => ?_)
    refine lv_aload_n CF.1 CF.2.1 dL_law_534 rfl (lv_at hl 5 rfl) ?_
    refine lv_iconst (v := nI 0) CF.1 CF.2.1 dL_law_535 (by decide) ?_
    refine x_lald CF hL hS2 hH2 hv1 dL_law_536 ?_
    refine lv_iload CF.1 CF.2.1 dL_law_537 (lv_at hl 0 rfl) ?_
    refine lv_i2l CF.1 CF.2.1 dL_law_539 rfl ?_
    refine z_lcmp_eq CF (tgt := 546) rfl rfl dL_law_540 dL_law_541 (by decide) (fun h_5 => ?_) (fun h_6 => absurd h_6 (by omega))
    refine lv_goto (tgt := 1448) CF.1 CF.2.1 dL_law_546 (by decide) ?_
    refine W.widen (k := cells + 2) (n := slots + 11) (by omega) (by omega) ?_
    exact kk (upN b 6 (u * 5 + t) (min (b 6 (u * 5 + t) + v) 999999)) _ _ _ _ _ _ ls hH2 hR0 hO0 hR1 hO1 (iv_earn hI hOi (u := u) (t := t) (v := v) (by omega) (by omega) (by omega) (by omega)).1 (iv_earn hI hOi (u := u) (t := t) (v := v) (by omega) (by omega) (by omega) (by omega)).2 hS2 (lv_sub hl [2, 3, 4, 5, 6, 7] rfl)
  · refine lv_aload_n CF.1 CF.2.1 dL_law_469 rfl (lv_at hl 1 rfl) ?_
    refine lv_aload_n CF.1 CF.2.1 dL_law_470 rfl (lv_at hl 0 rfl) ?_
    refine lv_iload CF.1 CF.2.1 dL_law_471 (lv_at hl 5 rfl) ?_
    refine lv_iconst (v := nI 1) CF.1 CF.2.1 dL_law_473 (by decide) ?_
    refine o_iadd CF dL_law_474 ?_
    refine x_sld CF hL hS (i := 6 * i + 1) (by omega) rfl dL_law_475 ?_
    refine lv_aload_n CF.1 CF.2.1 dL_law_476 rfl (lv_at hl 0 rfl) ?_
    refine lv_iload CF.1 CF.2.1 dL_law_477 (lv_at hl 5 rfl) ?_
    refine lv_iconst (v := nI 2) CF.1 CF.2.1 dL_law_479 (by decide) ?_
    refine o_iadd CF dL_law_480 ?_
    refine x_sld CF hL hS (i := 6 * i + 2) (by omega) rfl dL_law_481 ?_
    refine lv_aload_n CF.1 CF.2.1 dL_law_482 rfl (lv_at hl 0 rfl) ?_
    refine lv_iload CF.1 CF.2.1 dL_law_483 (lv_at hl 5 rfl) ?_
    refine lv_iconst (v := nI 3) CF.1 CF.2.1 dL_law_485 (by decide) ?_
    refine o_iadd CF dL_law_486 ?_
    refine x_sld CF hL hS (i := 6 * i + 3) (by omega) rfl dL_law_487 ?_
    refine lv_aload_n CF.1 CF.2.1 dL_law_488 rfl (lv_at hl 3 rfl) ?_
    refine k_W CF hL hS hH (As := [.ref (ad0 0), .int (xs (6 * i + 1)), .int (xs (6 * i + 2)), .int (xs (6 * i + 3)), .ref (ou)]) (rest := []) (wb_earn l hfl hj0 (b := b) hI hRc0 hRo0 hOi (xs (6 * i + 1)) (xs (6 * i + 2)) (xs (6 * i + 3)) hg d0o) lk_RL_L_earn rfl hl.1 ⟨Nat.le_of_ble_eq_true rfl, Nat.le_of_ble_eq_true rfl⟩ ⟨Nat.le_trans (by omega) hcs.1, Nat.le_trans (by omega) hcs.2⟩ (Nat.le_of_ble_eq_true rfl) rfl dL_law_489 (fun r1 uw H1 locs hp1 hH1 hS1 => ?_)
    obtain ⟨hd1, rfl⟩ := hp1
    have hH1 : LH G cA cL cD ad0 ad1 ou od σ τ fo fd H1 := hH1
    rcases hd1 with ⟨rfl, hc1⟩ | ⟨rfl, hc1⟩
    · refine lv_istore (lv' := [(6, .int (nI (1))), (0, .ref (bx)), (1, .ref (ad0 0)), (2, .ref (ad1 0)), (3, .ref (ou)), (4, .ref (od)), (5, .int (nI (6 * i)))]) CF.1 CF.2.1 dL_law_492 hl (by decide) rfl (fun ls hl => ?_)
      refine lv_aload_n CF.1 CF.2.1 dL_law_494 rfl (lv_at hl 3 rfl) ?_
      refine lv_aload_n CF.1 CF.2.1 dL_law_495 rfl (lv_at hl 1 rfl) ?_
      refine lv_iload CF.1 CF.2.1 dL_law_496 (lv_at hl 6 rfl) ?_
      refine lv_iconst (v := nI 1) CF.1 CF.2.1 dL_law_498 (by decide) ?_
      refine o_iadd CF dL_law_499 ?_
      refine x_sld CF hL hS1 (i := 6 * i + 1) (by omega) rfl dL_law_500 ?_
      refine lv_aload_n CF.1 CF.2.1 dL_law_501 rfl (lv_at hl 1 rfl) ?_
      refine lv_iload CF.1 CF.2.1 dL_law_502 (lv_at hl 6 rfl) ?_
      refine lv_iconst (v := nI 2) CF.1 CF.2.1 dL_law_504 (by decide) ?_
      refine o_iadd CF dL_law_505 ?_
      refine x_sld CF hL hS1 (i := 6 * i + 2) (by omega) rfl dL_law_506 ?_
      refine lv_aload_n CF.1 CF.2.1 dL_law_507 rfl (lv_at hl 1 rfl) ?_
      refine lv_iload CF.1 CF.2.1 dL_law_508 (lv_at hl 6 rfl) ?_
      refine lv_iconst (v := nI 3) CF.1 CF.2.1 dL_law_510 (by decide) ?_
      refine o_iadd CF dL_law_511 ?_
      refine x_sld CF hL hS1 (i := 6 * i + 3) (by omega) rfl dL_law_512 ?_
      refine k_Mi CF hL hS1 hH1 (As := [.int (xs (6 * i + 1)), .int (xs (6 * i + 2)), .int (xs (6 * i + 3))]) (rest := []) (b1_earn l hj1 (b := b) hI hRc1 hRo1 hOi (xs (6 * i + 1)) (xs (6 * i + 2)) (xs (6 * i + 3)) hg) rfl lk_RL_X1_earn rfl hl.1 ⟨Nat.le_of_ble_eq_true rfl, Nat.le_of_ble_eq_true rfl⟩ ⟨Nat.le_trans (by omega) hcs.1, Nat.le_trans (by omega) hcs.2⟩ (Nat.le_of_ble_eq_true rfl) rfl dL_law_513 (fun r2 τ2 H2 locs hp2 hH2 hS2 => ?_)
      obtain ⟨hR1, hO1, hd2⟩ := hp2
      rcases hd2 with ⟨hT, hc2⟩ | ⟨hT, hc2⟩
      · refine lv_istore (lv' := [(7, .int (r2)), (6, .int (nI (1))), (0, .ref (bx)), (1, .ref (ad0 0)), (2, .ref (ad1 0)), (3, .ref (ou)), (4, .ref (od)), (5, .int (nI (6 * i)))]) CF.1 CF.2.1 dL_law_516 hl (by decide) rfl (fun ls hl => ?_)
        refine lv_aload_n CF.1 CF.2.1 dL_law_518 rfl (lv_at hl 4 rfl) ?_
        refine c1_i CF hK hH2.2.1 (As := []) (rest := []) (c1_thrown l) rfl lk_RL_X1_thrown rfl hl.1 ⟨Nat.le_of_ble_eq_true rfl, Nat.le_of_ble_eq_true rfl⟩ ⟨Nat.le_trans (by omega) hcs.1, Nat.le_trans (by omega) hcs.2⟩ (Nat.le_of_ble_eq_true rfl) rfl dL_law_519 (fun r3 hr3 => ?_)
        rw [hT] at hr3
        subst hr3
        refine lv_iload CF.1 CF.2.1 dL_law_522 (lv_at hl 1 rfl) ?_
        refine z_icmp_eq CF (tgt := 529) (nIz (by omega)) (nIz (by omega)) dL_law_524 (by decide) (fun _ => ?_) (fun h => absurd h (by decide))
        refine lv_iload CF.1 CF.2.1 dL_law_529 (lv_at hl 1 rfl) ?_
        refine z_if_ne CF (tgt := 546) (nIz (by omega)) dL_law_531 (by decide) (fun _ => ?_) (fun h => absurd h (by decide))
        refine lv_goto (tgt := 1448) CF.1 CF.2.1 dL_law_546 (by decide) ?_
        refine W.widen (k := cells + 2) (n := slots + 11) (by omega) (by omega) ?_
        exact kk (b) _ _ _ _ _ _ ls hH2 hRc0 hRo0 hR1 hO1 hI hOi hS2 (lv_sub hl [2, 3, 4, 5, 6, 7] rfl)
      · exact (show False by omega).elim
    · refine lv_istore (lv' := [(6, .int (nI (2))), (0, .ref (bx)), (1, .ref (ad0 0)), (2, .ref (ad1 0)), (3, .ref (ou)), (4, .ref (od)), (5, .int (nI (6 * i)))]) CF.1 CF.2.1 dL_law_492 hl (by decide) rfl (fun ls hl => ?_)
      refine lv_aload_n CF.1 CF.2.1 dL_law_494 rfl (lv_at hl 3 rfl) ?_
      refine lv_aload_n CF.1 CF.2.1 dL_law_495 rfl (lv_at hl 1 rfl) ?_
      refine lv_iload CF.1 CF.2.1 dL_law_496 (lv_at hl 6 rfl) ?_
      refine lv_iconst (v := nI 1) CF.1 CF.2.1 dL_law_498 (by decide) ?_
      refine o_iadd CF dL_law_499 ?_
      refine x_sld CF hL hS1 (i := 6 * i + 1) (by omega) rfl dL_law_500 ?_
      refine lv_aload_n CF.1 CF.2.1 dL_law_501 rfl (lv_at hl 1 rfl) ?_
      refine lv_iload CF.1 CF.2.1 dL_law_502 (lv_at hl 6 rfl) ?_
      refine lv_iconst (v := nI 2) CF.1 CF.2.1 dL_law_504 (by decide) ?_
      refine o_iadd CF dL_law_505 ?_
      refine x_sld CF hL hS1 (i := 6 * i + 2) (by omega) rfl dL_law_506 ?_
      refine lv_aload_n CF.1 CF.2.1 dL_law_507 rfl (lv_at hl 1 rfl) ?_
      refine lv_iload CF.1 CF.2.1 dL_law_508 (lv_at hl 6 rfl) ?_
      refine lv_iconst (v := nI 3) CF.1 CF.2.1 dL_law_510 (by decide) ?_
      refine o_iadd CF dL_law_511 ?_
      refine x_sld CF hL hS1 (i := 6 * i + 3) (by omega) rfl dL_law_512 ?_
      refine k_Mi CF hL hS1 hH1 (As := [.int (xs (6 * i + 1)), .int (xs (6 * i + 2)), .int (xs (6 * i + 3))]) (rest := []) (b1_earn l hj1 (b := b) hI hRc1 hRo1 hOi (xs (6 * i + 1)) (xs (6 * i + 2)) (xs (6 * i + 3)) hg) rfl lk_RL_X1_earn rfl hl.1 ⟨Nat.le_of_ble_eq_true rfl, Nat.le_of_ble_eq_true rfl⟩ ⟨Nat.le_trans (by omega) hcs.1, Nat.le_trans (by omega) hcs.2⟩ (Nat.le_of_ble_eq_true rfl) rfl dL_law_513 (fun r2 τ2 H2 locs hp2 hH2 hS2 => ?_)
      obtain ⟨hR1, hO1, hd2⟩ := hp2
      rcases hd2 with ⟨hT, hc2⟩ | ⟨hT, hc2⟩
      · exact (show False by omega).elim
      · refine lv_istore (lv' := [(7, .int (r2)), (6, .int (nI (2))), (0, .ref (bx)), (1, .ref (ad0 0)), (2, .ref (ad1 0)), (3, .ref (ou)), (4, .ref (od)), (5, .int (nI (6 * i)))]) CF.1 CF.2.1 dL_law_516 hl (by decide) rfl (fun ls hl => ?_)
        refine lv_aload_n CF.1 CF.2.1 dL_law_518 rfl (lv_at hl 4 rfl) ?_
        refine c1_i CF hK hH2.2.1 (As := []) (rest := []) (c1_thrown l) rfl lk_RL_X1_thrown rfl hl.1 ⟨Nat.le_of_ble_eq_true rfl, Nat.le_of_ble_eq_true rfl⟩ ⟨Nat.le_trans (by omega) hcs.1, Nat.le_trans (by omega) hcs.2⟩ (Nat.le_of_ble_eq_true rfl) rfl dL_law_519 (fun r3 hr3 => ?_)
        rw [hT] at hr3
        subst hr3
        refine lv_iload CF.1 CF.2.1 dL_law_522 (lv_at hl 1 rfl) ?_
        refine z_icmp_eq CF (tgt := 529) (nIz (by omega)) (nIz (by omega)) dL_law_524 (by decide) (fun _ => ?_) (fun h => absurd h (by decide))
        refine lv_iload CF.1 CF.2.1 dL_law_529 (lv_at hl 1 rfl) ?_
        refine z_if_ne CF (tgt := 546) (nIz (by omega)) dL_law_531 (by decide) (fun _ => ?_) (fun h => absurd h (by decide))
        refine lv_goto (tgt := 1448) CF.1 CF.2.1 dL_law_546 (by decide) ?_
        refine W.widen (k := cells + 2) (n := slots + 11) (by omega) (by omega) ?_
        exact kk (b) _ _ _ _ _ _ ls hH2 hRc0 hRo0 hR1 hO1 hI hOi hS2 (lv_sub hl [2, 3, 4, 5, 6, 7] rfl)
set_option maxHeartbeats 1000000 in
set_option maxRecDepth 100000 in
theorem op_change {p : Program} {l : Launch} {e : Env} {s : State} {m : MethodId} {args : Array Value} {below : List Frame} {meth : Method} {c : Code} {H : Heap} {locs : List Loc} {cells slots : Nat} {Q : State → Prop} {ls : Array Slot} {G : va_G} {cA cL cD : ClassId} {ad0 ad1 : Nat → Nat} {σ τ : RS} {fo : Nat → Int64} {fd : Nat → UInt64} {ou od bx L : Nat} {xs : Nat → Int32} {b : BS} (CF : CallFix p m c cL_law 9 s args AW RL) (hL : LX l G cA cL cD ad0 ad1 ou od bx L xs s) (hS : va_S (AL s) s.heap H locs) (hH : LH G cA cL cD ad0 ad1 ou od σ τ fo fd H) (hRc0 : Rc σ b) (hRo0 : Ro σ b) (hRc1 : Rc τ b) (hRo1 : Ro τ b) (hI : InvC b) (hOi : InvO b) {i : Nat} (hi : 6 * i + 6 ≤ L) (hl : lv_has ls 9 [(0, .ref (bx)), (1, .ref (ad0 0)), (2, .ref (ad1 0)), (3, .ref (ou)), (4, .ref (od)), (5, .int (nI (6 * i)))]) (hcs : cells + 2 ≤ 656478 ∧ slots + 11 ≤ 7126671) (kk : ∀ (b' : BS) (σ' τ' : RS) (fo' : Nat → Int64) (fd' : Nat → UInt64) (H' : Heap) (locs' : List Loc) (ls' : Array Slot), LH G cA cL cD ad0 ad1 ou od σ' τ' fo' fd' H' → Rc σ' b' → Ro σ' b' → Rc τ' b' → Ro τ' b' → InvC b' → InvO b' → va_S (AL s) s.heap H' locs' → lv_has ls' 9 [(0, .ref (bx)), (1, .ref (ad0 0)), (2, .ref (ad1 0)), (3, .ref (ou)), (4, .ref (od)), (5, .int (nI (6 * i)))] → W p l e room_1 s m args below meth c H' locs' (cells + 2) (slots + 11) Q (F0 m 1448 ls' [])) : W p l e room_1 s m args below meth c H locs cells slots Q (F0 m 549 ls []) := by
  obtain ⟨hX, hbl, hK, hKL, hKD, hE, hj0, hj1, ha0, ha1, hou, hod, d01, d0o, d1o, d0d, d1d, dod, hfl, hL3⟩ := id hL
  have i_cu := hI.2.1
  have hw10 := hOi.1
  by_cases hg : 0 ≤ (xs (6 * i + 1)).toInt ∧ (xs (6 * i + 1)).toInt < (b 0 2 : Nat) ∧ 0 ≤ (xs (6 * i + 2)).toInt ∧ (xs (6 * i + 2)).toInt < 5 ∧ 0 ≤ (xs (6 * i + 3)).toInt ∧ (xs (6 * i + 3)).toInt < 5 ∧ ∃ a, a < 2147483648 ∧ (xs (6 * i + 4)) = nI a ∧ okN b (xs (6 * i + 1)).toNatClampNeg (xs (6 * i + 2)).toNatClampNeg (xs (6 * i + 3)).toNatClampNeg a 1
  · obtain ⟨g1, g2, g3, g4, g5, g6, a, h_a, e_a, hok⟩ := hg
    obtain ⟨u, h_u, e_u⟩ := nI_ex (x := xs (6 * i + 1)) (n := b 0 2) (by omega) (by omega)
    obtain ⟨f, h_f, e_f⟩ := nI_ex (x := xs (6 * i + 2)) (n := 5) (by omega) (by omega)
    obtain ⟨t, h_t, e_t⟩ := nI_ex (x := xs (6 * i + 3)) (n := 5) (by omega) (by omega)
    rw [e_u, e_f, e_t, nI_clamp (by omega), nI_clamp (by omega), nI_clamp (by omega)] at hok
    refine lv_aload_n CF.1 CF.2.1 dL_law_549 rfl (lv_at hl 1 rfl) ?_
    refine lv_aload_n CF.1 CF.2.1 dL_law_550 rfl (lv_at hl 0 rfl) ?_
    refine lv_iload CF.1 CF.2.1 dL_law_551 (lv_at hl 5 rfl) ?_
    refine lv_iconst (v := nI 1) CF.1 CF.2.1 dL_law_553 (by decide) ?_
    refine o_iadd CF dL_law_554 ?_
    refine x_sld CF hL hS (i := 6 * i + 1) (by omega) e_u dL_law_555 ?_
    refine lv_aload_n CF.1 CF.2.1 dL_law_556 rfl (lv_at hl 0 rfl) ?_
    refine lv_iload CF.1 CF.2.1 dL_law_557 (lv_at hl 5 rfl) ?_
    refine lv_iconst (v := nI 2) CF.1 CF.2.1 dL_law_559 (by decide) ?_
    refine o_iadd CF dL_law_560 ?_
    refine x_sld CF hL hS (i := 6 * i + 2) (by omega) e_f dL_law_561 ?_
    refine lv_aload_n CF.1 CF.2.1 dL_law_562 rfl (lv_at hl 0 rfl) ?_
    refine lv_iload CF.1 CF.2.1 dL_law_563 (lv_at hl 5 rfl) ?_
    refine lv_iconst (v := nI 3) CF.1 CF.2.1 dL_law_565 (by decide) ?_
    refine o_iadd CF dL_law_566 ?_
    refine x_sld CF hL hS (i := 6 * i + 3) (by omega) e_t dL_law_567 ?_
    refine lv_aload_n CF.1 CF.2.1 dL_law_568 rfl (lv_at hl 0 rfl) ?_
    refine lv_iload CF.1 CF.2.1 dL_law_569 (lv_at hl 5 rfl) ?_
    refine lv_iconst (v := nI 4) CF.1 CF.2.1 dL_law_571 (by decide) ?_
    refine o_iadd CF dL_law_572 ?_
    refine x_sld CF hL hS (i := 6 * i + 4) (by omega) e_a dL_law_573 ?_
    refine lv_aload_n CF.1 CF.2.1 dL_law_574 rfl (lv_at hl 3 rfl) ?_
    refine k_W CF hL hS hH (As := [.ref (ad0 0), .int (nI (u)), .int (nI (f)), .int (nI (t)), .int (nI (a)), .ref (ou)]) (rest := []) (wk_change l hj0 (b := b) hI hRc0 hRo0 hOi (u := u) (f := f) (t := t) (a := a) (by omega) (by omega) (by omega) (by omega) hok d0o) lk_RL_L_change rfl hl.1 ⟨Nat.le_of_ble_eq_true rfl, Nat.le_of_ble_eq_true rfl⟩ ⟨Nat.le_trans (by omega) hcs.1, Nat.le_trans (by omega) hcs.2⟩ (Nat.le_of_ble_eq_true rfl) rfl dL_law_575 (fun r1 uw H1 locs hp1 hH1 hS1 => ?_)
    obtain ⟨rfl, hv1, hR0, hO0⟩ := hp1
    refine lv_istore (lv' := [(6, .int (nI (0))), (0, .ref (bx)), (1, .ref (ad0 0)), (2, .ref (ad1 0)), (3, .ref (ou)), (4, .ref (od)), (5, .int (nI (6 * i)))]) CF.1 CF.2.1 dL_law_578 hl (by decide) rfl (fun ls hl => ?_)
    refine lv_aload_n CF.1 CF.2.1 dL_law_580 rfl (lv_at hl 3 rfl) ?_
    refine lv_aload_n CF.1 CF.2.1 dL_law_581 rfl (lv_at hl 1 rfl) ?_
    refine lv_iload CF.1 CF.2.1 dL_law_582 (lv_at hl 6 rfl) ?_
    refine lv_iconst (v := nI 1) CF.1 CF.2.1 dL_law_584 (by decide) ?_
    refine o_iadd CF dL_law_585 ?_
    refine x_sld CF hL hS1 (i := 6 * i + 1) (by omega) e_u dL_law_586 ?_
    refine lv_aload_n CF.1 CF.2.1 dL_law_587 rfl (lv_at hl 1 rfl) ?_
    refine lv_iload CF.1 CF.2.1 dL_law_588 (lv_at hl 6 rfl) ?_
    refine lv_iconst (v := nI 2) CF.1 CF.2.1 dL_law_590 (by decide) ?_
    refine o_iadd CF dL_law_591 ?_
    refine x_sld CF hL hS1 (i := 6 * i + 2) (by omega) e_f dL_law_592 ?_
    refine lv_aload_n CF.1 CF.2.1 dL_law_593 rfl (lv_at hl 1 rfl) ?_
    refine lv_iload CF.1 CF.2.1 dL_law_594 (lv_at hl 6 rfl) ?_
    refine lv_iconst (v := nI 3) CF.1 CF.2.1 dL_law_596 (by decide) ?_
    refine o_iadd CF dL_law_597 ?_
    refine x_sld CF hL hS1 (i := 6 * i + 3) (by omega) e_t dL_law_598 ?_
    refine lv_aload_n CF.1 CF.2.1 dL_law_599 rfl (lv_at hl 1 rfl) ?_
    refine lv_iload CF.1 CF.2.1 dL_law_600 (lv_at hl 6 rfl) ?_
    refine lv_iconst (v := nI 4) CF.1 CF.2.1 dL_law_602 (by decide) ?_
    refine o_iadd CF dL_law_603 ?_
    refine x_sld CF hL hS1 (i := 6 * i + 4) (by omega) e_a dL_law_604 ?_
    refine k_Mi CF hL hS1 hH1 (As := [.int (nI (u)), .int (nI (f)), .int (nI (t)), .int (nI (a))]) (rest := []) (c1_change l hj1 (b := b) hI hRc1 hRo1 hOi (u := u) (f := f) (t := t) (a := a) (by omega) (by omega) (by omega) (by omega) hok) rfl lk_RL_X1_change rfl hl.1 ⟨Nat.le_of_ble_eq_true rfl, Nat.le_of_ble_eq_true rfl⟩ ⟨Nat.le_trans (by omega) hcs.1, Nat.le_trans (by omega) hcs.2⟩ (Nat.le_of_ble_eq_true rfl) rfl dL_law_605 (fun r2 τ2 H2 locs hp2 hH2 hS2 => ?_)
    obtain ⟨rfl, hR1, hO1, hT⟩ := hp2
    refine lv_istore (lv' := [(7, .int (nI (gv b f t a))), (6, .int (nI (0))), (0, .ref (bx)), (1, .ref (ad0 0)), (2, .ref (ad1 0)), (3, .ref (ou)), (4, .ref (od)), (5, .int (nI (6 * i)))]) CF.1 CF.2.1 dL_law_608 hl (by decide) rfl (fun ls hl => ?_)
    refine lv_aload_n CF.1 CF.2.1 dL_law_610 rfl (lv_at hl 4 rfl) ?_
    refine c1_i CF hK hH2.2.1 (As := []) (rest := []) (c1_thrown l) rfl lk_RL_X1_thrown rfl hl.1 ⟨Nat.le_of_ble_eq_true rfl, Nat.le_of_ble_eq_true rfl⟩ ⟨Nat.le_trans (by omega) hcs.1, Nat.le_trans (by omega) hcs.2⟩ (Nat.le_of_ble_eq_true rfl) rfl dL_law_611 (fun r3 hr3 => ?_)
    rw [hT] at hr3
    subst hr3
    refine lv_iload CF.1 CF.2.1 dL_law_614 (lv_at hl 1 rfl) ?_
    refine z_icmp_eq CF (tgt := 621) (nIz (by omega)) (nIz (by omega)) dL_law_616 (by decide) (fun _ => ?_) (fun h => absurd h (by decide))
    refine lv_iload CF.1 CF.2.1 dL_law_621 (lv_at hl 1 rfl) ?_
    refine z_if_ne CF (tgt := 638) (nIz (by omega)) dL_law_623 (by decide) (fun h => absurd h (by decide)) (fun _ => ?_)
    refine lv_aload_n CF.1 CF.2.1 dL_law_626 rfl (lv_at hl 5 rfl) ?_
    refine lv_iconst (v := nI 0) CF.1 CF.2.1 dL_law_627 (by decide) ?_
    refine x_lald CF hL hS2 hH2 hv1 dL_law_628 ?_
    refine lv_iload CF.1 CF.2.1 dL_law_629 (lv_at hl 0 rfl) ?_
    refine lv_i2l CF.1 CF.2.1 dL_law_631 rfl ?_
    refine z_lcmp_eq CF (tgt := 638) rfl rfl dL_law_632 dL_law_633 (by decide) (fun h_5 => ?_) (fun h_6 => absurd h_6 (by omega))
    refine lv_goto (tgt := 1448) CF.1 CF.2.1 dL_law_638 (by decide) ?_
    refine W.widen (k := cells + 2) (n := slots + 11) (by omega) (by omega) ?_
    exact kk (dc b u f t a) _ _ _ _ _ _ ls hH2 hR0 hO0 hR1 hO1 (iv_change hI hOi (u := u) (f := f) (t := t) (a := a) (by omega) (by omega) (by omega) (by omega) hok).1 (iv_change hI hOi (u := u) (f := f) (t := t) (a := a) (by omega) (by omega) (by omega) (by omega) hok).2 hS2 (lv_sub hl [2, 3, 4, 5, 6, 7] rfl)
  · refine lv_aload_n CF.1 CF.2.1 dL_law_549 rfl (lv_at hl 1 rfl) ?_
    refine lv_aload_n CF.1 CF.2.1 dL_law_550 rfl (lv_at hl 0 rfl) ?_
    refine lv_iload CF.1 CF.2.1 dL_law_551 (lv_at hl 5 rfl) ?_
    refine lv_iconst (v := nI 1) CF.1 CF.2.1 dL_law_553 (by decide) ?_
    refine o_iadd CF dL_law_554 ?_
    refine x_sld CF hL hS (i := 6 * i + 1) (by omega) rfl dL_law_555 ?_
    refine lv_aload_n CF.1 CF.2.1 dL_law_556 rfl (lv_at hl 0 rfl) ?_
    refine lv_iload CF.1 CF.2.1 dL_law_557 (lv_at hl 5 rfl) ?_
    refine lv_iconst (v := nI 2) CF.1 CF.2.1 dL_law_559 (by decide) ?_
    refine o_iadd CF dL_law_560 ?_
    refine x_sld CF hL hS (i := 6 * i + 2) (by omega) rfl dL_law_561 ?_
    refine lv_aload_n CF.1 CF.2.1 dL_law_562 rfl (lv_at hl 0 rfl) ?_
    refine lv_iload CF.1 CF.2.1 dL_law_563 (lv_at hl 5 rfl) ?_
    refine lv_iconst (v := nI 3) CF.1 CF.2.1 dL_law_565 (by decide) ?_
    refine o_iadd CF dL_law_566 ?_
    refine x_sld CF hL hS (i := 6 * i + 3) (by omega) rfl dL_law_567 ?_
    refine lv_aload_n CF.1 CF.2.1 dL_law_568 rfl (lv_at hl 0 rfl) ?_
    refine lv_iload CF.1 CF.2.1 dL_law_569 (lv_at hl 5 rfl) ?_
    refine lv_iconst (v := nI 4) CF.1 CF.2.1 dL_law_571 (by decide) ?_
    refine o_iadd CF dL_law_572 ?_
    refine x_sld CF hL hS (i := 6 * i + 4) (by omega) rfl dL_law_573 ?_
    refine lv_aload_n CF.1 CF.2.1 dL_law_574 rfl (lv_at hl 3 rfl) ?_
    refine k_W CF hL hS hH (As := [.ref (ad0 0), .int (xs (6 * i + 1)), .int (xs (6 * i + 2)), .int (xs (6 * i + 3)), .int (xs (6 * i + 4)), .ref (ou)]) (rest := []) (wb_change l hfl hj0 (b := b) hI hRc0 hRo0 hOi (xs (6 * i + 1)) (xs (6 * i + 2)) (xs (6 * i + 3)) (xs (6 * i + 4)) hg d0o) lk_RL_L_change rfl hl.1 ⟨Nat.le_of_ble_eq_true rfl, Nat.le_of_ble_eq_true rfl⟩ ⟨Nat.le_trans (by omega) hcs.1, Nat.le_trans (by omega) hcs.2⟩ (Nat.le_of_ble_eq_true rfl) rfl dL_law_575 (fun r1 uw H1 locs hp1 hH1 hS1 => ?_)
    obtain ⟨hd1, rfl⟩ := hp1
    have hH1 : LH G cA cL cD ad0 ad1 ou od σ τ fo fd H1 := hH1
    rcases hd1 with ⟨rfl, hc1⟩ | ⟨rfl, hc1⟩
    · refine lv_istore (lv' := [(6, .int (nI (1))), (0, .ref (bx)), (1, .ref (ad0 0)), (2, .ref (ad1 0)), (3, .ref (ou)), (4, .ref (od)), (5, .int (nI (6 * i)))]) CF.1 CF.2.1 dL_law_578 hl (by decide) rfl (fun ls hl => ?_)
      refine lv_aload_n CF.1 CF.2.1 dL_law_580 rfl (lv_at hl 3 rfl) ?_
      refine lv_aload_n CF.1 CF.2.1 dL_law_581 rfl (lv_at hl 1 rfl) ?_
      refine lv_iload CF.1 CF.2.1 dL_law_582 (lv_at hl 6 rfl) ?_
      refine lv_iconst (v := nI 1) CF.1 CF.2.1 dL_law_584 (by decide) ?_
      refine o_iadd CF dL_law_585 ?_
      refine x_sld CF hL hS1 (i := 6 * i + 1) (by omega) rfl dL_law_586 ?_
      refine lv_aload_n CF.1 CF.2.1 dL_law_587 rfl (lv_at hl 1 rfl) ?_
      refine lv_iload CF.1 CF.2.1 dL_law_588 (lv_at hl 6 rfl) ?_
      refine lv_iconst (v := nI 2) CF.1 CF.2.1 dL_law_590 (by decide) ?_
      refine o_iadd CF dL_law_591 ?_
      refine x_sld CF hL hS1 (i := 6 * i + 2) (by omega) rfl dL_law_592 ?_
      refine lv_aload_n CF.1 CF.2.1 dL_law_593 rfl (lv_at hl 1 rfl) ?_
      refine lv_iload CF.1 CF.2.1 dL_law_594 (lv_at hl 6 rfl) ?_
      refine lv_iconst (v := nI 3) CF.1 CF.2.1 dL_law_596 (by decide) ?_
      refine o_iadd CF dL_law_597 ?_
      refine x_sld CF hL hS1 (i := 6 * i + 3) (by omega) rfl dL_law_598 ?_
      refine lv_aload_n CF.1 CF.2.1 dL_law_599 rfl (lv_at hl 1 rfl) ?_
      refine lv_iload CF.1 CF.2.1 dL_law_600 (lv_at hl 6 rfl) ?_
      refine lv_iconst (v := nI 4) CF.1 CF.2.1 dL_law_602 (by decide) ?_
      refine o_iadd CF dL_law_603 ?_
      refine x_sld CF hL hS1 (i := 6 * i + 4) (by omega) rfl dL_law_604 ?_
      refine k_Mi CF hL hS1 hH1 (As := [.int (xs (6 * i + 1)), .int (xs (6 * i + 2)), .int (xs (6 * i + 3)), .int (xs (6 * i + 4))]) (rest := []) (b1_change l hj1 (b := b) hI hRc1 hRo1 hOi (xs (6 * i + 1)) (xs (6 * i + 2)) (xs (6 * i + 3)) (xs (6 * i + 4)) hg) rfl lk_RL_X1_change rfl hl.1 ⟨Nat.le_of_ble_eq_true rfl, Nat.le_of_ble_eq_true rfl⟩ ⟨Nat.le_trans (by omega) hcs.1, Nat.le_trans (by omega) hcs.2⟩ (Nat.le_of_ble_eq_true rfl) rfl dL_law_605 (fun r2 τ2 H2 locs hp2 hH2 hS2 => ?_)
      obtain ⟨hR1, hO1, hd2⟩ := hp2
      rcases hd2 with ⟨hT, hc2⟩ | ⟨hT, hc2⟩
      · refine lv_istore (lv' := [(7, .int (r2)), (6, .int (nI (1))), (0, .ref (bx)), (1, .ref (ad0 0)), (2, .ref (ad1 0)), (3, .ref (ou)), (4, .ref (od)), (5, .int (nI (6 * i)))]) CF.1 CF.2.1 dL_law_608 hl (by decide) rfl (fun ls hl => ?_)
        refine lv_aload_n CF.1 CF.2.1 dL_law_610 rfl (lv_at hl 4 rfl) ?_
        refine c1_i CF hK hH2.2.1 (As := []) (rest := []) (c1_thrown l) rfl lk_RL_X1_thrown rfl hl.1 ⟨Nat.le_of_ble_eq_true rfl, Nat.le_of_ble_eq_true rfl⟩ ⟨Nat.le_trans (by omega) hcs.1, Nat.le_trans (by omega) hcs.2⟩ (Nat.le_of_ble_eq_true rfl) rfl dL_law_611 (fun r3 hr3 => ?_)
        rw [hT] at hr3
        subst hr3
        refine lv_iload CF.1 CF.2.1 dL_law_614 (lv_at hl 1 rfl) ?_
        refine z_icmp_eq CF (tgt := 621) (nIz (by omega)) (nIz (by omega)) dL_law_616 (by decide) (fun _ => ?_) (fun h => absurd h (by decide))
        refine lv_iload CF.1 CF.2.1 dL_law_621 (lv_at hl 1 rfl) ?_
        refine z_if_ne CF (tgt := 638) (nIz (by omega)) dL_law_623 (by decide) (fun _ => ?_) (fun h => absurd h (by decide))
        refine lv_goto (tgt := 1448) CF.1 CF.2.1 dL_law_638 (by decide) ?_
        refine W.widen (k := cells + 2) (n := slots + 11) (by omega) (by omega) ?_
        exact kk (b) _ _ _ _ _ _ ls hH2 hRc0 hRo0 hR1 hO1 hI hOi hS2 (lv_sub hl [2, 3, 4, 5, 6, 7] rfl)
      · exact (show False by omega).elim
    · refine lv_istore (lv' := [(6, .int (nI (2))), (0, .ref (bx)), (1, .ref (ad0 0)), (2, .ref (ad1 0)), (3, .ref (ou)), (4, .ref (od)), (5, .int (nI (6 * i)))]) CF.1 CF.2.1 dL_law_578 hl (by decide) rfl (fun ls hl => ?_)
      refine lv_aload_n CF.1 CF.2.1 dL_law_580 rfl (lv_at hl 3 rfl) ?_
      refine lv_aload_n CF.1 CF.2.1 dL_law_581 rfl (lv_at hl 1 rfl) ?_
      refine lv_iload CF.1 CF.2.1 dL_law_582 (lv_at hl 6 rfl) ?_
      refine lv_iconst (v := nI 1) CF.1 CF.2.1 dL_law_584 (by decide) ?_
      refine o_iadd CF dL_law_585 ?_
      refine x_sld CF hL hS1 (i := 6 * i + 1) (by omega) rfl dL_law_586 ?_
      refine lv_aload_n CF.1 CF.2.1 dL_law_587 rfl (lv_at hl 1 rfl) ?_
      refine lv_iload CF.1 CF.2.1 dL_law_588 (lv_at hl 6 rfl) ?_
      refine lv_iconst (v := nI 2) CF.1 CF.2.1 dL_law_590 (by decide) ?_
      refine o_iadd CF dL_law_591 ?_
      refine x_sld CF hL hS1 (i := 6 * i + 2) (by omega) rfl dL_law_592 ?_
      refine lv_aload_n CF.1 CF.2.1 dL_law_593 rfl (lv_at hl 1 rfl) ?_
      refine lv_iload CF.1 CF.2.1 dL_law_594 (lv_at hl 6 rfl) ?_
      refine lv_iconst (v := nI 3) CF.1 CF.2.1 dL_law_596 (by decide) ?_
      refine o_iadd CF dL_law_597 ?_
      refine x_sld CF hL hS1 (i := 6 * i + 3) (by omega) rfl dL_law_598 ?_
      refine lv_aload_n CF.1 CF.2.1 dL_law_599 rfl (lv_at hl 1 rfl) ?_
      refine lv_iload CF.1 CF.2.1 dL_law_600 (lv_at hl 6 rfl) ?_
      refine lv_iconst (v := nI 4) CF.1 CF.2.1 dL_law_602 (by decide) ?_
      refine o_iadd CF dL_law_603 ?_
      refine x_sld CF hL hS1 (i := 6 * i + 4) (by omega) rfl dL_law_604 ?_
      refine k_Mi CF hL hS1 hH1 (As := [.int (xs (6 * i + 1)), .int (xs (6 * i + 2)), .int (xs (6 * i + 3)), .int (xs (6 * i + 4))]) (rest := []) (b1_change l hj1 (b := b) hI hRc1 hRo1 hOi (xs (6 * i + 1)) (xs (6 * i + 2)) (xs (6 * i + 3)) (xs (6 * i + 4)) hg) rfl lk_RL_X1_change rfl hl.1 ⟨Nat.le_of_ble_eq_true rfl, Nat.le_of_ble_eq_true rfl⟩ ⟨Nat.le_trans (by omega) hcs.1, Nat.le_trans (by omega) hcs.2⟩ (Nat.le_of_ble_eq_true rfl) rfl dL_law_605 (fun r2 τ2 H2 locs hp2 hH2 hS2 => ?_)
      obtain ⟨hR1, hO1, hd2⟩ := hp2
      rcases hd2 with ⟨hT, hc2⟩ | ⟨hT, hc2⟩
      · exact (show False by omega).elim
      · refine lv_istore (lv' := [(7, .int (r2)), (6, .int (nI (2))), (0, .ref (bx)), (1, .ref (ad0 0)), (2, .ref (ad1 0)), (3, .ref (ou)), (4, .ref (od)), (5, .int (nI (6 * i)))]) CF.1 CF.2.1 dL_law_608 hl (by decide) rfl (fun ls hl => ?_)
        refine lv_aload_n CF.1 CF.2.1 dL_law_610 rfl (lv_at hl 4 rfl) ?_
        refine c1_i CF hK hH2.2.1 (As := []) (rest := []) (c1_thrown l) rfl lk_RL_X1_thrown rfl hl.1 ⟨Nat.le_of_ble_eq_true rfl, Nat.le_of_ble_eq_true rfl⟩ ⟨Nat.le_trans (by omega) hcs.1, Nat.le_trans (by omega) hcs.2⟩ (Nat.le_of_ble_eq_true rfl) rfl dL_law_611 (fun r3 hr3 => ?_)
        rw [hT] at hr3
        subst hr3
        refine lv_iload CF.1 CF.2.1 dL_law_614 (lv_at hl 1 rfl) ?_
        refine z_icmp_eq CF (tgt := 621) (nIz (by omega)) (nIz (by omega)) dL_law_616 (by decide) (fun _ => ?_) (fun h => absurd h (by decide))
        refine lv_iload CF.1 CF.2.1 dL_law_621 (lv_at hl 1 rfl) ?_
        refine z_if_ne CF (tgt := 638) (nIz (by omega)) dL_law_623 (by decide) (fun _ => ?_) (fun h => absurd h (by decide))
        refine lv_goto (tgt := 1448) CF.1 CF.2.1 dL_law_638 (by decide) ?_
        refine W.widen (k := cells + 2) (n := slots + 11) (by omega) (by omega) ?_
        exact kk (b) _ _ _ _ _ _ ls hH2 hRc0 hRo0 hR1 hO1 hI hOi hS2 (lv_sub hl [2, 3, 4, 5, 6, 7] rfl)
set_option maxHeartbeats 1000000 in
set_option maxRecDepth 100000 in
theorem op_order {p : Program} {l : Launch} {e : Env} {s : State} {m : MethodId} {args : Array Value} {below : List Frame} {meth : Method} {c : Code} {H : Heap} {locs : List Loc} {cells slots : Nat} {Q : State → Prop} {ls : Array Slot} {G : va_G} {cA cL cD : ClassId} {ad0 ad1 : Nat → Nat} {σ τ : RS} {fo : Nat → Int64} {fd : Nat → UInt64} {ou od bx L : Nat} {xs : Nat → Int32} {b : BS} (CF : CallFix p m c cL_law 9 s args AW RL) (hL : LX l G cA cL cD ad0 ad1 ou od bx L xs s) (hS : va_S (AL s) s.heap H locs) (hH : LH G cA cL cD ad0 ad1 ou od σ τ fo fd H) (hRc0 : Rc σ b) (hRo0 : Ro σ b) (hRc1 : Rc τ b) (hRo1 : Ro τ b) (hI : InvC b) (hOi : InvO b) {i : Nat} (hi : 6 * i + 6 ≤ L) (hl : lv_has ls 9 [(0, .ref (bx)), (1, .ref (ad0 0)), (2, .ref (ad1 0)), (3, .ref (ou)), (4, .ref (od)), (5, .int (nI (6 * i)))]) (hcs : cells + 2 ≤ 656478 ∧ slots + 11 ≤ 7126671) (kk : ∀ (b' : BS) (σ' τ' : RS) (fo' : Nat → Int64) (fd' : Nat → UInt64) (H' : Heap) (locs' : List Loc) (ls' : Array Slot), LH G cA cL cD ad0 ad1 ou od σ' τ' fo' fd' H' → Rc σ' b' → Ro σ' b' → Rc τ' b' → Ro τ' b' → InvC b' → InvO b' → va_S (AL s) s.heap H' locs' → lv_has ls' 9 [(0, .ref (bx)), (1, .ref (ad0 0)), (2, .ref (ad1 0)), (3, .ref (ou)), (4, .ref (od)), (5, .int (nI (6 * i)))] → W p l e room_1 s m args below meth c H' locs' (cells + 2) (slots + 11) Q (F0 m 1448 ls' [])) : W p l e room_1 s m args below meth c H locs cells slots Q (F0 m 641 ls []) := by
  obtain ⟨hX, hbl, hK, hKL, hKD, hE, hj0, hj1, ha0, ha1, hou, hod, d01, d0o, d1o, d0d, d1d, dod, hfl, hL3⟩ := id hL
  have i_cu := hI.2.1
  have hw10 := hOi.1
  by_cases hg : 0 ≤ (xs (6 * i + 1)).toInt ∧ (xs (6 * i + 1)).toInt < (b 0 2 : Nat) ∧ 0 ≤ (xs (6 * i + 2)).toInt ∧ (xs (6 * i + 2)).toInt < 5 ∧ 0 ≤ (xs (6 * i + 3)).toInt ∧ (xs (6 * i + 3)).toInt < 5 ∧ (xs (6 * i + 2)).toInt ≠ (xs (6 * i + 3)).toInt ∧ 1 ≤ (xs (6 * i + 4)).toInt ∧ (xs (6 * i + 4)).toInt ≤ 99999 ∧ 1 ≤ (xs (6 * i + 5)).toInt ∧ (xs (6 * i + 5)).toInt ≤ 99999 ∧ b 0 3 < 10
  · obtain ⟨u, h_u, e_u⟩ := nI_ex (x := xs (6 * i + 1)) (n := b 0 2) (by omega) (by omega)
    obtain ⟨f, h_f, e_f⟩ := nI_ex (x := xs (6 * i + 2)) (n := 5) (by omega) (by omega)
    obtain ⟨t, h_t, e_t⟩ := nI_ex (x := xs (6 * i + 3)) (n := 5) (by omega) (by omega)
    obtain ⟨a, h_a, e_a⟩ := nI_ex (x := xs (6 * i + 4)) (n := 100000) (by omega) (by omega)
    obtain ⟨k, h_k, e_k⟩ := nI_ex (x := xs (6 * i + 5)) (n := 100000) (by omega) (by omega)
    rw [e_u, e_f, e_t, e_a, e_k] at hg
    have z_u := nIz (n := u) (by omega)
    have z_f := nIz (n := f) (by omega)
    have z_t := nIz (n := t) (by omega)
    have z_a := nIz (n := a) (by omega)
    have z_k := nIz (n := k) (by omega)
    refine lv_aload_n CF.1 CF.2.1 dL_law_641 rfl (lv_at hl 1 rfl) ?_
    refine lv_aload_n CF.1 CF.2.1 dL_law_642 rfl (lv_at hl 0 rfl) ?_
    refine lv_iload CF.1 CF.2.1 dL_law_643 (lv_at hl 5 rfl) ?_
    refine lv_iconst (v := nI 1) CF.1 CF.2.1 dL_law_645 (by decide) ?_
    refine o_iadd CF dL_law_646 ?_
    refine x_sld CF hL hS (i := 6 * i + 1) (by omega) e_u dL_law_647 ?_
    refine lv_aload_n CF.1 CF.2.1 dL_law_648 rfl (lv_at hl 0 rfl) ?_
    refine lv_iload CF.1 CF.2.1 dL_law_649 (lv_at hl 5 rfl) ?_
    refine lv_iconst (v := nI 2) CF.1 CF.2.1 dL_law_651 (by decide) ?_
    refine o_iadd CF dL_law_652 ?_
    refine x_sld CF hL hS (i := 6 * i + 2) (by omega) e_f dL_law_653 ?_
    refine lv_aload_n CF.1 CF.2.1 dL_law_654 rfl (lv_at hl 0 rfl) ?_
    refine lv_iload CF.1 CF.2.1 dL_law_655 (lv_at hl 5 rfl) ?_
    refine lv_iconst (v := nI 3) CF.1 CF.2.1 dL_law_657 (by decide) ?_
    refine o_iadd CF dL_law_658 ?_
    refine x_sld CF hL hS (i := 6 * i + 3) (by omega) e_t dL_law_659 ?_
    refine lv_aload_n CF.1 CF.2.1 dL_law_660 rfl (lv_at hl 0 rfl) ?_
    refine lv_iload CF.1 CF.2.1 dL_law_661 (lv_at hl 5 rfl) ?_
    refine lv_iconst (v := nI 4) CF.1 CF.2.1 dL_law_663 (by decide) ?_
    refine o_iadd CF dL_law_664 ?_
    refine x_sld CF hL hS (i := 6 * i + 4) (by omega) e_a dL_law_665 ?_
    refine lv_aload_n CF.1 CF.2.1 dL_law_666 rfl (lv_at hl 0 rfl) ?_
    refine lv_iload CF.1 CF.2.1 dL_law_667 (lv_at hl 5 rfl) ?_
    refine lv_iconst (v := nI 5) CF.1 CF.2.1 dL_law_669 (by decide) ?_
    refine o_iadd CF dL_law_670 ?_
    refine x_sld CF hL hS (i := 6 * i + 5) (by omega) e_k dL_law_671 ?_
    refine lv_aload_n CF.1 CF.2.1 dL_law_672 rfl (lv_at hl 3 rfl) ?_
    refine k_W CF hL hS hH (As := [.ref (ad0 0), .int (nI (u)), .int (nI (f)), .int (nI (t)), .int (nI (a)), .int (nI (k)), .ref (ou)]) (rest := []) (wk_order l hj0 (b := b) hI hRc0 hRo0 hOi (u := u) (f := f) (t := t) (a := a) (k := k) (by omega) (by omega) (by omega) (by omega) (by omega) (by omega) (by omega) (by omega) (by omega) d0o) lk_RL_L_order rfl hl.1 ⟨Nat.le_of_ble_eq_true rfl, Nat.le_of_ble_eq_true rfl⟩ ⟨Nat.le_trans (by omega) hcs.1, Nat.le_trans (by omega) hcs.2⟩ (Nat.le_of_ble_eq_true rfl) rfl dL_law_673 (fun r1 uw H1 locs hp1 hH1 hS1 => ?_)
    obtain ⟨rfl, hv1, hR0, hO0⟩ := hp1
    refine lv_istore (lv' := [(6, .int (nI (0))), (0, .ref (bx)), (1, .ref (ad0 0)), (2, .ref (ad1 0)), (3, .ref (ou)), (4, .ref (od)), (5, .int (nI (6 * i)))]) CF.1 CF.2.1 dL_law_676 hl (by decide) rfl (fun ls hl => ?_)
    refine lv_aload_n CF.1 CF.2.1 dL_law_678 rfl (lv_at hl 3 rfl) ?_
    refine lv_aload_n CF.1 CF.2.1 dL_law_679 rfl (lv_at hl 1 rfl) ?_
    refine lv_iload CF.1 CF.2.1 dL_law_680 (lv_at hl 6 rfl) ?_
    refine lv_iconst (v := nI 1) CF.1 CF.2.1 dL_law_682 (by decide) ?_
    refine o_iadd CF dL_law_683 ?_
    refine x_sld CF hL hS1 (i := 6 * i + 1) (by omega) e_u dL_law_684 ?_
    refine lv_aload_n CF.1 CF.2.1 dL_law_685 rfl (lv_at hl 1 rfl) ?_
    refine lv_iload CF.1 CF.2.1 dL_law_686 (lv_at hl 6 rfl) ?_
    refine lv_iconst (v := nI 2) CF.1 CF.2.1 dL_law_688 (by decide) ?_
    refine o_iadd CF dL_law_689 ?_
    refine x_sld CF hL hS1 (i := 6 * i + 2) (by omega) e_f dL_law_690 ?_
    refine lv_aload_n CF.1 CF.2.1 dL_law_691 rfl (lv_at hl 1 rfl) ?_
    refine lv_iload CF.1 CF.2.1 dL_law_692 (lv_at hl 6 rfl) ?_
    refine lv_iconst (v := nI 3) CF.1 CF.2.1 dL_law_694 (by decide) ?_
    refine o_iadd CF dL_law_695 ?_
    refine x_sld CF hL hS1 (i := 6 * i + 3) (by omega) e_t dL_law_696 ?_
    refine lv_aload_n CF.1 CF.2.1 dL_law_697 rfl (lv_at hl 1 rfl) ?_
    refine lv_iload CF.1 CF.2.1 dL_law_698 (lv_at hl 6 rfl) ?_
    refine lv_iconst (v := nI 4) CF.1 CF.2.1 dL_law_700 (by decide) ?_
    refine o_iadd CF dL_law_701 ?_
    refine x_sld CF hL hS1 (i := 6 * i + 4) (by omega) e_a dL_law_702 ?_
    refine lv_aload_n CF.1 CF.2.1 dL_law_703 rfl (lv_at hl 1 rfl) ?_
    refine lv_iload CF.1 CF.2.1 dL_law_704 (lv_at hl 6 rfl) ?_
    refine lv_iconst (v := nI 5) CF.1 CF.2.1 dL_law_706 (by decide) ?_
    refine o_iadd CF dL_law_707 ?_
    refine x_sld CF hL hS1 (i := 6 * i + 5) (by omega) e_k dL_law_708 ?_
    refine k_Mi CF hL hS1 hH1 (As := [.int (nI (u)), .int (nI (f)), .int (nI (t)), .int (nI (a)), .int (nI (k))]) (rest := []) (c1_order l hj1 (b := b) hI hRc1 hRo1 hOi (u := u) (f := f) (t := t) (a := a) (k := k) (by omega) (by omega) (by omega) (by omega) (by omega) (by omega) (by omega) (by omega) (by omega)) rfl lk_RL_X1_order rfl hl.1 ⟨Nat.le_of_ble_eq_true rfl, Nat.le_of_ble_eq_true rfl⟩ ⟨Nat.le_trans (by omega) hcs.1, Nat.le_trans (by omega) hcs.2⟩ (Nat.le_of_ble_eq_true rfl) rfl dL_law_709 (fun r2 τ2 H2 locs hp2 hH2 hS2 => ?_)
    obtain ⟨rfl, hR1, hO1, hT⟩ := hp2
    refine lv_istore (lv' := [(7, .int (nI (b 0 3 + 1))), (6, .int (nI (0))), (0, .ref (bx)), (1, .ref (ad0 0)), (2, .ref (ad1 0)), (3, .ref (ou)), (4, .ref (od)), (5, .int (nI (6 * i)))]) CF.1 CF.2.1 dL_law_712 hl (by decide) rfl (fun ls hl => ?_)
    refine lv_aload_n CF.1 CF.2.1 dL_law_714 rfl (lv_at hl 4 rfl) ?_
    refine c1_i CF hK hH2.2.1 (As := []) (rest := []) (c1_thrown l) rfl lk_RL_X1_thrown rfl hl.1 ⟨Nat.le_of_ble_eq_true rfl, Nat.le_of_ble_eq_true rfl⟩ ⟨Nat.le_trans (by omega) hcs.1, Nat.le_trans (by omega) hcs.2⟩ (Nat.le_of_ble_eq_true rfl) rfl dL_law_715 (fun r3 hr3 => ?_)
    rw [hT] at hr3
    subst hr3
    refine lv_iload CF.1 CF.2.1 dL_law_718 (lv_at hl 1 rfl) ?_
    refine z_icmp_eq CF (tgt := 725) (nIz (by omega)) (nIz (by omega)) dL_law_720 (by decide) (fun _ => ?_) (fun h => absurd h (by decide))
    refine lv_iload CF.1 CF.2.1 dL_law_725 (lv_at hl 1 rfl) ?_
    refine z_if_ne CF (tgt := 742) (nIz (by omega)) dL_law_727 (by decide) (fun h => absurd h (by decide)) (fun _ => ?_)
    refine lv_aload_n CF.1 CF.2.1 dL_law_730 rfl (lv_at hl 5 rfl) ?_
    refine lv_iconst (v := nI 0) CF.1 CF.2.1 dL_law_731 (by decide) ?_
    refine x_lald CF hL hS2 hH2 hv1 dL_law_732 ?_
    refine lv_iload CF.1 CF.2.1 dL_law_733 (lv_at hl 0 rfl) ?_
    refine lv_i2l CF.1 CF.2.1 dL_law_735 rfl ?_
    refine z_lcmp_eq CF (tgt := 742) rfl rfl dL_law_736 dL_law_737 (by decide) (fun h_5 => ?_) (fun h_6 => absurd h_6 (by omega))
    refine lv_goto (tgt := 1448) CF.1 CF.2.1 dL_law_742 (by decide) ?_
    refine W.widen (k := cells + 2) (n := slots + 11) (by omega) (by omega) ?_
    exact kk (s_order b u f t a k) _ _ _ _ _ _ ls hH2 hR0 hO0 hR1 hO1 (iv_order hI hOi (u := u) (f := f) (t := t) (a := a) (k := k) (by omega) (by omega) (by omega) (by omega) (by omega) (by omega) (by omega) (by omega) (by omega)).1 (iv_order hI hOi (u := u) (f := f) (t := t) (a := a) (k := k) (by omega) (by omega) (by omega) (by omega) (by omega) (by omega) (by omega) (by omega) (by omega)).2 hS2 (lv_sub hl [2, 3, 4, 5, 6, 7] rfl)
  · refine lv_aload_n CF.1 CF.2.1 dL_law_641 rfl (lv_at hl 1 rfl) ?_
    refine lv_aload_n CF.1 CF.2.1 dL_law_642 rfl (lv_at hl 0 rfl) ?_
    refine lv_iload CF.1 CF.2.1 dL_law_643 (lv_at hl 5 rfl) ?_
    refine lv_iconst (v := nI 1) CF.1 CF.2.1 dL_law_645 (by decide) ?_
    refine o_iadd CF dL_law_646 ?_
    refine x_sld CF hL hS (i := 6 * i + 1) (by omega) rfl dL_law_647 ?_
    refine lv_aload_n CF.1 CF.2.1 dL_law_648 rfl (lv_at hl 0 rfl) ?_
    refine lv_iload CF.1 CF.2.1 dL_law_649 (lv_at hl 5 rfl) ?_
    refine lv_iconst (v := nI 2) CF.1 CF.2.1 dL_law_651 (by decide) ?_
    refine o_iadd CF dL_law_652 ?_
    refine x_sld CF hL hS (i := 6 * i + 2) (by omega) rfl dL_law_653 ?_
    refine lv_aload_n CF.1 CF.2.1 dL_law_654 rfl (lv_at hl 0 rfl) ?_
    refine lv_iload CF.1 CF.2.1 dL_law_655 (lv_at hl 5 rfl) ?_
    refine lv_iconst (v := nI 3) CF.1 CF.2.1 dL_law_657 (by decide) ?_
    refine o_iadd CF dL_law_658 ?_
    refine x_sld CF hL hS (i := 6 * i + 3) (by omega) rfl dL_law_659 ?_
    refine lv_aload_n CF.1 CF.2.1 dL_law_660 rfl (lv_at hl 0 rfl) ?_
    refine lv_iload CF.1 CF.2.1 dL_law_661 (lv_at hl 5 rfl) ?_
    refine lv_iconst (v := nI 4) CF.1 CF.2.1 dL_law_663 (by decide) ?_
    refine o_iadd CF dL_law_664 ?_
    refine x_sld CF hL hS (i := 6 * i + 4) (by omega) rfl dL_law_665 ?_
    refine lv_aload_n CF.1 CF.2.1 dL_law_666 rfl (lv_at hl 0 rfl) ?_
    refine lv_iload CF.1 CF.2.1 dL_law_667 (lv_at hl 5 rfl) ?_
    refine lv_iconst (v := nI 5) CF.1 CF.2.1 dL_law_669 (by decide) ?_
    refine o_iadd CF dL_law_670 ?_
    refine x_sld CF hL hS (i := 6 * i + 5) (by omega) rfl dL_law_671 ?_
    refine lv_aload_n CF.1 CF.2.1 dL_law_672 rfl (lv_at hl 3 rfl) ?_
    refine k_W CF hL hS hH (As := [.ref (ad0 0), .int (xs (6 * i + 1)), .int (xs (6 * i + 2)), .int (xs (6 * i + 3)), .int (xs (6 * i + 4)), .int (xs (6 * i + 5)), .ref (ou)]) (rest := []) (wb_order l hfl hj0 (b := b) hI hRc0 hRo0 hOi (xs (6 * i + 1)) (xs (6 * i + 2)) (xs (6 * i + 3)) (xs (6 * i + 4)) (xs (6 * i + 5)) hg d0o) lk_RL_L_order rfl hl.1 ⟨Nat.le_of_ble_eq_true rfl, Nat.le_of_ble_eq_true rfl⟩ ⟨Nat.le_trans (by omega) hcs.1, Nat.le_trans (by omega) hcs.2⟩ (Nat.le_of_ble_eq_true rfl) rfl dL_law_673 (fun r1 uw H1 locs hp1 hH1 hS1 => ?_)
    obtain ⟨hd1, rfl⟩ := hp1
    have hH1 : LH G cA cL cD ad0 ad1 ou od σ τ fo fd H1 := hH1
    rcases hd1 with ⟨rfl, hc1⟩ | ⟨rfl, hc1⟩ | ⟨rfl, hc1⟩
    · refine lv_istore (lv' := [(6, .int (nI (1))), (0, .ref (bx)), (1, .ref (ad0 0)), (2, .ref (ad1 0)), (3, .ref (ou)), (4, .ref (od)), (5, .int (nI (6 * i)))]) CF.1 CF.2.1 dL_law_676 hl (by decide) rfl (fun ls hl => ?_)
      refine lv_aload_n CF.1 CF.2.1 dL_law_678 rfl (lv_at hl 3 rfl) ?_
      refine lv_aload_n CF.1 CF.2.1 dL_law_679 rfl (lv_at hl 1 rfl) ?_
      refine lv_iload CF.1 CF.2.1 dL_law_680 (lv_at hl 6 rfl) ?_
      refine lv_iconst (v := nI 1) CF.1 CF.2.1 dL_law_682 (by decide) ?_
      refine o_iadd CF dL_law_683 ?_
      refine x_sld CF hL hS1 (i := 6 * i + 1) (by omega) rfl dL_law_684 ?_
      refine lv_aload_n CF.1 CF.2.1 dL_law_685 rfl (lv_at hl 1 rfl) ?_
      refine lv_iload CF.1 CF.2.1 dL_law_686 (lv_at hl 6 rfl) ?_
      refine lv_iconst (v := nI 2) CF.1 CF.2.1 dL_law_688 (by decide) ?_
      refine o_iadd CF dL_law_689 ?_
      refine x_sld CF hL hS1 (i := 6 * i + 2) (by omega) rfl dL_law_690 ?_
      refine lv_aload_n CF.1 CF.2.1 dL_law_691 rfl (lv_at hl 1 rfl) ?_
      refine lv_iload CF.1 CF.2.1 dL_law_692 (lv_at hl 6 rfl) ?_
      refine lv_iconst (v := nI 3) CF.1 CF.2.1 dL_law_694 (by decide) ?_
      refine o_iadd CF dL_law_695 ?_
      refine x_sld CF hL hS1 (i := 6 * i + 3) (by omega) rfl dL_law_696 ?_
      refine lv_aload_n CF.1 CF.2.1 dL_law_697 rfl (lv_at hl 1 rfl) ?_
      refine lv_iload CF.1 CF.2.1 dL_law_698 (lv_at hl 6 rfl) ?_
      refine lv_iconst (v := nI 4) CF.1 CF.2.1 dL_law_700 (by decide) ?_
      refine o_iadd CF dL_law_701 ?_
      refine x_sld CF hL hS1 (i := 6 * i + 4) (by omega) rfl dL_law_702 ?_
      refine lv_aload_n CF.1 CF.2.1 dL_law_703 rfl (lv_at hl 1 rfl) ?_
      refine lv_iload CF.1 CF.2.1 dL_law_704 (lv_at hl 6 rfl) ?_
      refine lv_iconst (v := nI 5) CF.1 CF.2.1 dL_law_706 (by decide) ?_
      refine o_iadd CF dL_law_707 ?_
      refine x_sld CF hL hS1 (i := 6 * i + 5) (by omega) rfl dL_law_708 ?_
      refine k_Mi CF hL hS1 hH1 (As := [.int (xs (6 * i + 1)), .int (xs (6 * i + 2)), .int (xs (6 * i + 3)), .int (xs (6 * i + 4)), .int (xs (6 * i + 5))]) (rest := []) (b1_order l hj1 (b := b) hI hRc1 hRo1 hOi (xs (6 * i + 1)) (xs (6 * i + 2)) (xs (6 * i + 3)) (xs (6 * i + 4)) (xs (6 * i + 5)) hg) rfl lk_RL_X1_order rfl hl.1 ⟨Nat.le_of_ble_eq_true rfl, Nat.le_of_ble_eq_true rfl⟩ ⟨Nat.le_trans (by omega) hcs.1, Nat.le_trans (by omega) hcs.2⟩ (Nat.le_of_ble_eq_true rfl) rfl dL_law_709 (fun r2 τ2 H2 locs hp2 hH2 hS2 => ?_)
      obtain ⟨hR1, hO1, hd2⟩ := hp2
      rcases hd2 with ⟨hT, hc2⟩ | ⟨hT, hc2⟩ | ⟨hT, hc2⟩
      · refine lv_istore (lv' := [(7, .int (r2)), (6, .int (nI (1))), (0, .ref (bx)), (1, .ref (ad0 0)), (2, .ref (ad1 0)), (3, .ref (ou)), (4, .ref (od)), (5, .int (nI (6 * i)))]) CF.1 CF.2.1 dL_law_712 hl (by decide) rfl (fun ls hl => ?_)
        refine lv_aload_n CF.1 CF.2.1 dL_law_714 rfl (lv_at hl 4 rfl) ?_
        refine c1_i CF hK hH2.2.1 (As := []) (rest := []) (c1_thrown l) rfl lk_RL_X1_thrown rfl hl.1 ⟨Nat.le_of_ble_eq_true rfl, Nat.le_of_ble_eq_true rfl⟩ ⟨Nat.le_trans (by omega) hcs.1, Nat.le_trans (by omega) hcs.2⟩ (Nat.le_of_ble_eq_true rfl) rfl dL_law_715 (fun r3 hr3 => ?_)
        rw [hT] at hr3
        subst hr3
        refine lv_iload CF.1 CF.2.1 dL_law_718 (lv_at hl 1 rfl) ?_
        refine z_icmp_eq CF (tgt := 725) (nIz (by omega)) (nIz (by omega)) dL_law_720 (by decide) (fun _ => ?_) (fun h => absurd h (by decide))
        refine lv_iload CF.1 CF.2.1 dL_law_725 (lv_at hl 1 rfl) ?_
        refine z_if_ne CF (tgt := 742) (nIz (by omega)) dL_law_727 (by decide) (fun _ => ?_) (fun h => absurd h (by decide))
        refine lv_goto (tgt := 1448) CF.1 CF.2.1 dL_law_742 (by decide) ?_
        refine W.widen (k := cells + 2) (n := slots + 11) (by omega) (by omega) ?_
        exact kk (b) _ _ _ _ _ _ ls hH2 hRc0 hRo0 hR1 hO1 hI hOi hS2 (lv_sub hl [2, 3, 4, 5, 6, 7] rfl)
      · exact (show False by omega).elim
      · exact (show False by omega).elim
    · refine lv_istore (lv' := [(6, .int (nI (2))), (0, .ref (bx)), (1, .ref (ad0 0)), (2, .ref (ad1 0)), (3, .ref (ou)), (4, .ref (od)), (5, .int (nI (6 * i)))]) CF.1 CF.2.1 dL_law_676 hl (by decide) rfl (fun ls hl => ?_)
      refine lv_aload_n CF.1 CF.2.1 dL_law_678 rfl (lv_at hl 3 rfl) ?_
      refine lv_aload_n CF.1 CF.2.1 dL_law_679 rfl (lv_at hl 1 rfl) ?_
      refine lv_iload CF.1 CF.2.1 dL_law_680 (lv_at hl 6 rfl) ?_
      refine lv_iconst (v := nI 1) CF.1 CF.2.1 dL_law_682 (by decide) ?_
      refine o_iadd CF dL_law_683 ?_
      refine x_sld CF hL hS1 (i := 6 * i + 1) (by omega) rfl dL_law_684 ?_
      refine lv_aload_n CF.1 CF.2.1 dL_law_685 rfl (lv_at hl 1 rfl) ?_
      refine lv_iload CF.1 CF.2.1 dL_law_686 (lv_at hl 6 rfl) ?_
      refine lv_iconst (v := nI 2) CF.1 CF.2.1 dL_law_688 (by decide) ?_
      refine o_iadd CF dL_law_689 ?_
      refine x_sld CF hL hS1 (i := 6 * i + 2) (by omega) rfl dL_law_690 ?_
      refine lv_aload_n CF.1 CF.2.1 dL_law_691 rfl (lv_at hl 1 rfl) ?_
      refine lv_iload CF.1 CF.2.1 dL_law_692 (lv_at hl 6 rfl) ?_
      refine lv_iconst (v := nI 3) CF.1 CF.2.1 dL_law_694 (by decide) ?_
      refine o_iadd CF dL_law_695 ?_
      refine x_sld CF hL hS1 (i := 6 * i + 3) (by omega) rfl dL_law_696 ?_
      refine lv_aload_n CF.1 CF.2.1 dL_law_697 rfl (lv_at hl 1 rfl) ?_
      refine lv_iload CF.1 CF.2.1 dL_law_698 (lv_at hl 6 rfl) ?_
      refine lv_iconst (v := nI 4) CF.1 CF.2.1 dL_law_700 (by decide) ?_
      refine o_iadd CF dL_law_701 ?_
      refine x_sld CF hL hS1 (i := 6 * i + 4) (by omega) rfl dL_law_702 ?_
      refine lv_aload_n CF.1 CF.2.1 dL_law_703 rfl (lv_at hl 1 rfl) ?_
      refine lv_iload CF.1 CF.2.1 dL_law_704 (lv_at hl 6 rfl) ?_
      refine lv_iconst (v := nI 5) CF.1 CF.2.1 dL_law_706 (by decide) ?_
      refine o_iadd CF dL_law_707 ?_
      refine x_sld CF hL hS1 (i := 6 * i + 5) (by omega) rfl dL_law_708 ?_
      refine k_Mi CF hL hS1 hH1 (As := [.int (xs (6 * i + 1)), .int (xs (6 * i + 2)), .int (xs (6 * i + 3)), .int (xs (6 * i + 4)), .int (xs (6 * i + 5))]) (rest := []) (b1_order l hj1 (b := b) hI hRc1 hRo1 hOi (xs (6 * i + 1)) (xs (6 * i + 2)) (xs (6 * i + 3)) (xs (6 * i + 4)) (xs (6 * i + 5)) hg) rfl lk_RL_X1_order rfl hl.1 ⟨Nat.le_of_ble_eq_true rfl, Nat.le_of_ble_eq_true rfl⟩ ⟨Nat.le_trans (by omega) hcs.1, Nat.le_trans (by omega) hcs.2⟩ (Nat.le_of_ble_eq_true rfl) rfl dL_law_709 (fun r2 τ2 H2 locs hp2 hH2 hS2 => ?_)
      obtain ⟨hR1, hO1, hd2⟩ := hp2
      rcases hd2 with ⟨hT, hc2⟩ | ⟨hT, hc2⟩ | ⟨hT, hc2⟩
      · exact (show False by omega).elim
      · refine lv_istore (lv' := [(7, .int (r2)), (6, .int (nI (2))), (0, .ref (bx)), (1, .ref (ad0 0)), (2, .ref (ad1 0)), (3, .ref (ou)), (4, .ref (od)), (5, .int (nI (6 * i)))]) CF.1 CF.2.1 dL_law_712 hl (by decide) rfl (fun ls hl => ?_)
        refine lv_aload_n CF.1 CF.2.1 dL_law_714 rfl (lv_at hl 4 rfl) ?_
        refine c1_i CF hK hH2.2.1 (As := []) (rest := []) (c1_thrown l) rfl lk_RL_X1_thrown rfl hl.1 ⟨Nat.le_of_ble_eq_true rfl, Nat.le_of_ble_eq_true rfl⟩ ⟨Nat.le_trans (by omega) hcs.1, Nat.le_trans (by omega) hcs.2⟩ (Nat.le_of_ble_eq_true rfl) rfl dL_law_715 (fun r3 hr3 => ?_)
        rw [hT] at hr3
        subst hr3
        refine lv_iload CF.1 CF.2.1 dL_law_718 (lv_at hl 1 rfl) ?_
        refine z_icmp_eq CF (tgt := 725) (nIz (by omega)) (nIz (by omega)) dL_law_720 (by decide) (fun _ => ?_) (fun h => absurd h (by decide))
        refine lv_iload CF.1 CF.2.1 dL_law_725 (lv_at hl 1 rfl) ?_
        refine z_if_ne CF (tgt := 742) (nIz (by omega)) dL_law_727 (by decide) (fun _ => ?_) (fun h => absurd h (by decide))
        refine lv_goto (tgt := 1448) CF.1 CF.2.1 dL_law_742 (by decide) ?_
        refine W.widen (k := cells + 2) (n := slots + 11) (by omega) (by omega) ?_
        exact kk (b) _ _ _ _ _ _ ls hH2 hRc0 hRo0 hR1 hO1 hI hOi hS2 (lv_sub hl [2, 3, 4, 5, 6, 7] rfl)
      · exact (show False by omega).elim
    · refine lv_istore (lv' := [(6, .int (nI (3))), (0, .ref (bx)), (1, .ref (ad0 0)), (2, .ref (ad1 0)), (3, .ref (ou)), (4, .ref (od)), (5, .int (nI (6 * i)))]) CF.1 CF.2.1 dL_law_676 hl (by decide) rfl (fun ls hl => ?_)
      refine lv_aload_n CF.1 CF.2.1 dL_law_678 rfl (lv_at hl 3 rfl) ?_
      refine lv_aload_n CF.1 CF.2.1 dL_law_679 rfl (lv_at hl 1 rfl) ?_
      refine lv_iload CF.1 CF.2.1 dL_law_680 (lv_at hl 6 rfl) ?_
      refine lv_iconst (v := nI 1) CF.1 CF.2.1 dL_law_682 (by decide) ?_
      refine o_iadd CF dL_law_683 ?_
      refine x_sld CF hL hS1 (i := 6 * i + 1) (by omega) rfl dL_law_684 ?_
      refine lv_aload_n CF.1 CF.2.1 dL_law_685 rfl (lv_at hl 1 rfl) ?_
      refine lv_iload CF.1 CF.2.1 dL_law_686 (lv_at hl 6 rfl) ?_
      refine lv_iconst (v := nI 2) CF.1 CF.2.1 dL_law_688 (by decide) ?_
      refine o_iadd CF dL_law_689 ?_
      refine x_sld CF hL hS1 (i := 6 * i + 2) (by omega) rfl dL_law_690 ?_
      refine lv_aload_n CF.1 CF.2.1 dL_law_691 rfl (lv_at hl 1 rfl) ?_
      refine lv_iload CF.1 CF.2.1 dL_law_692 (lv_at hl 6 rfl) ?_
      refine lv_iconst (v := nI 3) CF.1 CF.2.1 dL_law_694 (by decide) ?_
      refine o_iadd CF dL_law_695 ?_
      refine x_sld CF hL hS1 (i := 6 * i + 3) (by omega) rfl dL_law_696 ?_
      refine lv_aload_n CF.1 CF.2.1 dL_law_697 rfl (lv_at hl 1 rfl) ?_
      refine lv_iload CF.1 CF.2.1 dL_law_698 (lv_at hl 6 rfl) ?_
      refine lv_iconst (v := nI 4) CF.1 CF.2.1 dL_law_700 (by decide) ?_
      refine o_iadd CF dL_law_701 ?_
      refine x_sld CF hL hS1 (i := 6 * i + 4) (by omega) rfl dL_law_702 ?_
      refine lv_aload_n CF.1 CF.2.1 dL_law_703 rfl (lv_at hl 1 rfl) ?_
      refine lv_iload CF.1 CF.2.1 dL_law_704 (lv_at hl 6 rfl) ?_
      refine lv_iconst (v := nI 5) CF.1 CF.2.1 dL_law_706 (by decide) ?_
      refine o_iadd CF dL_law_707 ?_
      refine x_sld CF hL hS1 (i := 6 * i + 5) (by omega) rfl dL_law_708 ?_
      refine k_Mi CF hL hS1 hH1 (As := [.int (xs (6 * i + 1)), .int (xs (6 * i + 2)), .int (xs (6 * i + 3)), .int (xs (6 * i + 4)), .int (xs (6 * i + 5))]) (rest := []) (b1_order l hj1 (b := b) hI hRc1 hRo1 hOi (xs (6 * i + 1)) (xs (6 * i + 2)) (xs (6 * i + 3)) (xs (6 * i + 4)) (xs (6 * i + 5)) hg) rfl lk_RL_X1_order rfl hl.1 ⟨Nat.le_of_ble_eq_true rfl, Nat.le_of_ble_eq_true rfl⟩ ⟨Nat.le_trans (by omega) hcs.1, Nat.le_trans (by omega) hcs.2⟩ (Nat.le_of_ble_eq_true rfl) rfl dL_law_709 (fun r2 τ2 H2 locs hp2 hH2 hS2 => ?_)
      obtain ⟨hR1, hO1, hd2⟩ := hp2
      rcases hd2 with ⟨hT, hc2⟩ | ⟨hT, hc2⟩ | ⟨hT, hc2⟩
      · exact (show False by omega).elim
      · exact (show False by omega).elim
      · refine lv_istore (lv' := [(7, .int (r2)), (6, .int (nI (3))), (0, .ref (bx)), (1, .ref (ad0 0)), (2, .ref (ad1 0)), (3, .ref (ou)), (4, .ref (od)), (5, .int (nI (6 * i)))]) CF.1 CF.2.1 dL_law_712 hl (by decide) rfl (fun ls hl => ?_)
        refine lv_aload_n CF.1 CF.2.1 dL_law_714 rfl (lv_at hl 4 rfl) ?_
        refine c1_i CF hK hH2.2.1 (As := []) (rest := []) (c1_thrown l) rfl lk_RL_X1_thrown rfl hl.1 ⟨Nat.le_of_ble_eq_true rfl, Nat.le_of_ble_eq_true rfl⟩ ⟨Nat.le_trans (by omega) hcs.1, Nat.le_trans (by omega) hcs.2⟩ (Nat.le_of_ble_eq_true rfl) rfl dL_law_715 (fun r3 hr3 => ?_)
        rw [hT] at hr3
        subst hr3
        refine lv_iload CF.1 CF.2.1 dL_law_718 (lv_at hl 1 rfl) ?_
        refine z_icmp_eq CF (tgt := 725) (nIz (by omega)) (nIz (by omega)) dL_law_720 (by decide) (fun _ => ?_) (fun h => absurd h (by decide))
        refine lv_iload CF.1 CF.2.1 dL_law_725 (lv_at hl 1 rfl) ?_
        refine z_if_ne CF (tgt := 742) (nIz (by omega)) dL_law_727 (by decide) (fun _ => ?_) (fun h => absurd h (by decide))
        refine lv_goto (tgt := 1448) CF.1 CF.2.1 dL_law_742 (by decide) ?_
        refine W.widen (k := cells + 2) (n := slots + 11) (by omega) (by omega) ?_
        exact kk (b) _ _ _ _ _ _ ls hH2 hRc0 hRo0 hR1 hO1 hI hOi hS2 (lv_sub hl [2, 3, 4, 5, 6, 7] rfl)
set_option maxHeartbeats 1000000 in
set_option maxRecDepth 100000 in
theorem op_cancel {p : Program} {l : Launch} {e : Env} {s : State} {m : MethodId} {args : Array Value} {below : List Frame} {meth : Method} {c : Code} {H : Heap} {locs : List Loc} {cells slots : Nat} {Q : State → Prop} {ls : Array Slot} {G : va_G} {cA cL cD : ClassId} {ad0 ad1 : Nat → Nat} {σ τ : RS} {fo : Nat → Int64} {fd : Nat → UInt64} {ou od bx L : Nat} {xs : Nat → Int32} {b : BS} (CF : CallFix p m c cL_law 9 s args AW RL) (hL : LX l G cA cL cD ad0 ad1 ou od bx L xs s) (hS : va_S (AL s) s.heap H locs) (hH : LH G cA cL cD ad0 ad1 ou od σ τ fo fd H) (hRc0 : Rc σ b) (hRo0 : Ro σ b) (hRc1 : Rc τ b) (hRo1 : Ro τ b) (hI : InvC b) (hOi : InvO b) {i : Nat} (hi : 6 * i + 6 ≤ L) (hl : lv_has ls 9 [(0, .ref (bx)), (1, .ref (ad0 0)), (2, .ref (ad1 0)), (3, .ref (ou)), (4, .ref (od)), (5, .int (nI (6 * i)))]) (hcs : cells + 2 ≤ 656478 ∧ slots + 11 ≤ 7126671) (kk : ∀ (b' : BS) (σ' τ' : RS) (fo' : Nat → Int64) (fd' : Nat → UInt64) (H' : Heap) (locs' : List Loc) (ls' : Array Slot), LH G cA cL cD ad0 ad1 ou od σ' τ' fo' fd' H' → Rc σ' b' → Ro σ' b' → Rc τ' b' → Ro τ' b' → InvC b' → InvO b' → va_S (AL s) s.heap H' locs' → lv_has ls' 9 [(0, .ref (bx)), (1, .ref (ad0 0)), (2, .ref (ad1 0)), (3, .ref (ou)), (4, .ref (od)), (5, .int (nI (6 * i)))] → W p l e room_1 s m args below meth c H' locs' (cells + 2) (slots + 11) Q (F0 m 1448 ls' [])) : W p l e room_1 s m args below meth c H locs cells slots Q (F0 m 745 ls []) := by
  obtain ⟨hX, hbl, hK, hKL, hKD, hE, hj0, hj1, ha0, ha1, hou, hod, d01, d0o, d1o, d0d, d1d, dod, hfl, hL3⟩ := id hL
  have i_cu := hI.2.1
  have hw10 := hOi.1
  by_cases hg : 0 ≤ (xs (6 * i + 1)).toInt ∧ (xs (6 * i + 1)).toInt < (b 0 3 : Nat)
  · obtain ⟨q, h_q, e_q⟩ := nI_ex (x := xs (6 * i + 1)) (n := b 0 3) (by omega) (by omega)
    rw [e_q] at hg
    have z_q := nIz (n := q) (by omega)
    refine lv_aload_n CF.1 CF.2.1 dL_law_745 rfl (lv_at hl 1 rfl) ?_
    refine lv_aload_n CF.1 CF.2.1 dL_law_746 rfl (lv_at hl 0 rfl) ?_
    refine lv_iload CF.1 CF.2.1 dL_law_747 (lv_at hl 5 rfl) ?_
    refine lv_iconst (v := nI 1) CF.1 CF.2.1 dL_law_749 (by decide) ?_
    refine o_iadd CF dL_law_750 ?_
    refine x_sld CF hL hS (i := 6 * i + 1) (by omega) e_q dL_law_751 ?_
    refine lv_aload_n CF.1 CF.2.1 dL_law_752 rfl (lv_at hl 3 rfl) ?_
    refine k_W CF hL hS hH (As := [.ref (ad0 0), .int (nI (q)), .ref (ou)]) (rest := []) (wk_cancel l hj0 (b := b) hI hRc0 hRo0 hOi (q := q) (by omega) d0o) lk_RL_L_cancel rfl hl.1 ⟨Nat.le_of_ble_eq_true rfl, Nat.le_of_ble_eq_true rfl⟩ ⟨Nat.le_trans (by omega) hcs.1, Nat.le_trans (by omega) hcs.2⟩ (Nat.le_of_ble_eq_true rfl) rfl dL_law_753 (fun r1 uw H1 locs hp1 hH1 hS1 => ?_)
    obtain ⟨rfl, hv1, hR0, hO0⟩ := hp1
    refine lv_istore (lv' := [(6, .int (nI (0))), (0, .ref (bx)), (1, .ref (ad0 0)), (2, .ref (ad1 0)), (3, .ref (ou)), (4, .ref (od)), (5, .int (nI (6 * i)))]) CF.1 CF.2.1 dL_law_756 hl (by decide) rfl (fun ls hl => ?_)
    refine lv_aload_n CF.1 CF.2.1 dL_law_758 rfl (lv_at hl 3 rfl) ?_
    refine lv_aload_n CF.1 CF.2.1 dL_law_759 rfl (lv_at hl 1 rfl) ?_
    refine lv_iload CF.1 CF.2.1 dL_law_760 (lv_at hl 6 rfl) ?_
    refine lv_iconst (v := nI 1) CF.1 CF.2.1 dL_law_762 (by decide) ?_
    refine o_iadd CF dL_law_763 ?_
    refine x_sld CF hL hS1 (i := 6 * i + 1) (by omega) e_q dL_law_764 ?_
    refine k_Mi CF hL hS1 hH1 (As := [.int (nI (q))]) (rest := []) (c1_cancel l hj1 (b := b) hI hRc1 hRo1 hOi (q := q) (by omega)) rfl lk_RL_X1_cancel rfl hl.1 ⟨Nat.le_of_ble_eq_true rfl, Nat.le_of_ble_eq_true rfl⟩ ⟨Nat.le_trans (by omega) hcs.1, Nat.le_trans (by omega) hcs.2⟩ (Nat.le_of_ble_eq_true rfl) rfl dL_law_765 (fun r2 τ2 H2 locs hp2 hH2 hS2 => ?_)
    obtain ⟨rfl, hR1, hO1, hT⟩ := hp2
    refine lv_istore (lv' := [(7, .int (nI (b 7 (q * 5)))), (6, .int (nI (0))), (0, .ref (bx)), (1, .ref (ad0 0)), (2, .ref (ad1 0)), (3, .ref (ou)), (4, .ref (od)), (5, .int (nI (6 * i)))]) CF.1 CF.2.1 dL_law_768 hl (by decide) rfl (fun ls hl => ?_)
    refine lv_aload_n CF.1 CF.2.1 dL_law_770 rfl (lv_at hl 4 rfl) ?_
    refine c1_i CF hK hH2.2.1 (As := []) (rest := []) (c1_thrown l) rfl lk_RL_X1_thrown rfl hl.1 ⟨Nat.le_of_ble_eq_true rfl, Nat.le_of_ble_eq_true rfl⟩ ⟨Nat.le_trans (by omega) hcs.1, Nat.le_trans (by omega) hcs.2⟩ (Nat.le_of_ble_eq_true rfl) rfl dL_law_771 (fun r3 hr3 => ?_)
    rw [hT] at hr3
    subst hr3
    refine lv_iload CF.1 CF.2.1 dL_law_774 (lv_at hl 1 rfl) ?_
    refine z_icmp_eq CF (tgt := 781) (nIz (by omega)) (nIz (by omega)) dL_law_776 (by decide) (fun _ => ?_) (fun h => absurd h (by decide))
    refine lv_iload CF.1 CF.2.1 dL_law_781 (lv_at hl 1 rfl) ?_
    refine z_if_ne CF (tgt := 798) (nIz (by omega)) dL_law_783 (by decide) (fun h => absurd h (by decide)) (fun _ => ?_)
    refine lv_aload_n CF.1 CF.2.1 dL_law_786 rfl (lv_at hl 5 rfl) ?_
    refine lv_iconst (v := nI 0) CF.1 CF.2.1 dL_law_787 (by decide) ?_
    refine x_lald CF hL hS2 hH2 hv1 dL_law_788 ?_
    refine lv_iload CF.1 CF.2.1 dL_law_789 (lv_at hl 0 rfl) ?_
    refine lv_i2l CF.1 CF.2.1 dL_law_791 rfl ?_
    refine z_lcmp_eq CF (tgt := 798) rfl rfl dL_law_792 dL_law_793 (by decide) (fun h_5 => ?_) (fun h_6 => absurd h_6 (by omega))
    refine lv_goto (tgt := 1448) CF.1 CF.2.1 dL_law_798 (by decide) ?_
    refine W.widen (k := cells + 2) (n := slots + 11) (by omega) (by omega) ?_
    exact kk (takeN b q) _ _ _ _ _ _ ls hH2 hR0 hO0 hR1 hO1 (iv_cancel hI hOi (q := q) (by omega)).1 (iv_cancel hI hOi (q := q) (by omega)).2 hS2 (lv_sub hl [2, 3, 4, 5, 6, 7] rfl)
  · refine lv_aload_n CF.1 CF.2.1 dL_law_745 rfl (lv_at hl 1 rfl) ?_
    refine lv_aload_n CF.1 CF.2.1 dL_law_746 rfl (lv_at hl 0 rfl) ?_
    refine lv_iload CF.1 CF.2.1 dL_law_747 (lv_at hl 5 rfl) ?_
    refine lv_iconst (v := nI 1) CF.1 CF.2.1 dL_law_749 (by decide) ?_
    refine o_iadd CF dL_law_750 ?_
    refine x_sld CF hL hS (i := 6 * i + 1) (by omega) rfl dL_law_751 ?_
    refine lv_aload_n CF.1 CF.2.1 dL_law_752 rfl (lv_at hl 3 rfl) ?_
    refine k_W CF hL hS hH (As := [.ref (ad0 0), .int (xs (6 * i + 1)), .ref (ou)]) (rest := []) (wb_cancel l hfl hj0 (b := b) hI hRc0 hRo0 hOi (xs (6 * i + 1)) hg d0o) lk_RL_L_cancel rfl hl.1 ⟨Nat.le_of_ble_eq_true rfl, Nat.le_of_ble_eq_true rfl⟩ ⟨Nat.le_trans (by omega) hcs.1, Nat.le_trans (by omega) hcs.2⟩ (Nat.le_of_ble_eq_true rfl) rfl dL_law_753 (fun r1 uw H1 locs hp1 hH1 hS1 => ?_)
    obtain ⟨hd1, rfl⟩ := hp1
    have hH1 : LH G cA cL cD ad0 ad1 ou od σ τ fo fd H1 := hH1
    obtain ⟨rfl, hc1⟩ := hd1
    refine lv_istore (lv' := [(6, .int (nI (1))), (0, .ref (bx)), (1, .ref (ad0 0)), (2, .ref (ad1 0)), (3, .ref (ou)), (4, .ref (od)), (5, .int (nI (6 * i)))]) CF.1 CF.2.1 dL_law_756 hl (by decide) rfl (fun ls hl => ?_)
    refine lv_aload_n CF.1 CF.2.1 dL_law_758 rfl (lv_at hl 3 rfl) ?_
    refine lv_aload_n CF.1 CF.2.1 dL_law_759 rfl (lv_at hl 1 rfl) ?_
    refine lv_iload CF.1 CF.2.1 dL_law_760 (lv_at hl 6 rfl) ?_
    refine lv_iconst (v := nI 1) CF.1 CF.2.1 dL_law_762 (by decide) ?_
    refine o_iadd CF dL_law_763 ?_
    refine x_sld CF hL hS1 (i := 6 * i + 1) (by omega) rfl dL_law_764 ?_
    refine k_Mi CF hL hS1 hH1 (As := [.int (xs (6 * i + 1))]) (rest := []) (b1_cancel l hj1 (b := b) hI hRc1 hRo1 hOi (xs (6 * i + 1)) hg) rfl lk_RL_X1_cancel rfl hl.1 ⟨Nat.le_of_ble_eq_true rfl, Nat.le_of_ble_eq_true rfl⟩ ⟨Nat.le_trans (by omega) hcs.1, Nat.le_trans (by omega) hcs.2⟩ (Nat.le_of_ble_eq_true rfl) rfl dL_law_765 (fun r2 τ2 H2 locs hp2 hH2 hS2 => ?_)
    obtain ⟨hR1, hO1, hd2⟩ := hp2
    have hT := hd2.1
    refine lv_istore (lv' := [(7, .int (r2)), (6, .int (nI (1))), (0, .ref (bx)), (1, .ref (ad0 0)), (2, .ref (ad1 0)), (3, .ref (ou)), (4, .ref (od)), (5, .int (nI (6 * i)))]) CF.1 CF.2.1 dL_law_768 hl (by decide) rfl (fun ls hl => ?_)
    refine lv_aload_n CF.1 CF.2.1 dL_law_770 rfl (lv_at hl 4 rfl) ?_
    refine c1_i CF hK hH2.2.1 (As := []) (rest := []) (c1_thrown l) rfl lk_RL_X1_thrown rfl hl.1 ⟨Nat.le_of_ble_eq_true rfl, Nat.le_of_ble_eq_true rfl⟩ ⟨Nat.le_trans (by omega) hcs.1, Nat.le_trans (by omega) hcs.2⟩ (Nat.le_of_ble_eq_true rfl) rfl dL_law_771 (fun r3 hr3 => ?_)
    rw [hT] at hr3
    subst hr3
    refine lv_iload CF.1 CF.2.1 dL_law_774 (lv_at hl 1 rfl) ?_
    refine z_icmp_eq CF (tgt := 781) (nIz (by omega)) (nIz (by omega)) dL_law_776 (by decide) (fun _ => ?_) (fun h => absurd h (by decide))
    refine lv_iload CF.1 CF.2.1 dL_law_781 (lv_at hl 1 rfl) ?_
    refine z_if_ne CF (tgt := 798) (nIz (by omega)) dL_law_783 (by decide) (fun _ => ?_) (fun h => absurd h (by decide))
    refine lv_goto (tgt := 1448) CF.1 CF.2.1 dL_law_798 (by decide) ?_
    refine W.widen (k := cells + 2) (n := slots + 11) (by omega) (by omega) ?_
    exact kk (b) _ _ _ _ _ _ ls hH2 hRc0 hRo0 hR1 hO1 hI hOi hS2 (lv_sub hl [2, 3, 4, 5, 6, 7] rfl)
set_option maxHeartbeats 1000000 in
set_option maxRecDepth 100000 in
theorem op_has {p : Program} {l : Launch} {e : Env} {s : State} {m : MethodId} {args : Array Value} {below : List Frame} {meth : Method} {c : Code} {H : Heap} {locs : List Loc} {cells slots : Nat} {Q : State → Prop} {ls : Array Slot} {G : va_G} {cA cL cD : ClassId} {ad0 ad1 : Nat → Nat} {σ τ : RS} {fo : Nat → Int64} {fd : Nat → UInt64} {ou od bx L : Nat} {xs : Nat → Int32} {b : BS} (CF : CallFix p m c cL_law 9 s args AW RL) (hL : LX l G cA cL cD ad0 ad1 ou od bx L xs s) (hS : va_S (AL s) s.heap H locs) (hH : LH G cA cL cD ad0 ad1 ou od σ τ fo fd H) (hRc0 : Rc σ b) (hRo0 : Ro σ b) (hRc1 : Rc τ b) (hRo1 : Ro τ b) (hI : InvC b) (hOi : InvO b) {i : Nat} (hi : 6 * i + 6 ≤ L) (hl : lv_has ls 9 [(0, .ref (bx)), (1, .ref (ad0 0)), (2, .ref (ad1 0)), (3, .ref (ou)), (4, .ref (od)), (5, .int (nI (6 * i)))]) (hcs : cells + 2 ≤ 656478 ∧ slots + 11 ≤ 7126671) (kk : ∀ (b' : BS) (σ' τ' : RS) (fo' : Nat → Int64) (fd' : Nat → UInt64) (H' : Heap) (locs' : List Loc) (ls' : Array Slot), LH G cA cL cD ad0 ad1 ou od σ' τ' fo' fd' H' → Rc σ' b' → Ro σ' b' → Rc τ' b' → Ro τ' b' → InvC b' → InvO b' → va_S (AL s) s.heap H' locs' → lv_has ls' 9 [(0, .ref (bx)), (1, .ref (ad0 0)), (2, .ref (ad1 0)), (3, .ref (ou)), (4, .ref (od)), (5, .int (nI (6 * i)))] → W p l e room_1 s m args below meth c H' locs' (cells + 2) (slots + 11) Q (F0 m 1448 ls' [])) : W p l e room_1 s m args below meth c H locs cells slots Q (F0 m 801 ls []) := by
  obtain ⟨hX, hbl, hK, hKL, hKD, hE, hj0, hj1, ha0, ha1, hou, hod, d01, d0o, d1o, d0d, d1d, dod, hfl, hL3⟩ := id hL
  have i_cu := hI.2.1
  have hw10 := hOi.1
  by_cases hg : 0 ≤ (xs (6 * i + 1)).toInt ∧ (xs (6 * i + 1)).toInt < (b 0 2 : Nat) ∧ 0 ≤ (xs (6 * i + 2)).toInt ∧ (xs (6 * i + 2)).toInt < 5
  · obtain ⟨u, h_u, e_u⟩ := nI_ex (x := xs (6 * i + 1)) (n := b 0 2) (by omega) (by omega)
    obtain ⟨t, h_t, e_t⟩ := nI_ex (x := xs (6 * i + 2)) (n := 5) (by omega) (by omega)
    rw [e_u, e_t] at hg
    have z_u := nIz (n := u) (by omega)
    have z_t := nIz (n := t) (by omega)
    refine lv_aload_n CF.1 CF.2.1 dL_law_801 rfl (lv_at hl 1 rfl) ?_
    refine lv_aload_n CF.1 CF.2.1 dL_law_802 rfl (lv_at hl 0 rfl) ?_
    refine lv_iload CF.1 CF.2.1 dL_law_803 (lv_at hl 5 rfl) ?_
    refine lv_iconst (v := nI 1) CF.1 CF.2.1 dL_law_805 (by decide) ?_
    refine o_iadd CF dL_law_806 ?_
    refine x_sld CF hL hS (i := 6 * i + 1) (by omega) e_u dL_law_807 ?_
    refine lv_aload_n CF.1 CF.2.1 dL_law_808 rfl (lv_at hl 0 rfl) ?_
    refine lv_iload CF.1 CF.2.1 dL_law_809 (lv_at hl 5 rfl) ?_
    refine lv_iconst (v := nI 2) CF.1 CF.2.1 dL_law_811 (by decide) ?_
    refine o_iadd CF dL_law_812 ?_
    refine x_sld CF hL hS (i := 6 * i + 2) (by omega) e_t dL_law_813 ?_
    refine lv_aload_n CF.1 CF.2.1 dL_law_814 rfl (lv_at hl 3 rfl) ?_
    refine k_W CF hL hS hH (As := [.ref (ad0 0), .int (nI (u)), .int (nI (t)), .ref (ou)]) (rest := []) (wk_has l hj0 (b := b) hI hRc0 hRo0 hOi (u := u) (t := t) (by omega) (by omega) d0o) lk_RL_L_has rfl hl.1 ⟨Nat.le_of_ble_eq_true rfl, Nat.le_of_ble_eq_true rfl⟩ ⟨Nat.le_trans (by omega) hcs.1, Nat.le_trans (by omega) hcs.2⟩ (Nat.le_of_ble_eq_true rfl) rfl dL_law_815 (fun r1 uw H1 locs hp1 hH1 hS1 => ?_)
    obtain ⟨rfl, hv1, hR0, hO0⟩ := hp1
    refine lv_istore (lv' := [(6, .int (nI (0))), (0, .ref (bx)), (1, .ref (ad0 0)), (2, .ref (ad1 0)), (3, .ref (ou)), (4, .ref (od)), (5, .int (nI (6 * i)))]) CF.1 CF.2.1 dL_law_818 hl (by decide) rfl (fun ls hl => ?_)
    refine lv_aload_n CF.1 CF.2.1 dL_law_820 rfl (lv_at hl 3 rfl) ?_
    refine lv_aload_n CF.1 CF.2.1 dL_law_821 rfl (lv_at hl 1 rfl) ?_
    refine lv_iload CF.1 CF.2.1 dL_law_822 (lv_at hl 6 rfl) ?_
    refine lv_iconst (v := nI 1) CF.1 CF.2.1 dL_law_824 (by decide) ?_
    refine o_iadd CF dL_law_825 ?_
    refine x_sld CF hL hS1 (i := 6 * i + 1) (by omega) e_u dL_law_826 ?_
    refine lv_aload_n CF.1 CF.2.1 dL_law_827 rfl (lv_at hl 1 rfl) ?_
    refine lv_iload CF.1 CF.2.1 dL_law_828 (lv_at hl 6 rfl) ?_
    refine lv_iconst (v := nI 2) CF.1 CF.2.1 dL_law_830 (by decide) ?_
    refine o_iadd CF dL_law_831 ?_
    refine x_sld CF hL hS1 (i := 6 * i + 2) (by omega) e_t dL_law_832 ?_
    refine k_Mi CF hL hS1 hH1 (As := [.int (nI (u)), .int (nI (t))]) (rest := []) (c1_has l hj1 (b := b) hI hRc1 hRo1 hOi (u := u) (t := t) (by omega) (by omega)) rfl lk_RL_X1_has rfl hl.1 ⟨Nat.le_of_ble_eq_true rfl, Nat.le_of_ble_eq_true rfl⟩ ⟨Nat.le_trans (by omega) hcs.1, Nat.le_trans (by omega) hcs.2⟩ (Nat.le_of_ble_eq_true rfl) rfl dL_law_833 (fun r2 τ2 H2 locs hp2 hH2 hS2 => ?_)
    obtain ⟨rfl, hR1, hO1, hT⟩ := hp2
    refine lv_istore (lv' := [(7, .int (nI (b 6 (u * 5 + t)))), (6, .int (nI (0))), (0, .ref (bx)), (1, .ref (ad0 0)), (2, .ref (ad1 0)), (3, .ref (ou)), (4, .ref (od)), (5, .int (nI (6 * i)))]) CF.1 CF.2.1 dL_law_836 hl (by decide) rfl (fun ls hl => ?_)
    refine lv_aload_n CF.1 CF.2.1 dL_law_838 rfl (lv_at hl 4 rfl) ?_
    refine c1_i CF hK hH2.2.1 (As := []) (rest := []) (c1_thrown l) rfl lk_RL_X1_thrown rfl hl.1 ⟨Nat.le_of_ble_eq_true rfl, Nat.le_of_ble_eq_true rfl⟩ ⟨Nat.le_trans (by omega) hcs.1, Nat.le_trans (by omega) hcs.2⟩ (Nat.le_of_ble_eq_true rfl) rfl dL_law_839 (fun r3 hr3 => ?_)
    rw [hT] at hr3
    subst hr3
    refine lv_iload CF.1 CF.2.1 dL_law_842 (lv_at hl 1 rfl) ?_
    refine z_icmp_eq CF (tgt := 849) (nIz (by omega)) (nIz (by omega)) dL_law_844 (by decide) (fun _ => ?_) (fun h => absurd h (by decide))
    refine lv_iload CF.1 CF.2.1 dL_law_849 (lv_at hl 1 rfl) ?_
    refine z_if_ne CF (tgt := 866) (nIz (by omega)) dL_law_851 (by decide) (fun h => absurd h (by decide)) (fun _ => ?_)
    refine lv_aload_n CF.1 CF.2.1 dL_law_854 rfl (lv_at hl 5 rfl) ?_
    refine lv_iconst (v := nI 0) CF.1 CF.2.1 dL_law_855 (by decide) ?_
    refine x_lald CF hL hS2 hH2 hv1 dL_law_856 ?_
    refine lv_iload CF.1 CF.2.1 dL_law_857 (lv_at hl 0 rfl) ?_
    refine lv_i2l CF.1 CF.2.1 dL_law_859 rfl ?_
    refine z_lcmp_eq CF (tgt := 866) rfl rfl dL_law_860 dL_law_861 (by decide) (fun h_5 => ?_) (fun h_6 => absurd h_6 (by omega))
    refine lv_goto (tgt := 1448) CF.1 CF.2.1 dL_law_866 (by decide) ?_
    refine W.widen (k := cells + 2) (n := slots + 11) (by omega) (by omega) ?_
    exact kk (b) _ _ _ _ _ _ ls hH2 hR0 hO0 hR1 hO1 hI hOi hS2 (lv_sub hl [2, 3, 4, 5, 6, 7] rfl)
  · refine lv_aload_n CF.1 CF.2.1 dL_law_801 rfl (lv_at hl 1 rfl) ?_
    refine lv_aload_n CF.1 CF.2.1 dL_law_802 rfl (lv_at hl 0 rfl) ?_
    refine lv_iload CF.1 CF.2.1 dL_law_803 (lv_at hl 5 rfl) ?_
    refine lv_iconst (v := nI 1) CF.1 CF.2.1 dL_law_805 (by decide) ?_
    refine o_iadd CF dL_law_806 ?_
    refine x_sld CF hL hS (i := 6 * i + 1) (by omega) rfl dL_law_807 ?_
    refine lv_aload_n CF.1 CF.2.1 dL_law_808 rfl (lv_at hl 0 rfl) ?_
    refine lv_iload CF.1 CF.2.1 dL_law_809 (lv_at hl 5 rfl) ?_
    refine lv_iconst (v := nI 2) CF.1 CF.2.1 dL_law_811 (by decide) ?_
    refine o_iadd CF dL_law_812 ?_
    refine x_sld CF hL hS (i := 6 * i + 2) (by omega) rfl dL_law_813 ?_
    refine lv_aload_n CF.1 CF.2.1 dL_law_814 rfl (lv_at hl 3 rfl) ?_
    refine k_W CF hL hS hH (As := [.ref (ad0 0), .int (xs (6 * i + 1)), .int (xs (6 * i + 2)), .ref (ou)]) (rest := []) (wb_has l hfl hj0 (b := b) hI hRc0 hRo0 hOi (xs (6 * i + 1)) (xs (6 * i + 2)) hg d0o) lk_RL_L_has rfl hl.1 ⟨Nat.le_of_ble_eq_true rfl, Nat.le_of_ble_eq_true rfl⟩ ⟨Nat.le_trans (by omega) hcs.1, Nat.le_trans (by omega) hcs.2⟩ (Nat.le_of_ble_eq_true rfl) rfl dL_law_815 (fun r1 uw H1 locs hp1 hH1 hS1 => ?_)
    obtain ⟨hd1, rfl⟩ := hp1
    have hH1 : LH G cA cL cD ad0 ad1 ou od σ τ fo fd H1 := hH1
    obtain ⟨rfl, hc1⟩ := hd1
    refine lv_istore (lv' := [(6, .int (nI (1))), (0, .ref (bx)), (1, .ref (ad0 0)), (2, .ref (ad1 0)), (3, .ref (ou)), (4, .ref (od)), (5, .int (nI (6 * i)))]) CF.1 CF.2.1 dL_law_818 hl (by decide) rfl (fun ls hl => ?_)
    refine lv_aload_n CF.1 CF.2.1 dL_law_820 rfl (lv_at hl 3 rfl) ?_
    refine lv_aload_n CF.1 CF.2.1 dL_law_821 rfl (lv_at hl 1 rfl) ?_
    refine lv_iload CF.1 CF.2.1 dL_law_822 (lv_at hl 6 rfl) ?_
    refine lv_iconst (v := nI 1) CF.1 CF.2.1 dL_law_824 (by decide) ?_
    refine o_iadd CF dL_law_825 ?_
    refine x_sld CF hL hS1 (i := 6 * i + 1) (by omega) rfl dL_law_826 ?_
    refine lv_aload_n CF.1 CF.2.1 dL_law_827 rfl (lv_at hl 1 rfl) ?_
    refine lv_iload CF.1 CF.2.1 dL_law_828 (lv_at hl 6 rfl) ?_
    refine lv_iconst (v := nI 2) CF.1 CF.2.1 dL_law_830 (by decide) ?_
    refine o_iadd CF dL_law_831 ?_
    refine x_sld CF hL hS1 (i := 6 * i + 2) (by omega) rfl dL_law_832 ?_
    refine k_Mi CF hL hS1 hH1 (As := [.int (xs (6 * i + 1)), .int (xs (6 * i + 2))]) (rest := []) (b1_has l hj1 (b := b) hI hRc1 hRo1 hOi (xs (6 * i + 1)) (xs (6 * i + 2)) hg) rfl lk_RL_X1_has rfl hl.1 ⟨Nat.le_of_ble_eq_true rfl, Nat.le_of_ble_eq_true rfl⟩ ⟨Nat.le_trans (by omega) hcs.1, Nat.le_trans (by omega) hcs.2⟩ (Nat.le_of_ble_eq_true rfl) rfl dL_law_833 (fun r2 τ2 H2 locs hp2 hH2 hS2 => ?_)
    obtain ⟨hR1, hO1, hd2⟩ := hp2
    have hT := hd2.1
    refine lv_istore (lv' := [(7, .int (r2)), (6, .int (nI (1))), (0, .ref (bx)), (1, .ref (ad0 0)), (2, .ref (ad1 0)), (3, .ref (ou)), (4, .ref (od)), (5, .int (nI (6 * i)))]) CF.1 CF.2.1 dL_law_836 hl (by decide) rfl (fun ls hl => ?_)
    refine lv_aload_n CF.1 CF.2.1 dL_law_838 rfl (lv_at hl 4 rfl) ?_
    refine c1_i CF hK hH2.2.1 (As := []) (rest := []) (c1_thrown l) rfl lk_RL_X1_thrown rfl hl.1 ⟨Nat.le_of_ble_eq_true rfl, Nat.le_of_ble_eq_true rfl⟩ ⟨Nat.le_trans (by omega) hcs.1, Nat.le_trans (by omega) hcs.2⟩ (Nat.le_of_ble_eq_true rfl) rfl dL_law_839 (fun r3 hr3 => ?_)
    rw [hT] at hr3
    subst hr3
    refine lv_iload CF.1 CF.2.1 dL_law_842 (lv_at hl 1 rfl) ?_
    refine z_icmp_eq CF (tgt := 849) (nIz (by omega)) (nIz (by omega)) dL_law_844 (by decide) (fun _ => ?_) (fun h => absurd h (by decide))
    refine lv_iload CF.1 CF.2.1 dL_law_849 (lv_at hl 1 rfl) ?_
    refine z_if_ne CF (tgt := 866) (nIz (by omega)) dL_law_851 (by decide) (fun _ => ?_) (fun h => absurd h (by decide))
    refine lv_goto (tgt := 1448) CF.1 CF.2.1 dL_law_866 (by decide) ?_
    refine W.widen (k := cells + 2) (n := slots + 11) (by omega) (by omega) ?_
    exact kk (b) _ _ _ _ _ _ ls hH2 hRc0 hRo0 hR1 hO1 hI hOi hS2 (lv_sub hl [2, 3, 4, 5, 6, 7] rfl)
set_option maxHeartbeats 1000000 in
set_option maxRecDepth 100000 in
theorem op_told {p : Program} {l : Launch} {e : Env} {s : State} {m : MethodId} {args : Array Value} {below : List Frame} {meth : Method} {c : Code} {H : Heap} {locs : List Loc} {cells slots : Nat} {Q : State → Prop} {ls : Array Slot} {G : va_G} {cA cL cD : ClassId} {ad0 ad1 : Nat → Nat} {σ τ : RS} {fo : Nat → Int64} {fd : Nat → UInt64} {ou od bx L : Nat} {xs : Nat → Int32} {b : BS} (CF : CallFix p m c cL_law 9 s args AW RL) (hL : LX l G cA cL cD ad0 ad1 ou od bx L xs s) (hS : va_S (AL s) s.heap H locs) (hH : LH G cA cL cD ad0 ad1 ou od σ τ fo fd H) (hRc0 : Rc σ b) (hRo0 : Ro σ b) (hRc1 : Rc τ b) (hRo1 : Ro τ b) (hI : InvC b) (hOi : InvO b) {i : Nat} (hi : 6 * i + 6 ≤ L) (hl : lv_has ls 9 [(0, .ref (bx)), (1, .ref (ad0 0)), (2, .ref (ad1 0)), (3, .ref (ou)), (4, .ref (od)), (5, .int (nI (6 * i)))]) (hcs : cells + 2 ≤ 656478 ∧ slots + 11 ≤ 7126671) (kk : ∀ (b' : BS) (σ' τ' : RS) (fo' : Nat → Int64) (fd' : Nat → UInt64) (H' : Heap) (locs' : List Loc) (ls' : Array Slot), LH G cA cL cD ad0 ad1 ou od σ' τ' fo' fd' H' → Rc σ' b' → Ro σ' b' → Rc τ' b' → Ro τ' b' → InvC b' → InvO b' → va_S (AL s) s.heap H' locs' → lv_has ls' 9 [(0, .ref (bx)), (1, .ref (ad0 0)), (2, .ref (ad1 0)), (3, .ref (ou)), (4, .ref (od)), (5, .int (nI (6 * i)))] → W p l e room_1 s m args below meth c H' locs' (cells + 2) (slots + 11) Q (F0 m 1448 ls' [])) : W p l e room_1 s m args below meth c H locs cells slots Q (F0 m 869 ls []) := by
  obtain ⟨hX, hbl, hK, hKL, hKD, hE, hj0, hj1, ha0, ha1, hou, hod, d01, d0o, d1o, d0d, d1d, dod, hfl, hL3⟩ := id hL
  have i_cu := hI.2.1
  have hw10 := hOi.1
  by_cases hg : 0 ≤ (xs (6 * i + 1)).toInt ∧ (xs (6 * i + 1)).toInt < 5 ∧ 0 ≤ (xs (6 * i + 2)).toInt ∧ (xs (6 * i + 2)).toInt < 5
  · obtain ⟨t, h_t, e_t⟩ := nI_ex (x := xs (6 * i + 1)) (n := 5) (by omega) (by omega)
    obtain ⟨w, h_w, e_w⟩ := nI_ex (x := xs (6 * i + 2)) (n := 5) (by omega) (by omega)
    rw [e_t, e_w] at hg
    have z_t := nIz (n := t) (by omega)
    have z_w := nIz (n := w) (by omega)
    refine lv_aload_n CF.1 CF.2.1 dL_law_869 rfl (lv_at hl 1 rfl) ?_
    refine lv_aload_n CF.1 CF.2.1 dL_law_870 rfl (lv_at hl 0 rfl) ?_
    refine lv_iload CF.1 CF.2.1 dL_law_871 (lv_at hl 5 rfl) ?_
    refine lv_iconst (v := nI 1) CF.1 CF.2.1 dL_law_873 (by decide) ?_
    refine o_iadd CF dL_law_874 ?_
    refine x_sld CF hL hS (i := 6 * i + 1) (by omega) e_t dL_law_875 ?_
    refine lv_aload_n CF.1 CF.2.1 dL_law_876 rfl (lv_at hl 0 rfl) ?_
    refine lv_iload CF.1 CF.2.1 dL_law_877 (lv_at hl 5 rfl) ?_
    refine lv_iconst (v := nI 2) CF.1 CF.2.1 dL_law_879 (by decide) ?_
    refine o_iadd CF dL_law_880 ?_
    refine x_sld CF hL hS (i := 6 * i + 2) (by omega) e_w dL_law_881 ?_
    refine lv_aload_n CF.1 CF.2.1 dL_law_882 rfl (lv_at hl 3 rfl) ?_
    refine k_W CF hL hS hH (As := [.ref (ad0 0), .int (nI (t)), .int (nI (w)), .ref (ou)]) (rest := []) (wk_told l hj0 (b := b) hI hRc0 hRo0 hOi (t := t) (w := w) (by omega) (by omega) d0o) lk_RL_L_told rfl hl.1 ⟨Nat.le_of_ble_eq_true rfl, Nat.le_of_ble_eq_true rfl⟩ ⟨Nat.le_trans (by omega) hcs.1, Nat.le_trans (by omega) hcs.2⟩ (Nat.le_of_ble_eq_true rfl) rfl dL_law_883 (fun r1 uw H1 locs hp1 hH1 hS1 => ?_)
    obtain ⟨rfl, hv1, hR0, hO0⟩ := hp1
    refine lv_istore (lv' := [(6, .int (nI (0))), (0, .ref (bx)), (1, .ref (ad0 0)), (2, .ref (ad1 0)), (3, .ref (ou)), (4, .ref (od)), (5, .int (nI (6 * i)))]) CF.1 CF.2.1 dL_law_886 hl (by decide) rfl (fun ls hl => ?_)
    refine lv_aload_n CF.1 CF.2.1 dL_law_888 rfl (lv_at hl 3 rfl) ?_
    refine lv_aload_n CF.1 CF.2.1 dL_law_889 rfl (lv_at hl 1 rfl) ?_
    refine lv_iload CF.1 CF.2.1 dL_law_890 (lv_at hl 6 rfl) ?_
    refine lv_iconst (v := nI 1) CF.1 CF.2.1 dL_law_892 (by decide) ?_
    refine o_iadd CF dL_law_893 ?_
    refine x_sld CF hL hS1 (i := 6 * i + 1) (by omega) e_t dL_law_894 ?_
    refine lv_aload_n CF.1 CF.2.1 dL_law_895 rfl (lv_at hl 1 rfl) ?_
    refine lv_iload CF.1 CF.2.1 dL_law_896 (lv_at hl 6 rfl) ?_
    refine lv_iconst (v := nI 2) CF.1 CF.2.1 dL_law_898 (by decide) ?_
    refine o_iadd CF dL_law_899 ?_
    refine x_sld CF hL hS1 (i := 6 * i + 2) (by omega) e_w dL_law_900 ?_
    refine k_Mi CF hL hS1 hH1 (As := [.int (nI (t)), .int (nI (w))]) (rest := []) (c1_told l hj1 (b := b) hI hRc1 hRo1 hOi (t := t) (w := w) (by omega) (by omega)) rfl lk_RL_X1_told rfl hl.1 ⟨Nat.le_of_ble_eq_true rfl, Nat.le_of_ble_eq_true rfl⟩ ⟨Nat.le_trans (by omega) hcs.1, Nat.le_trans (by omega) hcs.2⟩ (Nat.le_of_ble_eq_true rfl) rfl dL_law_901 (fun r2 τ2 H2 locs hp2 hH2 hS2 => ?_)
    obtain ⟨rfl, hR1, hO1, hT⟩ := hp2
    refine lv_istore (lv' := [(7, .int (nI (fmo b t w))), (6, .int (nI (0))), (0, .ref (bx)), (1, .ref (ad0 0)), (2, .ref (ad1 0)), (3, .ref (ou)), (4, .ref (od)), (5, .int (nI (6 * i)))]) CF.1 CF.2.1 dL_law_904 hl (by decide) rfl (fun ls hl => ?_)
    refine lv_aload_n CF.1 CF.2.1 dL_law_906 rfl (lv_at hl 4 rfl) ?_
    refine c1_i CF hK hH2.2.1 (As := []) (rest := []) (c1_thrown l) rfl lk_RL_X1_thrown rfl hl.1 ⟨Nat.le_of_ble_eq_true rfl, Nat.le_of_ble_eq_true rfl⟩ ⟨Nat.le_trans (by omega) hcs.1, Nat.le_trans (by omega) hcs.2⟩ (Nat.le_of_ble_eq_true rfl) rfl dL_law_907 (fun r3 hr3 => ?_)
    rw [hT] at hr3
    subst hr3
    refine lv_iload CF.1 CF.2.1 dL_law_910 (lv_at hl 1 rfl) ?_
    refine z_icmp_eq CF (tgt := 917) (nIz (by omega)) (nIz (by omega)) dL_law_912 (by decide) (fun _ => ?_) (fun h => absurd h (by decide))
    refine lv_iload CF.1 CF.2.1 dL_law_917 (lv_at hl 1 rfl) ?_
    refine z_if_ne CF (tgt := 934) (nIz (by omega)) dL_law_919 (by decide) (fun h => absurd h (by decide)) (fun _ => ?_)
    refine lv_aload_n CF.1 CF.2.1 dL_law_922 rfl (lv_at hl 5 rfl) ?_
    refine lv_iconst (v := nI 0) CF.1 CF.2.1 dL_law_923 (by decide) ?_
    refine x_lald CF hL hS2 hH2 hv1 dL_law_924 ?_
    refine lv_iload CF.1 CF.2.1 dL_law_925 (lv_at hl 0 rfl) ?_
    refine lv_i2l CF.1 CF.2.1 dL_law_927 rfl ?_
    refine z_lcmp_eq CF (tgt := 934) rfl rfl dL_law_928 dL_law_929 (by decide) (fun h_5 => ?_) (fun h_6 => absurd h_6 (by omega))
    refine lv_goto (tgt := 1448) CF.1 CF.2.1 dL_law_934 (by decide) ?_
    refine W.widen (k := cells + 2) (n := slots + 11) (by omega) (by omega) ?_
    exact kk (b) _ _ _ _ _ _ ls hH2 hR0 hO0 hR1 hO1 hI hOi hS2 (lv_sub hl [2, 3, 4, 5, 6, 7] rfl)
  · refine lv_aload_n CF.1 CF.2.1 dL_law_869 rfl (lv_at hl 1 rfl) ?_
    refine lv_aload_n CF.1 CF.2.1 dL_law_870 rfl (lv_at hl 0 rfl) ?_
    refine lv_iload CF.1 CF.2.1 dL_law_871 (lv_at hl 5 rfl) ?_
    refine lv_iconst (v := nI 1) CF.1 CF.2.1 dL_law_873 (by decide) ?_
    refine o_iadd CF dL_law_874 ?_
    refine x_sld CF hL hS (i := 6 * i + 1) (by omega) rfl dL_law_875 ?_
    refine lv_aload_n CF.1 CF.2.1 dL_law_876 rfl (lv_at hl 0 rfl) ?_
    refine lv_iload CF.1 CF.2.1 dL_law_877 (lv_at hl 5 rfl) ?_
    refine lv_iconst (v := nI 2) CF.1 CF.2.1 dL_law_879 (by decide) ?_
    refine o_iadd CF dL_law_880 ?_
    refine x_sld CF hL hS (i := 6 * i + 2) (by omega) rfl dL_law_881 ?_
    refine lv_aload_n CF.1 CF.2.1 dL_law_882 rfl (lv_at hl 3 rfl) ?_
    refine k_W CF hL hS hH (As := [.ref (ad0 0), .int (xs (6 * i + 1)), .int (xs (6 * i + 2)), .ref (ou)]) (rest := []) (wb_told l hfl hj0 (b := b) hI hRc0 hRo0 hOi (xs (6 * i + 1)) (xs (6 * i + 2)) hg d0o) lk_RL_L_told rfl hl.1 ⟨Nat.le_of_ble_eq_true rfl, Nat.le_of_ble_eq_true rfl⟩ ⟨Nat.le_trans (by omega) hcs.1, Nat.le_trans (by omega) hcs.2⟩ (Nat.le_of_ble_eq_true rfl) rfl dL_law_883 (fun r1 uw H1 locs hp1 hH1 hS1 => ?_)
    obtain ⟨hd1, rfl⟩ := hp1
    have hH1 : LH G cA cL cD ad0 ad1 ou od σ τ fo fd H1 := hH1
    obtain ⟨rfl, hc1⟩ := hd1
    refine lv_istore (lv' := [(6, .int (nI (1))), (0, .ref (bx)), (1, .ref (ad0 0)), (2, .ref (ad1 0)), (3, .ref (ou)), (4, .ref (od)), (5, .int (nI (6 * i)))]) CF.1 CF.2.1 dL_law_886 hl (by decide) rfl (fun ls hl => ?_)
    refine lv_aload_n CF.1 CF.2.1 dL_law_888 rfl (lv_at hl 3 rfl) ?_
    refine lv_aload_n CF.1 CF.2.1 dL_law_889 rfl (lv_at hl 1 rfl) ?_
    refine lv_iload CF.1 CF.2.1 dL_law_890 (lv_at hl 6 rfl) ?_
    refine lv_iconst (v := nI 1) CF.1 CF.2.1 dL_law_892 (by decide) ?_
    refine o_iadd CF dL_law_893 ?_
    refine x_sld CF hL hS1 (i := 6 * i + 1) (by omega) rfl dL_law_894 ?_
    refine lv_aload_n CF.1 CF.2.1 dL_law_895 rfl (lv_at hl 1 rfl) ?_
    refine lv_iload CF.1 CF.2.1 dL_law_896 (lv_at hl 6 rfl) ?_
    refine lv_iconst (v := nI 2) CF.1 CF.2.1 dL_law_898 (by decide) ?_
    refine o_iadd CF dL_law_899 ?_
    refine x_sld CF hL hS1 (i := 6 * i + 2) (by omega) rfl dL_law_900 ?_
    refine k_Mi CF hL hS1 hH1 (As := [.int (xs (6 * i + 1)), .int (xs (6 * i + 2))]) (rest := []) (b1_told l hj1 (b := b) hI hRc1 hRo1 hOi (xs (6 * i + 1)) (xs (6 * i + 2)) hg) rfl lk_RL_X1_told rfl hl.1 ⟨Nat.le_of_ble_eq_true rfl, Nat.le_of_ble_eq_true rfl⟩ ⟨Nat.le_trans (by omega) hcs.1, Nat.le_trans (by omega) hcs.2⟩ (Nat.le_of_ble_eq_true rfl) rfl dL_law_901 (fun r2 τ2 H2 locs hp2 hH2 hS2 => ?_)
    obtain ⟨hR1, hO1, hd2⟩ := hp2
    have hT := hd2.1
    refine lv_istore (lv' := [(7, .int (r2)), (6, .int (nI (1))), (0, .ref (bx)), (1, .ref (ad0 0)), (2, .ref (ad1 0)), (3, .ref (ou)), (4, .ref (od)), (5, .int (nI (6 * i)))]) CF.1 CF.2.1 dL_law_904 hl (by decide) rfl (fun ls hl => ?_)
    refine lv_aload_n CF.1 CF.2.1 dL_law_906 rfl (lv_at hl 4 rfl) ?_
    refine c1_i CF hK hH2.2.1 (As := []) (rest := []) (c1_thrown l) rfl lk_RL_X1_thrown rfl hl.1 ⟨Nat.le_of_ble_eq_true rfl, Nat.le_of_ble_eq_true rfl⟩ ⟨Nat.le_trans (by omega) hcs.1, Nat.le_trans (by omega) hcs.2⟩ (Nat.le_of_ble_eq_true rfl) rfl dL_law_907 (fun r3 hr3 => ?_)
    rw [hT] at hr3
    subst hr3
    refine lv_iload CF.1 CF.2.1 dL_law_910 (lv_at hl 1 rfl) ?_
    refine z_icmp_eq CF (tgt := 917) (nIz (by omega)) (nIz (by omega)) dL_law_912 (by decide) (fun _ => ?_) (fun h => absurd h (by decide))
    refine lv_iload CF.1 CF.2.1 dL_law_917 (lv_at hl 1 rfl) ?_
    refine z_if_ne CF (tgt := 934) (nIz (by omega)) dL_law_919 (by decide) (fun _ => ?_) (fun h => absurd h (by decide))
    refine lv_goto (tgt := 1448) CF.1 CF.2.1 dL_law_934 (by decide) ?_
    refine W.widen (k := cells + 2) (n := slots + 11) (by omega) (by omega) ?_
    exact kk (b) _ _ _ _ _ _ ls hH2 hRc0 hRo0 hR1 hO1 hI hOi hS2 (lv_sub hl [2, 3, 4, 5, 6, 7] rfl)
set_option maxHeartbeats 1000000 in
set_option maxRecDepth 100000 in
theorem op_about {p : Program} {l : Launch} {e : Env} {s : State} {m : MethodId} {args : Array Value} {below : List Frame} {meth : Method} {c : Code} {H : Heap} {locs : List Loc} {cells slots : Nat} {Q : State → Prop} {ls : Array Slot} {G : va_G} {cA cL cD : ClassId} {ad0 ad1 : Nat → Nat} {σ τ : RS} {fo : Nat → Int64} {fd : Nat → UInt64} {ou od bx L : Nat} {xs : Nat → Int32} {b : BS} (CF : CallFix p m c cL_law 9 s args AW RL) (hL : LX l G cA cL cD ad0 ad1 ou od bx L xs s) (hS : va_S (AL s) s.heap H locs) (hH : LH G cA cL cD ad0 ad1 ou od σ τ fo fd H) (hRc0 : Rc σ b) (hRo0 : Ro σ b) (hRc1 : Rc τ b) (hRo1 : Ro τ b) (hI : InvC b) (hOi : InvO b) {i : Nat} (hi : 6 * i + 6 ≤ L) (hl : lv_has ls 9 [(0, .ref (bx)), (1, .ref (ad0 0)), (2, .ref (ad1 0)), (3, .ref (ou)), (4, .ref (od)), (5, .int (nI (6 * i)))]) (hcs : cells + 2 ≤ 656478 ∧ slots + 11 ≤ 7126671) (kk : ∀ (b' : BS) (σ' τ' : RS) (fo' : Nat → Int64) (fd' : Nat → UInt64) (H' : Heap) (locs' : List Loc) (ls' : Array Slot), LH G cA cL cD ad0 ad1 ou od σ' τ' fo' fd' H' → Rc σ' b' → Ro σ' b' → Rc τ' b' → Ro τ' b' → InvC b' → InvO b' → va_S (AL s) s.heap H' locs' → lv_has ls' 9 [(0, .ref (bx)), (1, .ref (ad0 0)), (2, .ref (ad1 0)), (3, .ref (ou)), (4, .ref (od)), (5, .int (nI (6 * i)))] → W p l e room_1 s m args below meth c H' locs' (cells + 2) (slots + 11) Q (F0 m 1448 ls' [])) : W p l e room_1 s m args below meth c H locs cells slots Q (F0 m 937 ls []) := by
  obtain ⟨hX, hbl, hK, hKL, hKD, hE, hj0, hj1, ha0, ha1, hou, hod, d01, d0o, d1o, d0d, d1d, dod, hfl, hL3⟩ := id hL
  have i_cu := hI.2.1
  have hw10 := hOi.1
  by_cases hg : 0 ≤ (xs (6 * i + 1)).toInt ∧ (xs (6 * i + 1)).toInt < (b 0 3 : Nat) ∧ 0 ≤ (xs (6 * i + 2)).toInt ∧ (xs (6 * i + 2)).toInt < 5
  · obtain ⟨q, h_q, e_q⟩ := nI_ex (x := xs (6 * i + 1)) (n := b 0 3) (by omega) (by omega)
    obtain ⟨k, h_k, e_k⟩ := nI_ex (x := xs (6 * i + 2)) (n := 5) (by omega) (by omega)
    rw [e_q, e_k] at hg
    have z_q := nIz (n := q) (by omega)
    have z_k := nIz (n := k) (by omega)
    refine lv_aload_n CF.1 CF.2.1 dL_law_937 rfl (lv_at hl 1 rfl) ?_
    refine lv_aload_n CF.1 CF.2.1 dL_law_938 rfl (lv_at hl 0 rfl) ?_
    refine lv_iload CF.1 CF.2.1 dL_law_939 (lv_at hl 5 rfl) ?_
    refine lv_iconst (v := nI 1) CF.1 CF.2.1 dL_law_941 (by decide) ?_
    refine o_iadd CF dL_law_942 ?_
    refine x_sld CF hL hS (i := 6 * i + 1) (by omega) e_q dL_law_943 ?_
    refine lv_aload_n CF.1 CF.2.1 dL_law_944 rfl (lv_at hl 0 rfl) ?_
    refine lv_iload CF.1 CF.2.1 dL_law_945 (lv_at hl 5 rfl) ?_
    refine lv_iconst (v := nI 2) CF.1 CF.2.1 dL_law_947 (by decide) ?_
    refine o_iadd CF dL_law_948 ?_
    refine x_sld CF hL hS (i := 6 * i + 2) (by omega) e_k dL_law_949 ?_
    refine lv_aload_n CF.1 CF.2.1 dL_law_950 rfl (lv_at hl 3 rfl) ?_
    refine k_W CF hL hS hH (As := [.ref (ad0 0), .int (nI (q)), .int (nI (k)), .ref (ou)]) (rest := []) (wk_about l hj0 (b := b) hI hRc0 hRo0 hOi (q := q) (k := k) (by omega) (by omega) d0o) lk_RL_L_about rfl hl.1 ⟨Nat.le_of_ble_eq_true rfl, Nat.le_of_ble_eq_true rfl⟩ ⟨Nat.le_trans (by omega) hcs.1, Nat.le_trans (by omega) hcs.2⟩ (Nat.le_of_ble_eq_true rfl) rfl dL_law_951 (fun r1 uw H1 locs hp1 hH1 hS1 => ?_)
    obtain ⟨rfl, hv1, hR0, hO0⟩ := hp1
    refine lv_istore (lv' := [(6, .int (nI (0))), (0, .ref (bx)), (1, .ref (ad0 0)), (2, .ref (ad1 0)), (3, .ref (ou)), (4, .ref (od)), (5, .int (nI (6 * i)))]) CF.1 CF.2.1 dL_law_954 hl (by decide) rfl (fun ls hl => ?_)
    refine lv_aload_n CF.1 CF.2.1 dL_law_956 rfl (lv_at hl 3 rfl) ?_
    refine lv_aload_n CF.1 CF.2.1 dL_law_957 rfl (lv_at hl 1 rfl) ?_
    refine lv_iload CF.1 CF.2.1 dL_law_958 (lv_at hl 6 rfl) ?_
    refine lv_iconst (v := nI 1) CF.1 CF.2.1 dL_law_960 (by decide) ?_
    refine o_iadd CF dL_law_961 ?_
    refine x_sld CF hL hS1 (i := 6 * i + 1) (by omega) e_q dL_law_962 ?_
    refine lv_aload_n CF.1 CF.2.1 dL_law_963 rfl (lv_at hl 1 rfl) ?_
    refine lv_iload CF.1 CF.2.1 dL_law_964 (lv_at hl 6 rfl) ?_
    refine lv_iconst (v := nI 2) CF.1 CF.2.1 dL_law_966 (by decide) ?_
    refine o_iadd CF dL_law_967 ?_
    refine x_sld CF hL hS1 (i := 6 * i + 2) (by omega) e_k dL_law_968 ?_
    refine k_Mi CF hL hS1 hH1 (As := [.int (nI (q)), .int (nI (k))]) (rest := []) (c1_about l hj1 (b := b) hI hRc1 hRo1 hOi (q := q) (k := k) (by omega) (by omega)) rfl lk_RL_X1_about rfl hl.1 ⟨Nat.le_of_ble_eq_true rfl, Nat.le_of_ble_eq_true rfl⟩ ⟨Nat.le_trans (by omega) hcs.1, Nat.le_trans (by omega) hcs.2⟩ (Nat.le_of_ble_eq_true rfl) rfl dL_law_969 (fun r2 τ2 H2 locs hp2 hH2 hS2 => ?_)
    obtain ⟨rfl, hR1, hO1, hT⟩ := hp2
    refine lv_istore (lv' := [(7, .int (nI (b 7 (q * 5 + k)))), (6, .int (nI (0))), (0, .ref (bx)), (1, .ref (ad0 0)), (2, .ref (ad1 0)), (3, .ref (ou)), (4, .ref (od)), (5, .int (nI (6 * i)))]) CF.1 CF.2.1 dL_law_972 hl (by decide) rfl (fun ls hl => ?_)
    refine lv_aload_n CF.1 CF.2.1 dL_law_974 rfl (lv_at hl 4 rfl) ?_
    refine c1_i CF hK hH2.2.1 (As := []) (rest := []) (c1_thrown l) rfl lk_RL_X1_thrown rfl hl.1 ⟨Nat.le_of_ble_eq_true rfl, Nat.le_of_ble_eq_true rfl⟩ ⟨Nat.le_trans (by omega) hcs.1, Nat.le_trans (by omega) hcs.2⟩ (Nat.le_of_ble_eq_true rfl) rfl dL_law_975 (fun r3 hr3 => ?_)
    rw [hT] at hr3
    subst hr3
    refine lv_iload CF.1 CF.2.1 dL_law_978 (lv_at hl 1 rfl) ?_
    refine z_icmp_eq CF (tgt := 985) (nIz (by omega)) (nIz (by omega)) dL_law_980 (by decide) (fun _ => ?_) (fun h => absurd h (by decide))
    refine lv_iload CF.1 CF.2.1 dL_law_985 (lv_at hl 1 rfl) ?_
    refine z_if_ne CF (tgt := 1002) (nIz (by omega)) dL_law_987 (by decide) (fun h => absurd h (by decide)) (fun _ => ?_)
    refine lv_aload_n CF.1 CF.2.1 dL_law_990 rfl (lv_at hl 5 rfl) ?_
    refine lv_iconst (v := nI 0) CF.1 CF.2.1 dL_law_991 (by decide) ?_
    refine x_lald CF hL hS2 hH2 hv1 dL_law_992 ?_
    refine lv_iload CF.1 CF.2.1 dL_law_993 (lv_at hl 0 rfl) ?_
    refine lv_i2l CF.1 CF.2.1 dL_law_995 rfl ?_
    refine z_lcmp_eq CF (tgt := 1002) rfl rfl dL_law_996 dL_law_997 (by decide) (fun h_5 => ?_) (fun h_6 => absurd h_6 (by omega))
    refine lv_goto (tgt := 1448) CF.1 CF.2.1 dL_law_1002 (by decide) ?_
    refine W.widen (k := cells + 2) (n := slots + 11) (by omega) (by omega) ?_
    exact kk (b) _ _ _ _ _ _ ls hH2 hR0 hO0 hR1 hO1 hI hOi hS2 (lv_sub hl [2, 3, 4, 5, 6, 7] rfl)
  · refine lv_aload_n CF.1 CF.2.1 dL_law_937 rfl (lv_at hl 1 rfl) ?_
    refine lv_aload_n CF.1 CF.2.1 dL_law_938 rfl (lv_at hl 0 rfl) ?_
    refine lv_iload CF.1 CF.2.1 dL_law_939 (lv_at hl 5 rfl) ?_
    refine lv_iconst (v := nI 1) CF.1 CF.2.1 dL_law_941 (by decide) ?_
    refine o_iadd CF dL_law_942 ?_
    refine x_sld CF hL hS (i := 6 * i + 1) (by omega) rfl dL_law_943 ?_
    refine lv_aload_n CF.1 CF.2.1 dL_law_944 rfl (lv_at hl 0 rfl) ?_
    refine lv_iload CF.1 CF.2.1 dL_law_945 (lv_at hl 5 rfl) ?_
    refine lv_iconst (v := nI 2) CF.1 CF.2.1 dL_law_947 (by decide) ?_
    refine o_iadd CF dL_law_948 ?_
    refine x_sld CF hL hS (i := 6 * i + 2) (by omega) rfl dL_law_949 ?_
    refine lv_aload_n CF.1 CF.2.1 dL_law_950 rfl (lv_at hl 3 rfl) ?_
    refine k_W CF hL hS hH (As := [.ref (ad0 0), .int (xs (6 * i + 1)), .int (xs (6 * i + 2)), .ref (ou)]) (rest := []) (wb_about l hfl hj0 (b := b) hI hRc0 hRo0 hOi (xs (6 * i + 1)) (xs (6 * i + 2)) hg d0o) lk_RL_L_about rfl hl.1 ⟨Nat.le_of_ble_eq_true rfl, Nat.le_of_ble_eq_true rfl⟩ ⟨Nat.le_trans (by omega) hcs.1, Nat.le_trans (by omega) hcs.2⟩ (Nat.le_of_ble_eq_true rfl) rfl dL_law_951 (fun r1 uw H1 locs hp1 hH1 hS1 => ?_)
    obtain ⟨hd1, rfl⟩ := hp1
    have hH1 : LH G cA cL cD ad0 ad1 ou od σ τ fo fd H1 := hH1
    obtain ⟨rfl, hc1⟩ := hd1
    refine lv_istore (lv' := [(6, .int (nI (1))), (0, .ref (bx)), (1, .ref (ad0 0)), (2, .ref (ad1 0)), (3, .ref (ou)), (4, .ref (od)), (5, .int (nI (6 * i)))]) CF.1 CF.2.1 dL_law_954 hl (by decide) rfl (fun ls hl => ?_)
    refine lv_aload_n CF.1 CF.2.1 dL_law_956 rfl (lv_at hl 3 rfl) ?_
    refine lv_aload_n CF.1 CF.2.1 dL_law_957 rfl (lv_at hl 1 rfl) ?_
    refine lv_iload CF.1 CF.2.1 dL_law_958 (lv_at hl 6 rfl) ?_
    refine lv_iconst (v := nI 1) CF.1 CF.2.1 dL_law_960 (by decide) ?_
    refine o_iadd CF dL_law_961 ?_
    refine x_sld CF hL hS1 (i := 6 * i + 1) (by omega) rfl dL_law_962 ?_
    refine lv_aload_n CF.1 CF.2.1 dL_law_963 rfl (lv_at hl 1 rfl) ?_
    refine lv_iload CF.1 CF.2.1 dL_law_964 (lv_at hl 6 rfl) ?_
    refine lv_iconst (v := nI 2) CF.1 CF.2.1 dL_law_966 (by decide) ?_
    refine o_iadd CF dL_law_967 ?_
    refine x_sld CF hL hS1 (i := 6 * i + 2) (by omega) rfl dL_law_968 ?_
    refine k_Mi CF hL hS1 hH1 (As := [.int (xs (6 * i + 1)), .int (xs (6 * i + 2))]) (rest := []) (b1_about l hj1 (b := b) hI hRc1 hRo1 hOi (xs (6 * i + 1)) (xs (6 * i + 2)) hg) rfl lk_RL_X1_about rfl hl.1 ⟨Nat.le_of_ble_eq_true rfl, Nat.le_of_ble_eq_true rfl⟩ ⟨Nat.le_trans (by omega) hcs.1, Nat.le_trans (by omega) hcs.2⟩ (Nat.le_of_ble_eq_true rfl) rfl dL_law_969 (fun r2 τ2 H2 locs hp2 hH2 hS2 => ?_)
    obtain ⟨hR1, hO1, hd2⟩ := hp2
    have hT := hd2.1
    refine lv_istore (lv' := [(7, .int (r2)), (6, .int (nI (1))), (0, .ref (bx)), (1, .ref (ad0 0)), (2, .ref (ad1 0)), (3, .ref (ou)), (4, .ref (od)), (5, .int (nI (6 * i)))]) CF.1 CF.2.1 dL_law_972 hl (by decide) rfl (fun ls hl => ?_)
    refine lv_aload_n CF.1 CF.2.1 dL_law_974 rfl (lv_at hl 4 rfl) ?_
    refine c1_i CF hK hH2.2.1 (As := []) (rest := []) (c1_thrown l) rfl lk_RL_X1_thrown rfl hl.1 ⟨Nat.le_of_ble_eq_true rfl, Nat.le_of_ble_eq_true rfl⟩ ⟨Nat.le_trans (by omega) hcs.1, Nat.le_trans (by omega) hcs.2⟩ (Nat.le_of_ble_eq_true rfl) rfl dL_law_975 (fun r3 hr3 => ?_)
    rw [hT] at hr3
    subst hr3
    refine lv_iload CF.1 CF.2.1 dL_law_978 (lv_at hl 1 rfl) ?_
    refine z_icmp_eq CF (tgt := 985) (nIz (by omega)) (nIz (by omega)) dL_law_980 (by decide) (fun _ => ?_) (fun h => absurd h (by decide))
    refine lv_iload CF.1 CF.2.1 dL_law_985 (lv_at hl 1 rfl) ?_
    refine z_if_ne CF (tgt := 1002) (nIz (by omega)) dL_law_987 (by decide) (fun _ => ?_) (fun h => absurd h (by decide))
    refine lv_goto (tgt := 1448) CF.1 CF.2.1 dL_law_1002 (by decide) ?_
    refine W.widen (k := cells + 2) (n := slots + 11) (by omega) (by omega) ?_
    exact kk (b) _ _ _ _ _ _ ls hH2 hRc0 hRo0 hR1 hO1 hI hOi hS2 (lv_sub hl [2, 3, 4, 5, 6, 7] rfl)
set_option maxHeartbeats 1000000 in
set_option maxRecDepth 100000 in
theorem op_count {p : Program} {l : Launch} {e : Env} {s : State} {m : MethodId} {args : Array Value} {below : List Frame} {meth : Method} {c : Code} {H : Heap} {locs : List Loc} {cells slots : Nat} {Q : State → Prop} {ls : Array Slot} {G : va_G} {cA cL cD : ClassId} {ad0 ad1 : Nat → Nat} {σ τ : RS} {fo : Nat → Int64} {fd : Nat → UInt64} {ou od bx L : Nat} {xs : Nat → Int32} {b : BS} (CF : CallFix p m c cL_law 9 s args AW RL) (hL : LX l G cA cL cD ad0 ad1 ou od bx L xs s) (hS : va_S (AL s) s.heap H locs) (hH : LH G cA cL cD ad0 ad1 ou od σ τ fo fd H) (hRc0 : Rc σ b) (hRo0 : Ro σ b) (hRc1 : Rc τ b) (hRo1 : Ro τ b) (hI : InvC b) (hOi : InvO b) {i : Nat} (hi : 6 * i + 6 ≤ L) (hl : lv_has ls 9 [(0, .ref (bx)), (1, .ref (ad0 0)), (2, .ref (ad1 0)), (3, .ref (ou)), (4, .ref (od)), (5, .int (nI (6 * i)))]) (hcs : cells + 2 ≤ 656478 ∧ slots + 11 ≤ 7126671) (kk : ∀ (b' : BS) (σ' τ' : RS) (fo' : Nat → Int64) (fd' : Nat → UInt64) (H' : Heap) (locs' : List Loc) (ls' : Array Slot), LH G cA cL cD ad0 ad1 ou od σ' τ' fo' fd' H' → Rc σ' b' → Ro σ' b' → Rc τ' b' → Ro τ' b' → InvC b' → InvO b' → va_S (AL s) s.heap H' locs' → lv_has ls' 9 [(0, .ref (bx)), (1, .ref (ad0 0)), (2, .ref (ad1 0)), (3, .ref (ou)), (4, .ref (od)), (5, .int (nI (6 * i)))] → W p l e room_1 s m args below meth c H' locs' (cells + 2) (slots + 11) Q (F0 m 1448 ls' [])) : W p l e room_1 s m args below meth c H locs cells slots Q (F0 m 1005 ls []) := by
  obtain ⟨hX, hbl, hK, hKL, hKD, hE, hj0, hj1, ha0, ha1, hou, hod, d01, d0o, d1o, d0d, d1d, dod, hfl, hL3⟩ := id hL
  have i_cu := hI.2.1
  have hw10 := hOi.1
  by_cases hg : 0 ≤ (xs (6 * i + 1)).toInt ∧ (xs (6 * i + 1)).toInt < 7
  · obtain ⟨w, h_w, e_w⟩ := nI_ex (x := xs (6 * i + 1)) (n := 7) (by omega) (by omega)
    rw [e_w] at hg
    have z_w := nIz (n := w) (by omega)
    refine lv_aload_n CF.1 CF.2.1 dL_law_1005 rfl (lv_at hl 1 rfl) ?_
    refine lv_aload_n CF.1 CF.2.1 dL_law_1006 rfl (lv_at hl 0 rfl) ?_
    refine lv_iload CF.1 CF.2.1 dL_law_1007 (lv_at hl 5 rfl) ?_
    refine lv_iconst (v := nI 1) CF.1 CF.2.1 dL_law_1009 (by decide) ?_
    refine o_iadd CF dL_law_1010 ?_
    refine x_sld CF hL hS (i := 6 * i + 1) (by omega) e_w dL_law_1011 ?_
    refine lv_aload_n CF.1 CF.2.1 dL_law_1012 rfl (lv_at hl 3 rfl) ?_
    refine k_W CF hL hS hH (As := [.ref (ad0 0), .int (nI (w)), .ref (ou)]) (rest := []) (wk_count l hj0 (b := b) hI hRc0 hRo0 hOi (w := w) (by omega) d0o) lk_RL_L_count rfl hl.1 ⟨Nat.le_of_ble_eq_true rfl, Nat.le_of_ble_eq_true rfl⟩ ⟨Nat.le_trans (by omega) hcs.1, Nat.le_trans (by omega) hcs.2⟩ (Nat.le_of_ble_eq_true rfl) rfl dL_law_1013 (fun r1 uw H1 locs hp1 hH1 hS1 => ?_)
    obtain ⟨rfl, hv1, hR0, hO0⟩ := hp1
    refine lv_istore (lv' := [(6, .int (nI (0))), (0, .ref (bx)), (1, .ref (ad0 0)), (2, .ref (ad1 0)), (3, .ref (ou)), (4, .ref (od)), (5, .int (nI (6 * i)))]) CF.1 CF.2.1 dL_law_1016 hl (by decide) rfl (fun ls hl => ?_)
    refine lv_aload_n CF.1 CF.2.1 dL_law_1018 rfl (lv_at hl 3 rfl) ?_
    refine lv_aload_n CF.1 CF.2.1 dL_law_1019 rfl (lv_at hl 1 rfl) ?_
    refine lv_iload CF.1 CF.2.1 dL_law_1020 (lv_at hl 6 rfl) ?_
    refine lv_iconst (v := nI 1) CF.1 CF.2.1 dL_law_1022 (by decide) ?_
    refine o_iadd CF dL_law_1023 ?_
    refine x_sld CF hL hS1 (i := 6 * i + 1) (by omega) e_w dL_law_1024 ?_
    refine k_Mi CF hL hS1 hH1 (As := [.int (nI (w))]) (rest := []) (c1_count l hj1 (b := b) hI hRc1 hRo1 hOi (w := w) (by omega)) rfl lk_RL_X1_count rfl hl.1 ⟨Nat.le_of_ble_eq_true rfl, Nat.le_of_ble_eq_true rfl⟩ ⟨Nat.le_trans (by omega) hcs.1, Nat.le_trans (by omega) hcs.2⟩ (Nat.le_of_ble_eq_true rfl) rfl dL_law_1025 (fun r2 τ2 H2 locs hp2 hH2 hS2 => ?_)
    obtain ⟨rfl, hR1, hO1, hT⟩ := hp2
    refine lv_istore (lv' := [(7, .int (nI (fbo b w))), (6, .int (nI (0))), (0, .ref (bx)), (1, .ref (ad0 0)), (2, .ref (ad1 0)), (3, .ref (ou)), (4, .ref (od)), (5, .int (nI (6 * i)))]) CF.1 CF.2.1 dL_law_1028 hl (by decide) rfl (fun ls hl => ?_)
    refine lv_aload_n CF.1 CF.2.1 dL_law_1030 rfl (lv_at hl 4 rfl) ?_
    refine c1_i CF hK hH2.2.1 (As := []) (rest := []) (c1_thrown l) rfl lk_RL_X1_thrown rfl hl.1 ⟨Nat.le_of_ble_eq_true rfl, Nat.le_of_ble_eq_true rfl⟩ ⟨Nat.le_trans (by omega) hcs.1, Nat.le_trans (by omega) hcs.2⟩ (Nat.le_of_ble_eq_true rfl) rfl dL_law_1031 (fun r3 hr3 => ?_)
    rw [hT] at hr3
    subst hr3
    refine lv_iload CF.1 CF.2.1 dL_law_1034 (lv_at hl 1 rfl) ?_
    refine z_icmp_eq CF (tgt := 1041) (nIz (by omega)) (nIz (by omega)) dL_law_1036 (by decide) (fun _ => ?_) (fun h => absurd h (by decide))
    refine lv_iload CF.1 CF.2.1 dL_law_1041 (lv_at hl 1 rfl) ?_
    refine z_if_ne CF (tgt := 1058) (nIz (by omega)) dL_law_1043 (by decide) (fun h => absurd h (by decide)) (fun _ => ?_)
    refine lv_aload_n CF.1 CF.2.1 dL_law_1046 rfl (lv_at hl 5 rfl) ?_
    refine lv_iconst (v := nI 0) CF.1 CF.2.1 dL_law_1047 (by decide) ?_
    refine x_lald CF hL hS2 hH2 hv1 dL_law_1048 ?_
    refine lv_iload CF.1 CF.2.1 dL_law_1049 (lv_at hl 0 rfl) ?_
    refine lv_i2l CF.1 CF.2.1 dL_law_1051 rfl ?_
    refine z_lcmp_eq CF (tgt := 1058) rfl rfl dL_law_1052 dL_law_1053 (by decide) (fun h_5 => ?_) (fun h_6 => absurd h_6 (by omega))
    refine lv_goto (tgt := 1448) CF.1 CF.2.1 dL_law_1058 (by decide) ?_
    refine W.widen (k := cells + 2) (n := slots + 11) (by omega) (by omega) ?_
    exact kk (b) _ _ _ _ _ _ ls hH2 hR0 hO0 hR1 hO1 hI hOi hS2 (lv_sub hl [2, 3, 4, 5, 6, 7] rfl)
  · refine lv_aload_n CF.1 CF.2.1 dL_law_1005 rfl (lv_at hl 1 rfl) ?_
    refine lv_aload_n CF.1 CF.2.1 dL_law_1006 rfl (lv_at hl 0 rfl) ?_
    refine lv_iload CF.1 CF.2.1 dL_law_1007 (lv_at hl 5 rfl) ?_
    refine lv_iconst (v := nI 1) CF.1 CF.2.1 dL_law_1009 (by decide) ?_
    refine o_iadd CF dL_law_1010 ?_
    refine x_sld CF hL hS (i := 6 * i + 1) (by omega) rfl dL_law_1011 ?_
    refine lv_aload_n CF.1 CF.2.1 dL_law_1012 rfl (lv_at hl 3 rfl) ?_
    refine k_W CF hL hS hH (As := [.ref (ad0 0), .int (xs (6 * i + 1)), .ref (ou)]) (rest := []) (wb_count l hfl hj0 (b := b) hI hRc0 hRo0 hOi (xs (6 * i + 1)) hg d0o) lk_RL_L_count rfl hl.1 ⟨Nat.le_of_ble_eq_true rfl, Nat.le_of_ble_eq_true rfl⟩ ⟨Nat.le_trans (by omega) hcs.1, Nat.le_trans (by omega) hcs.2⟩ (Nat.le_of_ble_eq_true rfl) rfl dL_law_1013 (fun r1 uw H1 locs hp1 hH1 hS1 => ?_)
    obtain ⟨hd1, rfl⟩ := hp1
    have hH1 : LH G cA cL cD ad0 ad1 ou od σ τ fo fd H1 := hH1
    obtain ⟨rfl, hc1⟩ := hd1
    refine lv_istore (lv' := [(6, .int (nI (1))), (0, .ref (bx)), (1, .ref (ad0 0)), (2, .ref (ad1 0)), (3, .ref (ou)), (4, .ref (od)), (5, .int (nI (6 * i)))]) CF.1 CF.2.1 dL_law_1016 hl (by decide) rfl (fun ls hl => ?_)
    refine lv_aload_n CF.1 CF.2.1 dL_law_1018 rfl (lv_at hl 3 rfl) ?_
    refine lv_aload_n CF.1 CF.2.1 dL_law_1019 rfl (lv_at hl 1 rfl) ?_
    refine lv_iload CF.1 CF.2.1 dL_law_1020 (lv_at hl 6 rfl) ?_
    refine lv_iconst (v := nI 1) CF.1 CF.2.1 dL_law_1022 (by decide) ?_
    refine o_iadd CF dL_law_1023 ?_
    refine x_sld CF hL hS1 (i := 6 * i + 1) (by omega) rfl dL_law_1024 ?_
    refine k_Mi CF hL hS1 hH1 (As := [.int (xs (6 * i + 1))]) (rest := []) (b1_count l hj1 (b := b) hI hRc1 hRo1 hOi (xs (6 * i + 1)) hg) rfl lk_RL_X1_count rfl hl.1 ⟨Nat.le_of_ble_eq_true rfl, Nat.le_of_ble_eq_true rfl⟩ ⟨Nat.le_trans (by omega) hcs.1, Nat.le_trans (by omega) hcs.2⟩ (Nat.le_of_ble_eq_true rfl) rfl dL_law_1025 (fun r2 τ2 H2 locs hp2 hH2 hS2 => ?_)
    obtain ⟨hR1, hO1, hd2⟩ := hp2
    have hT := hd2.1
    refine lv_istore (lv' := [(7, .int (r2)), (6, .int (nI (1))), (0, .ref (bx)), (1, .ref (ad0 0)), (2, .ref (ad1 0)), (3, .ref (ou)), (4, .ref (od)), (5, .int (nI (6 * i)))]) CF.1 CF.2.1 dL_law_1028 hl (by decide) rfl (fun ls hl => ?_)
    refine lv_aload_n CF.1 CF.2.1 dL_law_1030 rfl (lv_at hl 4 rfl) ?_
    refine c1_i CF hK hH2.2.1 (As := []) (rest := []) (c1_thrown l) rfl lk_RL_X1_thrown rfl hl.1 ⟨Nat.le_of_ble_eq_true rfl, Nat.le_of_ble_eq_true rfl⟩ ⟨Nat.le_trans (by omega) hcs.1, Nat.le_trans (by omega) hcs.2⟩ (Nat.le_of_ble_eq_true rfl) rfl dL_law_1031 (fun r3 hr3 => ?_)
    rw [hT] at hr3
    subst hr3
    refine lv_iload CF.1 CF.2.1 dL_law_1034 (lv_at hl 1 rfl) ?_
    refine z_icmp_eq CF (tgt := 1041) (nIz (by omega)) (nIz (by omega)) dL_law_1036 (by decide) (fun _ => ?_) (fun h => absurd h (by decide))
    refine lv_iload CF.1 CF.2.1 dL_law_1041 (lv_at hl 1 rfl) ?_
    refine z_if_ne CF (tgt := 1058) (nIz (by omega)) dL_law_1043 (by decide) (fun _ => ?_) (fun h => absurd h (by decide))
    refine lv_goto (tgt := 1448) CF.1 CF.2.1 dL_law_1058 (by decide) ?_
    refine W.widen (k := cells + 2) (n := slots + 11) (by omega) (by omega) ?_
    exact kk (b) _ _ _ _ _ _ ls hH2 hRc0 hRo0 hR1 hO1 hI hOi hS2 (lv_sub hl [2, 3, 4, 5, 6, 7] rfl)
set_option maxHeartbeats 1000000 in
set_option maxRecDepth 100000 in
theorem op_would {p : Program} {l : Launch} {e : Env} {s : State} {m : MethodId} {args : Array Value} {below : List Frame} {meth : Method} {c : Code} {H : Heap} {locs : List Loc} {cells slots : Nat} {Q : State → Prop} {ls : Array Slot} {G : va_G} {cA cL cD : ClassId} {ad0 ad1 : Nat → Nat} {σ τ : RS} {fo : Nat → Int64} {fd : Nat → UInt64} {ou od bx L : Nat} {xs : Nat → Int32} {b : BS} (CF : CallFix p m c cL_law 9 s args AW RL) (hL : LX l G cA cL cD ad0 ad1 ou od bx L xs s) (hS : va_S (AL s) s.heap H locs) (hH : LH G cA cL cD ad0 ad1 ou od σ τ fo fd H) (hRc0 : Rc σ b) (hRo0 : Ro σ b) (hRc1 : Rc τ b) (hRo1 : Ro τ b) (hI : InvC b) (hOi : InvO b) {i : Nat} (hi : 6 * i + 6 ≤ L) (hl : lv_has ls 9 [(0, .ref (bx)), (1, .ref (ad0 0)), (2, .ref (ad1 0)), (3, .ref (ou)), (4, .ref (od)), (5, .int (nI (6 * i)))]) (hcs : cells + 2 ≤ 656478 ∧ slots + 11 ≤ 7126671) (kk : ∀ (b' : BS) (σ' τ' : RS) (fo' : Nat → Int64) (fd' : Nat → UInt64) (H' : Heap) (locs' : List Loc) (ls' : Array Slot), LH G cA cL cD ad0 ad1 ou od σ' τ' fo' fd' H' → Rc σ' b' → Ro σ' b' → Rc τ' b' → Ro τ' b' → InvC b' → InvO b' → va_S (AL s) s.heap H' locs' → lv_has ls' 9 [(0, .ref (bx)), (1, .ref (ad0 0)), (2, .ref (ad1 0)), (3, .ref (ou)), (4, .ref (od)), (5, .int (nI (6 * i)))] → W p l e room_1 s m args below meth c H' locs' (cells + 2) (slots + 11) Q (F0 m 1448 ls' [])) : W p l e room_1 s m args below meth c H locs cells slots Q (F0 m 1061 ls []) := by
  obtain ⟨hX, hbl, hK, hKL, hKD, hE, hj0, hj1, ha0, ha1, hou, hod, d01, d0o, d1o, d0d, d1d, dod, hfl, hL3⟩ := id hL
  have i_cu := hI.2.1
  have hw10 := hOi.1
  by_cases hg : 0 ≤ (xs (6 * i + 1)).toInt ∧ (xs (6 * i + 1)).toInt < 5 ∧ 0 ≤ (xs (6 * i + 2)).toInt ∧ (xs (6 * i + 2)).toInt < 5 ∧ 0 ≤ (xs (6 * i + 3)).toInt ∧ (xs (6 * i + 3)).toInt ≤ 99999
  · obtain ⟨f, h_f, e_f⟩ := nI_ex (x := xs (6 * i + 1)) (n := 5) (by omega) (by omega)
    obtain ⟨t, h_t, e_t⟩ := nI_ex (x := xs (6 * i + 2)) (n := 5) (by omega) (by omega)
    obtain ⟨a, h_a, e_a⟩ := nI_ex (x := xs (6 * i + 3)) (n := 100000) (by omega) (by omega)
    rw [e_f, e_t, e_a] at hg
    have z_f := nIz (n := f) (by omega)
    have z_t := nIz (n := t) (by omega)
    have z_a := nIz (n := a) (by omega)
    refine lv_aload_n CF.1 CF.2.1 dL_law_1061 rfl (lv_at hl 1 rfl) ?_
    refine lv_aload_n CF.1 CF.2.1 dL_law_1062 rfl (lv_at hl 0 rfl) ?_
    refine lv_iload CF.1 CF.2.1 dL_law_1063 (lv_at hl 5 rfl) ?_
    refine lv_iconst (v := nI 1) CF.1 CF.2.1 dL_law_1065 (by decide) ?_
    refine o_iadd CF dL_law_1066 ?_
    refine x_sld CF hL hS (i := 6 * i + 1) (by omega) e_f dL_law_1067 ?_
    refine lv_aload_n CF.1 CF.2.1 dL_law_1068 rfl (lv_at hl 0 rfl) ?_
    refine lv_iload CF.1 CF.2.1 dL_law_1069 (lv_at hl 5 rfl) ?_
    refine lv_iconst (v := nI 2) CF.1 CF.2.1 dL_law_1071 (by decide) ?_
    refine o_iadd CF dL_law_1072 ?_
    refine x_sld CF hL hS (i := 6 * i + 2) (by omega) e_t dL_law_1073 ?_
    refine lv_aload_n CF.1 CF.2.1 dL_law_1074 rfl (lv_at hl 0 rfl) ?_
    refine lv_iload CF.1 CF.2.1 dL_law_1075 (lv_at hl 5 rfl) ?_
    refine lv_iconst (v := nI 3) CF.1 CF.2.1 dL_law_1077 (by decide) ?_
    refine o_iadd CF dL_law_1078 ?_
    refine x_sld CF hL hS (i := 6 * i + 3) (by omega) e_a dL_law_1079 ?_
    refine lv_aload_n CF.1 CF.2.1 dL_law_1080 rfl (lv_at hl 3 rfl) ?_
    refine k_W CF hL hS hH (As := [.ref (ad0 0), .int (nI (f)), .int (nI (t)), .int (nI (a)), .ref (ou)]) (rest := []) (wk_would l hj0 (b := b) hI hRc0 hRo0 hOi (f := f) (t := t) (a := a) (by omega) (by omega) (by omega) d0o) lk_RL_L_would rfl hl.1 ⟨Nat.le_of_ble_eq_true rfl, Nat.le_of_ble_eq_true rfl⟩ ⟨Nat.le_trans (by omega) hcs.1, Nat.le_trans (by omega) hcs.2⟩ (Nat.le_of_ble_eq_true rfl) rfl dL_law_1081 (fun r1 uw H1 locs hp1 hH1 hS1 => ?_)
    obtain ⟨rfl, hv1, hR0, hO0⟩ := hp1
    refine lv_istore (lv' := [(6, .int (nI (0))), (0, .ref (bx)), (1, .ref (ad0 0)), (2, .ref (ad1 0)), (3, .ref (ou)), (4, .ref (od)), (5, .int (nI (6 * i)))]) CF.1 CF.2.1 dL_law_1084 hl (by decide) rfl (fun ls hl => ?_)
    refine lv_aload_n CF.1 CF.2.1 dL_law_1086 rfl (lv_at hl 3 rfl) ?_
    refine lv_aload_n CF.1 CF.2.1 dL_law_1087 rfl (lv_at hl 1 rfl) ?_
    refine lv_iload CF.1 CF.2.1 dL_law_1088 (lv_at hl 6 rfl) ?_
    refine lv_iconst (v := nI 1) CF.1 CF.2.1 dL_law_1090 (by decide) ?_
    refine o_iadd CF dL_law_1091 ?_
    refine x_sld CF hL hS1 (i := 6 * i + 1) (by omega) e_f dL_law_1092 ?_
    refine lv_aload_n CF.1 CF.2.1 dL_law_1093 rfl (lv_at hl 1 rfl) ?_
    refine lv_iload CF.1 CF.2.1 dL_law_1094 (lv_at hl 6 rfl) ?_
    refine lv_iconst (v := nI 2) CF.1 CF.2.1 dL_law_1096 (by decide) ?_
    refine o_iadd CF dL_law_1097 ?_
    refine x_sld CF hL hS1 (i := 6 * i + 2) (by omega) e_t dL_law_1098 ?_
    refine lv_aload_n CF.1 CF.2.1 dL_law_1099 rfl (lv_at hl 1 rfl) ?_
    refine lv_iload CF.1 CF.2.1 dL_law_1100 (lv_at hl 6 rfl) ?_
    refine lv_iconst (v := nI 3) CF.1 CF.2.1 dL_law_1102 (by decide) ?_
    refine o_iadd CF dL_law_1103 ?_
    refine x_sld CF hL hS1 (i := 6 * i + 3) (by omega) e_a dL_law_1104 ?_
    refine k_Mi CF hL hS1 hH1 (As := [.int (nI (f)), .int (nI (t)), .int (nI (a))]) (rest := []) (c1_would l hj1 (b := b) hI hRc1 hRo1 hOi (f := f) (t := t) (a := a) (by omega) (by omega) (by omega)) rfl lk_RL_X1_would rfl hl.1 ⟨Nat.le_of_ble_eq_true rfl, Nat.le_of_ble_eq_true rfl⟩ ⟨Nat.le_trans (by omega) hcs.1, Nat.le_trans (by omega) hcs.2⟩ (Nat.le_of_ble_eq_true rfl) rfl dL_law_1105 (fun r2 τ2 H2 locs hp2 hH2 hS2 => ?_)
    obtain ⟨rfl, hR1, hO1, hT⟩ := hp2
    refine lv_istore (lv' := [(7, .int (nI (if f = t then a else gv b f t a))), (6, .int (nI (0))), (0, .ref (bx)), (1, .ref (ad0 0)), (2, .ref (ad1 0)), (3, .ref (ou)), (4, .ref (od)), (5, .int (nI (6 * i)))]) CF.1 CF.2.1 dL_law_1108 hl (by decide) rfl (fun ls hl => ?_)
    refine lv_aload_n CF.1 CF.2.1 dL_law_1110 rfl (lv_at hl 4 rfl) ?_
    refine c1_i CF hK hH2.2.1 (As := []) (rest := []) (c1_thrown l) rfl lk_RL_X1_thrown rfl hl.1 ⟨Nat.le_of_ble_eq_true rfl, Nat.le_of_ble_eq_true rfl⟩ ⟨Nat.le_trans (by omega) hcs.1, Nat.le_trans (by omega) hcs.2⟩ (Nat.le_of_ble_eq_true rfl) rfl dL_law_1111 (fun r3 hr3 => ?_)
    rw [hT] at hr3
    subst hr3
    refine lv_iload CF.1 CF.2.1 dL_law_1114 (lv_at hl 1 rfl) ?_
    refine z_icmp_eq CF (tgt := 1121) (nIz (by omega)) (nIz (by omega)) dL_law_1116 (by decide) (fun _ => ?_) (fun h => absurd h (by decide))
    refine lv_iload CF.1 CF.2.1 dL_law_1121 (lv_at hl 1 rfl) ?_
    refine z_if_ne CF (tgt := 1138) (nIz (by omega)) dL_law_1123 (by decide) (fun h => absurd h (by decide)) (fun _ => ?_)
    refine lv_aload_n CF.1 CF.2.1 dL_law_1126 rfl (lv_at hl 5 rfl) ?_
    refine lv_iconst (v := nI 0) CF.1 CF.2.1 dL_law_1127 (by decide) ?_
    refine x_lald CF hL hS2 hH2 hv1 dL_law_1128 ?_
    refine lv_iload CF.1 CF.2.1 dL_law_1129 (lv_at hl 0 rfl) ?_
    refine lv_i2l CF.1 CF.2.1 dL_law_1131 rfl ?_
    refine z_lcmp_eq CF (tgt := 1138) rfl rfl dL_law_1132 dL_law_1133 (by decide) (fun h_5 => ?_) (fun h_6 => absurd h_6 (by omega))
    refine lv_goto (tgt := 1448) CF.1 CF.2.1 dL_law_1138 (by decide) ?_
    refine W.widen (k := cells + 2) (n := slots + 11) (by omega) (by omega) ?_
    exact kk (b) _ _ _ _ _ _ ls hH2 hR0 hO0 hR1 hO1 hI hOi hS2 (lv_sub hl [2, 3, 4, 5, 6, 7] rfl)
  · refine lv_aload_n CF.1 CF.2.1 dL_law_1061 rfl (lv_at hl 1 rfl) ?_
    refine lv_aload_n CF.1 CF.2.1 dL_law_1062 rfl (lv_at hl 0 rfl) ?_
    refine lv_iload CF.1 CF.2.1 dL_law_1063 (lv_at hl 5 rfl) ?_
    refine lv_iconst (v := nI 1) CF.1 CF.2.1 dL_law_1065 (by decide) ?_
    refine o_iadd CF dL_law_1066 ?_
    refine x_sld CF hL hS (i := 6 * i + 1) (by omega) rfl dL_law_1067 ?_
    refine lv_aload_n CF.1 CF.2.1 dL_law_1068 rfl (lv_at hl 0 rfl) ?_
    refine lv_iload CF.1 CF.2.1 dL_law_1069 (lv_at hl 5 rfl) ?_
    refine lv_iconst (v := nI 2) CF.1 CF.2.1 dL_law_1071 (by decide) ?_
    refine o_iadd CF dL_law_1072 ?_
    refine x_sld CF hL hS (i := 6 * i + 2) (by omega) rfl dL_law_1073 ?_
    refine lv_aload_n CF.1 CF.2.1 dL_law_1074 rfl (lv_at hl 0 rfl) ?_
    refine lv_iload CF.1 CF.2.1 dL_law_1075 (lv_at hl 5 rfl) ?_
    refine lv_iconst (v := nI 3) CF.1 CF.2.1 dL_law_1077 (by decide) ?_
    refine o_iadd CF dL_law_1078 ?_
    refine x_sld CF hL hS (i := 6 * i + 3) (by omega) rfl dL_law_1079 ?_
    refine lv_aload_n CF.1 CF.2.1 dL_law_1080 rfl (lv_at hl 3 rfl) ?_
    refine k_W CF hL hS hH (As := [.ref (ad0 0), .int (xs (6 * i + 1)), .int (xs (6 * i + 2)), .int (xs (6 * i + 3)), .ref (ou)]) (rest := []) (wb_would l hfl hj0 (b := b) hI hRc0 hRo0 hOi (xs (6 * i + 1)) (xs (6 * i + 2)) (xs (6 * i + 3)) hg d0o) lk_RL_L_would rfl hl.1 ⟨Nat.le_of_ble_eq_true rfl, Nat.le_of_ble_eq_true rfl⟩ ⟨Nat.le_trans (by omega) hcs.1, Nat.le_trans (by omega) hcs.2⟩ (Nat.le_of_ble_eq_true rfl) rfl dL_law_1081 (fun r1 uw H1 locs hp1 hH1 hS1 => ?_)
    obtain ⟨hd1, rfl⟩ := hp1
    have hH1 : LH G cA cL cD ad0 ad1 ou od σ τ fo fd H1 := hH1
    rcases hd1 with ⟨rfl, hc1⟩ | ⟨rfl, hc1⟩
    · refine lv_istore (lv' := [(6, .int (nI (1))), (0, .ref (bx)), (1, .ref (ad0 0)), (2, .ref (ad1 0)), (3, .ref (ou)), (4, .ref (od)), (5, .int (nI (6 * i)))]) CF.1 CF.2.1 dL_law_1084 hl (by decide) rfl (fun ls hl => ?_)
      refine lv_aload_n CF.1 CF.2.1 dL_law_1086 rfl (lv_at hl 3 rfl) ?_
      refine lv_aload_n CF.1 CF.2.1 dL_law_1087 rfl (lv_at hl 1 rfl) ?_
      refine lv_iload CF.1 CF.2.1 dL_law_1088 (lv_at hl 6 rfl) ?_
      refine lv_iconst (v := nI 1) CF.1 CF.2.1 dL_law_1090 (by decide) ?_
      refine o_iadd CF dL_law_1091 ?_
      refine x_sld CF hL hS1 (i := 6 * i + 1) (by omega) rfl dL_law_1092 ?_
      refine lv_aload_n CF.1 CF.2.1 dL_law_1093 rfl (lv_at hl 1 rfl) ?_
      refine lv_iload CF.1 CF.2.1 dL_law_1094 (lv_at hl 6 rfl) ?_
      refine lv_iconst (v := nI 2) CF.1 CF.2.1 dL_law_1096 (by decide) ?_
      refine o_iadd CF dL_law_1097 ?_
      refine x_sld CF hL hS1 (i := 6 * i + 2) (by omega) rfl dL_law_1098 ?_
      refine lv_aload_n CF.1 CF.2.1 dL_law_1099 rfl (lv_at hl 1 rfl) ?_
      refine lv_iload CF.1 CF.2.1 dL_law_1100 (lv_at hl 6 rfl) ?_
      refine lv_iconst (v := nI 3) CF.1 CF.2.1 dL_law_1102 (by decide) ?_
      refine o_iadd CF dL_law_1103 ?_
      refine x_sld CF hL hS1 (i := 6 * i + 3) (by omega) rfl dL_law_1104 ?_
      refine k_Mi CF hL hS1 hH1 (As := [.int (xs (6 * i + 1)), .int (xs (6 * i + 2)), .int (xs (6 * i + 3))]) (rest := []) (b1_would l hj1 (b := b) hI hRc1 hRo1 hOi (xs (6 * i + 1)) (xs (6 * i + 2)) (xs (6 * i + 3)) hg) rfl lk_RL_X1_would rfl hl.1 ⟨Nat.le_of_ble_eq_true rfl, Nat.le_of_ble_eq_true rfl⟩ ⟨Nat.le_trans (by omega) hcs.1, Nat.le_trans (by omega) hcs.2⟩ (Nat.le_of_ble_eq_true rfl) rfl dL_law_1105 (fun r2 τ2 H2 locs hp2 hH2 hS2 => ?_)
      obtain ⟨hR1, hO1, hd2⟩ := hp2
      rcases hd2 with ⟨hT, hc2⟩ | ⟨hT, hc2⟩
      · refine lv_istore (lv' := [(7, .int (r2)), (6, .int (nI (1))), (0, .ref (bx)), (1, .ref (ad0 0)), (2, .ref (ad1 0)), (3, .ref (ou)), (4, .ref (od)), (5, .int (nI (6 * i)))]) CF.1 CF.2.1 dL_law_1108 hl (by decide) rfl (fun ls hl => ?_)
        refine lv_aload_n CF.1 CF.2.1 dL_law_1110 rfl (lv_at hl 4 rfl) ?_
        refine c1_i CF hK hH2.2.1 (As := []) (rest := []) (c1_thrown l) rfl lk_RL_X1_thrown rfl hl.1 ⟨Nat.le_of_ble_eq_true rfl, Nat.le_of_ble_eq_true rfl⟩ ⟨Nat.le_trans (by omega) hcs.1, Nat.le_trans (by omega) hcs.2⟩ (Nat.le_of_ble_eq_true rfl) rfl dL_law_1111 (fun r3 hr3 => ?_)
        rw [hT] at hr3
        subst hr3
        refine lv_iload CF.1 CF.2.1 dL_law_1114 (lv_at hl 1 rfl) ?_
        refine z_icmp_eq CF (tgt := 1121) (nIz (by omega)) (nIz (by omega)) dL_law_1116 (by decide) (fun _ => ?_) (fun h => absurd h (by decide))
        refine lv_iload CF.1 CF.2.1 dL_law_1121 (lv_at hl 1 rfl) ?_
        refine z_if_ne CF (tgt := 1138) (nIz (by omega)) dL_law_1123 (by decide) (fun _ => ?_) (fun h => absurd h (by decide))
        refine lv_goto (tgt := 1448) CF.1 CF.2.1 dL_law_1138 (by decide) ?_
        refine W.widen (k := cells + 2) (n := slots + 11) (by omega) (by omega) ?_
        exact kk (b) _ _ _ _ _ _ ls hH2 hRc0 hRo0 hR1 hO1 hI hOi hS2 (lv_sub hl [2, 3, 4, 5, 6, 7] rfl)
      · exact (show False by omega).elim
    · refine lv_istore (lv' := [(6, .int (nI (2))), (0, .ref (bx)), (1, .ref (ad0 0)), (2, .ref (ad1 0)), (3, .ref (ou)), (4, .ref (od)), (5, .int (nI (6 * i)))]) CF.1 CF.2.1 dL_law_1084 hl (by decide) rfl (fun ls hl => ?_)
      refine lv_aload_n CF.1 CF.2.1 dL_law_1086 rfl (lv_at hl 3 rfl) ?_
      refine lv_aload_n CF.1 CF.2.1 dL_law_1087 rfl (lv_at hl 1 rfl) ?_
      refine lv_iload CF.1 CF.2.1 dL_law_1088 (lv_at hl 6 rfl) ?_
      refine lv_iconst (v := nI 1) CF.1 CF.2.1 dL_law_1090 (by decide) ?_
      refine o_iadd CF dL_law_1091 ?_
      refine x_sld CF hL hS1 (i := 6 * i + 1) (by omega) rfl dL_law_1092 ?_
      refine lv_aload_n CF.1 CF.2.1 dL_law_1093 rfl (lv_at hl 1 rfl) ?_
      refine lv_iload CF.1 CF.2.1 dL_law_1094 (lv_at hl 6 rfl) ?_
      refine lv_iconst (v := nI 2) CF.1 CF.2.1 dL_law_1096 (by decide) ?_
      refine o_iadd CF dL_law_1097 ?_
      refine x_sld CF hL hS1 (i := 6 * i + 2) (by omega) rfl dL_law_1098 ?_
      refine lv_aload_n CF.1 CF.2.1 dL_law_1099 rfl (lv_at hl 1 rfl) ?_
      refine lv_iload CF.1 CF.2.1 dL_law_1100 (lv_at hl 6 rfl) ?_
      refine lv_iconst (v := nI 3) CF.1 CF.2.1 dL_law_1102 (by decide) ?_
      refine o_iadd CF dL_law_1103 ?_
      refine x_sld CF hL hS1 (i := 6 * i + 3) (by omega) rfl dL_law_1104 ?_
      refine k_Mi CF hL hS1 hH1 (As := [.int (xs (6 * i + 1)), .int (xs (6 * i + 2)), .int (xs (6 * i + 3))]) (rest := []) (b1_would l hj1 (b := b) hI hRc1 hRo1 hOi (xs (6 * i + 1)) (xs (6 * i + 2)) (xs (6 * i + 3)) hg) rfl lk_RL_X1_would rfl hl.1 ⟨Nat.le_of_ble_eq_true rfl, Nat.le_of_ble_eq_true rfl⟩ ⟨Nat.le_trans (by omega) hcs.1, Nat.le_trans (by omega) hcs.2⟩ (Nat.le_of_ble_eq_true rfl) rfl dL_law_1105 (fun r2 τ2 H2 locs hp2 hH2 hS2 => ?_)
      obtain ⟨hR1, hO1, hd2⟩ := hp2
      rcases hd2 with ⟨hT, hc2⟩ | ⟨hT, hc2⟩
      · exact (show False by omega).elim
      · refine lv_istore (lv' := [(7, .int (r2)), (6, .int (nI (2))), (0, .ref (bx)), (1, .ref (ad0 0)), (2, .ref (ad1 0)), (3, .ref (ou)), (4, .ref (od)), (5, .int (nI (6 * i)))]) CF.1 CF.2.1 dL_law_1108 hl (by decide) rfl (fun ls hl => ?_)
        refine lv_aload_n CF.1 CF.2.1 dL_law_1110 rfl (lv_at hl 4 rfl) ?_
        refine c1_i CF hK hH2.2.1 (As := []) (rest := []) (c1_thrown l) rfl lk_RL_X1_thrown rfl hl.1 ⟨Nat.le_of_ble_eq_true rfl, Nat.le_of_ble_eq_true rfl⟩ ⟨Nat.le_trans (by omega) hcs.1, Nat.le_trans (by omega) hcs.2⟩ (Nat.le_of_ble_eq_true rfl) rfl dL_law_1111 (fun r3 hr3 => ?_)
        rw [hT] at hr3
        subst hr3
        refine lv_iload CF.1 CF.2.1 dL_law_1114 (lv_at hl 1 rfl) ?_
        refine z_icmp_eq CF (tgt := 1121) (nIz (by omega)) (nIz (by omega)) dL_law_1116 (by decide) (fun _ => ?_) (fun h => absurd h (by decide))
        refine lv_iload CF.1 CF.2.1 dL_law_1121 (lv_at hl 1 rfl) ?_
        refine z_if_ne CF (tgt := 1138) (nIz (by omega)) dL_law_1123 (by decide) (fun _ => ?_) (fun h => absurd h (by decide))
        refine lv_goto (tgt := 1448) CF.1 CF.2.1 dL_law_1138 (by decide) ?_
        refine W.widen (k := cells + 2) (n := slots + 11) (by omega) (by omega) ?_
        exact kk (b) _ _ _ _ _ _ ls hH2 hRc0 hRo0 hR1 hO1 hI hOi hS2 (lv_sub hl [2, 3, 4, 5, 6, 7] rfl)
set_option maxHeartbeats 1000000 in
set_option maxRecDepth 100000 in
theorem op_way {p : Program} {l : Launch} {e : Env} {s : State} {m : MethodId} {args : Array Value} {below : List Frame} {meth : Method} {c : Code} {H : Heap} {locs : List Loc} {cells slots : Nat} {Q : State → Prop} {ls : Array Slot} {G : va_G} {cA cL cD : ClassId} {ad0 ad1 : Nat → Nat} {σ τ : RS} {fo : Nat → Int64} {fd : Nat → UInt64} {ou od bx L : Nat} {xs : Nat → Int32} {b : BS} (CF : CallFix p m c cL_law 9 s args AW RL) (hL : LX l G cA cL cD ad0 ad1 ou od bx L xs s) (hS : va_S (AL s) s.heap H locs) (hH : LH G cA cL cD ad0 ad1 ou od σ τ fo fd H) (hRc0 : Rc σ b) (hRo0 : Ro σ b) (hRc1 : Rc τ b) (hRo1 : Ro τ b) (hI : InvC b) (hOi : InvO b) {i : Nat} (hi : 6 * i + 6 ≤ L) (hl : lv_has ls 9 [(0, .ref (bx)), (1, .ref (ad0 0)), (2, .ref (ad1 0)), (3, .ref (ou)), (4, .ref (od)), (5, .int (nI (6 * i)))]) (hcs : cells + 2 ≤ 656478 ∧ slots + 11 ≤ 7126671) (kk : ∀ (b' : BS) (σ' τ' : RS) (fo' : Nat → Int64) (fd' : Nat → UInt64) (H' : Heap) (locs' : List Loc) (ls' : Array Slot), LH G cA cL cD ad0 ad1 ou od σ' τ' fo' fd' H' → Rc σ' b' → Ro σ' b' → Rc τ' b' → Ro τ' b' → InvC b' → InvO b' → va_S (AL s) s.heap H' locs' → lv_has ls' 9 [(0, .ref (bx)), (1, .ref (ad0 0)), (2, .ref (ad1 0)), (3, .ref (ou)), (4, .ref (od)), (5, .int (nI (6 * i)))] → W p l e room_1 s m args below meth c H' locs' (cells + 2) (slots + 11) Q (F0 m 1448 ls' [])) : W p l e room_1 s m args below meth c H locs cells slots Q (F0 m 1141 ls []) := by
  obtain ⟨hX, hbl, hK, hKL, hKD, hE, hj0, hj1, ha0, ha1, hou, hod, d01, d0o, d1o, d0d, d1d, dod, hfl, hL3⟩ := id hL
  have i_cu := hI.2.1
  have hw10 := hOi.1
  by_cases hg : 0 ≤ (xs (6 * i + 1)).toInt ∧ (xs (6 * i + 1)).toInt < 5 ∧ 0 ≤ (xs (6 * i + 2)).toInt ∧ (xs (6 * i + 2)).toInt < 5 ∧ (xs (6 * i + 1)).toInt ≠ (xs (6 * i + 2)).toInt ∧ 0 ≤ (xs (6 * i + 3)).toInt ∧ (xs (6 * i + 3)).toInt ≤ 99999
  · obtain ⟨f, h_f, e_f⟩ := nI_ex (x := xs (6 * i + 1)) (n := 5) (by omega) (by omega)
    obtain ⟨t, h_t, e_t⟩ := nI_ex (x := xs (6 * i + 2)) (n := 5) (by omega) (by omega)
    obtain ⟨a, h_a, e_a⟩ := nI_ex (x := xs (6 * i + 3)) (n := 100000) (by omega) (by omega)
    rw [e_f, e_t, e_a] at hg
    have z_f := nIz (n := f) (by omega)
    have z_t := nIz (n := t) (by omega)
    have z_a := nIz (n := a) (by omega)
    refine lv_aload_n CF.1 CF.2.1 dL_law_1141 rfl (lv_at hl 1 rfl) ?_
    refine lv_aload_n CF.1 CF.2.1 dL_law_1142 rfl (lv_at hl 0 rfl) ?_
    refine lv_iload CF.1 CF.2.1 dL_law_1143 (lv_at hl 5 rfl) ?_
    refine lv_iconst (v := nI 1) CF.1 CF.2.1 dL_law_1145 (by decide) ?_
    refine o_iadd CF dL_law_1146 ?_
    refine x_sld CF hL hS (i := 6 * i + 1) (by omega) e_f dL_law_1147 ?_
    refine lv_aload_n CF.1 CF.2.1 dL_law_1148 rfl (lv_at hl 0 rfl) ?_
    refine lv_iload CF.1 CF.2.1 dL_law_1149 (lv_at hl 5 rfl) ?_
    refine lv_iconst (v := nI 2) CF.1 CF.2.1 dL_law_1151 (by decide) ?_
    refine o_iadd CF dL_law_1152 ?_
    refine x_sld CF hL hS (i := 6 * i + 2) (by omega) e_t dL_law_1153 ?_
    refine lv_aload_n CF.1 CF.2.1 dL_law_1154 rfl (lv_at hl 0 rfl) ?_
    refine lv_iload CF.1 CF.2.1 dL_law_1155 (lv_at hl 5 rfl) ?_
    refine lv_iconst (v := nI 3) CF.1 CF.2.1 dL_law_1157 (by decide) ?_
    refine o_iadd CF dL_law_1158 ?_
    refine x_sld CF hL hS (i := 6 * i + 3) (by omega) e_a dL_law_1159 ?_
    refine lv_aload_n CF.1 CF.2.1 dL_law_1160 rfl (lv_at hl 3 rfl) ?_
    refine k_W CF hL hS hH (As := [.ref (ad0 0), .int (nI (f)), .int (nI (t)), .int (nI (a)), .ref (ou)]) (rest := []) (wk_way l hj0 (b := b) hI hRc0 hRo0 hOi (f := f) (t := t) (a := a) (by omega) (by omega) (by omega) (by omega) d0o) lk_RL_L_way rfl hl.1 ⟨Nat.le_of_ble_eq_true rfl, Nat.le_of_ble_eq_true rfl⟩ ⟨Nat.le_trans (by omega) hcs.1, Nat.le_trans (by omega) hcs.2⟩ (Nat.le_of_ble_eq_true rfl) rfl dL_law_1161 (fun r1 uw H1 locs hp1 hH1 hS1 => ?_)
    obtain ⟨rfl, hv1, hR0, hO0⟩ := hp1
    refine lv_istore (lv' := [(6, .int (nI (0))), (0, .ref (bx)), (1, .ref (ad0 0)), (2, .ref (ad1 0)), (3, .ref (ou)), (4, .ref (od)), (5, .int (nI (6 * i)))]) CF.1 CF.2.1 dL_law_1164 hl (by decide) rfl (fun ls hl => ?_)
    refine lv_aload_n CF.1 CF.2.1 dL_law_1166 rfl (lv_at hl 3 rfl) ?_
    refine lv_aload_n CF.1 CF.2.1 dL_law_1167 rfl (lv_at hl 1 rfl) ?_
    refine lv_iload CF.1 CF.2.1 dL_law_1168 (lv_at hl 6 rfl) ?_
    refine lv_iconst (v := nI 1) CF.1 CF.2.1 dL_law_1170 (by decide) ?_
    refine o_iadd CF dL_law_1171 ?_
    refine x_sld CF hL hS1 (i := 6 * i + 1) (by omega) e_f dL_law_1172 ?_
    refine lv_aload_n CF.1 CF.2.1 dL_law_1173 rfl (lv_at hl 1 rfl) ?_
    refine lv_iload CF.1 CF.2.1 dL_law_1174 (lv_at hl 6 rfl) ?_
    refine lv_iconst (v := nI 2) CF.1 CF.2.1 dL_law_1176 (by decide) ?_
    refine o_iadd CF dL_law_1177 ?_
    refine x_sld CF hL hS1 (i := 6 * i + 2) (by omega) e_t dL_law_1178 ?_
    refine lv_aload_n CF.1 CF.2.1 dL_law_1179 rfl (lv_at hl 1 rfl) ?_
    refine lv_iload CF.1 CF.2.1 dL_law_1180 (lv_at hl 6 rfl) ?_
    refine lv_iconst (v := nI 3) CF.1 CF.2.1 dL_law_1182 (by decide) ?_
    refine o_iadd CF dL_law_1183 ?_
    refine x_sld CF hL hS1 (i := 6 * i + 3) (by omega) e_a dL_law_1184 ?_
    refine k_Mi CF hL hS1 hH1 (As := [.int (nI (f)), .int (nI (t)), .int (nI (a))]) (rest := []) (c1_way l hj1 (b := b) hI hRc1 hRo1 hOi (f := f) (t := t) (a := a) (by omega) (by omega) (by omega) (by omega)) rfl lk_RL_X1_way rfl hl.1 ⟨Nat.le_of_ble_eq_true rfl, Nat.le_of_ble_eq_true rfl⟩ ⟨Nat.le_trans (by omega) hcs.1, Nat.le_trans (by omega) hcs.2⟩ (Nat.le_of_ble_eq_true rfl) rfl dL_law_1185 (fun r2 τ2 H2 locs hp2 hH2 hS2 => ?_)
    obtain ⟨rfl, hR1, hO1, hT⟩ := hp2
    rw [mag_mst (b := b) (goal := t) (by omega) 4 f a (2 ^ f) (Nat.lt_of_lt_of_le (Nat.pow_lt_pow_right (show 1 < 2 by omega) h_f) (by decide))] at hv1
    refine lv_istore (lv' := [(7, .int (nI (mst b t 4 f a (2 ^ f)))), (6, .int (nI (0))), (0, .ref (bx)), (1, .ref (ad0 0)), (2, .ref (ad1 0)), (3, .ref (ou)), (4, .ref (od)), (5, .int (nI (6 * i)))]) CF.1 CF.2.1 dL_law_1188 hl (by decide) rfl (fun ls hl => ?_)
    refine lv_aload_n CF.1 CF.2.1 dL_law_1190 rfl (lv_at hl 4 rfl) ?_
    refine c1_i CF hK hH2.2.1 (As := []) (rest := []) (c1_thrown l) rfl lk_RL_X1_thrown rfl hl.1 ⟨Nat.le_of_ble_eq_true rfl, Nat.le_of_ble_eq_true rfl⟩ ⟨Nat.le_trans (by omega) hcs.1, Nat.le_trans (by omega) hcs.2⟩ (Nat.le_of_ble_eq_true rfl) rfl dL_law_1191 (fun r3 hr3 => ?_)
    rw [hT] at hr3
    subst hr3
    refine lv_iload CF.1 CF.2.1 dL_law_1194 (lv_at hl 1 rfl) ?_
    refine z_icmp_eq CF (tgt := 1201) (nIz (by omega)) (nIz (by omega)) dL_law_1196 (by decide) (fun _ => ?_) (fun h => absurd h (by decide))
    refine lv_iload CF.1 CF.2.1 dL_law_1201 (lv_at hl 1 rfl) ?_
    refine z_if_ne CF (tgt := 1218) (nIz (by omega)) dL_law_1203 (by decide) (fun h => absurd h (by decide)) (fun _ => ?_)
    refine lv_aload_n CF.1 CF.2.1 dL_law_1206 rfl (lv_at hl 5 rfl) ?_
    refine lv_iconst (v := nI 0) CF.1 CF.2.1 dL_law_1207 (by decide) ?_
    refine x_lald CF hL hS2 hH2 hv1 dL_law_1208 ?_
    refine lv_iload CF.1 CF.2.1 dL_law_1209 (lv_at hl 0 rfl) ?_
    refine lv_i2l CF.1 CF.2.1 dL_law_1211 rfl ?_
    refine z_lcmp_eq CF (tgt := 1218) rfl rfl dL_law_1212 dL_law_1213 (by decide) (fun h_5 => ?_) (fun h_6 => absurd h_6 (by omega))
    refine lv_goto (tgt := 1448) CF.1 CF.2.1 dL_law_1218 (by decide) ?_
    refine W.widen (k := cells + 2) (n := slots + 11) (by omega) (by omega) ?_
    exact kk (b) _ _ _ _ _ _ ls hH2 hR0 hO0 hR1 hO1 hI hOi hS2 (lv_sub hl [2, 3, 4, 5, 6, 7] rfl)
  · refine lv_aload_n CF.1 CF.2.1 dL_law_1141 rfl (lv_at hl 1 rfl) ?_
    refine lv_aload_n CF.1 CF.2.1 dL_law_1142 rfl (lv_at hl 0 rfl) ?_
    refine lv_iload CF.1 CF.2.1 dL_law_1143 (lv_at hl 5 rfl) ?_
    refine lv_iconst (v := nI 1) CF.1 CF.2.1 dL_law_1145 (by decide) ?_
    refine o_iadd CF dL_law_1146 ?_
    refine x_sld CF hL hS (i := 6 * i + 1) (by omega) rfl dL_law_1147 ?_
    refine lv_aload_n CF.1 CF.2.1 dL_law_1148 rfl (lv_at hl 0 rfl) ?_
    refine lv_iload CF.1 CF.2.1 dL_law_1149 (lv_at hl 5 rfl) ?_
    refine lv_iconst (v := nI 2) CF.1 CF.2.1 dL_law_1151 (by decide) ?_
    refine o_iadd CF dL_law_1152 ?_
    refine x_sld CF hL hS (i := 6 * i + 2) (by omega) rfl dL_law_1153 ?_
    refine lv_aload_n CF.1 CF.2.1 dL_law_1154 rfl (lv_at hl 0 rfl) ?_
    refine lv_iload CF.1 CF.2.1 dL_law_1155 (lv_at hl 5 rfl) ?_
    refine lv_iconst (v := nI 3) CF.1 CF.2.1 dL_law_1157 (by decide) ?_
    refine o_iadd CF dL_law_1158 ?_
    refine x_sld CF hL hS (i := 6 * i + 3) (by omega) rfl dL_law_1159 ?_
    refine lv_aload_n CF.1 CF.2.1 dL_law_1160 rfl (lv_at hl 3 rfl) ?_
    refine k_W CF hL hS hH (As := [.ref (ad0 0), .int (xs (6 * i + 1)), .int (xs (6 * i + 2)), .int (xs (6 * i + 3)), .ref (ou)]) (rest := []) (wb_way l hfl hj0 (b := b) hI hRc0 hRo0 hOi (xs (6 * i + 1)) (xs (6 * i + 2)) (xs (6 * i + 3)) hg d0o) lk_RL_L_way rfl hl.1 ⟨Nat.le_of_ble_eq_true rfl, Nat.le_of_ble_eq_true rfl⟩ ⟨Nat.le_trans (by omega) hcs.1, Nat.le_trans (by omega) hcs.2⟩ (Nat.le_of_ble_eq_true rfl) rfl dL_law_1161 (fun r1 uw H1 locs hp1 hH1 hS1 => ?_)
    obtain ⟨hd1, rfl⟩ := hp1
    have hH1 : LH G cA cL cD ad0 ad1 ou od σ τ fo fd H1 := hH1
    rcases hd1 with ⟨rfl, hc1⟩ | ⟨rfl, hc1⟩
    · refine lv_istore (lv' := [(6, .int (nI (1))), (0, .ref (bx)), (1, .ref (ad0 0)), (2, .ref (ad1 0)), (3, .ref (ou)), (4, .ref (od)), (5, .int (nI (6 * i)))]) CF.1 CF.2.1 dL_law_1164 hl (by decide) rfl (fun ls hl => ?_)
      refine lv_aload_n CF.1 CF.2.1 dL_law_1166 rfl (lv_at hl 3 rfl) ?_
      refine lv_aload_n CF.1 CF.2.1 dL_law_1167 rfl (lv_at hl 1 rfl) ?_
      refine lv_iload CF.1 CF.2.1 dL_law_1168 (lv_at hl 6 rfl) ?_
      refine lv_iconst (v := nI 1) CF.1 CF.2.1 dL_law_1170 (by decide) ?_
      refine o_iadd CF dL_law_1171 ?_
      refine x_sld CF hL hS1 (i := 6 * i + 1) (by omega) rfl dL_law_1172 ?_
      refine lv_aload_n CF.1 CF.2.1 dL_law_1173 rfl (lv_at hl 1 rfl) ?_
      refine lv_iload CF.1 CF.2.1 dL_law_1174 (lv_at hl 6 rfl) ?_
      refine lv_iconst (v := nI 2) CF.1 CF.2.1 dL_law_1176 (by decide) ?_
      refine o_iadd CF dL_law_1177 ?_
      refine x_sld CF hL hS1 (i := 6 * i + 2) (by omega) rfl dL_law_1178 ?_
      refine lv_aload_n CF.1 CF.2.1 dL_law_1179 rfl (lv_at hl 1 rfl) ?_
      refine lv_iload CF.1 CF.2.1 dL_law_1180 (lv_at hl 6 rfl) ?_
      refine lv_iconst (v := nI 3) CF.1 CF.2.1 dL_law_1182 (by decide) ?_
      refine o_iadd CF dL_law_1183 ?_
      refine x_sld CF hL hS1 (i := 6 * i + 3) (by omega) rfl dL_law_1184 ?_
      refine k_Mi CF hL hS1 hH1 (As := [.int (xs (6 * i + 1)), .int (xs (6 * i + 2)), .int (xs (6 * i + 3))]) (rest := []) (b1_way l hj1 (b := b) hI hRc1 hRo1 hOi (xs (6 * i + 1)) (xs (6 * i + 2)) (xs (6 * i + 3)) hg) rfl lk_RL_X1_way rfl hl.1 ⟨Nat.le_of_ble_eq_true rfl, Nat.le_of_ble_eq_true rfl⟩ ⟨Nat.le_trans (by omega) hcs.1, Nat.le_trans (by omega) hcs.2⟩ (Nat.le_of_ble_eq_true rfl) rfl dL_law_1185 (fun r2 τ2 H2 locs hp2 hH2 hS2 => ?_)
      obtain ⟨hR1, hO1, hd2⟩ := hp2
      rcases hd2 with ⟨hT, hc2⟩ | ⟨hT, hc2⟩
      · refine lv_istore (lv' := [(7, .int (r2)), (6, .int (nI (1))), (0, .ref (bx)), (1, .ref (ad0 0)), (2, .ref (ad1 0)), (3, .ref (ou)), (4, .ref (od)), (5, .int (nI (6 * i)))]) CF.1 CF.2.1 dL_law_1188 hl (by decide) rfl (fun ls hl => ?_)
        refine lv_aload_n CF.1 CF.2.1 dL_law_1190 rfl (lv_at hl 4 rfl) ?_
        refine c1_i CF hK hH2.2.1 (As := []) (rest := []) (c1_thrown l) rfl lk_RL_X1_thrown rfl hl.1 ⟨Nat.le_of_ble_eq_true rfl, Nat.le_of_ble_eq_true rfl⟩ ⟨Nat.le_trans (by omega) hcs.1, Nat.le_trans (by omega) hcs.2⟩ (Nat.le_of_ble_eq_true rfl) rfl dL_law_1191 (fun r3 hr3 => ?_)
        rw [hT] at hr3
        subst hr3
        refine lv_iload CF.1 CF.2.1 dL_law_1194 (lv_at hl 1 rfl) ?_
        refine z_icmp_eq CF (tgt := 1201) (nIz (by omega)) (nIz (by omega)) dL_law_1196 (by decide) (fun _ => ?_) (fun h => absurd h (by decide))
        refine lv_iload CF.1 CF.2.1 dL_law_1201 (lv_at hl 1 rfl) ?_
        refine z_if_ne CF (tgt := 1218) (nIz (by omega)) dL_law_1203 (by decide) (fun _ => ?_) (fun h => absurd h (by decide))
        refine lv_goto (tgt := 1448) CF.1 CF.2.1 dL_law_1218 (by decide) ?_
        refine W.widen (k := cells + 2) (n := slots + 11) (by omega) (by omega) ?_
        exact kk (b) _ _ _ _ _ _ ls hH2 hRc0 hRo0 hR1 hO1 hI hOi hS2 (lv_sub hl [2, 3, 4, 5, 6, 7] rfl)
      · exact (show False by omega).elim
    · refine lv_istore (lv' := [(6, .int (nI (2))), (0, .ref (bx)), (1, .ref (ad0 0)), (2, .ref (ad1 0)), (3, .ref (ou)), (4, .ref (od)), (5, .int (nI (6 * i)))]) CF.1 CF.2.1 dL_law_1164 hl (by decide) rfl (fun ls hl => ?_)
      refine lv_aload_n CF.1 CF.2.1 dL_law_1166 rfl (lv_at hl 3 rfl) ?_
      refine lv_aload_n CF.1 CF.2.1 dL_law_1167 rfl (lv_at hl 1 rfl) ?_
      refine lv_iload CF.1 CF.2.1 dL_law_1168 (lv_at hl 6 rfl) ?_
      refine lv_iconst (v := nI 1) CF.1 CF.2.1 dL_law_1170 (by decide) ?_
      refine o_iadd CF dL_law_1171 ?_
      refine x_sld CF hL hS1 (i := 6 * i + 1) (by omega) rfl dL_law_1172 ?_
      refine lv_aload_n CF.1 CF.2.1 dL_law_1173 rfl (lv_at hl 1 rfl) ?_
      refine lv_iload CF.1 CF.2.1 dL_law_1174 (lv_at hl 6 rfl) ?_
      refine lv_iconst (v := nI 2) CF.1 CF.2.1 dL_law_1176 (by decide) ?_
      refine o_iadd CF dL_law_1177 ?_
      refine x_sld CF hL hS1 (i := 6 * i + 2) (by omega) rfl dL_law_1178 ?_
      refine lv_aload_n CF.1 CF.2.1 dL_law_1179 rfl (lv_at hl 1 rfl) ?_
      refine lv_iload CF.1 CF.2.1 dL_law_1180 (lv_at hl 6 rfl) ?_
      refine lv_iconst (v := nI 3) CF.1 CF.2.1 dL_law_1182 (by decide) ?_
      refine o_iadd CF dL_law_1183 ?_
      refine x_sld CF hL hS1 (i := 6 * i + 3) (by omega) rfl dL_law_1184 ?_
      refine k_Mi CF hL hS1 hH1 (As := [.int (xs (6 * i + 1)), .int (xs (6 * i + 2)), .int (xs (6 * i + 3))]) (rest := []) (b1_way l hj1 (b := b) hI hRc1 hRo1 hOi (xs (6 * i + 1)) (xs (6 * i + 2)) (xs (6 * i + 3)) hg) rfl lk_RL_X1_way rfl hl.1 ⟨Nat.le_of_ble_eq_true rfl, Nat.le_of_ble_eq_true rfl⟩ ⟨Nat.le_trans (by omega) hcs.1, Nat.le_trans (by omega) hcs.2⟩ (Nat.le_of_ble_eq_true rfl) rfl dL_law_1185 (fun r2 τ2 H2 locs hp2 hH2 hS2 => ?_)
      obtain ⟨hR1, hO1, hd2⟩ := hp2
      rcases hd2 with ⟨hT, hc2⟩ | ⟨hT, hc2⟩
      · exact (show False by omega).elim
      · refine lv_istore (lv' := [(7, .int (r2)), (6, .int (nI (2))), (0, .ref (bx)), (1, .ref (ad0 0)), (2, .ref (ad1 0)), (3, .ref (ou)), (4, .ref (od)), (5, .int (nI (6 * i)))]) CF.1 CF.2.1 dL_law_1188 hl (by decide) rfl (fun ls hl => ?_)
        refine lv_aload_n CF.1 CF.2.1 dL_law_1190 rfl (lv_at hl 4 rfl) ?_
        refine c1_i CF hK hH2.2.1 (As := []) (rest := []) (c1_thrown l) rfl lk_RL_X1_thrown rfl hl.1 ⟨Nat.le_of_ble_eq_true rfl, Nat.le_of_ble_eq_true rfl⟩ ⟨Nat.le_trans (by omega) hcs.1, Nat.le_trans (by omega) hcs.2⟩ (Nat.le_of_ble_eq_true rfl) rfl dL_law_1191 (fun r3 hr3 => ?_)
        rw [hT] at hr3
        subst hr3
        refine lv_iload CF.1 CF.2.1 dL_law_1194 (lv_at hl 1 rfl) ?_
        refine z_icmp_eq CF (tgt := 1201) (nIz (by omega)) (nIz (by omega)) dL_law_1196 (by decide) (fun _ => ?_) (fun h => absurd h (by decide))
        refine lv_iload CF.1 CF.2.1 dL_law_1201 (lv_at hl 1 rfl) ?_
        refine z_if_ne CF (tgt := 1218) (nIz (by omega)) dL_law_1203 (by decide) (fun _ => ?_) (fun h => absurd h (by decide))
        refine lv_goto (tgt := 1448) CF.1 CF.2.1 dL_law_1218 (by decide) ?_
        refine W.widen (k := cells + 2) (n := slots + 11) (by omega) (by omega) ?_
        exact kk (b) _ _ _ _ _ _ ls hH2 hRc0 hRo0 hR1 hO1 hI hOi hS2 (lv_sub hl [2, 3, 4, 5, 6, 7] rfl)
set_option maxHeartbeats 1000000 in
set_option maxRecDepth 100000 in
theorem op_ring {p : Program} {l : Launch} {e : Env} {s : State} {m : MethodId} {args : Array Value} {below : List Frame} {meth : Method} {c : Code} {H : Heap} {locs : List Loc} {cells slots : Nat} {Q : State → Prop} {ls : Array Slot} {G : va_G} {cA cL cD : ClassId} {ad0 ad1 : Nat → Nat} {σ τ : RS} {fo : Nat → Int64} {fd : Nat → UInt64} {ou od bx L : Nat} {xs : Nat → Int32} {b : BS} (CF : CallFix p m c cL_law 9 s args AW RL) (hL : LX l G cA cL cD ad0 ad1 ou od bx L xs s) (hS : va_S (AL s) s.heap H locs) (hH : LH G cA cL cD ad0 ad1 ou od σ τ fo fd H) (hRc0 : Rc σ b) (hRo0 : Ro σ b) (hRc1 : Rc τ b) (hRo1 : Ro τ b) (hI : InvC b) (hOi : InvO b) {i : Nat} (hi : 6 * i + 6 ≤ L) (hl : lv_has ls 9 [(0, .ref (bx)), (1, .ref (ad0 0)), (2, .ref (ad1 0)), (3, .ref (ou)), (4, .ref (od)), (5, .int (nI (6 * i)))]) (hcs : cells + 2 ≤ 656478 ∧ slots + 11 ≤ 7126671) (kk : ∀ (b' : BS) (σ' τ' : RS) (fo' : Nat → Int64) (fd' : Nat → UInt64) (H' : Heap) (locs' : List Loc) (ls' : Array Slot), LH G cA cL cD ad0 ad1 ou od σ' τ' fo' fd' H' → Rc σ' b' → Ro σ' b' → Rc τ' b' → Ro τ' b' → InvC b' → InvO b' → va_S (AL s) s.heap H' locs' → lv_has ls' 9 [(0, .ref (bx)), (1, .ref (ad0 0)), (2, .ref (ad1 0)), (3, .ref (ou)), (4, .ref (od)), (5, .int (nI (6 * i)))] → W p l e room_1 s m args below meth c H' locs' (cells + 2) (slots + 11) Q (F0 m 1448 ls' [])) : W p l e room_1 s m args below meth c H locs cells slots Q (F0 m 1221 ls []) := by
  obtain ⟨hX, hbl, hK, hKL, hKD, hE, hj0, hj1, ha0, ha1, hou, hod, d01, d0o, d1o, d0d, d1d, dod, hfl, hL3⟩ := id hL
  have i_cu := hI.2.1
  have hw10 := hOi.1
  by_cases hg : 0 ≤ (xs (6 * i + 1)).toInt ∧ (xs (6 * i + 1)).toInt < 5 ∧ 0 ≤ (xs (6 * i + 2)).toInt ∧ (xs (6 * i + 2)).toInt ≤ 99999
  · obtain ⟨f, h_f, e_f⟩ := nI_ex (x := xs (6 * i + 1)) (n := 5) (by omega) (by omega)
    obtain ⟨a, h_a, e_a⟩ := nI_ex (x := xs (6 * i + 2)) (n := 100000) (by omega) (by omega)
    rw [e_f, e_a] at hg
    have z_f := nIz (n := f) (by omega)
    have z_a := nIz (n := a) (by omega)
    refine lv_aload_n CF.1 CF.2.1 dL_law_1221 rfl (lv_at hl 1 rfl) ?_
    refine lv_aload_n CF.1 CF.2.1 dL_law_1222 rfl (lv_at hl 0 rfl) ?_
    refine lv_iload CF.1 CF.2.1 dL_law_1223 (lv_at hl 5 rfl) ?_
    refine lv_iconst (v := nI 1) CF.1 CF.2.1 dL_law_1225 (by decide) ?_
    refine o_iadd CF dL_law_1226 ?_
    refine x_sld CF hL hS (i := 6 * i + 1) (by omega) e_f dL_law_1227 ?_
    refine lv_aload_n CF.1 CF.2.1 dL_law_1228 rfl (lv_at hl 0 rfl) ?_
    refine lv_iload CF.1 CF.2.1 dL_law_1229 (lv_at hl 5 rfl) ?_
    refine lv_iconst (v := nI 2) CF.1 CF.2.1 dL_law_1231 (by decide) ?_
    refine o_iadd CF dL_law_1232 ?_
    refine x_sld CF hL hS (i := 6 * i + 2) (by omega) e_a dL_law_1233 ?_
    refine lv_aload_n CF.1 CF.2.1 dL_law_1234 rfl (lv_at hl 3 rfl) ?_
    refine k_W CF hL hS hH (As := [.ref (ad0 0), .int (nI (f)), .int (nI (a)), .ref (ou)]) (rest := []) (wk_ring l hj0 (b := b) hI hRc0 hRo0 hOi (f := f) (a := a) (by omega) (by omega) d0o) lk_RL_L_ring rfl hl.1 ⟨Nat.le_of_ble_eq_true rfl, Nat.le_of_ble_eq_true rfl⟩ ⟨Nat.le_trans (by omega) hcs.1, Nat.le_trans (by omega) hcs.2⟩ (Nat.le_of_ble_eq_true rfl) rfl dL_law_1235 (fun r1 uw H1 locs hp1 hH1 hS1 => ?_)
    obtain ⟨rfl, hv1, hR0, hO0⟩ := hp1
    refine lv_istore (lv' := [(6, .int (nI (0))), (0, .ref (bx)), (1, .ref (ad0 0)), (2, .ref (ad1 0)), (3, .ref (ou)), (4, .ref (od)), (5, .int (nI (6 * i)))]) CF.1 CF.2.1 dL_law_1238 hl (by decide) rfl (fun ls hl => ?_)
    refine lv_aload_n CF.1 CF.2.1 dL_law_1240 rfl (lv_at hl 3 rfl) ?_
    refine lv_aload_n CF.1 CF.2.1 dL_law_1241 rfl (lv_at hl 1 rfl) ?_
    refine lv_iload CF.1 CF.2.1 dL_law_1242 (lv_at hl 6 rfl) ?_
    refine lv_iconst (v := nI 1) CF.1 CF.2.1 dL_law_1244 (by decide) ?_
    refine o_iadd CF dL_law_1245 ?_
    refine x_sld CF hL hS1 (i := 6 * i + 1) (by omega) e_f dL_law_1246 ?_
    refine lv_aload_n CF.1 CF.2.1 dL_law_1247 rfl (lv_at hl 1 rfl) ?_
    refine lv_iload CF.1 CF.2.1 dL_law_1248 (lv_at hl 6 rfl) ?_
    refine lv_iconst (v := nI 2) CF.1 CF.2.1 dL_law_1250 (by decide) ?_
    refine o_iadd CF dL_law_1251 ?_
    refine x_sld CF hL hS1 (i := 6 * i + 2) (by omega) e_a dL_law_1252 ?_
    refine k_Mi CF hL hS1 hH1 (As := [.int (nI (f)), .int (nI (a))]) (rest := []) (c1_ring l hj1 (b := b) hI hRc1 hRo1 hOi (f := f) (a := a) (by omega) (by omega)) rfl lk_RL_X1_ring rfl hl.1 ⟨Nat.le_of_ble_eq_true rfl, Nat.le_of_ble_eq_true rfl⟩ ⟨Nat.le_trans (by omega) hcs.1, Nat.le_trans (by omega) hcs.2⟩ (Nat.le_of_ble_eq_true rfl) rfl dL_law_1253 (fun r2 τ2 H2 locs hp2 hH2 hS2 => ?_)
    obtain ⟨rfl, hR1, hO1, hT⟩ := hp2
    have e3 := mag_mst (b := b) (goal := f) (by omega) 5 f a (2 ^ f) (Nat.lt_of_lt_of_le (Nat.pow_lt_pow_right (show 1 < 2 by omega) h_f) (by decide))
    rw [Nat.or_self] at e3
    rw [e3] at hv1
    refine lv_istore (lv' := [(7, .int (nI (mst b f 5 f a (2 ^ f) - a))), (6, .int (nI (0))), (0, .ref (bx)), (1, .ref (ad0 0)), (2, .ref (ad1 0)), (3, .ref (ou)), (4, .ref (od)), (5, .int (nI (6 * i)))]) CF.1 CF.2.1 dL_law_1256 hl (by decide) rfl (fun ls hl => ?_)
    refine lv_aload_n CF.1 CF.2.1 dL_law_1258 rfl (lv_at hl 4 rfl) ?_
    refine c1_i CF hK hH2.2.1 (As := []) (rest := []) (c1_thrown l) rfl lk_RL_X1_thrown rfl hl.1 ⟨Nat.le_of_ble_eq_true rfl, Nat.le_of_ble_eq_true rfl⟩ ⟨Nat.le_trans (by omega) hcs.1, Nat.le_trans (by omega) hcs.2⟩ (Nat.le_of_ble_eq_true rfl) rfl dL_law_1259 (fun r3 hr3 => ?_)
    rw [hT] at hr3
    subst hr3
    refine lv_iload CF.1 CF.2.1 dL_law_1262 (lv_at hl 1 rfl) ?_
    refine z_icmp_eq CF (tgt := 1269) (nIz (by omega)) (nIz (by omega)) dL_law_1264 (by decide) (fun _ => ?_) (fun h => absurd h (by decide))
    refine lv_iload CF.1 CF.2.1 dL_law_1269 (lv_at hl 1 rfl) ?_
    refine z_if_ne CF (tgt := 1286) (nIz (by omega)) dL_law_1271 (by decide) (fun h => absurd h (by decide)) (fun _ => ?_)
    refine lv_aload_n CF.1 CF.2.1 dL_law_1274 rfl (lv_at hl 5 rfl) ?_
    refine lv_iconst (v := nI 0) CF.1 CF.2.1 dL_law_1275 (by decide) ?_
    refine x_lald CF hL hS2 hH2 hv1 dL_law_1276 ?_
    refine lv_iload CF.1 CF.2.1 dL_law_1277 (lv_at hl 0 rfl) ?_
    refine lv_i2l CF.1 CF.2.1 dL_law_1279 rfl ?_
    refine z_lcmp_eq CF (tgt := 1286) rfl rfl dL_law_1280 dL_law_1281 (by decide) (fun h_5 => ?_) (fun h_6 => absurd h_6 (by omega))
    refine lv_goto (tgt := 1448) CF.1 CF.2.1 dL_law_1286 (by decide) ?_
    refine W.widen (k := cells + 2) (n := slots + 11) (by omega) (by omega) ?_
    exact kk (b) _ _ _ _ _ _ ls hH2 hR0 hO0 hR1 hO1 hI hOi hS2 (lv_sub hl [2, 3, 4, 5, 6, 7] rfl)
  · refine lv_aload_n CF.1 CF.2.1 dL_law_1221 rfl (lv_at hl 1 rfl) ?_
    refine lv_aload_n CF.1 CF.2.1 dL_law_1222 rfl (lv_at hl 0 rfl) ?_
    refine lv_iload CF.1 CF.2.1 dL_law_1223 (lv_at hl 5 rfl) ?_
    refine lv_iconst (v := nI 1) CF.1 CF.2.1 dL_law_1225 (by decide) ?_
    refine o_iadd CF dL_law_1226 ?_
    refine x_sld CF hL hS (i := 6 * i + 1) (by omega) rfl dL_law_1227 ?_
    refine lv_aload_n CF.1 CF.2.1 dL_law_1228 rfl (lv_at hl 0 rfl) ?_
    refine lv_iload CF.1 CF.2.1 dL_law_1229 (lv_at hl 5 rfl) ?_
    refine lv_iconst (v := nI 2) CF.1 CF.2.1 dL_law_1231 (by decide) ?_
    refine o_iadd CF dL_law_1232 ?_
    refine x_sld CF hL hS (i := 6 * i + 2) (by omega) rfl dL_law_1233 ?_
    refine lv_aload_n CF.1 CF.2.1 dL_law_1234 rfl (lv_at hl 3 rfl) ?_
    refine k_W CF hL hS hH (As := [.ref (ad0 0), .int (xs (6 * i + 1)), .int (xs (6 * i + 2)), .ref (ou)]) (rest := []) (wb_ring l hfl hj0 (b := b) hI hRc0 hRo0 hOi (xs (6 * i + 1)) (xs (6 * i + 2)) hg d0o) lk_RL_L_ring rfl hl.1 ⟨Nat.le_of_ble_eq_true rfl, Nat.le_of_ble_eq_true rfl⟩ ⟨Nat.le_trans (by omega) hcs.1, Nat.le_trans (by omega) hcs.2⟩ (Nat.le_of_ble_eq_true rfl) rfl dL_law_1235 (fun r1 uw H1 locs hp1 hH1 hS1 => ?_)
    obtain ⟨hd1, rfl⟩ := hp1
    have hH1 : LH G cA cL cD ad0 ad1 ou od σ τ fo fd H1 := hH1
    rcases hd1 with ⟨rfl, hc1⟩ | ⟨rfl, hc1⟩
    · refine lv_istore (lv' := [(6, .int (nI (1))), (0, .ref (bx)), (1, .ref (ad0 0)), (2, .ref (ad1 0)), (3, .ref (ou)), (4, .ref (od)), (5, .int (nI (6 * i)))]) CF.1 CF.2.1 dL_law_1238 hl (by decide) rfl (fun ls hl => ?_)
      refine lv_aload_n CF.1 CF.2.1 dL_law_1240 rfl (lv_at hl 3 rfl) ?_
      refine lv_aload_n CF.1 CF.2.1 dL_law_1241 rfl (lv_at hl 1 rfl) ?_
      refine lv_iload CF.1 CF.2.1 dL_law_1242 (lv_at hl 6 rfl) ?_
      refine lv_iconst (v := nI 1) CF.1 CF.2.1 dL_law_1244 (by decide) ?_
      refine o_iadd CF dL_law_1245 ?_
      refine x_sld CF hL hS1 (i := 6 * i + 1) (by omega) rfl dL_law_1246 ?_
      refine lv_aload_n CF.1 CF.2.1 dL_law_1247 rfl (lv_at hl 1 rfl) ?_
      refine lv_iload CF.1 CF.2.1 dL_law_1248 (lv_at hl 6 rfl) ?_
      refine lv_iconst (v := nI 2) CF.1 CF.2.1 dL_law_1250 (by decide) ?_
      refine o_iadd CF dL_law_1251 ?_
      refine x_sld CF hL hS1 (i := 6 * i + 2) (by omega) rfl dL_law_1252 ?_
      refine k_Mi CF hL hS1 hH1 (As := [.int (xs (6 * i + 1)), .int (xs (6 * i + 2))]) (rest := []) (b1_ring l hj1 (b := b) hI hRc1 hRo1 hOi (xs (6 * i + 1)) (xs (6 * i + 2)) hg) rfl lk_RL_X1_ring rfl hl.1 ⟨Nat.le_of_ble_eq_true rfl, Nat.le_of_ble_eq_true rfl⟩ ⟨Nat.le_trans (by omega) hcs.1, Nat.le_trans (by omega) hcs.2⟩ (Nat.le_of_ble_eq_true rfl) rfl dL_law_1253 (fun r2 τ2 H2 locs hp2 hH2 hS2 => ?_)
      obtain ⟨hR1, hO1, hd2⟩ := hp2
      rcases hd2 with ⟨hT, hc2⟩ | ⟨hT, hc2⟩
      · refine lv_istore (lv' := [(7, .int (r2)), (6, .int (nI (1))), (0, .ref (bx)), (1, .ref (ad0 0)), (2, .ref (ad1 0)), (3, .ref (ou)), (4, .ref (od)), (5, .int (nI (6 * i)))]) CF.1 CF.2.1 dL_law_1256 hl (by decide) rfl (fun ls hl => ?_)
        refine lv_aload_n CF.1 CF.2.1 dL_law_1258 rfl (lv_at hl 4 rfl) ?_
        refine c1_i CF hK hH2.2.1 (As := []) (rest := []) (c1_thrown l) rfl lk_RL_X1_thrown rfl hl.1 ⟨Nat.le_of_ble_eq_true rfl, Nat.le_of_ble_eq_true rfl⟩ ⟨Nat.le_trans (by omega) hcs.1, Nat.le_trans (by omega) hcs.2⟩ (Nat.le_of_ble_eq_true rfl) rfl dL_law_1259 (fun r3 hr3 => ?_)
        rw [hT] at hr3
        subst hr3
        refine lv_iload CF.1 CF.2.1 dL_law_1262 (lv_at hl 1 rfl) ?_
        refine z_icmp_eq CF (tgt := 1269) (nIz (by omega)) (nIz (by omega)) dL_law_1264 (by decide) (fun _ => ?_) (fun h => absurd h (by decide))
        refine lv_iload CF.1 CF.2.1 dL_law_1269 (lv_at hl 1 rfl) ?_
        refine z_if_ne CF (tgt := 1286) (nIz (by omega)) dL_law_1271 (by decide) (fun _ => ?_) (fun h => absurd h (by decide))
        refine lv_goto (tgt := 1448) CF.1 CF.2.1 dL_law_1286 (by decide) ?_
        refine W.widen (k := cells + 2) (n := slots + 11) (by omega) (by omega) ?_
        exact kk (b) _ _ _ _ _ _ ls hH2 hRc0 hRo0 hR1 hO1 hI hOi hS2 (lv_sub hl [2, 3, 4, 5, 6, 7] rfl)
      · exact (show False by omega).elim
    · refine lv_istore (lv' := [(6, .int (nI (2))), (0, .ref (bx)), (1, .ref (ad0 0)), (2, .ref (ad1 0)), (3, .ref (ou)), (4, .ref (od)), (5, .int (nI (6 * i)))]) CF.1 CF.2.1 dL_law_1238 hl (by decide) rfl (fun ls hl => ?_)
      refine lv_aload_n CF.1 CF.2.1 dL_law_1240 rfl (lv_at hl 3 rfl) ?_
      refine lv_aload_n CF.1 CF.2.1 dL_law_1241 rfl (lv_at hl 1 rfl) ?_
      refine lv_iload CF.1 CF.2.1 dL_law_1242 (lv_at hl 6 rfl) ?_
      refine lv_iconst (v := nI 1) CF.1 CF.2.1 dL_law_1244 (by decide) ?_
      refine o_iadd CF dL_law_1245 ?_
      refine x_sld CF hL hS1 (i := 6 * i + 1) (by omega) rfl dL_law_1246 ?_
      refine lv_aload_n CF.1 CF.2.1 dL_law_1247 rfl (lv_at hl 1 rfl) ?_
      refine lv_iload CF.1 CF.2.1 dL_law_1248 (lv_at hl 6 rfl) ?_
      refine lv_iconst (v := nI 2) CF.1 CF.2.1 dL_law_1250 (by decide) ?_
      refine o_iadd CF dL_law_1251 ?_
      refine x_sld CF hL hS1 (i := 6 * i + 2) (by omega) rfl dL_law_1252 ?_
      refine k_Mi CF hL hS1 hH1 (As := [.int (xs (6 * i + 1)), .int (xs (6 * i + 2))]) (rest := []) (b1_ring l hj1 (b := b) hI hRc1 hRo1 hOi (xs (6 * i + 1)) (xs (6 * i + 2)) hg) rfl lk_RL_X1_ring rfl hl.1 ⟨Nat.le_of_ble_eq_true rfl, Nat.le_of_ble_eq_true rfl⟩ ⟨Nat.le_trans (by omega) hcs.1, Nat.le_trans (by omega) hcs.2⟩ (Nat.le_of_ble_eq_true rfl) rfl dL_law_1253 (fun r2 τ2 H2 locs hp2 hH2 hS2 => ?_)
      obtain ⟨hR1, hO1, hd2⟩ := hp2
      rcases hd2 with ⟨hT, hc2⟩ | ⟨hT, hc2⟩
      · exact (show False by omega).elim
      · refine lv_istore (lv' := [(7, .int (r2)), (6, .int (nI (2))), (0, .ref (bx)), (1, .ref (ad0 0)), (2, .ref (ad1 0)), (3, .ref (ou)), (4, .ref (od)), (5, .int (nI (6 * i)))]) CF.1 CF.2.1 dL_law_1256 hl (by decide) rfl (fun ls hl => ?_)
        refine lv_aload_n CF.1 CF.2.1 dL_law_1258 rfl (lv_at hl 4 rfl) ?_
        refine c1_i CF hK hH2.2.1 (As := []) (rest := []) (c1_thrown l) rfl lk_RL_X1_thrown rfl hl.1 ⟨Nat.le_of_ble_eq_true rfl, Nat.le_of_ble_eq_true rfl⟩ ⟨Nat.le_trans (by omega) hcs.1, Nat.le_trans (by omega) hcs.2⟩ (Nat.le_of_ble_eq_true rfl) rfl dL_law_1259 (fun r3 hr3 => ?_)
        rw [hT] at hr3
        subst hr3
        refine lv_iload CF.1 CF.2.1 dL_law_1262 (lv_at hl 1 rfl) ?_
        refine z_icmp_eq CF (tgt := 1269) (nIz (by omega)) (nIz (by omega)) dL_law_1264 (by decide) (fun _ => ?_) (fun h => absurd h (by decide))
        refine lv_iload CF.1 CF.2.1 dL_law_1269 (lv_at hl 1 rfl) ?_
        refine z_if_ne CF (tgt := 1286) (nIz (by omega)) dL_law_1271 (by decide) (fun _ => ?_) (fun h => absurd h (by decide))
        refine lv_goto (tgt := 1448) CF.1 CF.2.1 dL_law_1286 (by decide) ?_
        refine W.widen (k := cells + 2) (n := slots + 11) (by omega) (by omega) ?_
        exact kk (b) _ _ _ _ _ _ ls hH2 hRc0 hRo0 hR1 hO1 hI hOi hS2 (lv_sub hl [2, 3, 4, 5, 6, 7] rfl)
set_option maxHeartbeats 1000000 in
set_option maxRecDepth 100000 in
theorem op_needs {p : Program} {l : Launch} {e : Env} {s : State} {m : MethodId} {args : Array Value} {below : List Frame} {meth : Method} {c : Code} {H : Heap} {locs : List Loc} {cells slots : Nat} {Q : State → Prop} {ls : Array Slot} {G : va_G} {cA cL cD : ClassId} {ad0 ad1 : Nat → Nat} {σ τ : RS} {fo : Nat → Int64} {fd : Nat → UInt64} {ou od bx L : Nat} {xs : Nat → Int32} {b : BS} (CF : CallFix p m c cL_law 9 s args AW RL) (hL : LX l G cA cL cD ad0 ad1 ou od bx L xs s) (hS : va_S (AL s) s.heap H locs) (hH : LH G cA cL cD ad0 ad1 ou od σ τ fo fd H) (hRc0 : Rc σ b) (hRo0 : Ro σ b) (hRc1 : Rc τ b) (hRo1 : Ro τ b) (hI : InvC b) (hOi : InvO b) {i : Nat} (hi : 6 * i + 6 ≤ L) (hl : lv_has ls 9 [(0, .ref (bx)), (1, .ref (ad0 0)), (2, .ref (ad1 0)), (3, .ref (ou)), (4, .ref (od)), (5, .int (nI (6 * i)))]) (hcs : cells + 2 ≤ 656478 ∧ slots + 11 ≤ 7126671) (kk : ∀ (b' : BS) (σ' τ' : RS) (fo' : Nat → Int64) (fd' : Nat → UInt64) (H' : Heap) (locs' : List Loc) (ls' : Array Slot), LH G cA cL cD ad0 ad1 ou od σ' τ' fo' fd' H' → Rc σ' b' → Ro σ' b' → Rc τ' b' → Ro τ' b' → InvC b' → InvO b' → va_S (AL s) s.heap H' locs' → lv_has ls' 9 [(0, .ref (bx)), (1, .ref (ad0 0)), (2, .ref (ad1 0)), (3, .ref (ou)), (4, .ref (od)), (5, .int (nI (6 * i)))] → W p l e room_1 s m args below meth c H' locs' (cells + 2) (slots + 11) Q (F0 m 1448 ls' [])) : W p l e room_1 s m args below meth c H locs cells slots Q (F0 m 1289 ls []) := by
  obtain ⟨hX, hbl, hK, hKL, hKD, hE, hj0, hj1, ha0, ha1, hou, hod, d01, d0o, d1o, d0d, d1d, dod, hfl, hL3⟩ := id hL
  have i_cu := hI.2.1
  have hw10 := hOi.1
  by_cases hg : 0 ≤ (xs (6 * i + 1)).toInt ∧ (xs (6 * i + 1)).toInt < 5 ∧ 0 ≤ (xs (6 * i + 2)).toInt ∧ (xs (6 * i + 2)).toInt < 5 ∧ (xs (6 * i + 1)).toInt ≠ (xs (6 * i + 2)).toInt
  · obtain ⟨f, h_f, e_f⟩ := nI_ex (x := xs (6 * i + 1)) (n := 5) (by omega) (by omega)
    obtain ⟨t, h_t, e_t⟩ := nI_ex (x := xs (6 * i + 2)) (n := 5) (by omega) (by omega)
    rw [e_f, e_t] at hg
    have z_f := nIz (n := f) (by omega)
    have z_t := nIz (n := t) (by omega)
    refine lv_aload_n CF.1 CF.2.1 dL_law_1289 rfl (lv_at hl 1 rfl) ?_
    refine lv_aload_n CF.1 CF.2.1 dL_law_1290 rfl (lv_at hl 0 rfl) ?_
    refine lv_iload CF.1 CF.2.1 dL_law_1291 (lv_at hl 5 rfl) ?_
    refine lv_iconst (v := nI 1) CF.1 CF.2.1 dL_law_1293 (by decide) ?_
    refine o_iadd CF dL_law_1294 ?_
    refine x_sld CF hL hS (i := 6 * i + 1) (by omega) e_f dL_law_1295 ?_
    refine lv_aload_n CF.1 CF.2.1 dL_law_1296 rfl (lv_at hl 0 rfl) ?_
    refine lv_iload CF.1 CF.2.1 dL_law_1297 (lv_at hl 5 rfl) ?_
    refine lv_iconst (v := nI 2) CF.1 CF.2.1 dL_law_1299 (by decide) ?_
    refine o_iadd CF dL_law_1300 ?_
    refine x_sld CF hL hS (i := 6 * i + 2) (by omega) e_t dL_law_1301 ?_
    refine lv_aload_n CF.1 CF.2.1 dL_law_1302 rfl (lv_at hl 3 rfl) ?_
    refine k_W CF hL hS hH (As := [.ref (ad0 0), .int (nI (f)), .int (nI (t)), .ref (ou)]) (rest := []) (wk_needs l hj0 (b := b) hI hRc0 hRo0 hOi (f := f) (t := t) (by omega) (by omega) (by omega) d0o) lk_RL_L_needs rfl hl.1 ⟨Nat.le_of_ble_eq_true rfl, Nat.le_of_ble_eq_true rfl⟩ ⟨Nat.le_trans (by omega) hcs.1, Nat.le_trans (by omega) hcs.2⟩ (Nat.le_of_ble_eq_true rfl) rfl dL_law_1303 (fun r1 uw H1 locs hp1 hH1 hS1 => ?_)
    obtain ⟨rfl, ⟨r0, hv1, hn0⟩, hR0, hO0⟩ := hp1
    refine lv_istore (lv' := [(6, .int (nI (0))), (0, .ref (bx)), (1, .ref (ad0 0)), (2, .ref (ad1 0)), (3, .ref (ou)), (4, .ref (od)), (5, .int (nI (6 * i)))]) CF.1 CF.2.1 dL_law_1306 hl (by decide) rfl (fun ls hl => ?_)
    refine lv_aload_n CF.1 CF.2.1 dL_law_1308 rfl (lv_at hl 3 rfl) ?_
    refine lv_aload_n CF.1 CF.2.1 dL_law_1309 rfl (lv_at hl 1 rfl) ?_
    refine lv_iload CF.1 CF.2.1 dL_law_1310 (lv_at hl 6 rfl) ?_
    refine lv_iconst (v := nI 1) CF.1 CF.2.1 dL_law_1312 (by decide) ?_
    refine o_iadd CF dL_law_1313 ?_
    refine x_sld CF hL hS1 (i := 6 * i + 1) (by omega) e_f dL_law_1314 ?_
    refine lv_aload_n CF.1 CF.2.1 dL_law_1315 rfl (lv_at hl 1 rfl) ?_
    refine lv_iload CF.1 CF.2.1 dL_law_1316 (lv_at hl 6 rfl) ?_
    refine lv_iconst (v := nI 2) CF.1 CF.2.1 dL_law_1318 (by decide) ?_
    refine o_iadd CF dL_law_1319 ?_
    refine x_sld CF hL hS1 (i := 6 * i + 2) (by omega) e_t dL_law_1320 ?_
    refine k_Mi CF hL hS1 hH1 (As := [.int (nI (f)), .int (nI (t))]) (rest := []) (c1_needs l hj1 (b := b) hI hRc1 hRo1 hOi (f := f) (t := t) (by omega) (by omega) (by omega)) rfl lk_RL_X1_needs rfl hl.1 ⟨Nat.le_of_ble_eq_true rfl, Nat.le_of_ble_eq_true rfl⟩ ⟨Nat.le_trans (by omega) hcs.1, Nat.le_trans (by omega) hcs.2⟩ (Nat.le_of_ble_eq_true rfl) rfl dL_law_1321 (fun r2 τ2 H2 locs hp2 hH2 hS2 => ?_)
    obtain ⟨hn1, hR1, hO1, hT⟩ := hp2
    have e2 := ndP_one hn1 hn0
    rw [← e2] at hv1
    refine lv_istore (lv' := [(7, .int (r2)), (6, .int (nI (0))), (0, .ref (bx)), (1, .ref (ad0 0)), (2, .ref (ad1 0)), (3, .ref (ou)), (4, .ref (od)), (5, .int (nI (6 * i)))]) CF.1 CF.2.1 dL_law_1324 hl (by decide) rfl (fun ls hl => ?_)
    refine lv_aload_n CF.1 CF.2.1 dL_law_1326 rfl (lv_at hl 4 rfl) ?_
    refine c1_i CF hK hH2.2.1 (As := []) (rest := []) (c1_thrown l) rfl lk_RL_X1_thrown rfl hl.1 ⟨Nat.le_of_ble_eq_true rfl, Nat.le_of_ble_eq_true rfl⟩ ⟨Nat.le_trans (by omega) hcs.1, Nat.le_trans (by omega) hcs.2⟩ (Nat.le_of_ble_eq_true rfl) rfl dL_law_1327 (fun r3 hr3 => ?_)
    rw [hT] at hr3
    subst hr3
    refine lv_iload CF.1 CF.2.1 dL_law_1330 (lv_at hl 1 rfl) ?_
    refine z_icmp_eq CF (tgt := 1337) (nIz (by omega)) (nIz (by omega)) dL_law_1332 (by decide) (fun _ => ?_) (fun h => absurd h (by decide))
    refine lv_iload CF.1 CF.2.1 dL_law_1337 (lv_at hl 1 rfl) ?_
    refine z_if_ne CF (tgt := 1354) (nIz (by omega)) dL_law_1339 (by decide) (fun h => absurd h (by decide)) (fun _ => ?_)
    refine lv_aload_n CF.1 CF.2.1 dL_law_1342 rfl (lv_at hl 5 rfl) ?_
    refine lv_iconst (v := nI 0) CF.1 CF.2.1 dL_law_1343 (by decide) ?_
    refine x_lald CF hL hS2 hH2 hv1 dL_law_1344 ?_
    refine lv_iload CF.1 CF.2.1 dL_law_1345 (lv_at hl 0 rfl) ?_
    refine lv_i2l CF.1 CF.2.1 dL_law_1347 rfl ?_
    refine z_lcmp_eq CF (tgt := 1354) rfl rfl dL_law_1348 dL_law_1349 (by decide) (fun h_5 => ?_) (fun h_6 => absurd h_6 (by omega))
    refine lv_goto (tgt := 1448) CF.1 CF.2.1 dL_law_1354 (by decide) ?_
    refine W.widen (k := cells + 2) (n := slots + 11) (by omega) (by omega) ?_
    exact kk (b) _ _ _ _ _ _ ls hH2 hR0 hO0 hR1 hO1 hI hOi hS2 (lv_sub hl [2, 3, 4, 5, 6, 7] rfl)
  · refine lv_aload_n CF.1 CF.2.1 dL_law_1289 rfl (lv_at hl 1 rfl) ?_
    refine lv_aload_n CF.1 CF.2.1 dL_law_1290 rfl (lv_at hl 0 rfl) ?_
    refine lv_iload CF.1 CF.2.1 dL_law_1291 (lv_at hl 5 rfl) ?_
    refine lv_iconst (v := nI 1) CF.1 CF.2.1 dL_law_1293 (by decide) ?_
    refine o_iadd CF dL_law_1294 ?_
    refine x_sld CF hL hS (i := 6 * i + 1) (by omega) rfl dL_law_1295 ?_
    refine lv_aload_n CF.1 CF.2.1 dL_law_1296 rfl (lv_at hl 0 rfl) ?_
    refine lv_iload CF.1 CF.2.1 dL_law_1297 (lv_at hl 5 rfl) ?_
    refine lv_iconst (v := nI 2) CF.1 CF.2.1 dL_law_1299 (by decide) ?_
    refine o_iadd CF dL_law_1300 ?_
    refine x_sld CF hL hS (i := 6 * i + 2) (by omega) rfl dL_law_1301 ?_
    refine lv_aload_n CF.1 CF.2.1 dL_law_1302 rfl (lv_at hl 3 rfl) ?_
    refine k_W CF hL hS hH (As := [.ref (ad0 0), .int (xs (6 * i + 1)), .int (xs (6 * i + 2)), .ref (ou)]) (rest := []) (wb_needs l hfl hj0 (b := b) hI hRc0 hRo0 hOi (xs (6 * i + 1)) (xs (6 * i + 2)) hg d0o) lk_RL_L_needs rfl hl.1 ⟨Nat.le_of_ble_eq_true rfl, Nat.le_of_ble_eq_true rfl⟩ ⟨Nat.le_trans (by omega) hcs.1, Nat.le_trans (by omega) hcs.2⟩ (Nat.le_of_ble_eq_true rfl) rfl dL_law_1303 (fun r1 uw H1 locs hp1 hH1 hS1 => ?_)
    obtain ⟨hd1, rfl⟩ := hp1
    have hH1 : LH G cA cL cD ad0 ad1 ou od σ τ fo fd H1 := hH1
    rcases hd1 with ⟨rfl, hc1⟩ | ⟨rfl, hc1⟩
    · refine lv_istore (lv' := [(6, .int (nI (1))), (0, .ref (bx)), (1, .ref (ad0 0)), (2, .ref (ad1 0)), (3, .ref (ou)), (4, .ref (od)), (5, .int (nI (6 * i)))]) CF.1 CF.2.1 dL_law_1306 hl (by decide) rfl (fun ls hl => ?_)
      refine lv_aload_n CF.1 CF.2.1 dL_law_1308 rfl (lv_at hl 3 rfl) ?_
      refine lv_aload_n CF.1 CF.2.1 dL_law_1309 rfl (lv_at hl 1 rfl) ?_
      refine lv_iload CF.1 CF.2.1 dL_law_1310 (lv_at hl 6 rfl) ?_
      refine lv_iconst (v := nI 1) CF.1 CF.2.1 dL_law_1312 (by decide) ?_
      refine o_iadd CF dL_law_1313 ?_
      refine x_sld CF hL hS1 (i := 6 * i + 1) (by omega) rfl dL_law_1314 ?_
      refine lv_aload_n CF.1 CF.2.1 dL_law_1315 rfl (lv_at hl 1 rfl) ?_
      refine lv_iload CF.1 CF.2.1 dL_law_1316 (lv_at hl 6 rfl) ?_
      refine lv_iconst (v := nI 2) CF.1 CF.2.1 dL_law_1318 (by decide) ?_
      refine o_iadd CF dL_law_1319 ?_
      refine x_sld CF hL hS1 (i := 6 * i + 2) (by omega) rfl dL_law_1320 ?_
      refine k_Mi CF hL hS1 hH1 (As := [.int (xs (6 * i + 1)), .int (xs (6 * i + 2))]) (rest := []) (b1_needs l hj1 (b := b) hI hRc1 hRo1 hOi (xs (6 * i + 1)) (xs (6 * i + 2)) hg) rfl lk_RL_X1_needs rfl hl.1 ⟨Nat.le_of_ble_eq_true rfl, Nat.le_of_ble_eq_true rfl⟩ ⟨Nat.le_trans (by omega) hcs.1, Nat.le_trans (by omega) hcs.2⟩ (Nat.le_of_ble_eq_true rfl) rfl dL_law_1321 (fun r2 τ2 H2 locs hp2 hH2 hS2 => ?_)
      obtain ⟨hR1, hO1, hd2⟩ := hp2
      rcases hd2 with ⟨hT, hc2⟩ | ⟨hT, hc2⟩
      · refine lv_istore (lv' := [(7, .int (r2)), (6, .int (nI (1))), (0, .ref (bx)), (1, .ref (ad0 0)), (2, .ref (ad1 0)), (3, .ref (ou)), (4, .ref (od)), (5, .int (nI (6 * i)))]) CF.1 CF.2.1 dL_law_1324 hl (by decide) rfl (fun ls hl => ?_)
        refine lv_aload_n CF.1 CF.2.1 dL_law_1326 rfl (lv_at hl 4 rfl) ?_
        refine c1_i CF hK hH2.2.1 (As := []) (rest := []) (c1_thrown l) rfl lk_RL_X1_thrown rfl hl.1 ⟨Nat.le_of_ble_eq_true rfl, Nat.le_of_ble_eq_true rfl⟩ ⟨Nat.le_trans (by omega) hcs.1, Nat.le_trans (by omega) hcs.2⟩ (Nat.le_of_ble_eq_true rfl) rfl dL_law_1327 (fun r3 hr3 => ?_)
        rw [hT] at hr3
        subst hr3
        refine lv_iload CF.1 CF.2.1 dL_law_1330 (lv_at hl 1 rfl) ?_
        refine z_icmp_eq CF (tgt := 1337) (nIz (by omega)) (nIz (by omega)) dL_law_1332 (by decide) (fun _ => ?_) (fun h => absurd h (by decide))
        refine lv_iload CF.1 CF.2.1 dL_law_1337 (lv_at hl 1 rfl) ?_
        refine z_if_ne CF (tgt := 1354) (nIz (by omega)) dL_law_1339 (by decide) (fun _ => ?_) (fun h => absurd h (by decide))
        refine lv_goto (tgt := 1448) CF.1 CF.2.1 dL_law_1354 (by decide) ?_
        refine W.widen (k := cells + 2) (n := slots + 11) (by omega) (by omega) ?_
        exact kk (b) _ _ _ _ _ _ ls hH2 hRc0 hRo0 hR1 hO1 hI hOi hS2 (lv_sub hl [2, 3, 4, 5, 6, 7] rfl)
      · exact (show False by omega).elim
    · refine lv_istore (lv' := [(6, .int (nI (2))), (0, .ref (bx)), (1, .ref (ad0 0)), (2, .ref (ad1 0)), (3, .ref (ou)), (4, .ref (od)), (5, .int (nI (6 * i)))]) CF.1 CF.2.1 dL_law_1306 hl (by decide) rfl (fun ls hl => ?_)
      refine lv_aload_n CF.1 CF.2.1 dL_law_1308 rfl (lv_at hl 3 rfl) ?_
      refine lv_aload_n CF.1 CF.2.1 dL_law_1309 rfl (lv_at hl 1 rfl) ?_
      refine lv_iload CF.1 CF.2.1 dL_law_1310 (lv_at hl 6 rfl) ?_
      refine lv_iconst (v := nI 1) CF.1 CF.2.1 dL_law_1312 (by decide) ?_
      refine o_iadd CF dL_law_1313 ?_
      refine x_sld CF hL hS1 (i := 6 * i + 1) (by omega) rfl dL_law_1314 ?_
      refine lv_aload_n CF.1 CF.2.1 dL_law_1315 rfl (lv_at hl 1 rfl) ?_
      refine lv_iload CF.1 CF.2.1 dL_law_1316 (lv_at hl 6 rfl) ?_
      refine lv_iconst (v := nI 2) CF.1 CF.2.1 dL_law_1318 (by decide) ?_
      refine o_iadd CF dL_law_1319 ?_
      refine x_sld CF hL hS1 (i := 6 * i + 2) (by omega) rfl dL_law_1320 ?_
      refine k_Mi CF hL hS1 hH1 (As := [.int (xs (6 * i + 1)), .int (xs (6 * i + 2))]) (rest := []) (b1_needs l hj1 (b := b) hI hRc1 hRo1 hOi (xs (6 * i + 1)) (xs (6 * i + 2)) hg) rfl lk_RL_X1_needs rfl hl.1 ⟨Nat.le_of_ble_eq_true rfl, Nat.le_of_ble_eq_true rfl⟩ ⟨Nat.le_trans (by omega) hcs.1, Nat.le_trans (by omega) hcs.2⟩ (Nat.le_of_ble_eq_true rfl) rfl dL_law_1321 (fun r2 τ2 H2 locs hp2 hH2 hS2 => ?_)
      obtain ⟨hR1, hO1, hd2⟩ := hp2
      rcases hd2 with ⟨hT, hc2⟩ | ⟨hT, hc2⟩
      · exact (show False by omega).elim
      · refine lv_istore (lv' := [(7, .int (r2)), (6, .int (nI (2))), (0, .ref (bx)), (1, .ref (ad0 0)), (2, .ref (ad1 0)), (3, .ref (ou)), (4, .ref (od)), (5, .int (nI (6 * i)))]) CF.1 CF.2.1 dL_law_1324 hl (by decide) rfl (fun ls hl => ?_)
        refine lv_aload_n CF.1 CF.2.1 dL_law_1326 rfl (lv_at hl 4 rfl) ?_
        refine c1_i CF hK hH2.2.1 (As := []) (rest := []) (c1_thrown l) rfl lk_RL_X1_thrown rfl hl.1 ⟨Nat.le_of_ble_eq_true rfl, Nat.le_of_ble_eq_true rfl⟩ ⟨Nat.le_trans (by omega) hcs.1, Nat.le_trans (by omega) hcs.2⟩ (Nat.le_of_ble_eq_true rfl) rfl dL_law_1327 (fun r3 hr3 => ?_)
        rw [hT] at hr3
        subst hr3
        refine lv_iload CF.1 CF.2.1 dL_law_1330 (lv_at hl 1 rfl) ?_
        refine z_icmp_eq CF (tgt := 1337) (nIz (by omega)) (nIz (by omega)) dL_law_1332 (by decide) (fun _ => ?_) (fun h => absurd h (by decide))
        refine lv_iload CF.1 CF.2.1 dL_law_1337 (lv_at hl 1 rfl) ?_
        refine z_if_ne CF (tgt := 1354) (nIz (by omega)) dL_law_1339 (by decide) (fun _ => ?_) (fun h => absurd h (by decide))
        refine lv_goto (tgt := 1448) CF.1 CF.2.1 dL_law_1354 (by decide) ?_
        refine W.widen (k := cells + 2) (n := slots + 11) (by omega) (by omega) ?_
        exact kk (b) _ _ _ _ _ _ ls hH2 hRc0 hRo0 hR1 hO1 hI hOi hS2 (lv_sub hl [2, 3, 4, 5, 6, 7] rfl)
set_option maxHeartbeats 1000000 in
set_option maxRecDepth 100000 in
theorem op_mean {p : Program} {l : Launch} {e : Env} {s : State} {m : MethodId} {args : Array Value} {below : List Frame} {meth : Method} {c : Code} {H : Heap} {locs : List Loc} {cells slots : Nat} {Q : State → Prop} {ls : Array Slot} {G : va_G} {cA cL cD : ClassId} {ad0 ad1 : Nat → Nat} {σ τ : RS} {fo : Nat → Int64} {fd : Nat → UInt64} {ou od bx L : Nat} {xs : Nat → Int32} {b : BS} (CF : CallFix p m c cL_law 9 s args AW RL) (hL : LX l G cA cL cD ad0 ad1 ou od bx L xs s) (hS : va_S (AL s) s.heap H locs) (hH : LH G cA cL cD ad0 ad1 ou od σ τ fo fd H) (hRc0 : Rc σ b) (hRo0 : Ro σ b) (hRc1 : Rc τ b) (hRo1 : Ro τ b) (hI : InvC b) (hOi : InvO b) {i : Nat} (hi : 6 * i + 6 ≤ L) (hl : lv_has ls 9 [(0, .ref (bx)), (1, .ref (ad0 0)), (2, .ref (ad1 0)), (3, .ref (ou)), (4, .ref (od)), (5, .int (nI (6 * i)))]) (hcs : cells + 2 ≤ 656478 ∧ slots + 11 ≤ 7126671) (kk : ∀ (b' : BS) (σ' τ' : RS) (fo' : Nat → Int64) (fd' : Nat → UInt64) (H' : Heap) (locs' : List Loc) (ls' : Array Slot), LH G cA cL cD ad0 ad1 ou od σ' τ' fo' fd' H' → Rc σ' b' → Ro σ' b' → Rc τ' b' → Ro τ' b' → InvC b' → InvO b' → va_S (AL s) s.heap H' locs' → lv_has ls' 9 [(0, .ref (bx)), (1, .ref (ad0 0)), (2, .ref (ad1 0)), (3, .ref (ou)), (4, .ref (od)), (5, .int (nI (6 * i)))] → W p l e room_1 s m args below meth c H' locs' (cells + 2) (slots + 11) Q (F0 m 1448 ls' [])) : W p l e room_1 s m args below meth c H locs cells slots Q (F0 m 1357 ls []) := by
  obtain ⟨hX, hbl, hK, hKL, hKD, hE, hj0, hj1, ha0, ha1, hou, hod, d01, d0o, d1o, d0d, d1d, dod, hfl, hL3⟩ := id hL
  have i_cu := hI.2.1
  have hw10 := hOi.1
  by_cases hg : 0 ≤ (xs (6 * i + 1)).toInt ∧ (xs (6 * i + 1)).toInt < 5
  · obtain ⟨t, h_t, e_t⟩ := nI_ex (x := xs (6 * i + 1)) (n := 5) (by omega) (by omega)
    rw [e_t] at hg
    have z_t := nIz (n := t) (by omega)
    refine lv_aload_n CF.1 CF.2.1 dL_law_1357 rfl (lv_at hl 1 rfl) ?_
    refine lv_aload_n CF.1 CF.2.1 dL_law_1358 rfl (lv_at hl 0 rfl) ?_
    refine lv_iload CF.1 CF.2.1 dL_law_1359 (lv_at hl 5 rfl) ?_
    refine lv_iconst (v := nI 1) CF.1 CF.2.1 dL_law_1361 (by decide) ?_
    refine o_iadd CF dL_law_1362 ?_
    refine x_sld CF hL hS (i := 6 * i + 1) (by omega) e_t dL_law_1363 ?_
    refine lv_aload CF.1 CF.2.1 dL_law_1364 (lv_at hl 4 rfl) ?_
    refine k_WD CF hL hS hH (As := [.ref (ad0 0), .int (nI (t)), .ref (od)]) (rest := []) (wk_mean l hj0 (b := b) hI hRc0 hRo0 hOi (t := t) (by omega) d0d) lk_RL_L_mean rfl hl.1 ⟨Nat.le_of_ble_eq_true rfl, Nat.le_of_ble_eq_true rfl⟩ ⟨Nat.le_trans (by omega) hcs.1, Nat.le_trans (by omega) hcs.2⟩ (Nat.le_of_ble_eq_true rfl) rfl dL_law_1366 (fun r1 uw H1 locs hp1 hH1 hS1 => ?_)
    obtain ⟨rfl, hv1, hR0, hO0⟩ := hp1
    refine lv_istore (lv' := [(6, .int (nI (0))), (0, .ref (bx)), (1, .ref (ad0 0)), (2, .ref (ad1 0)), (3, .ref (ou)), (4, .ref (od)), (5, .int (nI (6 * i)))]) CF.1 CF.2.1 dL_law_1369 hl (by decide) rfl (fun ls hl => ?_)
    refine lv_aload_n CF.1 CF.2.1 dL_law_1371 rfl (lv_at hl 3 rfl) ?_
    refine lv_aload_n CF.1 CF.2.1 dL_law_1372 rfl (lv_at hl 1 rfl) ?_
    refine lv_iload CF.1 CF.2.1 dL_law_1373 (lv_at hl 6 rfl) ?_
    refine lv_iconst (v := nI 1) CF.1 CF.2.1 dL_law_1375 (by decide) ?_
    refine o_iadd CF dL_law_1376 ?_
    refine x_sld CF hL hS1 (i := 6 * i + 1) (by omega) e_t dL_law_1377 ?_
    refine k_Md CF hL hS1 hH1 (As := [.int (nI (t))]) (rest := []) (c1_mean l hj1 (b := b) hI hRc1 hRo1 hOi (t := t) (by omega)) rfl lk_RL_X1_mean rfl hl.1 ⟨Nat.le_of_ble_eq_true rfl, Nat.le_of_ble_eq_true rfl⟩ ⟨Nat.le_trans (by omega) hcs.1, Nat.le_trans (by omega) hcs.2⟩ (Nat.le_of_ble_eq_true rfl) rfl dL_law_1378 (fun r2 τ2 H2 locs hp2 hH2 hS2 => ?_)
    obtain ⟨rfl, hR1, hO1, hT⟩ := hp2
    refine lv_dstore (lv' := [(7, .double (mnD b t)), (6, .int (nI (0))), (0, .ref (bx)), (1, .ref (ad0 0)), (2, .ref (ad1 0)), (3, .ref (ou)), (4, .ref (od)), (5, .int (nI (6 * i)))]) CF.1 CF.2.1 dL_law_1381 hl (by decide) rfl (fun ls hl => ?_)
    refine lv_aload_n CF.1 CF.2.1 dL_law_1383 rfl (lv_at hl 4 rfl) ?_
    refine c1_i CF hK hH2.2.1 (As := []) (rest := []) (c1_thrown l) rfl lk_RL_X1_thrown rfl hl.1 ⟨Nat.le_of_ble_eq_true rfl, Nat.le_of_ble_eq_true rfl⟩ ⟨Nat.le_trans (by omega) hcs.1, Nat.le_trans (by omega) hcs.2⟩ (Nat.le_of_ble_eq_true rfl) rfl dL_law_1384 (fun r3 hr3 => ?_)
    rw [hT] at hr3
    subst hr3
    refine lv_iload CF.1 CF.2.1 dL_law_1387 (lv_at hl 1 rfl) ?_
    refine z_icmp_eq CF (tgt := 1394) (nIz (by omega)) (nIz (by omega)) dL_law_1389 (by decide) (fun _ => ?_) (fun h => absurd h (by decide))
    refine lv_iload CF.1 CF.2.1 dL_law_1394 (lv_at hl 1 rfl) ?_
    refine z_if_ne CF (tgt := 1431) (nIz (by omega)) dL_law_1396 (by decide) (fun h => absurd h (by decide)) (fun _ => ?_)
    refine lv_aload CF.1 CF.2.1 dL_law_1399 (lv_at hl 6 rfl) ?_
    refine lv_iconst (v := nI 0) CF.1 CF.2.1 dL_law_1401 (by decide) ?_
    refine x_dald CF hL hS2 hH2 hv1 dL_law_1402 ?_
    refine lv_dload CF.1 CF.2.1 dL_law_1403 (lv_at hl 0 rfl) ?_
    refine lv_dcmp CF.1 CF.2.1 dL_law_1405 ?_
    refine tpi (y := nI 0) (by rw [mn_self i_cu]; rfl) ?_
    refine z_if_eq CF (tgt := 1431) (nIz (by omega)) dL_law_1406 (by decide) (fun _ => ?_) (fun h => absurd h (by decide))
    refine lv_goto (tgt := 1448) CF.1 CF.2.1 dL_law_1431 (by decide) ?_
    refine W.widen (k := cells + 2) (n := slots + 11) (by omega) (by omega) ?_
    exact kk (b) _ _ _ _ _ _ ls hH2 hR0 hO0 hR1 hO1 hI hOi hS2 (lv_sub hl [2, 3, 4, 5, 6, 7] rfl)
  · refine lv_aload_n CF.1 CF.2.1 dL_law_1357 rfl (lv_at hl 1 rfl) ?_
    refine lv_aload_n CF.1 CF.2.1 dL_law_1358 rfl (lv_at hl 0 rfl) ?_
    refine lv_iload CF.1 CF.2.1 dL_law_1359 (lv_at hl 5 rfl) ?_
    refine lv_iconst (v := nI 1) CF.1 CF.2.1 dL_law_1361 (by decide) ?_
    refine o_iadd CF dL_law_1362 ?_
    refine x_sld CF hL hS (i := 6 * i + 1) (by omega) rfl dL_law_1363 ?_
    refine lv_aload CF.1 CF.2.1 dL_law_1364 (lv_at hl 4 rfl) ?_
    refine k_WD CF hL hS hH (As := [.ref (ad0 0), .int (xs (6 * i + 1)), .ref (od)]) (rest := []) (wb_mean l hfl hj0 (b := b) hI hRc0 hRo0 hOi (xs (6 * i + 1)) hg d0d) lk_RL_L_mean rfl hl.1 ⟨Nat.le_of_ble_eq_true rfl, Nat.le_of_ble_eq_true rfl⟩ ⟨Nat.le_trans (by omega) hcs.1, Nat.le_trans (by omega) hcs.2⟩ (Nat.le_of_ble_eq_true rfl) rfl dL_law_1366 (fun r1 uw H1 locs hp1 hH1 hS1 => ?_)
    obtain ⟨hd1, rfl⟩ := hp1
    have hH1 : LH G cA cL cD ad0 ad1 ou od σ τ fo fd H1 := hH1
    obtain ⟨rfl, hc1⟩ := hd1
    refine lv_istore (lv' := [(6, .int (nI (1))), (0, .ref (bx)), (1, .ref (ad0 0)), (2, .ref (ad1 0)), (3, .ref (ou)), (4, .ref (od)), (5, .int (nI (6 * i)))]) CF.1 CF.2.1 dL_law_1369 hl (by decide) rfl (fun ls hl => ?_)
    refine lv_aload_n CF.1 CF.2.1 dL_law_1371 rfl (lv_at hl 3 rfl) ?_
    refine lv_aload_n CF.1 CF.2.1 dL_law_1372 rfl (lv_at hl 1 rfl) ?_
    refine lv_iload CF.1 CF.2.1 dL_law_1373 (lv_at hl 6 rfl) ?_
    refine lv_iconst (v := nI 1) CF.1 CF.2.1 dL_law_1375 (by decide) ?_
    refine o_iadd CF dL_law_1376 ?_
    refine x_sld CF hL hS1 (i := 6 * i + 1) (by omega) rfl dL_law_1377 ?_
    refine k_Md CF hL hS1 hH1 (As := [.int (xs (6 * i + 1))]) (rest := []) (b1_mean l hj1 (b := b) hI hRc1 hRo1 hOi (xs (6 * i + 1)) hg) rfl lk_RL_X1_mean rfl hl.1 ⟨Nat.le_of_ble_eq_true rfl, Nat.le_of_ble_eq_true rfl⟩ ⟨Nat.le_trans (by omega) hcs.1, Nat.le_trans (by omega) hcs.2⟩ (Nat.le_of_ble_eq_true rfl) rfl dL_law_1378 (fun r2 τ2 H2 locs hp2 hH2 hS2 => ?_)
    obtain ⟨hR1, hO1, hd2⟩ := hp2
    have hT := hd2.1
    refine lv_dstore (lv' := [(7, .double (r2)), (6, .int (nI (1))), (0, .ref (bx)), (1, .ref (ad0 0)), (2, .ref (ad1 0)), (3, .ref (ou)), (4, .ref (od)), (5, .int (nI (6 * i)))]) CF.1 CF.2.1 dL_law_1381 hl (by decide) rfl (fun ls hl => ?_)
    refine lv_aload_n CF.1 CF.2.1 dL_law_1383 rfl (lv_at hl 4 rfl) ?_
    refine c1_i CF hK hH2.2.1 (As := []) (rest := []) (c1_thrown l) rfl lk_RL_X1_thrown rfl hl.1 ⟨Nat.le_of_ble_eq_true rfl, Nat.le_of_ble_eq_true rfl⟩ ⟨Nat.le_trans (by omega) hcs.1, Nat.le_trans (by omega) hcs.2⟩ (Nat.le_of_ble_eq_true rfl) rfl dL_law_1384 (fun r3 hr3 => ?_)
    rw [hT] at hr3
    subst hr3
    refine lv_iload CF.1 CF.2.1 dL_law_1387 (lv_at hl 1 rfl) ?_
    refine z_icmp_eq CF (tgt := 1394) (nIz (by omega)) (nIz (by omega)) dL_law_1389 (by decide) (fun _ => ?_) (fun h => absurd h (by decide))
    refine lv_iload CF.1 CF.2.1 dL_law_1394 (lv_at hl 1 rfl) ?_
    refine z_if_ne CF (tgt := 1431) (nIz (by omega)) dL_law_1396 (by decide) (fun _ => ?_) (fun h => absurd h (by decide))
    refine lv_goto (tgt := 1448) CF.1 CF.2.1 dL_law_1431 (by decide) ?_
    refine W.widen (k := cells + 2) (n := slots + 11) (by omega) (by omega) ?_
    exact kk (b) _ _ _ _ _ _ ls hH2 hRc0 hRo0 hR1 hO1 hI hOi hS2 (lv_sub hl [2, 3, 4, 5, 6, 7] rfl)
set_option maxHeartbeats 1000000 in
set_option maxRecDepth 100000 in
theorem op_next {p : Program} {l : Launch} {e : Env} {s : State} {m : MethodId} {args : Array Value} {below : List Frame} {meth : Method} {c : Code} {H : Heap} {locs : List Loc} {cells slots : Nat} {Q : State → Prop} {ls : Array Slot} {G : va_G} {cA cL cD : ClassId} {ad0 ad1 : Nat → Nat} {σ τ : RS} {fo : Nat → Int64} {fd : Nat → UInt64} {ou od bx L : Nat} {xs : Nat → Int32} {b : BS} (CF : CallFix p m c cL_law 9 s args AW RL) (hL : LX l G cA cL cD ad0 ad1 ou od bx L xs s) (hS : va_S (AL s) s.heap H locs) (hH : LH G cA cL cD ad0 ad1 ou od σ τ fo fd H) (hRc0 : Rc σ b) (hRo0 : Ro σ b) (hRc1 : Rc τ b) (hRo1 : Ro τ b) (hI : InvC b) (hOi : InvO b) {i : Nat} (hi : 6 * i + 6 ≤ L) (hl : lv_has ls 9 [(0, .ref (bx)), (1, .ref (ad0 0)), (2, .ref (ad1 0)), (3, .ref (ou)), (4, .ref (od)), (5, .int (nI (6 * i)))]) (hcs : cells + 2 ≤ 656478 ∧ slots + 11 ≤ 7126671) (kk : ∀ (b' : BS) (σ' τ' : RS) (fo' : Nat → Int64) (fd' : Nat → UInt64) (H' : Heap) (locs' : List Loc) (ls' : Array Slot), LH G cA cL cD ad0 ad1 ou od σ' τ' fo' fd' H' → Rc σ' b' → Ro σ' b' → Rc τ' b' → Ro τ' b' → InvC b' → InvO b' → va_S (AL s) s.heap H' locs' → lv_has ls' 9 [(0, .ref (bx)), (1, .ref (ad0 0)), (2, .ref (ad1 0)), (3, .ref (ou)), (4, .ref (od)), (5, .int (nI (6 * i)))] → W p l e room_1 s m args below meth c H' locs' (cells + 2) (slots + 11) Q (F0 m 1448 ls' [])) : W p l e room_1 s m args below meth c H locs cells slots Q (F0 m 412 ls []) := by
  obtain ⟨hX, hbl, hK, hKL, hKD, hE, hj0, hj1, ha0, ha1, hou, hod, d01, d0o, d1o, d0d, d1d, dod, hfl, hL3⟩ := id hL
  refine lv_aload_n CF.1 CF.2.1 dL_law_412 rfl (lv_at hl 1 rfl) ?_
  refine k_C CF hL hS hH (As := []) (rest := []) (c0_next l hj0 (b := b) hI hRc0 hRo0 hOi) rfl lk_RL_X0_next rfl hl.1 ⟨Nat.le_of_ble_eq_true rfl, Nat.le_of_ble_eq_true rfl⟩ ⟨Nat.le_trans (by omega) hcs.1, Nat.le_trans (by omega) hcs.2⟩ (Nat.le_of_ble_eq_true rfl) rfl dL_law_413 (fun r1 σ2 H1 locs hp1 hH1 hS1 => ?_)
  obtain ⟨rfl, hR0, hO0⟩ := hp1
  refine lv_aload_n CF.1 CF.2.1 dL_law_416 rfl (lv_at hl 2 rfl) ?_
  refine k_Mi CF hL hS1 hH1 (As := []) (rest := [.int (nI (b 0 3 - s_next b 0 3))]) (c1_next l hj1 (b := b) hI hRc1 hRo1 hOi) rfl lk_RL_X1_next rfl hl.1 ⟨Nat.le_of_ble_eq_true rfl, Nat.le_of_ble_eq_true rfl⟩ ⟨Nat.le_trans (by omega) hcs.1, Nat.le_trans (by omega) hcs.2⟩ (Nat.le_of_ble_eq_true rfl) rfl dL_law_417 (fun r2 τ2 H2 locs hp2 hH2 hS2 => ?_)
  obtain ⟨rfl, hR1, hO1, hT⟩ := hp2
  refine z_icmp_eq CF (tgt := 1448) rfl rfl dL_law_420 (by decide) (fun h_1 => ?_) (fun h_2 => absurd h_2 (by omega))
  refine W.widen (k := cells + 2) (n := slots + 11) (by omega) (by omega) ?_
  exact kk (s_next b) _ _ _ _ _ _ ls hH2 hR0 hO0 hR1 hO1 (iv_next hI hOi).1 (iv_next hI hOi).2 hS2 (lv_sub hl [0, 1, 2, 3, 4, 5] rfl)
set_option maxHeartbeats 1000000 in
set_option maxRecDepth 100000 in
theorem op_digest {p : Program} {l : Launch} {e : Env} {s : State} {m : MethodId} {args : Array Value} {below : List Frame} {meth : Method} {c : Code} {H : Heap} {locs : List Loc} {cells slots : Nat} {Q : State → Prop} {ls : Array Slot} {G : va_G} {cA cL cD : ClassId} {ad0 ad1 : Nat → Nat} {σ τ : RS} {fo : Nat → Int64} {fd : Nat → UInt64} {ou od bx L : Nat} {xs : Nat → Int32} {b : BS} (CF : CallFix p m c cL_law 9 s args AW RL) (hL : LX l G cA cL cD ad0 ad1 ou od bx L xs s) (hS : va_S (AL s) s.heap H locs) (hH : LH G cA cL cD ad0 ad1 ou od σ τ fo fd H) (hRc0 : Rc σ b) (hRo0 : Ro σ b) (hRc1 : Rc τ b) (hRo1 : Ro τ b) (hI : InvC b) (hOi : InvO b) {i : Nat} (hi : 6 * i + 6 ≤ L) (hl : lv_has ls 9 [(0, .ref (bx)), (1, .ref (ad0 0)), (2, .ref (ad1 0)), (3, .ref (ou)), (4, .ref (od)), (5, .int (nI (6 * i)))]) (hcs : cells + 2 ≤ 656478 ∧ slots + 11 ≤ 7126671) (kk : ∀ (b' : BS) (σ' τ' : RS) (fo' : Nat → Int64) (fd' : Nat → UInt64) (H' : Heap) (locs' : List Loc) (ls' : Array Slot), LH G cA cL cD ad0 ad1 ou od σ' τ' fo' fd' H' → Rc σ' b' → Ro σ' b' → Rc τ' b' → Ro τ' b' → InvC b' → InvO b' → va_S (AL s) s.heap H' locs' → lv_has ls' 9 [(0, .ref (bx)), (1, .ref (ad0 0)), (2, .ref (ad1 0)), (3, .ref (ou)), (4, .ref (od)), (5, .int (nI (6 * i)))] → W p l e room_1 s m args below meth c H' locs' (cells + 2) (slots + 11) Q (F0 m 1448 ls' [])) : W p l e room_1 s m args below meth c H locs cells slots Q (F0 m 1434 ls []) := by
  obtain ⟨hX, hbl, hK, hKL, hKD, hE, hj0, hj1, ha0, ha1, hou, hod, d01, d0o, d1o, d0d, d1d, dod, hfl, hL3⟩ := id hL
  refine lv_aload_n CF.1 CF.2.1 dL_law_1434 rfl (lv_at hl 1 rfl) ?_
  refine c0_l CF hK hH.1 (As := []) (rest := []) (c0_digest l (b := b) hI hRc0 hRo0 hOi) rfl lk_RL_X0_digest rfl hl.1 ⟨Nat.le_of_ble_eq_true rfl, Nat.le_of_ble_eq_true rfl⟩ ⟨Nat.le_trans (by omega) hcs.1, Nat.le_trans (by omega) hcs.2⟩ (Nat.le_of_ble_eq_true rfl) rfl dL_law_1435 (fun r1 hr1 => ?_)
  subst hr1
  refine lv_aload_n CF.1 CF.2.1 dL_law_1438 rfl (lv_at hl 2 rfl) ?_
  refine k_Ml CF hL hS hH (As := []) (rest := [.long (dgs b)]) (c1_digest l hj1 (b := b) hI hRc1 hRo1 hOi) rfl lk_RL_X1_digest rfl hl.1 ⟨Nat.le_of_ble_eq_true rfl, Nat.le_of_ble_eq_true rfl⟩ ⟨Nat.le_trans (by omega) hcs.1, Nat.le_trans (by omega) hcs.2⟩ (Nat.le_of_ble_eq_true rfl) rfl dL_law_1439 (fun r2 τ2 H2 locs hp2 hH2 hS2 => ?_)
  obtain ⟨rfl, hR1, hO1, hT⟩ := hp2
  refine z_lcmp_eq CF (tgt := 1448) rfl rfl dL_law_1442 dL_law_1443 (by decide) (fun h_1 => ?_) (fun h_2 => absurd h_2 (by omega))
  refine W.widen (k := cells + 2) (n := slots + 11) (by omega) (by omega) ?_
  exact kk (b) _ _ _ _ _ _ ls hH2 hRc0 hRo0 hR1 hO1 hI hOi hS2 (lv_sub hl [0, 1, 2, 3, 4, 5] rfl)
