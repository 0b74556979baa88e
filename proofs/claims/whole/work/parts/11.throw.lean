def xIO : String := "java/lang/IndexOutOfBoundsException"
def xIA : String := "java/lang/IllegalArgumentException"
def xIS : String := "java/lang/IllegalStateException"
def exs : List String := ["java/lang/IndexOutOfBoundsException", "java/lang/IllegalArgumentException", "java/lang/IllegalStateException"]
def txs : List (Nat × String) := [(37, "no such money"), (44, "the moneys are the same or the rate is not 0 to 9999"), (51, "the spread is not 0 to 50"), (58, "the limit is not 0 to 99999"), (63, "what comes is not 1 to 99999"), (77, "there are 6 customers"), (83, "no such customer or money"), (85, "what is earned is not 1 to 99999"), (91, "this can not be changed"), (93, "the moneys are the same or an amount is not 1 to 99999"), (98, "10 orders wait"), (107, "no such place"), (120, "no such money or nothing to tell"), (125, "no such place or nothing to tell"), (127, "nothing to count"), (136, "the amount is not 0 to 99999"), (146, "the moneys are the same or the amount is not 0 to 99999"), (155, "the moneys are the same")]
def dcs : List String := ["java/lang/RuntimeException", "java/lang/Exception", Bundle.tN]
def nms : List String := ["java/lang/RuntimeException", "java/lang/Exception"]
/-- what a throw needs of the heap and of the tables, beside the words -/
def EX (A : Nat → Prop) (U : State) (H : Heap) : Prop := vx_Zq Bundle.tN "UNASSIGNED_STACK" Bundle.steD A U H ∧ vx_Zq Bundle.tN "SUPPRESSED_SENTINEL" Bundle.listD A U H ∧ (∀ q ∈ txs, ∃ a, vk_R RX0 q.1 q.2 a U) ∧ (∀ E ∈ exs, va_Nw (.castable E E) U) ∧ (∀ E ∈ exs, ∀ F ∈ exs, E ≠ F → va_Nc E F U) ∧ ∀ E ∈ dcs, va_Nw (.declares (Bundle.initS E)) U
theorem EX_moved {A : Nat → Prop} {s U : State} {H : Heap} (hW : s.WarmedH U.vm) (h : EX A s H) : EX A U H := by
  obtain ⟨h1, h2, h3, h4, h5, h6⟩ := h
  refine ⟨vx_Zq.moved hW.alike h1, vx_Zq.moved hW.alike h2, fun q hq => ?_, fun E hE => va_Nw.warmC hW (h4 E hE), fun E hE F hF hn => va_Nc.moved hW.alike (h5 E hE F hF hn), fun E hE => va_Nw.warmD hW (h6 E hE)⟩
  obtain ⟨a, ha⟩ := h3 q hq
  exact ⟨a, vk_R.warm hW ha⟩
theorem EX_kept {A : Nat → Prop} {s : State} {H H1 : Heap} (h : EX A s H) (hq : ∀ a : Nat, a < H.size → ¬ A a → H1[a]? = H[a]?) : EX A s H1 := ⟨h.1.kept hq, h.2.1.kept hq, h.2.2⟩
theorem EX_narrow {A B : Nat → Prop} {s : State} {H : Heap} (h : EX A s H) (hAB : ∀ q, B q → A q) : EX B s H := ⟨h.1.narrow hAB, h.2.1.narrow hAB, h.2.2⟩
def pcx (G : va_G) (cA : ClassId) (ad : Nat → Nat) (σ : RS) (av : List Value) : Array Value → State → Prop := va_Pc av (fun U => va_P G vwCl (w0 ad cA σ) U.heap ∧ KK G cA U ∧ EX (own8 ad) U U.heap)
theorem pcx_blind {G : va_G} {cA : ClassId} {ad : Nat → Nat} {σ : RS} {av : List Value} : FrameBlind (pcx G cA ad σ av) := fun a U g mk q => ⟨q.1, q.2.1, va_K.moved (u := U) (U := U.calling g mk a) (Vm.Alike.refl U.vm) q.2.2.1, EX_moved (s := U) (U := U.calling g mk a) (State.WarmedH.refl U) q.2.2.2⟩
def xcS (G : va_G) (cA : ClassId) (ad : Nat → Nat) (σ : RS) (P : String → Prop) : String → State → State → Prop := vx_X (fun σ' : RS => σ' = σ) (fun E σ' t => P E ∧ va_P G vwCl (w0 ad cA σ') t.heap) (own8 ad)
theorem ha_IO : ∀ w ∈ (vx_atS RX0 39 "java/lang/IndexOutOfBoundsException" nms).filter goodWord, w ∈ AW := fun _ h => List.mem_append_left _ (List.mem_append_left _ (List.mem_append_right _ h))
theorem hb_IO : ∀ w ∈ (vx_atS RX0 39 "java/lang/IndexOutOfBoundsException" nms).filter (fun w => !goodWord w), w ∈ [Cond.castable "java/lang/IndexOutOfBoundsException" "java/lang/IndexOutOfBoundsException", Cond.declares (Bundle.initS "java/lang/RuntimeException"), Cond.declares (Bundle.initS "java/lang/Exception"), Cond.declares (Bundle.initS Bundle.tN)] := by decide +kernel
theorem hg_IO : ∀ w ∈ Cond.classLink RX0 35 "java/lang/IndexOutOfBoundsException" :: Cond.initialized "java/lang/IndexOutOfBoundsException" :: vx_atS RX0 39 "java/lang/IndexOutOfBoundsException" nms, vx_ot w = true := by decide +kernel
theorem ha_IA : ∀ w ∈ (vx_atS RX0 46 "java/lang/IllegalArgumentException" nms).filter goodWord, w ∈ AW := fun _ h => List.mem_append_left _ (List.mem_append_right _ h)
theorem hb_IA : ∀ w ∈ (vx_atS RX0 46 "java/lang/IllegalArgumentException" nms).filter (fun w => !goodWord w), w ∈ [Cond.castable "java/lang/IllegalArgumentException" "java/lang/IllegalArgumentException", Cond.declares (Bundle.initS "java/lang/RuntimeException"), Cond.declares (Bundle.initS "java/lang/Exception"), Cond.declares (Bundle.initS Bundle.tN)] := by decide +kernel
theorem hg_IA : ∀ w ∈ Cond.classLink RX0 42 "java/lang/IllegalArgumentException" :: Cond.initialized "java/lang/IllegalArgumentException" :: vx_atS RX0 46 "java/lang/IllegalArgumentException" nms, vx_ot w = true := by decide +kernel
theorem ha_IS : ∀ w ∈ (vx_atS RX0 79 "java/lang/IllegalStateException" nms).filter goodWord, w ∈ AW := fun _ h => List.mem_append_right _ h
theorem hb_IS : ∀ w ∈ (vx_atS RX0 79 "java/lang/IllegalStateException" nms).filter (fun w => !goodWord w), w ∈ [Cond.castable "java/lang/IllegalStateException" "java/lang/IllegalStateException", Cond.declares (Bundle.initS "java/lang/RuntimeException"), Cond.declares (Bundle.initS "java/lang/Exception"), Cond.declares (Bundle.initS Bundle.tN)] := by decide +kernel
theorem hg_IS : ∀ w ∈ Cond.classLink RX0 75 "java/lang/IllegalStateException" :: Cond.initialized "java/lang/IllegalStateException" :: vx_atS RX0 79 "java/lang/IllegalStateException" nms, vx_ot w = true := by decide +kernel
section TH
variable {p : Program} {l : Launch} {e : Env} {R : Room} {s : State} {m : MethodId} {args : Array Value} {below : List Frame} {meth : Method} {c : Code} {H : Heap} {locs : List Loc} {cells slots : Nat}
variable {cc : ByteArray} {pc nL : Nat} {ls : Array Slot} {G : va_G} {cA : ClassId} {ad : Nat → Nat} {σ : RS} {own : String}
theorem thr (CF : CallFix p m c cc nL s args AW RX0) (hl : l.stackTraces = false) (hE : EX (own8 ad) s s.heap) (hP : va_P G vwCl (w0 ad cA σ) H) (hj : inj8 ad) (hS : va_S (own8 ad) s.heap H locs) (htab : ∀ x ∈ c.exceptionTable.toList, False) (hlocks : meth.locks = false) (hsz : ls.size = nL) {Qc : Array Value → State → Outcome → State → Prop} {P : String → Prop}
    {cls text : String} {ik is ic : Nat} (hfit : Bundle.fit cls = true) (hc : cls ∈ exs) (htx : (is, text) ∈ txs) (hk : Cond.classLink RX0 ik cls ∈ AW) (hini : Cond.initialized cls ∈ AW) (ha : ∀ w ∈ (vx_atS RX0 ic cls nms).filter goodWord, w ∈ AW) (hb : ∀ w ∈ (vx_atS RX0 ic cls nms).filter (fun w => !goodWord w), w ∈ [Cond.castable cls cls, Cond.declares (Bundle.initS "java/lang/RuntimeException"), Cond.declares (Bundle.initS "java/lang/Exception"), Cond.declares (Bundle.initS Bundle.tN)]) (hg : ∀ w ∈ Cond.classLink RX0 ik cls :: Cond.initialized cls :: vx_atS RX0 ic cls nms, vx_ot w = true)
    (d0 : decode cc pc = .ok (.new ik, 3)) (d3 : decode cc (pc + 3) = .ok (.dup, 1)) (d4 : decode cc (pc + 4) = .ok (.ldc is, 2)) (d6 : decode cc (pc + 6) = .ok (.invokespecial ic, 3)) (d9 : decode cc (pc + 9) = .ok (.athrow, 1))
    (hR1 : 5 < R.frames) (hR2 : 82 ≤ R.locals) (hR3 : 1 ≤ R.cells) (hR4 : 6 ≤ R.slots) (hp : P cls) :
    W p l e R s m args below meth c H locs 0 0 (vx_MQ below Qc (xcS G cA ad σ P) args s 1 6 (own8 ad)) (F0 m pc ls []) := by
  obtain ⟨sa, hsa⟩ := hE.2.2.1 _ htx
  have hca : va_Nw (.castable cls cls) s := hE.2.2.2.1 _ hc
  refine vx_throwS (names := nms) (A := own8 ad) CF.1 CF.2.1 hl CF.2.2.2.1 hfit (by decide +kernel) (CF.2.2.2.2 _ hk) (CF.2.2.2.2 _ hini) hsa (vx_hat (fun w hw => CF.2.2.2.2 w (ha w hw)) hb (vx_c (va_Nw.use (A := args) rfl hca) (vx_c (va_Nw.use (A := args) rfl (hE.2.2.2.2.2 _ (List.mem_of_getElem? (i := 0) rfl))) (vx_c (va_Nw.use (A := args) rfl (hE.2.2.2.2.2 _ (List.mem_of_getElem? (i := 1) rfl))) (vx_c (va_Nw.use (A := args) rfl (hE.2.2.2.2.2 _ (List.mem_of_getElem? (i := 2) rfl))) vx_n))))) hg hE.1 hE.2.1 hS (hsz.trans CF.2.2.1.symm) d0 d3 d4 d6 d9 (fun x hx => (htab x hx).elim) hR1 hR2 hR3 hR4 hlocks (fun t hal hz hk => ?_) hS.2.2 (Nat.le_refl _) (Nat.le_refl _)
  refine ⟨σ, rfl, ⟨hp, hP.kept (fun k q hq => hk q.1 ((hP k q hq).lt))⟩, Nat.le_trans hS.1 hz, fun q h1 h2 => ?_⟩
  rw [hk q (Nat.lt_of_lt_of_le h1 hS.1)]
  exact hS.2.1 q h1 h2
end TH
