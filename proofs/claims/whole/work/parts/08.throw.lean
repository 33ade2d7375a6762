/-! METHODS THAT THROW, over the same world: a contract of its own, for the arguments at which the method throws. -/
def gTxs : List (Nat × String) := [(320, "a value is out of range"), (317, "there is no such setting"), (313, "there is no such person"), (315, "there is no such bond"), (216, "there is no such layer"), (322, "the bond does not run"), (65, "the cash is less, or less than what has to be kept would stay"), (78, "somebody would be in the own chain"), (86, "less is owed, or the cash is less"), (112, "the proof is less than the least one"), (128, "all of its milestones were reached"), (153, "the buffer is full"), (173, "the buffer is not a bond that can be given"), (182, "there are too many bonds, or a surety would be bound for too much"), (191, "there is no saved state")]
def eB : String := "java/lang/IndexOutOfBoundsException"
def eA : String := "java/lang/IllegalArgumentException"
def eT : String := "java/lang/IllegalStateException"
def eN : List String := ["java/lang/RuntimeException", "java/lang/Exception"]
/-- words of a throw that stay under warmer tables, though no good words -/
def ngL : List Cond := [.declares (Bundle.initS "java/lang/RuntimeException"), .declares (Bundle.initS "java/lang/Exception"), .declares (Bundle.initS Bundle.tN), .castable eB eB, .castable eA eA, .castable eT eT]
def gNG (U : State) : Prop := ∀ w ∈ ngL, w.before #[] U = true
theorem gNG.moved {u U : State} (hvm : u.vm.Alike U.vm) (h : gNG u) : gNG U := by
  intro w hw
  have h1 := h w hw
  have hot : w.onTables = true := (show ∀ w ∈ ngL, w.onTables = true by decide) w hw
  have e := Cond.onTables_vm (A := #[]) (A' := #[]) (U := u) (U' := U) U.vm w hot
  have hU : U.setVm U.vm = U := rfl
  rw [hU] at e
  rw [← e]
  simp only [ngL, List.mem_cons, List.not_mem_nil, or_false] at hw
  rcases hw with rfl | rfl | rfl | rfl | rfl | rfl
  · rw [Cond.declares_setVm hvm]; exact h1
  · rw [Cond.declares_setVm hvm]; exact h1
  · rw [Cond.declares_setVm hvm]; exact h1
  · rw [Cond.castable_setVm hvm]; exact h1
  · rw [Cond.castable_setVm hvm]; exact h1
  · rw [Cond.castable_setVm hvm]; exact h1
theorem gNG.at {U : State} (h : gNG U) (a : Array Value) : ∀ w ∈ ngL, w.before a U = true := fun w hw => va_tabs ((show ∀ w ∈ ngL, w.onTables = true by decide) w hw) rfl (h w hw)
def gTx (U : State) : Prop := (∀ q ∈ gTxs, ∃ sa : Nat, vk_R RX4 q.1 q.2 sa U) ∧ gNG U
def gZ (A : Nat → Prop) (U : State) (H : Heap) : Prop := vx_Zq Bundle.tN "UNASSIGNED_STACK" Bundle.steD A U H ∧ vx_Zq Bundle.tN "SUPPRESSED_SENTINEL" Bundle.listD A U H
theorem gZ.moved {A : Nat → Prop} {u U : State} {H : Heap} (hvm : u.vm.Alike U.vm) (h : gZ A u H) : gZ A U H := ⟨h.1.moved hvm, h.2.moved hvm⟩
theorem gZ.kept {A : Nat → Prop} {U : State} {H H1 : Heap} (h : gZ A U H) (hq : ∀ a : Nat, a < H.size → ¬ A a → H1[a]? = H[a]?) : gZ A U H1 := ⟨h.1.kept hq, h.2.kept hq⟩
theorem gZ.narrow {A B : Nat → Prop} {U : State} {H : Heap} (h : gZ A U H) (hAB : ∀ q, B q → A q) : gZ B U H := ⟨h.1.narrow hAB, h.2.narrow hAB⟩
theorem gTx.warm {s U : State} (hW : s.WarmedH U.vm) (h : gTx s) : gTx U := ⟨fun q hq => by
  obtain ⟨sa, h1⟩ := h.1 q hq
  exact ⟨sa, vk_R.warm hW h1⟩, h.2.moved hW.alike⟩
theorem gTx.same {u U : State} (hv : U.vm = u.vm) (h : gTx u) : gTx U := ⟨fun q hq => by
  obtain ⟨sa, h1⟩ := h.1 q hq
  exact ⟨sa, vk_R.same hv h1⟩, h.2.moved (by rw [hv]; exact Vm.Alike.refl u.vm)⟩
def gPcX (γ : gG) (sz : Nat) (av : List Value) (σ : gS) : Array Value → State → Prop := va_Pc av (fun U => U.heap.size = sz ∧ gB γ σ U ∧ gZ (gA γ sz) U U.heap ∧ gTx U)
def gXC (γ : gG) (sz : Nat) (E : String) (σ' : gS) : String → State → State → Prop := fun E' st t => E' = E ∧ gB γ σ' t ∧ va_F (gA γ sz) st t
def gQf : Array Value → State → Outcome → State → Prop := fun _ _ _ _ => False
/-- method y, at these arguments and this world, throws an E, and leaves the world σ' -/
def gMX (l : Launch) (γ : gG) (y : MethodName) (ws : List Cond) (rm : Room) (av : List Value) (σ : gS) (E : String) (σ' : gS) : Prop :=
  inj γ → l.stackTraces = false → ∀ sz, vx_Met l y ws rm (gPcX γ sz av σ) gQf (gXC γ sz E σ') 1 6 (gA γ sz)
/-- what holds all along a body that throws -/
def CT (s : State) (meth : Method) (c : Code) (l : Launch) (γ : gG) : Prop := l.stackTraces = false ∧ meth.locks = false ∧ (∀ x ∈ c.exceptionTable.toList, False) ∧ gZ (gA γ s.heap.size) s s.heap ∧ gTx s
section GX
variable {p : Program} {l : Launch} {e : Env} {R : Room} {s : State} {m : MethodId} {args : Array Value} {below : List Frame} {meth : Method} {c : Code} {γ : gG} {nL k n : Nat}
variable {cc : ByteArray} {own E : String} {Ts : List Cond} {pc : Nat} {ls : List (Option Value)} {rest st : List Value} {σ σ' : gS}
theorem g_enterX {y : MethodName} {ws ws' : List Cond} {rm : Room} {av : List Value} {ret : Option FieldType} (ls0 : List (Option Value)) (hy : plainName y.cls = true) (hw : ws = Cond.code y cc nL ret :: ws') (hown : y.cls = own) (hlen : (lg_sl av).length ≤ nL) (hls : gl_le ls0 (glE av))
    (body : inj γ → ∀ (p : Program) (e : Env) (s : State) (m : MethodId) (args : Array Value) (below : List Frame) (meth : Method) (c : Code), CX p s m args c cc own nL ws γ (gA γ s.heap.size) → CT s meth c l γ →
      G p l e rm s m args below meth c γ (gA γ s.heap.size) nL 0 0 (vx_MQ below gQf (gXC γ s.heap.size E σ') args s 1 6 (gA γ s.heap.size)) 0 ls0 [] σ) : gMX l γ y ws rm av σ E σ' := by
  intro hj hst sz
  refine vx_ofW (cc := cc) (maxL := nL) (ret := ret) hy hw ?_
  intro p e s m args below meth c s₁ B hml htb hv
  obtain ⟨rfl, hsz, ⟨hP, hK⟩, hZ, hT⟩ := hv
  subst hsz
  have hts := atoms_spec (ws := ws) B.pre
  have X : CX p s m av.toArray c cc own nL ws γ (gA γ s.heap.size) := ⟨B.exec, B.bytes, hml, by rw [← hown]; exact findClass_of_methodNamed B.named, hts, hK, fun σ => gW_D hj _ σ, fun q h => Or.inr h⟩
  have hl := lv_entry av (n := nL) hlen
  rw [lg_entry_eq]
  refine body hj p e s m av.toArray below meth c X ⟨hst, B.notSynchronized, htb, hZ, hT⟩ s.heap [] _ hP va_S.rf ?_
  refine ⟨hl.1, hl.2.1, fun q hq => hl.2.2 q ?_⟩
  obtain ⟨i, v⟩ := q
  exact glE_args hls (glL_mem.mp hq)
theorem g_blindX {sz : Nat} {av : List Value} : FrameBlind (gPcX γ sz av σ) := fun a U g mk q => by
  obtain ⟨q0, q1, ⟨qP, qK⟩, qZ, qT⟩ := q
  exact ⟨q0, q1, ⟨qP, va_K.moved (u := U) (U := U.calling g mk a) (Vm.Alike.refl U.vm) qK⟩, gZ.moved (u := U) (U := U.calling g mk a) (Vm.Alike.refl U.vm) qZ, gTx.same (u := U) (U := U.calling g mk a) rfl qT⟩
/-- behind a call that throws: the method is left -/
theorem g_afterX {H : Heap} {locs : List Loc} {la : Array Slot} {st0 : List Value} {a : Array Value} (X : CX p s m args c cc own nL Ts γ (gA γ s.heap.size)) (C : CT s meth c l γ) (hS : va_S (gA γ s.heap.size) s.heap H locs)
    (hr : vx_Run p l e R s m args below meth c H locs k n 1 6 (F0 m pc la st0) rest (gQf a) (gXC γ H.size E σ') (gA γ H.size)) (hkn : k + 1 ≤ 1 ∧ n + 6 ≤ 6) :
    W p l e R s m args below meth c H locs k n (vx_MQ below gQf (gXC γ s.heap.size E σ') args s 1 6 (gA γ s.heap.size)) (F0 m pc la st0) := by
  intro T hT Y
  have hAA := g_AA X hS
  rcases hr T hT Y with ⟨v, st₀, t, T', L, h0, X', hL, e1, e2, hf, -⟩ | ⟨q, st₀, t, T', L, E9, ce, h0, X', hL, e1, e2, ⟨rfl, ⟨hP', hK'⟩, hz, hk⟩, hce, hcv, hcl, st⟩
  · exact hf.elim
  · rw [h0] at hz hk
    have hS' : va_S (gA γ s.heap.size) s.heap T'.heap (locs ++ L) := ⟨Nat.le_trans hS.1 (by rw [e1]; exact hz), fun q h1 h2 => by rw [e1, hk q (Nat.lt_of_lt_of_le h1 hS.1) (fun z => h2 (hAA q z))]; exact hS.2.1 q h1 h2, fun q hq => by
      rcases List.mem_append.mp hq with h | h
      · exact hS.2.2 q h
      · exact hAA _ (hL q h)⟩
    obtain ⟨t2, a1, b1⟩ := vx_out (p := p) (l := l) (e := e) (R := R) (s := s) (m := m) (args := args) (below := below) (meth := meth) (c := c) (H := T'.heap) (locs := locs ++ L) (cells := k + 1) (slots := n + 6) (free := gA γ s.heap.size) (ls := la) (rest := rest) (Qc := gQf) (XC := gXC γ s.heap.size E9 σ') (pc := pc) (E := E9) (ce := ce) (q := q) (mc := 1) (ms := 6)
      (fun x hx => (C.2.2.1 x hx).elim) C.2.1 (by rw [e1]; exact hce) hcv hcl
      (fun t9 h9 hA9 => ⟨rfl, ⟨by rw [h9, e1]; exact hP', va_K.moved hA9 X.K⟩, hS'.F h9⟩) hS'.2.2 hkn.1 hkn.2 T' rfl X'
    exact ⟨t2, st.trans a1, b1⟩
theorem g_pre (C : CT s meth c l γ) (X : CX p s m args c cc own nL Ts γ (gA γ s.heap.size)) {H : Heap} {locs : List Loc} {av : List Value} (hP : va_P γ.1 vwCl (gW γ σ) H) (hS : va_S (gA γ s.heap.size) s.heap H locs) (U : State) (hU : U.heap = H) (hW : s.WarmedH U.vm) : gPcX γ H.size av σ av.toArray U :=
  ⟨rfl, by rw [hU], ⟨by rw [hU]; exact hP, va_K.moved hW.alike X.K⟩, by rw [hU]; exact ((C.2.2.2.1.kept hS.2.1).narrow (g_AA X hS)).moved hW.alike, C.2.2.2.2.warm hW⟩
/-- a call, of an instance method, that throws -/
theorem g_callVX {na : Nat} {y : MethodName} {ws ws' : List Cond} {rm : Room} {maxL index : Nat} {bytes : ByteArray} {ret : Option FieldType} {C9 : String} {T : u_T} {N : Nat} (X : CX p s m args c cc own nL Ts γ (gA γ s.heap.size)) (C : CT s meth c l γ) (hj : inj γ) {o ci : Nat} {fs : List Value} (As : List Value) (hM : gMX l γ y ws rm (.ref (ad γ o) :: As) σ E σ')
    (ho : (gW γ σ)[o]? = some (ad γ o, .inr (ci, fs))) (hc : vwCl[ci]? = some (C9, T, N)) (hT : GoodIn Ts (wsV own index C9 y ws)) (hw : ws = Cond.code y bytes maxL ret :: ws') (hrm : rm.cells = 1 ∧ rm.slots = 6)
    (hd : y.cls = C9 ∧ y.cls ≠ "java/lang/invoke/MethodHandle" ∧ y.cls ≠ "java/lang/invoke/VarHandle" ∧ (parseMethodDescriptor y.desc).map (fun d => d.parameters.length) = some na) (hna : As.length = na) (hR : rm.frames + 1 ≤ R.frames ∧ 8 + (maxL + 11) + rm.locals ≤ R.locals)
    (hst : st = As.reverse ++ .ref (ad γ o) :: rest) (hcat : (rest.map fun v => v.category).sum ≤ 8) (hdg : decode cc pc = .ok (.invokevirtual index, 3)) (hf : k + 1 ≤ R.cells ∧ n + 6 ≤ R.slots) (hkn : k + 1 ≤ 1 ∧ n + 6 ≤ 6) :
    G p l e R s m args below meth c γ (gA γ s.heap.size) nL k n (vx_MQ below gQf (gXC γ s.heap.size E σ') args s 1 6 (gA γ s.heap.size)) pc ls st σ := fun H locs la hP hS hl =>
  g_afterX (a := (Value.ref (ad γ o) :: As).toArray) (rest := rest) X C hS (vx_runV (As := As) (rest := rest) ⟨X.1, X.2.1, X.ml, X.ow, X.ts⟩ (hM hj C.1 H.size) (cwV na X.ts hT hw hrm.1 hrm.2 hd hR) ⟨g_blindX, va_recv X.K hP hc ho, fun U hU hW => g_pre C X hP hS U hU hW⟩ rfl hna hl.1 hst (lv_room hcat) hdg hf) hkn
/-- a call, of a static method, that throws -/
theorem g_callSX {na : Nat} {y : MethodName} {ws ws' : List Cond} {rm : Room} {maxL index : Nat} {bytes : ByteArray} {ret : Option FieldType} (X : CX p s m args c cc own nL Ts γ (gA γ s.heap.size)) (C : CT s meth c l γ) (hj : inj γ) (As : List Value) (hM : gMX l γ y ws rm As σ E σ')
    (hT : GoodIn Ts (va_wsS own index y ws)) (hw : ws = Cond.code y bytes maxL ret :: ws') (hrm : rm.cells = 1 ∧ rm.slots = 6)
    (hd : y.cls ≠ "java/lang/invoke/MethodHandle" ∧ y.cls ≠ "java/lang/invoke/VarHandle" ∧ (parseMethodDescriptor y.desc).map (fun d => d.parameters.length) = some na) (hna : As.length = na) (hR : rm.frames + 1 ≤ R.frames ∧ 8 + (maxL + 11) + rm.locals ≤ R.locals)
    (hst : st = As.reverse ++ rest) (hcat : (rest.map fun v => v.category).sum ≤ 8) (hdg : decode cc pc = .ok (.invokestatic index, 3)) (hf : k + 1 ≤ R.cells ∧ n + 6 ≤ R.slots) (hkn : k + 1 ≤ 1 ∧ n + 6 ≤ 6) :
    G p l e R s m args below meth c γ (gA γ s.heap.size) nL k n (vx_MQ below gQf (gXC γ s.heap.size E σ') args s 1 6 (gA γ s.heap.size)) pc ls st σ := fun H locs la hP hS hl =>
  g_afterX (a := As.toArray) (rest := rest) X C hS (vx_runS (As := As) (rest := rest) ⟨X.1, X.2.1, X.ml, X.ow, X.ts⟩ (hM hj C.1 H.size) (va_cwS na X.ts hT hw hrm.1 hrm.2 hd hR) ⟨g_blindX, fun U hU hW => g_pre C X hP hS U hU hW⟩ rfl hna hl.1 hst (lv_room hcat) hdg hf) hkn
/-- 'throw new E("text")' -/
theorem g_throw {text : String} {ik is ic : Nat} {names : List String} (X : CX p s m args c cc RX4 nL Ts γ (gA γ s.heap.size)) (C : CT s meth c l γ) (htx : (is, text) ∈ gTxs) (hfit : Bundle.fit E = true ∧ ∀ n ∈ names, Bundle.fit n = true)
    (hg : ∀ w ∈ Cond.classLink RX4 ik E :: Cond.initialized E :: vx_atS RX4 ic E names, vx_ot w = true) (hin : ∀ w ∈ Cond.classLink RX4 ik E :: Cond.initialized E :: (vx_atS RX4 ic E names).filter goodWord, w ∈ Ts) (hng : ∀ w ∈ (vx_atS RX4 ic E names).filter (fun w => !goodWord w), w ∈ ngL)
    (d0 : decode cc pc = .ok (.new ik, 3)) (d3 : decode cc (pc + 3) = .ok (.dup, 1)) (d4 : decode cc (pc + 4) = .ok (.ldc is, 2)) (d6 : decode cc (pc + 6) = .ok (.invokespecial ic, 3)) (d9 : decode cc (pc + 9) = .ok (.athrow, 1))
    (hR : names.length + 3 < R.frames ∧ (rest.map fun v => v.category).sum + (13 * (names.length + 1) + 43) ≤ R.locals ∧ k + 1 ≤ R.cells ∧ n + 6 ≤ R.slots) (hkn : k + 1 ≤ 1 ∧ n + 6 ≤ 6) :
    G p l e R s m args below meth c γ (gA γ s.heap.size) nL k n (vx_MQ below gQf (gXC γ s.heap.size E σ) args s 1 6 (gA γ s.heap.size)) pc ls rest σ := fun H locs la hP hS hl => by
  obtain ⟨sa, hsa⟩ := C.2.2.2.2.1 _ htx
  refine vx_throwS (A := gA γ s.heap.size) (names := names) X.1 X.2.1 C.1 X.ow hfit.1 hfit.2 (X.ts _ (hin _ List.mem_cons_self)) (X.ts _ (hin _ (List.mem_cons_of_mem _ List.mem_cons_self))) hsa (vx_hat (B := ngL) (fun w hw => X.ts w (hin w (List.mem_cons_of_mem _ (List.mem_cons_of_mem _ hw)))) hng (C.2.2.2.2.2.at args)) hg C.2.2.2.1.1 C.2.2.2.1.2 hS (by rw [X.ml]; exact hl.1) d0 d3 d4 d6 d9 (fun x hx => (C.2.2.1 x hx).elim) hR.1 hR.2.1 hR.2.2.1 hR.2.2.2 C.2.1 ?_ hS.2.2 hkn.1 hkn.2
  intro t hA hz hk
  exact ⟨rfl, ⟨va_P.kept hP (fun k q hq => hk q.1 (vx_lt hP hq)), va_K.moved hA X.K⟩, Nat.le_trans hS.1 hz, fun q h1 h2 => by rw [hk q (Nat.lt_of_lt_of_le h1 hS.1)]; exact hS.2.1 q h1 h2⟩
/-- the same, the text by a wide index -/
theorem g_throwW {text : String} {ik is ic : Nat} {names : List String} (X : CX p s m args c cc RX4 nL Ts γ (gA γ s.heap.size)) (C : CT s meth c l γ) (htx : (is, text) ∈ gTxs) (hfit : Bundle.fit E = true ∧ ∀ n ∈ names, Bundle.fit n = true)
    (hg : ∀ w ∈ Cond.classLink RX4 ik E :: Cond.initialized E :: vx_atS RX4 ic E names, vx_ot w = true) (hin : ∀ w ∈ Cond.classLink RX4 ik E :: Cond.initialized E :: (vx_atS RX4 ic E names).filter goodWord, w ∈ Ts) (hng : ∀ w ∈ (vx_atS RX4 ic E names).filter (fun w => !goodWord w), w ∈ ngL)
    (d0 : decode cc pc = .ok (.new ik, 3)) (d3 : decode cc (pc + 3) = .ok (.dup, 1)) (d4 : decode cc (pc + 4) = .ok (.ldc_w is, 3)) (d7 : decode cc (pc + 7) = .ok (.invokespecial ic, 3)) (d10 : decode cc (pc + 10) = .ok (.athrow, 1))
    (hR : names.length + 3 < R.frames ∧ (rest.map fun v => v.category).sum + (13 * (names.length + 1) + 43) ≤ R.locals ∧ k + 1 ≤ R.cells ∧ n + 6 ≤ R.slots) (hkn : k + 1 ≤ 1 ∧ n + 6 ≤ 6) :
    G p l e R s m args below meth c γ (gA γ s.heap.size) nL k n (vx_MQ below gQf (gXC γ s.heap.size E σ) args s 1 6 (gA γ s.heap.size)) pc ls rest σ := fun H locs la hP hS hl => by
  obtain ⟨sa, hsa⟩ := C.2.2.2.2.1 _ htx
  refine vx_throwSW (A := gA γ s.heap.size) (names := names) X.1 X.2.1 C.1 X.ow hfit.1 hfit.2 (X.ts _ (hin _ List.mem_cons_self)) (X.ts _ (hin _ (List.mem_cons_of_mem _ List.mem_cons_self))) hsa (vx_hat (B := ngL) (fun w hw => X.ts w (hin w (List.mem_cons_of_mem _ (List.mem_cons_of_mem _ hw)))) hng (C.2.2.2.2.2.at args)) hg C.2.2.2.1.1 C.2.2.2.1.2 hS (by rw [X.ml]; exact hl.1) d0 d3 d4 d7 d10 (fun x hx => (C.2.2.1 x hx).elim) hR.1 hR.2.1 hR.2.2.1 hR.2.2.2 C.2.1 ?_ hS.2.2 hkn.1 hkn.2
  intro t hA hz hk
  exact ⟨rfl, ⟨va_P.kept hP (fun k q hq => hk q.1 (vx_lt hP hq)), va_K.moved hA X.K⟩, Nat.le_trans hS.1 hz, fun q h1 h2 => by rw [hk q (Nat.lt_of_lt_of_le h1 hS.1)]; exact hS.2.1 q h1 h2⟩
end GX
theorem fit_B : Bundle.fit eB = true ∧ ∀ n ∈ eN, Bundle.fit n = true := by decide +kernel
theorem fit_A : Bundle.fit eA = true ∧ ∀ n ∈ eN, Bundle.fit n = true := by decide +kernel
theorem fit_T : Bundle.fit eT = true ∧ ∀ n ∈ eN, Bundle.fit n = true := by decide +kernel
theorem ot_B : ∀ w ∈ Cond.classLink RX4 214 eB :: Cond.initialized eB :: vx_atS RX4 218 eB eN, vx_ot w = true := by decide +kernel
theorem ot_A : ∀ w ∈ Cond.classLink RX4 171 eA :: Cond.initialized eA :: vx_atS RX4 175 eA eN, vx_ot w = true := by decide +kernel
theorem ot_T : ∀ w ∈ Cond.classLink RX4 63 eT :: Cond.initialized eT :: vx_atS RX4 67 eT eN, vx_ot w = true := by decide +kernel
theorem ng_B : ∀ w ∈ (vx_atS RX4 218 eB eN).filter (fun w => !goodWord w), w ∈ ngL := by decide +kernel
theorem ng_A : ∀ w ∈ (vx_atS RX4 175 eA eN).filter (fun w => !goodWord w), w ∈ ngL := by decide +kernel
theorem ng_T : ∀ w ∈ (vx_atS RX4 67 eT eN).filter (fun w => !goodWord w), w ∈ ngL := by decide +kernel
theorem g_tx320 : (320, "a value is out of range") ∈ gTxs := by unfold gTxs; simp
theorem g_tx317 : (317, "there is no such setting") ∈ gTxs := by unfold gTxs; simp
theorem g_tx313 : (313, "there is no such person") ∈ gTxs := by unfold gTxs; simp
theorem g_tx315 : (315, "there is no such bond") ∈ gTxs := by unfold gTxs; simp
theorem g_tx216 : (216, "there is no such layer") ∈ gTxs := by unfold gTxs; simp
theorem g_tx322 : (322, "the bond does not run") ∈ gTxs := by unfold gTxs; simp
theorem g_tx65 : (65, "the cash is less, or less than what has to be kept would stay") ∈ gTxs := by unfold gTxs; simp
theorem g_tx78 : (78, "somebody would be in the own chain") ∈ gTxs := by unfold gTxs; simp
theorem g_tx86 : (86, "less is owed, or the cash is less") ∈ gTxs := by unfold gTxs; simp
theorem g_tx112 : (112, "the proof is less than the least one") ∈ gTxs := by unfold gTxs; simp
theorem g_tx128 : (128, "all of its milestones were reached") ∈ gTxs := by unfold gTxs; simp
theorem g_tx153 : (153, "the buffer is full") ∈ gTxs := by unfold gTxs; simp
theorem g_tx173 : (173, "the buffer is not a bond that can be given") ∈ gTxs := by unfold gTxs; simp
theorem g_tx182 : (182, "there are too many bonds, or a surety would be bound for too much") ∈ gTxs := by unfold gTxs; simp
theorem g_tx191 : (191, "there is no saved state") ∈ gTxs := by unfold gTxs; simp
