/-! THE LAW'S HELPERS: a call that may throw, and its handlers -/
def gNc (U : State) : Prop := va_Nc eA eB U ∧ va_Nc eT eB U ∧ va_Nc eT eA U
theorem gNc.moved {u U : State} (hvm : u.vm.Alike U.vm) (h : gNc u) : gNc U := ⟨h.1.moved hvm, h.2.1.moved hvm, h.2.2.moved hvm⟩
def gPcY (γ : gG) (sz : Nat) (av : List Value) (σ : gS) : Array Value → State → Prop := va_Pc av (fun U => U.heap.size = sz ∧ gB γ σ U ∧ gZ (gA γ sz) U U.heap ∧ gTx U ∧ gNc U)
def gXF : String → State → State → Prop := fun _ _ _ => False
/-- helper y answers as post says; one thing may be made, of six slots -/
def gMH (l : Launch) (γ : gG) (y : MethodName) (ws : List Cond) (rm : Room) (av : List Value) (σ : gS) (post : Option Value → gS → Prop) : Prop :=
  inj γ → l.stackTraces = false → ∀ sz, vx_Met l y ws rm (gPcY γ sz av σ) (gQc γ sz post) gXF 1 6 (gA γ sz)
def CY (s : State) (meth : Method) (c : Code) (l : Launch) (γ : gG) (hh : List (Nat × Nat × Nat × Nat)) : Prop := l.stackTraces = false ∧ meth.locks = false ∧ c.exceptionTable.toList = tableOf hh ∧ gZ (gA γ s.heap.size) s s.heap ∧ gTx s ∧ gNc s
section GH
variable {p : Program} {l : Launch} {e : Env} {R : Room} {s : State} {m : MethodId} {args : Array Value} {below : List Frame} {meth : Method} {c : Code} {γ : gG} {nL k n : Nat} {Q : State → Prop}
variable {cc : ByteArray} {own E : String} {Ts : List Cond} {pc : Nat} {ls : List (Option Value)} {rest st : List Value} {σ σ' : gS} {hh : List (Nat × Nat × Nat × Nat)}
theorem g_enterH {y : MethodName} {ws ws' : List Cond} {rm : Room} {av : List Value} {ret : Option FieldType} {post : Option Value → gS → Prop} (ls0 : List (Option Value)) (hy : plainName y.cls = true) (hw : ws = Cond.codeWith y cc nL ret hh :: ws') (hown : y.cls = own) (hlen : (lg_sl av).length ≤ nL) (hls : gl_le ls0 (glE av))
    (body : inj γ → ∀ (p : Program) (e : Env) (s : State) (m : MethodId) (args : Array Value) (below : List Frame) (meth : Method) (c : Code), CX p s m args c cc own nL ws γ (gA γ s.heap.size) → CY s meth c l γ hh → meth.sig.returnType = ret →
      G p l e rm s m args below meth c γ (gA γ s.heap.size) nL 0 0 (vx_MQ below (gQc γ s.heap.size post) gXF args s 1 6 (gA γ s.heap.size)) 0 ls0 [] σ) : gMH l γ y ws rm av σ post := by
  intro hj hst sz
  refine vx_ofWH (cc := cc) (maxL := nL) (ret := ret) (hh := hh) hy hw ?_
  intro p e s m args below meth c s₁ B hml hv
  obtain ⟨rfl, hsz, ⟨hP, hK⟩, hZ, hT, hN⟩ := hv
  subst hsz
  have hts := atoms_spec (ws := ws) B.pre
  have htb := vx_table (x := y) B (hts _ (by rw [hw]; exact List.mem_cons_self))
  have X : CX p s m av.toArray c cc own nL ws γ (gA γ s.heap.size) := ⟨B.exec, B.bytes, hml, by rw [← hown]; exact findClass_of_methodNamed B.named, hts, hK, fun σ => gW_D hj _ σ, fun q h => Or.inr h⟩
  have hl := lv_entry av (n := nL) hlen
  rw [lg_entry_eq]
  refine body hj p e s m av.toArray below meth c X ⟨hst, B.notSynchronized, htb, hZ, hT, hN⟩ B.returns s.heap [] _ hP va_S.rf ?_
  refine ⟨hl.1, hl.2.1, fun q hq => hl.2.2 q ?_⟩
  obtain ⟨i, v⟩ := q
  exact glE_args hls (glL_mem.mp hq)
theorem g_iretH {post : Option Value → gS → Prop} (X : CX p s m args c cc own nL Ts γ (gA γ s.heap.size)) (hr : meth.sig.returnType = some .int) (hlk : meth.locks = false) {v : Int32} (hdg : decode cc pc = .ok (.ireturn, 1)) (hkn : k ≤ 1 ∧ n ≤ 6) (hp : post (some (.int v)) σ) :
    G p l e R s m args below meth c γ (gA γ s.heap.size) nL k n (vx_MQ below (gQc γ s.heap.size post) gXF args s 1 6 (gA γ s.heap.size)) pc ls [.int v] σ := fun H locs la hP hS hl =>
  W.widen hkn.1 hkn.2 (vx_ret (g_iret (k := 1) (n := 6) X hr hlk hdg hp H locs la hP hS hl))
theorem g_preH (Y : CY s meth c l γ hh) (X : CX p s m args c cc own nL Ts γ (gA γ s.heap.size)) {H : Heap} {locs : List Loc} {av : List Value} (hP : va_P γ.1 vwCl (gW γ σ) H) (hS : va_S (gA γ s.heap.size) s.heap H locs) (U : State) (hU : U.heap = H) (hW : s.WarmedH U.vm) : gPcX γ H.size av σ av.toArray U :=
  ⟨rfl, by rw [hU], ⟨by rw [hU]; exact hP, va_K.moved hW.alike X.K⟩, by rw [hU]; exact ((Y.2.2.2.1.kept hS.2.1).narrow (g_AA X hS)).moved hW.alike, Y.2.2.2.2.1.warm hW⟩
/-- a call that throws, and the handler that takes it -/
theorem g_catchH {na : Nat} {y : MethodName} {ws ws' : List Cond} {rm : Room} {maxL index : Nat} {bytes : ByteArray} {ret : Option FieldType} {C9 : String} {T : u_T} {N : Nat} (X : CX p s m args c cc own nL Ts γ (gA γ s.heap.size)) (Y : CY s meth c l γ hh) (hj : inj γ) {o ci : Nat} {fs : List Value} (As : List Value) (hM : gMX l γ y ws rm (.ref (ad γ o) :: As) σ E σ')
    (ho : (gW γ σ)[o]? = some (ad γ o, .inr (ci, fs))) (hc : vwCl[ci]? = some (C9, T, N)) (hT : GoodIn Ts (wsV own index C9 y ws)) (hw : ws = Cond.code y bytes maxL ret :: ws') (hrm : rm.cells = 1 ∧ rm.slots = 6)
    (hd : y.cls = C9 ∧ y.cls ≠ "java/lang/invoke/MethodHandle" ∧ y.cls ≠ "java/lang/invoke/VarHandle" ∧ (parseMethodDescriptor y.desc).map (fun d => d.parameters.length) = some na) (hna : As.length = na) (hR : rm.frames + 1 ≤ R.frames ∧ 8 + (maxL + 11) + rm.locals ≤ R.locals)
    (hst : st = As.reverse ++ .ref (ad γ o) :: rest) (hcat : (rest.map fun v => v.category).sum ≤ 8) (hdg : decode cc pc = .ok (.invokevirtual index, 3)) (hf : k + 1 ≤ R.cells ∧ n + 6 ≤ R.slots)
    (pre : List ExceptionTableEntry) (x : ExceptionTableEntry) (suf : List ExceptionTableEntry) (hsplit : tableOf hh = pre ++ x :: suf)
    (hpass : ∀ z ∈ pre, covers z pc = false ∨ (z.catchType ≠ 0 ∧ ∃ nm : String, Cond.classLink own z.catchType nm ∈ Ts ∧ va_Nc E nm s)) (hx : covers x pc = true) (h0 : x.catchType ≠ 0) (hlink : Cond.classLink own x.catchType E ∈ Ts) (hcast : Cond.castable E E ∈ ngL)
    (kk : ∀ q, G p l e R s m args below meth c γ (gA γ s.heap.size) nL (k + 1) (n + 6) Q x.handlerPc ls [.ref q] σ') : G p l e R s m args below meth c γ (gA γ s.heap.size) nL k n Q pc ls st σ := fun H locs la hP hS hl => by
  intro T0 hT0 Z
  have hAA := g_AA X hS
  have hr := vx_runV (As := As) (rest := rest) (p := p) (l := l) (e := e) (below := below) (meth := meth) (locs := locs) (cells := k) (slots := n) (g := F0 m pc la st) ⟨X.1, X.2.1, X.ml, X.ow, X.ts⟩ (hM hj Y.1 H.size) (cwV na X.ts hT hw hrm.1 hrm.2 hd hR) ⟨g_blindX, va_recv X.K hP hc ho, fun U hU hW => g_preH Y X hP hS U hU hW⟩ rfl hna hl.1 hst (lv_room hcat) hdg hf
  rcases hr T0 hT0 Z with ⟨v, st₀, t, T', L, h0', X', hL, e1, e2, hf9, -⟩ | ⟨q, st₀, t, T', L, E9, ce, h0', X', hL, e1, e2, ⟨rfl, ⟨hP', hK'⟩, hz, hk⟩, hce, hcv, hcl, st9⟩
  · exact hf9.elim
  · rw [h0'] at hz hk
    have hS' : va_S (gA γ s.heap.size) s.heap T'.heap (locs ++ L) := ⟨Nat.le_trans hS.1 (by rw [e1]; exact hz), fun q h1 h2 => by rw [e1, hk q (Nat.lt_of_lt_of_le h1 hS.1) (fun z => h2 (hAA q z))]; exact hS.2.1 q h1 h2, fun q hq => by
      rcases List.mem_append.mp hq with h | h
      · exact hS.2.2 q h
      · exact hAA _ (hL q h)⟩
    have hcat2 := vx_catch (p := p) (l := l) (e := e) (R := R) (s := s) (m := m) (args := args) (below := below) (meth := meth) (c := c) (H := T'.heap) (locs := locs ++ L) (cells := k + 1) (slots := n + 6) (Q := Q) (ls := la) (rest := rest) (pc := pc) (own := own) (name := E9) (E := E9) (ce := ce) (q := q) X.ow pre x suf (Y.2.2.1.trans hsplit)
      (fun z hz9 => (hpass z hz9).elim Or.inl (fun w => Or.inr ⟨w.1, w.2.choose, X.ts _ w.2.choose_spec.1, w.2.choose_spec.2⟩)) hx h0 (X.ts _ hlink) (Y.2.2.2.2.1.2.at args _ hcast) (by rw [e1]; exact hce) hcv hcl
      (kk q T'.heap (locs ++ L) la (by rw [e1]; exact hP') hS' hl)
    obtain ⟨t2, a1, b1⟩ := hcat2 T' rfl X'
    exact ⟨t2, st9.trans a1, b1⟩
end GH
theorem ngB : Cond.castable eB eB ∈ ngL := by unfold ngL; simp
theorem ngA : Cond.castable eA eA ∈ ngL := by unfold ngL; simp
theorem ngT : Cond.castable eT eT ∈ ngL := by unfold ngL; simp
def outS (σ : gS) (r : Int32) : gS := sL σ 30 (vp_updL (σ.2 30) 0 r.toInt64)

set_option maxRecDepth 20000 in
theorem h_bring_ok (l : Launch) (γ : gG) (σ σ2 : gS) (a0 a1 : Int32) (r : Int32) (hM : gM l γ yX4_bring wsX4_bring ({ frames := 8, cells := 0, slots := 0, locals := 242 } : Room) [.ref (ad γ 0), .int a0, .int a1] σ (gis (some (.int r)) σ2) 0 0) : gMH l γ yL_bring wsL_bring ({ frames := 9, cells := 1, slots := 6, locals := 264 } : Room) [.ref (ad γ 0), .int a0, .int a1, .ref (ad γ 30)] σ (gis (some (.int (nI 0))) (outS σ2 r)) := by
  refine g_enterH (own := RL) (cc := cL_bring) (nL := 5) (ret := some .int) (hh := [(0, 10, 13, 13), (0, 10, 17, 15)]) [some (.ref (ad γ 0)), some (.int a0), some (.int a1), some (.ref (ad γ 30)), none] (by decide) rfl rfl (by simp [lg_sl, Value.category]) (by simp [gl_le, glE, Value.category]) (fun hj p e s m args below meth c X Y hr => ?_)
  refine g_aload_n X dL_bring_0 rfl rfl ?_
  refine g_iconstN X 0 dL_bring_1 ?_
  refine g_aload_n X dL_bring_2 rfl rfl ?_
  refine g_iload_n X dL_bring_3 rfl rfl ?_
  refine g_iload_n X dL_bring_4 rfl rfl ?_
  refine g_callVi (na := 2) X hj hM gW_0 rfl gL_bring_X4_bring rfl ⟨rfl, rfl⟩ (by decide +kernel) rfl ⟨by decide, by decide⟩ rfl (Nat.le_of_ble_eq_true rfl) dL_bring_5 ⟨by decide, by decide⟩ ?_
  refine g_i2l X dL_bring_8 rfl ?_
  refine g_ast_30 X rfl (by omega) dL_bring_9 ?_
  refine g_goto (tgt := 21) X dL_bring_10 (by decide) ?_
  refine g_iconstN X 0 dL_bring_21 ?_
  exact g_iretH X hr Y.2.1 dL_bring_22 ⟨by decide, by decide⟩ ⟨rfl, rfl⟩
set_option maxRecDepth 20000 in
theorem h_bring_t1 (l : Launch) (γ : gG) (σ σ2 : gS) (a0 a1 : Int32) (hM : gMX l γ yX4_bring wsX4_bring ({ frames := 8, cells := 1, slots := 6, locals := 242 } : Room) [.ref (ad γ 0), .int a0, .int a1] σ eB σ2) : gMH l γ yL_bring wsL_bring ({ frames := 9, cells := 1, slots := 6, locals := 264 } : Room) [.ref (ad γ 0), .int a0, .int a1, .ref (ad γ 30)] σ (gis (some (.int (nI 1))) σ2) := by
  refine g_enterH (own := RL) (cc := cL_bring) (nL := 5) (ret := some .int) (hh := [(0, 10, 13, 13), (0, 10, 17, 15)]) [some (.ref (ad γ 0)), some (.int a0), some (.int a1), some (.ref (ad γ 30)), none] (by decide) rfl rfl (by simp [lg_sl, Value.category]) (by simp [gl_le, glE, Value.category]) (fun hj p e s m args below meth c X Y hr => ?_)
  refine g_aload_n X dL_bring_0 rfl rfl ?_
  refine g_iconstN X 0 dL_bring_1 ?_
  refine g_aload_n X dL_bring_2 rfl rfl ?_
  refine g_iload_n X dL_bring_3 rfl rfl ?_
  refine g_iload_n X dL_bring_4 rfl rfl ?_
  refine g_catchH (na := 2) X Y hj _ hM gW_0 rfl gL_bring_X4_bring rfl ⟨rfl, rfl⟩ (by decide +kernel) rfl ⟨by decide, by decide⟩ rfl (Nat.le_of_ble_eq_true rfl) dL_bring_5 ⟨by decide, by decide⟩ [] ⟨0, 10, 13, 13⟩ [⟨0, 10, 17, 15⟩] rfl (fun z hz => absurd hz (by simp)) (by decide) (by decide) (by decide +kernel) ngB (fun q => ?_)
  refine g_astore_s4 X dL_bring_13 (by decide) rfl ?_
  refine g_iconstN X 1 dL_bring_15 ?_
  exact g_iretH X hr Y.2.1 dL_bring_16 ⟨by decide, by decide⟩ ⟨rfl, rfl⟩
set_option maxRecDepth 20000 in
theorem h_bring_t2 (l : Launch) (γ : gG) (σ σ2 : gS) (a0 a1 : Int32) (hM : gMX l γ yX4_bring wsX4_bring ({ frames := 8, cells := 1, slots := 6, locals := 242 } : Room) [.ref (ad γ 0), .int a0, .int a1] σ eA σ2) : gMH l γ yL_bring wsL_bring ({ frames := 9, cells := 1, slots := 6, locals := 264 } : Room) [.ref (ad γ 0), .int a0, .int a1, .ref (ad γ 30)] σ (gis (some (.int (nI 2))) σ2) := by
  refine g_enterH (own := RL) (cc := cL_bring) (nL := 5) (ret := some .int) (hh := [(0, 10, 13, 13), (0, 10, 17, 15)]) [some (.ref (ad γ 0)), some (.int a0), some (.int a1), some (.ref (ad γ 30)), none] (by decide) rfl rfl (by simp [lg_sl, Value.category]) (by simp [gl_le, glE, Value.category]) (fun hj p e s m args below meth c X Y hr => ?_)
  refine g_aload_n X dL_bring_0 rfl rfl ?_
  refine g_iconstN X 0 dL_bring_1 ?_
  refine g_aload_n X dL_bring_2 rfl rfl ?_
  refine g_iload_n X dL_bring_3 rfl rfl ?_
  refine g_iload_n X dL_bring_4 rfl rfl ?_
  refine g_catchH (na := 2) X Y hj _ hM gW_0 rfl gL_bring_X4_bring rfl ⟨rfl, rfl⟩ (by decide +kernel) rfl ⟨by decide, by decide⟩ rfl (Nat.le_of_ble_eq_true rfl) dL_bring_5 ⟨by decide, by decide⟩ [⟨0, 10, 13, 13⟩] ⟨0, 10, 17, 15⟩ [] rfl (fun z hz => by simp only [List.mem_cons, List.not_mem_nil, or_false] at hz; subst hz; exact Or.inr ⟨by decide, eB, by decide +kernel, Y.2.2.2.2.2.1⟩) (by decide) (by decide) (by decide +kernel) ngA (fun q => ?_)
  refine g_astore_s4 X dL_bring_17 (by decide) rfl ?_
  refine g_iconstN X 2 dL_bring_19 ?_
  exact g_iretH X hr Y.2.1 dL_bring_20 ⟨by decide, by decide⟩ ⟨rfl, rfl⟩
set_option maxRecDepth 20000 in
theorem h_takeOut_ok (l : Launch) (γ : gG) (σ σ2 : gS) (a0 a1 : Int32) (r : Int32) (hM : gM l γ yX4_takeOut wsX4_takeOut ({ frames := 8, cells := 0, slots := 0, locals := 242 } : Room) [.ref (ad γ 0), .int a0, .int a1] σ (gis (some (.int r)) σ2) 0 0) : gMH l γ yL_takeOut wsL_takeOut ({ frames := 9, cells := 1, slots := 6, locals := 264 } : Room) [.ref (ad γ 0), .int a0, .int a1, .ref (ad γ 30)] σ (gis (some (.int (nI 0))) (outS σ2 r)) := by
  refine g_enterH (own := RL) (cc := cL_takeOut) (nL := 5) (ret := some .int) (hh := [(0, 10, 13, 13), (0, 10, 17, 15), (0, 10, 21, 20)]) [some (.ref (ad γ 0)), some (.int a0), some (.int a1), some (.ref (ad γ 30)), none] (by decide) rfl rfl (by simp [lg_sl, Value.category]) (by simp [gl_le, glE, Value.category]) (fun hj p e s m args below meth c X Y hr => ?_)
  refine g_aload_n X dL_takeOut_0 rfl rfl ?_
  refine g_iconstN X 0 dL_takeOut_1 ?_
  refine g_aload_n X dL_takeOut_2 rfl rfl ?_
  refine g_iload_n X dL_takeOut_3 rfl rfl ?_
  refine g_iload_n X dL_takeOut_4 rfl rfl ?_
  refine g_callVi (na := 2) X hj hM gW_0 rfl gL_takeOut_X4_takeOut rfl ⟨rfl, rfl⟩ (by decide +kernel) rfl ⟨by decide, by decide⟩ rfl (Nat.le_of_ble_eq_true rfl) dL_takeOut_5 ⟨by decide, by decide⟩ ?_
  refine g_i2l X dL_takeOut_8 rfl ?_
  refine g_ast_30 X rfl (by omega) dL_takeOut_9 ?_
  refine g_goto (tgt := 25) X dL_takeOut_10 (by decide) ?_
  refine g_iconstN X 0 dL_takeOut_25 ?_
  exact g_iretH X hr Y.2.1 dL_takeOut_26 ⟨by decide, by decide⟩ ⟨rfl, rfl⟩
set_option maxRecDepth 20000 in
theorem h_takeOut_t1 (l : Launch) (γ : gG) (σ σ2 : gS) (a0 a1 : Int32) (hM : gMX l γ yX4_takeOut wsX4_takeOut ({ frames := 8, cells := 1, slots := 6, locals := 242 } : Room) [.ref (ad γ 0), .int a0, .int a1] σ eB σ2) : gMH l γ yL_takeOut wsL_takeOut ({ frames := 9, cells := 1, slots := 6, locals := 264 } : Room) [.ref (ad γ 0), .int a0, .int a1, .ref (ad γ 30)] σ (gis (some (.int (nI 1))) σ2) := by
  refine g_enterH (own := RL) (cc := cL_takeOut) (nL := 5) (ret := some .int) (hh := [(0, 10, 13, 13), (0, 10, 17, 15), (0, 10, 21, 20)]) [some (.ref (ad γ 0)), some (.int a0), some (.int a1), some (.ref (ad γ 30)), none] (by decide) rfl rfl (by simp [lg_sl, Value.category]) (by simp [gl_le, glE, Value.category]) (fun hj p e s m args below meth c X Y hr => ?_)
  refine g_aload_n X dL_takeOut_0 rfl rfl ?_
  refine g_iconstN X 0 dL_takeOut_1 ?_
  refine g_aload_n X dL_takeOut_2 rfl rfl ?_
  refine g_iload_n X dL_takeOut_3 rfl rfl ?_
  refine g_iload_n X dL_takeOut_4 rfl rfl ?_
  refine g_catchH (na := 2) X Y hj _ hM gW_0 rfl gL_takeOut_X4_takeOut rfl ⟨rfl, rfl⟩ (by decide +kernel) rfl ⟨by decide, by decide⟩ rfl (Nat.le_of_ble_eq_true rfl) dL_takeOut_5 ⟨by decide, by decide⟩ [] ⟨0, 10, 13, 13⟩ [⟨0, 10, 17, 15⟩, ⟨0, 10, 21, 20⟩] rfl (fun z hz => absurd hz (by simp)) (by decide) (by decide) (by decide +kernel) ngB (fun q => ?_)
  refine g_astore_s4 X dL_takeOut_13 (by decide) rfl ?_
  refine g_iconstN X 1 dL_takeOut_15 ?_
  exact g_iretH X hr Y.2.1 dL_takeOut_16 ⟨by decide, by decide⟩ ⟨rfl, rfl⟩
set_option maxRecDepth 20000 in
theorem h_takeOut_t2 (l : Launch) (γ : gG) (σ σ2 : gS) (a0 a1 : Int32) (hM : gMX l γ yX4_takeOut wsX4_takeOut ({ frames := 8, cells := 1, slots := 6, locals := 242 } : Room) [.ref (ad γ 0), .int a0, .int a1] σ eA σ2) : gMH l γ yL_takeOut wsL_takeOut ({ frames := 9, cells := 1, slots := 6, locals := 264 } : Room) [.ref (ad γ 0), .int a0, .int a1, .ref (ad γ 30)] σ (gis (some (.int (nI 2))) σ2) := by
  refine g_enterH (own := RL) (cc := cL_takeOut) (nL := 5) (ret := some .int) (hh := [(0, 10, 13, 13), (0, 10, 17, 15), (0, 10, 21, 20)]) [some (.ref (ad γ 0)), some (.int a0), some (.int a1), some (.ref (ad γ 30)), none] (by decide) rfl rfl (by simp [lg_sl, Value.category]) (by simp [gl_le, glE, Value.category]) (fun hj p e s m args below meth c X Y hr => ?_)
  refine g_aload_n X dL_takeOut_0 rfl rfl ?_
  refine g_iconstN X 0 dL_takeOut_1 ?_
  refine g_aload_n X dL_takeOut_2 rfl rfl ?_
  refine g_iload_n X dL_takeOut_3 rfl rfl ?_
  refine g_iload_n X dL_takeOut_4 rfl rfl ?_
  refine g_catchH (na := 2) X Y hj _ hM gW_0 rfl gL_takeOut_X4_takeOut rfl ⟨rfl, rfl⟩ (by decide +kernel) rfl ⟨by decide, by decide⟩ rfl (Nat.le_of_ble_eq_true rfl) dL_takeOut_5 ⟨by decide, by decide⟩ [⟨0, 10, 13, 13⟩] ⟨0, 10, 17, 15⟩ [⟨0, 10, 21, 20⟩] rfl (fun z hz => by simp only [List.mem_cons, List.not_mem_nil, or_false] at hz; subst hz; exact Or.inr ⟨by decide, eB, by decide +kernel, Y.2.2.2.2.2.1⟩) (by decide) (by decide) (by decide +kernel) ngA (fun q => ?_)
  refine g_astore_s4 X dL_takeOut_17 (by decide) rfl ?_
  refine g_iconstN X 2 dL_takeOut_19 ?_
  exact g_iretH X hr Y.2.1 dL_takeOut_20 ⟨by decide, by decide⟩ ⟨rfl, rfl⟩
set_option maxRecDepth 20000 in
theorem h_takeOut_t3 (l : Launch) (γ : gG) (σ σ2 : gS) (a0 a1 : Int32) (hM : gMX l γ yX4_takeOut wsX4_takeOut ({ frames := 8, cells := 1, slots := 6, locals := 242 } : Room) [.ref (ad γ 0), .int a0, .int a1] σ eT σ2) : gMH l γ yL_takeOut wsL_takeOut ({ frames := 9, cells := 1, slots := 6, locals := 264 } : Room) [.ref (ad γ 0), .int a0, .int a1, .ref (ad γ 30)] σ (gis (some (.int (nI 3))) σ2) := by
  refine g_enterH (own := RL) (cc := cL_takeOut) (nL := 5) (ret := some .int) (hh := [(0, 10, 13, 13), (0, 10, 17, 15), (0, 10, 21, 20)]) [some (.ref (ad γ 0)), some (.int a0), some (.int a1), some (.ref (ad γ 30)), none] (by decide) rfl rfl (by simp [lg_sl, Value.category]) (by simp [gl_le, glE, Value.category]) (fun hj p e s m args below meth c X Y hr => ?_)
  refine g_aload_n X dL_takeOut_0 rfl rfl ?_
  refine g_iconstN X 0 dL_takeOut_1 ?_
  refine g_aload_n X dL_takeOut_2 rfl rfl ?_
  refine g_iload_n X dL_takeOut_3 rfl rfl ?_
  refine g_iload_n X dL_takeOut_4 rfl rfl ?_
  refine g_catchH (na := 2) X Y hj _ hM gW_0 rfl gL_takeOut_X4_takeOut rfl ⟨rfl, rfl⟩ (by decide +kernel) rfl ⟨by decide, by decide⟩ rfl (Nat.le_of_ble_eq_true rfl) dL_takeOut_5 ⟨by decide, by decide⟩ [⟨0, 10, 13, 13⟩, ⟨0, 10, 17, 15⟩] ⟨0, 10, 21, 20⟩ [] rfl (fun z hz => by (simp only [List.mem_cons, List.not_mem_nil, or_false] at hz; rcases hz with rfl | rfl; exact Or.inr ⟨by decide, eB, by decide +kernel, Y.2.2.2.2.2.2.1⟩; exact Or.inr ⟨by decide, eA, by decide +kernel, Y.2.2.2.2.2.2.2⟩)) (by decide) (by decide) (by decide +kernel) ngT (fun q => ?_)
  refine g_astore_s4 X dL_takeOut_21 (by decide) rfl ?_
  refine g_iconstN X 3 dL_takeOut_23 ?_
  exact g_iretH X hr Y.2.1 dL_takeOut_24 ⟨by decide, by decide⟩ ⟨rfl, rfl⟩
set_option maxRecDepth 20000 in
theorem h_guarantee_ok (l : Launch) (γ : gG) (σ σ2 : gS) (a0 a1 a2 : Int32) (r : Int32) (hM : gM l γ yX4_guarantee wsX4_guarantee ({ frames := 7, cells := 0, slots := 0, locals := 222 } : Room) [.ref (ad γ 0), .int a0, .int a1, .int a2] σ (gis (some (.int r)) σ2) 0 0) : gMH l γ yL_guarantee wsL_guarantee ({ frames := 8, cells := 1, slots := 6, locals := 246 } : Room) [.ref (ad γ 0), .int a0, .int a1, .int a2, .ref (ad γ 30)] σ (gis (some (.int (nI 0))) (outS σ2 r)) := by
  refine g_enterH (own := RL) (cc := cL_guarantee) (nL := 6) (ret := some .int) (hh := [(0, 12, 15, 13), (0, 12, 19, 15), (0, 12, 23, 20)]) [some (.ref (ad γ 0)), some (.int a0), some (.int a1), some (.int a2), some (.ref (ad γ 30)), none] (by decide) rfl rfl (by simp [lg_sl, Value.category]) (by simp [gl_le, glE, Value.category]) (fun hj p e s m args below meth c X Y hr => ?_)
  refine g_aload X dL_guarantee_0 rfl ?_
  refine g_iconstN X 0 dL_guarantee_2 ?_
  refine g_aload_n X dL_guarantee_3 rfl rfl ?_
  refine g_iload_n X dL_guarantee_4 rfl rfl ?_
  refine g_iload_n X dL_guarantee_5 rfl rfl ?_
  refine g_iload_n X dL_guarantee_6 rfl rfl ?_
  refine g_callVi (na := 3) X hj hM gW_0 rfl gL_guarantee_X4_guarantee rfl ⟨rfl, rfl⟩ (by decide +kernel) rfl ⟨by decide, by decide⟩ rfl (Nat.le_of_ble_eq_true rfl) dL_guarantee_7 ⟨by decide, by decide⟩ ?_
  refine g_i2l X dL_guarantee_10 rfl ?_
  refine g_ast_30 X rfl (by omega) dL_guarantee_11 ?_
  refine g_goto (tgt := 27) X dL_guarantee_12 (by decide) ?_
  refine g_iconstN X 0 dL_guarantee_27 ?_
  exact g_iretH X hr Y.2.1 dL_guarantee_28 ⟨by decide, by decide⟩ ⟨rfl, rfl⟩
set_option maxRecDepth 20000 in
theorem h_guarantee_t1 (l : Launch) (γ : gG) (σ σ2 : gS) (a0 a1 a2 : Int32) (hM : gMX l γ yX4_guarantee wsX4_guarantee ({ frames := 7, cells := 1, slots := 6, locals := 222 } : Room) [.ref (ad γ 0), .int a0, .int a1, .int a2] σ eB σ2) : gMH l γ yL_guarantee wsL_guarantee ({ frames := 8, cells := 1, slots := 6, locals := 246 } : Room) [.ref (ad γ 0), .int a0, .int a1, .int a2, .ref (ad γ 30)] σ (gis (some (.int (nI 1))) σ2) := by
  refine g_enterH (own := RL) (cc := cL_guarantee) (nL := 6) (ret := some .int) (hh := [(0, 12, 15, 13), (0, 12, 19, 15), (0, 12, 23, 20)]) [some (.ref (ad γ 0)), some (.int a0), some (.int a1), some (.int a2), some (.ref (ad γ 30)), none] (by decide) rfl rfl (by simp [lg_sl, Value.category]) (by simp [gl_le, glE, Value.category]) (fun hj p e s m args below meth c X Y hr => ?_)
  refine g_aload X dL_guarantee_0 rfl ?_
  refine g_iconstN X 0 dL_guarantee_2 ?_
  refine g_aload_n X dL_guarantee_3 rfl rfl ?_
  refine g_iload_n X dL_guarantee_4 rfl rfl ?_
  refine g_iload_n X dL_guarantee_5 rfl rfl ?_
  refine g_iload_n X dL_guarantee_6 rfl rfl ?_
  refine g_catchH (na := 3) X Y hj _ hM gW_0 rfl gL_guarantee_X4_guarantee rfl ⟨rfl, rfl⟩ (by decide +kernel) rfl ⟨by decide, by decide⟩ rfl (Nat.le_of_ble_eq_true rfl) dL_guarantee_7 ⟨by decide, by decide⟩ [] ⟨0, 12, 15, 13⟩ [⟨0, 12, 19, 15⟩, ⟨0, 12, 23, 20⟩] rfl (fun z hz => absurd hz (by simp)) (by decide) (by decide) (by decide +kernel) ngB (fun q => ?_)
  refine g_astore_s5 X dL_guarantee_15 (by decide) rfl ?_
  refine g_iconstN X 1 dL_guarantee_17 ?_
  exact g_iretH X hr Y.2.1 dL_guarantee_18 ⟨by decide, by decide⟩ ⟨rfl, rfl⟩
set_option maxRecDepth 20000 in
theorem h_guarantee_t2 (l : Launch) (γ : gG) (σ σ2 : gS) (a0 a1 a2 : Int32) (hM : gMX l γ yX4_guarantee wsX4_guarantee ({ frames := 7, cells := 1, slots := 6, locals := 222 } : Room) [.ref (ad γ 0), .int a0, .int a1, .int a2] σ eA σ2) : gMH l γ yL_guarantee wsL_guarantee ({ frames := 8, cells := 1, slots := 6, locals := 246 } : Room) [.ref (ad γ 0), .int a0, .int a1, .int a2, .ref (ad γ 30)] σ (gis (some (.int (nI 2))) σ2) := by
  refine g_enterH (own := RL) (cc := cL_guarantee) (nL := 6) (ret := some .int) (hh := [(0, 12, 15, 13), (0, 12, 19, 15), (0, 12, 23, 20)]) [some (.ref (ad γ 0)), some (.int a0), some (.int a1), some (.int a2), some (.ref (ad γ 30)), none] (by decide) rfl rfl (by simp [lg_sl, Value.category]) (by simp [gl_le, glE, Value.category]) (fun hj p e s m args below meth c X Y hr => ?_)
  refine g_aload X dL_guarantee_0 rfl ?_
  refine g_iconstN X 0 dL_guarantee_2 ?_
  refine g_aload_n X dL_guarantee_3 rfl rfl ?_
  refine g_iload_n X dL_guarantee_4 rfl rfl ?_
  refine g_iload_n X dL_guarantee_5 rfl rfl ?_
  refine g_iload_n X dL_guarantee_6 rfl rfl ?_
  refine g_catchH (na := 3) X Y hj _ hM gW_0 rfl gL_guarantee_X4_guarantee rfl ⟨rfl, rfl⟩ (by decide +kernel) rfl ⟨by decide, by decide⟩ rfl (Nat.le_of_ble_eq_true rfl) dL_guarantee_7 ⟨by decide, by decide⟩ [⟨0, 12, 15, 13⟩] ⟨0, 12, 19, 15⟩ [⟨0, 12, 23, 20⟩] rfl (fun z hz => by simp only [List.mem_cons, List.not_mem_nil, or_false] at hz; subst hz; exact Or.inr ⟨by decide, eB, by decide +kernel, Y.2.2.2.2.2.1⟩) (by decide) (by decide) (by decide +kernel) ngA (fun q => ?_)
  refine g_astore_s5 X dL_guarantee_19 (by decide) rfl ?_
  refine g_iconstN X 2 dL_guarantee_21 ?_
  exact g_iretH X hr Y.2.1 dL_guarantee_22 ⟨by decide, by decide⟩ ⟨rfl, rfl⟩
set_option maxRecDepth 20000 in
theorem h_guarantee_t3 (l : Launch) (γ : gG) (σ σ2 : gS) (a0 a1 a2 : Int32) (hM : gMX l γ yX4_guarantee wsX4_guarantee ({ frames := 7, cells := 1, slots := 6, locals := 222 } : Room) [.ref (ad γ 0), .int a0, .int a1, .int a2] σ eT σ2) : gMH l γ yL_guarantee wsL_guarantee ({ frames := 8, cells := 1, slots := 6, locals := 246 } : Room) [.ref (ad γ 0), .int a0, .int a1, .int a2, .ref (ad γ 30)] σ (gis (some (.int (nI 3))) σ2) := by
  refine g_enterH (own := RL) (cc := cL_guarantee) (nL := 6) (ret := some .int) (hh := [(0, 12, 15, 13), (0, 12, 19, 15), (0, 12, 23, 20)]) [some (.ref (ad γ 0)), some (.int a0), some (.int a1), some (.int a2), some (.ref (ad γ 30)), none] (by decide) rfl rfl (by simp [lg_sl, Value.category]) (by simp [gl_le, glE, Value.category]) (fun hj p e s m args below meth c X Y hr => ?_)
  refine g_aload X dL_guarantee_0 rfl ?_
  refine g_iconstN X 0 dL_guarantee_2 ?_
  refine g_aload_n X dL_guarantee_3 rfl rfl ?_
  refine g_iload_n X dL_guarantee_4 rfl rfl ?_
  refine g_iload_n X dL_guarantee_5 rfl rfl ?_
  refine g_iload_n X dL_guarantee_6 rfl rfl ?_
  refine g_catchH (na := 3) X Y hj _ hM gW_0 rfl gL_guarantee_X4_guarantee rfl ⟨rfl, rfl⟩ (by decide +kernel) rfl ⟨by decide, by decide⟩ rfl (Nat.le_of_ble_eq_true rfl) dL_guarantee_7 ⟨by decide, by decide⟩ [⟨0, 12, 15, 13⟩, ⟨0, 12, 19, 15⟩] ⟨0, 12, 23, 20⟩ [] rfl (fun z hz => by (simp only [List.mem_cons, List.not_mem_nil, or_false] at hz; rcases hz with rfl | rfl; exact Or.inr ⟨by decide, eB, by decide +kernel, Y.2.2.2.2.2.2.1⟩; exact Or.inr ⟨by decide, eA, by decide +kernel, Y.2.2.2.2.2.2.2⟩)) (by decide) (by decide) (by decide +kernel) ngT (fun q => ?_)
  refine g_astore_s5 X dL_guarantee_23 (by decide) rfl ?_
  refine g_iconstN X 3 dL_guarantee_25 ?_
  exact g_iretH X hr Y.2.1 dL_guarantee_26 ⟨by decide, by decide⟩ ⟨rfl, rfl⟩
set_option maxRecDepth 20000 in
theorem h_repay_ok (l : Launch) (γ : gG) (σ σ2 : gS) (a0 a1 a2 : Int32) (r : Int32) (hM : gM l γ yX4_repay wsX4_repay ({ frames := 8, cells := 0, slots := 0, locals := 242 } : Room) [.ref (ad γ 0), .int a0, .int a1, .int a2] σ (gis (some (.int r)) σ2) 0 0) : gMH l γ yL_repay wsL_repay ({ frames := 9, cells := 1, slots := 6, locals := 265 } : Room) [.ref (ad γ 0), .int a0, .int a1, .int a2, .ref (ad γ 30)] σ (gis (some (.int (nI 0))) (outS σ2 r)) := by
  refine g_enterH (own := RL) (cc := cL_repay) (nL := 6) (ret := some .int) (hh := [(0, 12, 15, 13), (0, 12, 19, 15), (0, 12, 23, 20)]) [some (.ref (ad γ 0)), some (.int a0), some (.int a1), some (.int a2), some (.ref (ad γ 30)), none] (by decide) rfl rfl (by simp [lg_sl, Value.category]) (by simp [gl_le, glE, Value.category]) (fun hj p e s m args below meth c X Y hr => ?_)
  refine g_aload X dL_repay_0 rfl ?_
  refine g_iconstN X 0 dL_repay_2 ?_
  refine g_aload_n X dL_repay_3 rfl rfl ?_
  refine g_iload_n X dL_repay_4 rfl rfl ?_
  refine g_iload_n X dL_repay_5 rfl rfl ?_
  refine g_iload_n X dL_repay_6 rfl rfl ?_
  refine g_callVi (na := 3) X hj hM gW_0 rfl gL_repay_X4_repay rfl ⟨rfl, rfl⟩ (by decide +kernel) rfl ⟨by decide, by decide⟩ rfl (Nat.le_of_ble_eq_true rfl) dL_repay_7 ⟨by decide, by decide⟩ ?_
  refine g_i2l X dL_repay_10 rfl ?_
  refine g_ast_30 X rfl (by omega) dL_repay_11 ?_
  refine g_goto (tgt := 27) X dL_repay_12 (by decide) ?_
  refine g_iconstN X 0 dL_repay_27 ?_
  exact g_iretH X hr Y.2.1 dL_repay_28 ⟨by decide, by decide⟩ ⟨rfl, rfl⟩
set_option maxRecDepth 20000 in
theorem h_repay_t1 (l : Launch) (γ : gG) (σ σ2 : gS) (a0 a1 a2 : Int32) (hM : gMX l γ yX4_repay wsX4_repay ({ frames := 8, cells := 1, slots := 6, locals := 242 } : Room) [.ref (ad γ 0), .int a0, .int a1, .int a2] σ eB σ2) : gMH l γ yL_repay wsL_repay ({ frames := 9, cells := 1, slots := 6, locals := 265 } : Room) [.ref (ad γ 0), .int a0, .int a1, .int a2, .ref (ad γ 30)] σ (gis (some (.int (nI 1))) σ2) := by
  refine g_enterH (own := RL) (cc := cL_repay) (nL := 6) (ret := some .int) (hh := [(0, 12, 15, 13), (0, 12, 19, 15), (0, 12, 23, 20)]) [some (.ref (ad γ 0)), some (.int a0), some (.int a1), some (.int a2), some (.ref (ad γ 30)), none] (by decide) rfl rfl (by simp [lg_sl, Value.category]) (by simp [gl_le, glE, Value.category]) (fun hj p e s m args below meth c X Y hr => ?_)
  refine g_aload X dL_repay_0 rfl ?_
  refine g_iconstN X 0 dL_repay_2 ?_
  refine g_aload_n X dL_repay_3 rfl rfl ?_
  refine g_iload_n X dL_repay_4 rfl rfl ?_
  refine g_iload_n X dL_repay_5 rfl rfl ?_
  refine g_iload_n X dL_repay_6 rfl rfl ?_
  refine g_catchH (na := 3) X Y hj _ hM gW_0 rfl gL_repay_X4_repay rfl ⟨rfl, rfl⟩ (by decide +kernel) rfl ⟨by decide, by decide⟩ rfl (Nat.le_of_ble_eq_true rfl) dL_repay_7 ⟨by decide, by decide⟩ [] ⟨0, 12, 15, 13⟩ [⟨0, 12, 19, 15⟩, ⟨0, 12, 23, 20⟩] rfl (fun z hz => absurd hz (by simp)) (by decide) (by decide) (by decide +kernel) ngB (fun q => ?_)
  refine g_astore_s5 X dL_repay_15 (by decide) rfl ?_
  refine g_iconstN X 1 dL_repay_17 ?_
  exact g_iretH X hr Y.2.1 dL_repay_18 ⟨by decide, by decide⟩ ⟨rfl, rfl⟩
set_option maxRecDepth 20000 in
theorem h_repay_t2 (l : Launch) (γ : gG) (σ σ2 : gS) (a0 a1 a2 : Int32) (hM : gMX l γ yX4_repay wsX4_repay ({ frames := 8, cells := 1, slots := 6, locals := 242 } : Room) [.ref (ad γ 0), .int a0, .int a1, .int a2] σ eA σ2) : gMH l γ yL_repay wsL_repay ({ frames := 9, cells := 1, slots := 6, locals := 265 } : Room) [.ref (ad γ 0), .int a0, .int a1, .int a2, .ref (ad γ 30)] σ (gis (some (.int (nI 2))) σ2) := by
  refine g_enterH (own := RL) (cc := cL_repay) (nL := 6) (ret := some .int) (hh := [(0, 12, 15, 13), (0, 12, 19, 15), (0, 12, 23, 20)]) [some (.ref (ad γ 0)), some (.int a0), some (.int a1), some (.int a2), some (.ref (ad γ 30)), none] (by decide) rfl rfl (by simp [lg_sl, Value.category]) (by simp [gl_le, glE, Value.category]) (fun hj p e s m args below meth c X Y hr => ?_)
  refine g_aload X dL_repay_0 rfl ?_
  refine g_iconstN X 0 dL_repay_2 ?_
  refine g_aload_n X dL_repay_3 rfl rfl ?_
  refine g_iload_n X dL_repay_4 rfl rfl ?_
  refine g_iload_n X dL_repay_5 rfl rfl ?_
  refine g_iload_n X dL_repay_6 rfl rfl ?_
  refine g_catchH (na := 3) X Y hj _ hM gW_0 rfl gL_repay_X4_repay rfl ⟨rfl, rfl⟩ (by decide +kernel) rfl ⟨by decide, by decide⟩ rfl (Nat.le_of_ble_eq_true rfl) dL_repay_7 ⟨by decide, by decide⟩ [⟨0, 12, 15, 13⟩] ⟨0, 12, 19, 15⟩ [⟨0, 12, 23, 20⟩] rfl (fun z hz => by simp only [List.mem_cons, List.not_mem_nil, or_false] at hz; subst hz; exact Or.inr ⟨by decide, eB, by decide +kernel, Y.2.2.2.2.2.1⟩) (by decide) (by decide) (by decide +kernel) ngA (fun q => ?_)
  refine g_astore_s5 X dL_repay_19 (by decide) rfl ?_
  refine g_iconstN X 2 dL_repay_21 ?_
  exact g_iretH X hr Y.2.1 dL_repay_22 ⟨by decide, by decide⟩ ⟨rfl, rfl⟩
set_option maxRecDepth 20000 in
theorem h_repay_t3 (l : Launch) (γ : gG) (σ σ2 : gS) (a0 a1 a2 : Int32) (hM : gMX l γ yX4_repay wsX4_repay ({ frames := 8, cells := 1, slots := 6, locals := 242 } : Room) [.ref (ad γ 0), .int a0, .int a1, .int a2] σ eT σ2) : gMH l γ yL_repay wsL_repay ({ frames := 9, cells := 1, slots := 6, locals := 265 } : Room) [.ref (ad γ 0), .int a0, .int a1, .int a2, .ref (ad γ 30)] σ (gis (some (.int (nI 3))) σ2) := by
  refine g_enterH (own := RL) (cc := cL_repay) (nL := 6) (ret := some .int) (hh := [(0, 12, 15, 13), (0, 12, 19, 15), (0, 12, 23, 20)]) [some (.ref (ad γ 0)), some (.int a0), some (.int a1), some (.int a2), some (.ref (ad γ 30)), none] (by decide) rfl rfl (by simp [lg_sl, Value.category]) (by simp [gl_le, glE, Value.category]) (fun hj p e s m args below meth c X Y hr => ?_)
  refine g_aload X dL_repay_0 rfl ?_
  refine g_iconstN X 0 dL_repay_2 ?_
  refine g_aload_n X dL_repay_3 rfl rfl ?_
  refine g_iload_n X dL_repay_4 rfl rfl ?_
  refine g_iload_n X dL_repay_5 rfl rfl ?_
  refine g_iload_n X dL_repay_6 rfl rfl ?_
  refine g_catchH (na := 3) X Y hj _ hM gW_0 rfl gL_repay_X4_repay rfl ⟨rfl, rfl⟩ (by decide +kernel) rfl ⟨by decide, by decide⟩ rfl (Nat.le_of_ble_eq_true rfl) dL_repay_7 ⟨by decide, by decide⟩ [⟨0, 12, 15, 13⟩, ⟨0, 12, 19, 15⟩] ⟨0, 12, 23, 20⟩ [] rfl (fun z hz => by (simp only [List.mem_cons, List.not_mem_nil, or_false] at hz; rcases hz with rfl | rfl; exact Or.inr ⟨by decide, eB, by decide +kernel, Y.2.2.2.2.2.2.1⟩; exact Or.inr ⟨by decide, eA, by decide +kernel, Y.2.2.2.2.2.2.2⟩)) (by decide) (by decide) (by decide +kernel) ngT (fun q => ?_)
  refine g_astore_s5 X dL_repay_23 (by decide) rfl ?_
  refine g_iconstN X 3 dL_repay_25 ?_
  exact g_iretH X hr Y.2.1 dL_repay_26 ⟨by decide, by decide⟩ ⟨rfl, rfl⟩
set_option maxRecDepth 20000 in
theorem h_set_ok (l : Launch) (γ : gG) (σ σ2 : gS) (a0 a1 : Int32) (r : Int32) (hM : gM l γ yX4_set wsX4_set ({ frames := 7, cells := 0, slots := 0, locals := 222 } : Room) [.ref (ad γ 0), .int a0, .int a1] σ (gis (some (.int r)) σ2) 0 0) : gMH l γ yL_set wsL_set ({ frames := 8, cells := 1, slots := 6, locals := 245 } : Room) [.ref (ad γ 0), .int a0, .int a1, .ref (ad γ 30)] σ (gis (some (.int (nI 0))) (outS σ2 r)) := by
  refine g_enterH (own := RL) (cc := cL_set) (nL := 5) (ret := some .int) (hh := [(0, 10, 13, 13), (0, 10, 17, 15)]) [some (.ref (ad γ 0)), some (.int a0), some (.int a1), some (.ref (ad γ 30)), none] (by decide) rfl rfl (by simp [lg_sl, Value.category]) (by simp [gl_le, glE, Value.category]) (fun hj p e s m args below meth c X Y hr => ?_)
  refine g_aload_n X dL_set_0 rfl rfl ?_
  refine g_iconstN X 0 dL_set_1 ?_
  refine g_aload_n X dL_set_2 rfl rfl ?_
  refine g_iload_n X dL_set_3 rfl rfl ?_
  refine g_iload_n X dL_set_4 rfl rfl ?_
  refine g_callVi (na := 2) X hj hM gW_0 rfl gL_set_X4_set rfl ⟨rfl, rfl⟩ (by decide +kernel) rfl ⟨by decide, by decide⟩ rfl (Nat.le_of_ble_eq_true rfl) dL_set_5 ⟨by decide, by decide⟩ ?_
  refine g_i2l X dL_set_8 rfl ?_
  refine g_ast_30 X rfl (by omega) dL_set_9 ?_
  refine g_goto (tgt := 21) X dL_set_10 (by decide) ?_
  refine g_iconstN X 0 dL_set_21 ?_
  exact g_iretH X hr Y.2.1 dL_set_22 ⟨by decide, by decide⟩ ⟨rfl, rfl⟩
set_option maxRecDepth 20000 in
theorem h_set_t1 (l : Launch) (γ : gG) (σ σ2 : gS) (a0 a1 : Int32) (hM : gMX l γ yX4_set wsX4_set ({ frames := 7, cells := 1, slots := 6, locals := 222 } : Room) [.ref (ad γ 0), .int a0, .int a1] σ eB σ2) : gMH l γ yL_set wsL_set ({ frames := 8, cells := 1, slots := 6, locals := 245 } : Room) [.ref (ad γ 0), .int a0, .int a1, .ref (ad γ 30)] σ (gis (some (.int (nI 1))) σ2) := by
  refine g_enterH (own := RL) (cc := cL_set) (nL := 5) (ret := some .int) (hh := [(0, 10, 13, 13), (0, 10, 17, 15)]) [some (.ref (ad γ 0)), some (.int a0), some (.int a1), some (.ref (ad γ 30)), none] (by decide) rfl rfl (by simp [lg_sl, Value.category]) (by simp [gl_le, glE, Value.category]) (fun hj p e s m args below meth c X Y hr => ?_)
  refine g_aload_n X dL_set_0 rfl rfl ?_
  refine g_iconstN X 0 dL_set_1 ?_
  refine g_aload_n X dL_set_2 rfl rfl ?_
  refine g_iload_n X dL_set_3 rfl rfl ?_
  refine g_iload_n X dL_set_4 rfl rfl ?_
  refine g_catchH (na := 2) X Y hj _ hM gW_0 rfl gL_set_X4_set rfl ⟨rfl, rfl⟩ (by decide +kernel) rfl ⟨by decide, by decide⟩ rfl (Nat.le_of_ble_eq_true rfl) dL_set_5 ⟨by decide, by decide⟩ [] ⟨0, 10, 13, 13⟩ [⟨0, 10, 17, 15⟩] rfl (fun z hz => absurd hz (by simp)) (by decide) (by decide) (by decide +kernel) ngB (fun q => ?_)
  refine g_astore_s4 X dL_set_13 (by decide) rfl ?_
  refine g_iconstN X 1 dL_set_15 ?_
  exact g_iretH X hr Y.2.1 dL_set_16 ⟨by decide, by decide⟩ ⟨rfl, rfl⟩
set_option maxRecDepth 20000 in
theorem h_set_t2 (l : Launch) (γ : gG) (σ σ2 : gS) (a0 a1 : Int32) (hM : gMX l γ yX4_set wsX4_set ({ frames := 7, cells := 1, slots := 6, locals := 222 } : Room) [.ref (ad γ 0), .int a0, .int a1] σ eA σ2) : gMH l γ yL_set wsL_set ({ frames := 8, cells := 1, slots := 6, locals := 245 } : Room) [.ref (ad γ 0), .int a0, .int a1, .ref (ad γ 30)] σ (gis (some (.int (nI 2))) σ2) := by
  refine g_enterH (own := RL) (cc := cL_set) (nL := 5) (ret := some .int) (hh := [(0, 10, 13, 13), (0, 10, 17, 15)]) [some (.ref (ad γ 0)), some (.int a0), some (.int a1), some (.ref (ad γ 30)), none] (by decide) rfl rfl (by simp [lg_sl, Value.category]) (by simp [gl_le, glE, Value.category]) (fun hj p e s m args below meth c X Y hr => ?_)
  refine g_aload_n X dL_set_0 rfl rfl ?_
  refine g_iconstN X 0 dL_set_1 ?_
  refine g_aload_n X dL_set_2 rfl rfl ?_
  refine g_iload_n X dL_set_3 rfl rfl ?_
  refine g_iload_n X dL_set_4 rfl rfl ?_
  refine g_catchH (na := 2) X Y hj _ hM gW_0 rfl gL_set_X4_set rfl ⟨rfl, rfl⟩ (by decide +kernel) rfl ⟨by decide, by decide⟩ rfl (Nat.le_of_ble_eq_true rfl) dL_set_5 ⟨by decide, by decide⟩ [⟨0, 10, 13, 13⟩] ⟨0, 10, 17, 15⟩ [] rfl (fun z hz => by simp only [List.mem_cons, List.not_mem_nil, or_false] at hz; subst hz; exact Or.inr ⟨by decide, eB, by decide +kernel, Y.2.2.2.2.2.1⟩) (by decide) (by decide) (by decide +kernel) ngA (fun q => ?_)
  refine g_astore_s4 X dL_set_17 (by decide) rfl ?_
  refine g_iconstN X 2 dL_set_19 ?_
  exact g_iretH X hr Y.2.1 dL_set_20 ⟨by decide, by decide⟩ ⟨rfl, rfl⟩
set_option maxRecDepth 20000 in
theorem h_call_ok (l : Launch) (γ : gG) (σ σ2 : gS) (a0 a1 a2 : Int32) (r : Int32) (hM : gM l γ yX4_call wsX4_call ({ frames := 8, cells := 0, slots := 0, locals := 242 } : Room) [.ref (ad γ 0), .int a0, .int a1, .int a2] σ (gis (some (.int r)) σ2) 0 0) : gMH l γ yL_call wsL_call ({ frames := 9, cells := 1, slots := 6, locals := 265 } : Room) [.ref (ad γ 0), .int a0, .int a1, .int a2, .ref (ad γ 30)] σ (gis (some (.int (nI 0))) (outS σ2 r)) := by
  refine g_enterH (own := RL) (cc := cL_call) (nL := 6) (ret := some .int) (hh := [(0, 12, 15, 13), (0, 12, 19, 15), (0, 12, 23, 20)]) [some (.ref (ad γ 0)), some (.int a0), some (.int a1), some (.int a2), some (.ref (ad γ 30)), none] (by decide) rfl rfl (by simp [lg_sl, Value.category]) (by simp [gl_le, glE, Value.category]) (fun hj p e s m args below meth c X Y hr => ?_)
  refine g_aload X dL_call_0 rfl ?_
  refine g_iconstN X 0 dL_call_2 ?_
  refine g_aload_n X dL_call_3 rfl rfl ?_
  refine g_iload_n X dL_call_4 rfl rfl ?_
  refine g_iload_n X dL_call_5 rfl rfl ?_
  refine g_iload_n X dL_call_6 rfl rfl ?_
  refine g_callVi (na := 3) X hj hM gW_0 rfl gL_call_X4_call rfl ⟨rfl, rfl⟩ (by decide +kernel) rfl ⟨by decide, by decide⟩ rfl (Nat.le_of_ble_eq_true rfl) dL_call_7 ⟨by decide, by decide⟩ ?_
  refine g_i2l X dL_call_10 rfl ?_
  refine g_ast_30 X rfl (by omega) dL_call_11 ?_
  refine g_goto (tgt := 27) X dL_call_12 (by decide) ?_
  refine g_iconstN X 0 dL_call_27 ?_
  exact g_iretH X hr Y.2.1 dL_call_28 ⟨by decide, by decide⟩ ⟨rfl, rfl⟩
set_option maxRecDepth 20000 in
theorem h_call_t1 (l : Launch) (γ : gG) (σ σ2 : gS) (a0 a1 a2 : Int32) (hM : gMX l γ yX4_call wsX4_call ({ frames := 8, cells := 1, slots := 6, locals := 242 } : Room) [.ref (ad γ 0), .int a0, .int a1, .int a2] σ eB σ2) : gMH l γ yL_call wsL_call ({ frames := 9, cells := 1, slots := 6, locals := 265 } : Room) [.ref (ad γ 0), .int a0, .int a1, .int a2, .ref (ad γ 30)] σ (gis (some (.int (nI 1))) σ2) := by
  refine g_enterH (own := RL) (cc := cL_call) (nL := 6) (ret := some .int) (hh := [(0, 12, 15, 13), (0, 12, 19, 15), (0, 12, 23, 20)]) [some (.ref (ad γ 0)), some (.int a0), some (.int a1), some (.int a2), some (.ref (ad γ 30)), none] (by decide) rfl rfl (by simp [lg_sl, Value.category]) (by simp [gl_le, glE, Value.category]) (fun hj p e s m args below meth c X Y hr => ?_)
  refine g_aload X dL_call_0 rfl ?_
  refine g_iconstN X 0 dL_call_2 ?_
  refine g_aload_n X dL_call_3 rfl rfl ?_
  refine g_iload_n X dL_call_4 rfl rfl ?_
  refine g_iload_n X dL_call_5 rfl rfl ?_
  refine g_iload_n X dL_call_6 rfl rfl ?_
  refine g_catchH (na := 3) X Y hj _ hM gW_0 rfl gL_call_X4_call rfl ⟨rfl, rfl⟩ (by decide +kernel) rfl ⟨by decide, by decide⟩ rfl (Nat.le_of_ble_eq_true rfl) dL_call_7 ⟨by decide, by decide⟩ [] ⟨0, 12, 15, 13⟩ [⟨0, 12, 19, 15⟩, ⟨0, 12, 23, 20⟩] rfl (fun z hz => absurd hz (by simp)) (by decide) (by decide) (by decide +kernel) ngB (fun q => ?_)
  refine g_astore_s5 X dL_call_15 (by decide) rfl ?_
  refine g_iconstN X 1 dL_call_17 ?_
  exact g_iretH X hr Y.2.1 dL_call_18 ⟨by decide, by decide⟩ ⟨rfl, rfl⟩
set_option maxRecDepth 20000 in
theorem h_call_t2 (l : Launch) (γ : gG) (σ σ2 : gS) (a0 a1 a2 : Int32) (hM : gMX l γ yX4_call wsX4_call ({ frames := 8, cells := 1, slots := 6, locals := 242 } : Room) [.ref (ad γ 0), .int a0, .int a1, .int a2] σ eA σ2) : gMH l γ yL_call wsL_call ({ frames := 9, cells := 1, slots := 6, locals := 265 } : Room) [.ref (ad γ 0), .int a0, .int a1, .int a2, .ref (ad γ 30)] σ (gis (some (.int (nI 2))) σ2) := by
  refine g_enterH (own := RL) (cc := cL_call) (nL := 6) (ret := some .int) (hh := [(0, 12, 15, 13), (0, 12, 19, 15), (0, 12, 23, 20)]) [some (.ref (ad γ 0)), some (.int a0), some (.int a1), some (.int a2), some (.ref (ad γ 30)), none] (by decide) rfl rfl (by simp [lg_sl, Value.category]) (by simp [gl_le, glE, Value.category]) (fun hj p e s m args below meth c X Y hr => ?_)
  refine g_aload X dL_call_0 rfl ?_
  refine g_iconstN X 0 dL_call_2 ?_
  refine g_aload_n X dL_call_3 rfl rfl ?_
  refine g_iload_n X dL_call_4 rfl rfl ?_
  refine g_iload_n X dL_call_5 rfl rfl ?_
  refine g_iload_n X dL_call_6 rfl rfl ?_
  refine g_catchH (na := 3) X Y hj _ hM gW_0 rfl gL_call_X4_call rfl ⟨rfl, rfl⟩ (by decide +kernel) rfl ⟨by decide, by decide⟩ rfl (Nat.le_of_ble_eq_true rfl) dL_call_7 ⟨by decide, by decide⟩ [⟨0, 12, 15, 13⟩] ⟨0, 12, 19, 15⟩ [⟨0, 12, 23, 20⟩] rfl (fun z hz => by simp only [List.mem_cons, List.not_mem_nil, or_false] at hz; subst hz; exact Or.inr ⟨by decide, eB, by decide +kernel, Y.2.2.2.2.2.1⟩) (by decide) (by decide) (by decide +kernel) ngA (fun q => ?_)
  refine g_astore_s5 X dL_call_19 (by decide) rfl ?_
  refine g_iconstN X 2 dL_call_21 ?_
  exact g_iretH X hr Y.2.1 dL_call_22 ⟨by decide, by decide⟩ ⟨rfl, rfl⟩
set_option maxRecDepth 20000 in
theorem h_call_t3 (l : Launch) (γ : gG) (σ σ2 : gS) (a0 a1 a2 : Int32) (hM : gMX l γ yX4_call wsX4_call ({ frames := 8, cells := 1, slots := 6, locals := 242 } : Room) [.ref (ad γ 0), .int a0, .int a1, .int a2] σ eT σ2) : gMH l γ yL_call wsL_call ({ frames := 9, cells := 1, slots := 6, locals := 265 } : Room) [.ref (ad γ 0), .int a0, .int a1, .int a2, .ref (ad γ 30)] σ (gis (some (.int (nI 3))) σ2) := by
  refine g_enterH (own := RL) (cc := cL_call) (nL := 6) (ret := some .int) (hh := [(0, 12, 15, 13), (0, 12, 19, 15), (0, 12, 23, 20)]) [some (.ref (ad γ 0)), some (.int a0), some (.int a1), some (.int a2), some (.ref (ad γ 30)), none] (by decide) rfl rfl (by simp [lg_sl, Value.category]) (by simp [gl_le, glE, Value.category]) (fun hj p e s m args below meth c X Y hr => ?_)
  refine g_aload X dL_call_0 rfl ?_
  refine g_iconstN X 0 dL_call_2 ?_
  refine g_aload_n X dL_call_3 rfl rfl ?_
  refine g_iload_n X dL_call_4 rfl rfl ?_
  refine g_iload_n X dL_call_5 rfl rfl ?_
  refine g_iload_n X dL_call_6 rfl rfl ?_
  refine g_catchH (na := 3) X Y hj _ hM gW_0 rfl gL_call_X4_call rfl ⟨rfl, rfl⟩ (by decide +kernel) rfl ⟨by decide, by decide⟩ rfl (Nat.le_of_ble_eq_true rfl) dL_call_7 ⟨by decide, by decide⟩ [⟨0, 12, 15, 13⟩, ⟨0, 12, 19, 15⟩] ⟨0, 12, 23, 20⟩ [] rfl (fun z hz => by (simp only [List.mem_cons, List.not_mem_nil, or_false] at hz; rcases hz with rfl | rfl; exact Or.inr ⟨by decide, eB, by decide +kernel, Y.2.2.2.2.2.2.1⟩; exact Or.inr ⟨by decide, eA, by decide +kernel, Y.2.2.2.2.2.2.2⟩)) (by decide) (by decide) (by decide +kernel) ngT (fun q => ?_)
  refine g_astore_s5 X dL_call_23 (by decide) rfl ?_
  refine g_iconstN X 3 dL_call_25 ?_
  exact g_iretH X hr Y.2.1 dL_call_26 ⟨by decide, by decide⟩ ⟨rfl, rfl⟩
set_option maxRecDepth 20000 in
theorem h_reach_ok (l : Launch) (γ : gG) (σ σ2 : gS) (a0 : Int32) (r : Int32) (hM : gM l γ yX4_reach wsX4_reach ({ frames := 7, cells := 0, slots := 0, locals := 221 } : Room) [.ref (ad γ 0), .int a0] σ (gis (some (.int r)) σ2) 0 0) : gMH l γ yL_reach wsL_reach ({ frames := 8, cells := 1, slots := 6, locals := 245 } : Room) [.ref (ad γ 0), .int a0, .ref (ad γ 30)] σ (gis (some (.int (nI 0))) (outS σ2 r)) := by
  refine g_enterH (own := RL) (cc := cL_reach) (nL := 4) (ret := some .int) (hh := [(0, 9, 12, 13), (0, 9, 15, 20)]) [some (.ref (ad γ 0)), some (.int a0), some (.ref (ad γ 30)), none] (by decide) rfl rfl (by simp [lg_sl, Value.category]) (by simp [gl_le, glE, Value.category]) (fun hj p e s m args below meth c X Y hr => ?_)
  refine g_aload_n X dL_reach_0 rfl rfl ?_
  refine g_iconstN X 0 dL_reach_1 ?_
  refine g_aload_n X dL_reach_2 rfl rfl ?_
  refine g_iload_n X dL_reach_3 rfl rfl ?_
  refine g_callVi (na := 1) X hj hM gW_0 rfl gL_reach_X4_reach rfl ⟨rfl, rfl⟩ (by decide +kernel) rfl ⟨by decide, by decide⟩ rfl (Nat.le_of_ble_eq_true rfl) dL_reach_4 ⟨by decide, by decide⟩ ?_
  refine g_i2l X dL_reach_7 rfl ?_
  refine g_ast_30 X rfl (by omega) dL_reach_8 ?_
  refine g_goto (tgt := 18) X dL_reach_9 (by decide) ?_
  refine g_iconstN X 0 dL_reach_18 ?_
  exact g_iretH X hr Y.2.1 dL_reach_19 ⟨by decide, by decide⟩ ⟨rfl, rfl⟩
set_option maxRecDepth 20000 in
theorem h_reach_t1 (l : Launch) (γ : gG) (σ σ2 : gS) (a0 : Int32) (hM : gMX l γ yX4_reach wsX4_reach ({ frames := 7, cells := 1, slots := 6, locals := 221 } : Room) [.ref (ad γ 0), .int a0] σ eB σ2) : gMH l γ yL_reach wsL_reach ({ frames := 8, cells := 1, slots := 6, locals := 245 } : Room) [.ref (ad γ 0), .int a0, .ref (ad γ 30)] σ (gis (some (.int (nI 1))) σ2) := by
  refine g_enterH (own := RL) (cc := cL_reach) (nL := 4) (ret := some .int) (hh := [(0, 9, 12, 13), (0, 9, 15, 20)]) [some (.ref (ad γ 0)), some (.int a0), some (.ref (ad γ 30)), none] (by decide) rfl rfl (by simp [lg_sl, Value.category]) (by simp [gl_le, glE, Value.category]) (fun hj p e s m args below meth c X Y hr => ?_)
  refine g_aload_n X dL_reach_0 rfl rfl ?_
  refine g_iconstN X 0 dL_reach_1 ?_
  refine g_aload_n X dL_reach_2 rfl rfl ?_
  refine g_iload_n X dL_reach_3 rfl rfl ?_
  refine g_catchH (na := 1) X Y hj _ hM gW_0 rfl gL_reach_X4_reach rfl ⟨rfl, rfl⟩ (by decide +kernel) rfl ⟨by decide, by decide⟩ rfl (Nat.le_of_ble_eq_true rfl) dL_reach_4 ⟨by decide, by decide⟩ [] ⟨0, 9, 12, 13⟩ [⟨0, 9, 15, 20⟩] rfl (fun z hz => absurd hz (by simp)) (by decide) (by decide) (by decide +kernel) ngB (fun q => ?_)
  refine g_astore_n3 X dL_reach_12 rfl (by decide) rfl ?_
  refine g_iconstN X 1 dL_reach_13 ?_
  exact g_iretH X hr Y.2.1 dL_reach_14 ⟨by decide, by decide⟩ ⟨rfl, rfl⟩
set_option maxRecDepth 20000 in
theorem h_reach_t2 (l : Launch) (γ : gG) (σ σ2 : gS) (a0 : Int32) (hM : gMX l γ yX4_reach wsX4_reach ({ frames := 7, cells := 1, slots := 6, locals := 221 } : Room) [.ref (ad γ 0), .int a0] σ eT σ2) : gMH l γ yL_reach wsL_reach ({ frames := 8, cells := 1, slots := 6, locals := 245 } : Room) [.ref (ad γ 0), .int a0, .ref (ad γ 30)] σ (gis (some (.int (nI 2))) σ2) := by
  refine g_enterH (own := RL) (cc := cL_reach) (nL := 4) (ret := some .int) (hh := [(0, 9, 12, 13), (0, 9, 15, 20)]) [some (.ref (ad γ 0)), some (.int a0), some (.ref (ad γ 30)), none] (by decide) rfl rfl (by simp [lg_sl, Value.category]) (by simp [gl_le, glE, Value.category]) (fun hj p e s m args below meth c X Y hr => ?_)
  refine g_aload_n X dL_reach_0 rfl rfl ?_
  refine g_iconstN X 0 dL_reach_1 ?_
  refine g_aload_n X dL_reach_2 rfl rfl ?_
  refine g_iload_n X dL_reach_3 rfl rfl ?_
  refine g_catchH (na := 1) X Y hj _ hM gW_0 rfl gL_reach_X4_reach rfl ⟨rfl, rfl⟩ (by decide +kernel) rfl ⟨by decide, by decide⟩ rfl (Nat.le_of_ble_eq_true rfl) dL_reach_4 ⟨by decide, by decide⟩ [⟨0, 9, 12, 13⟩] ⟨0, 9, 15, 20⟩ [] rfl (fun z hz => by simp only [List.mem_cons, List.not_mem_nil, or_false] at hz; subst hz; exact Or.inr ⟨by decide, eB, by decide +kernel, Y.2.2.2.2.2.2.1⟩) (by decide) (by decide) (by decide +kernel) ngT (fun q => ?_)
  refine g_astore_n3 X dL_reach_15 rfl (by decide) rfl ?_
  refine g_iconstN X 2 dL_reach_16 ?_
  exact g_iretH X hr Y.2.1 dL_reach_17 ⟨by decide, by decide⟩ ⟨rfl, rfl⟩
set_option maxRecDepth 20000 in
theorem h_end_ok (l : Launch) (γ : gG) (σ σ2 : gS) (a0 : Int32) (r : Int32) (hM : gM l γ yX4_end wsX4_end ({ frames := 7, cells := 0, slots := 0, locals := 221 } : Room) [.ref (ad γ 0), .int a0] σ (gis (some (.int r)) σ2) 0 0) : gMH l γ yL_end wsL_end ({ frames := 8, cells := 1, slots := 6, locals := 243 } : Room) [.ref (ad γ 0), .int a0, .ref (ad γ 30)] σ (gis (some (.int (nI 0))) (outS σ2 r)) := by
  refine g_enterH (own := RL) (cc := cL_end) (nL := 4) (ret := some .int) (hh := [(0, 9, 12, 13), (0, 9, 15, 20)]) [some (.ref (ad γ 0)), some (.int a0), some (.ref (ad γ 30)), none] (by decide) rfl rfl (by simp [lg_sl, Value.category]) (by simp [gl_le, glE, Value.category]) (fun hj p e s m args below meth c X Y hr => ?_)
  refine g_aload_n X dL_end_0 rfl rfl ?_
  refine g_iconstN X 0 dL_end_1 ?_
  refine g_aload_n X dL_end_2 rfl rfl ?_
  refine g_iload_n X dL_end_3 rfl rfl ?_
  refine g_callVi (na := 1) X hj hM gW_0 rfl gL_end_X4_end rfl ⟨rfl, rfl⟩ (by decide +kernel) rfl ⟨by decide, by decide⟩ rfl (Nat.le_of_ble_eq_true rfl) dL_end_4 ⟨by decide, by decide⟩ ?_
  refine g_i2l X dL_end_7 rfl ?_
  refine g_ast_30 X rfl (by omega) dL_end_8 ?_
  refine g_goto (tgt := 18) X dL_end_9 (by decide) ?_
  refine g_iconstN X 0 dL_end_18 ?_
  exact g_iretH X hr Y.2.1 dL_end_19 ⟨by decide, by decide⟩ ⟨rfl, rfl⟩
set_option maxRecDepth 20000 in
theorem h_end_t1 (l : Launch) (γ : gG) (σ σ2 : gS) (a0 : Int32) (hM : gMX l γ yX4_end wsX4_end ({ frames := 7, cells := 1, slots := 6, locals := 221 } : Room) [.ref (ad γ 0), .int a0] σ eB σ2) : gMH l γ yL_end wsL_end ({ frames := 8, cells := 1, slots := 6, locals := 243 } : Room) [.ref (ad γ 0), .int a0, .ref (ad γ 30)] σ (gis (some (.int (nI 1))) σ2) := by
  refine g_enterH (own := RL) (cc := cL_end) (nL := 4) (ret := some .int) (hh := [(0, 9, 12, 13), (0, 9, 15, 20)]) [some (.ref (ad γ 0)), some (.int a0), some (.ref (ad γ 30)), none] (by decide) rfl rfl (by simp [lg_sl, Value.category]) (by simp [gl_le, glE, Value.category]) (fun hj p e s m args below meth c X Y hr => ?_)
  refine g_aload_n X dL_end_0 rfl rfl ?_
  refine g_iconstN X 0 dL_end_1 ?_
  refine g_aload_n X dL_end_2 rfl rfl ?_
  refine g_iload_n X dL_end_3 rfl rfl ?_
  refine g_catchH (na := 1) X Y hj _ hM gW_0 rfl gL_end_X4_end rfl ⟨rfl, rfl⟩ (by decide +kernel) rfl ⟨by decide, by decide⟩ rfl (Nat.le_of_ble_eq_true rfl) dL_end_4 ⟨by decide, by decide⟩ [] ⟨0, 9, 12, 13⟩ [⟨0, 9, 15, 20⟩] rfl (fun z hz => absurd hz (by simp)) (by decide) (by decide) (by decide +kernel) ngB (fun q => ?_)
  refine g_astore_n3 X dL_end_12 rfl (by decide) rfl ?_
  refine g_iconstN X 1 dL_end_13 ?_
  exact g_iretH X hr Y.2.1 dL_end_14 ⟨by decide, by decide⟩ ⟨rfl, rfl⟩
set_option maxRecDepth 20000 in
theorem h_end_t2 (l : Launch) (γ : gG) (σ σ2 : gS) (a0 : Int32) (hM : gMX l γ yX4_end wsX4_end ({ frames := 7, cells := 1, slots := 6, locals := 221 } : Room) [.ref (ad γ 0), .int a0] σ eT σ2) : gMH l γ yL_end wsL_end ({ frames := 8, cells := 1, slots := 6, locals := 243 } : Room) [.ref (ad γ 0), .int a0, .ref (ad γ 30)] σ (gis (some (.int (nI 2))) σ2) := by
  refine g_enterH (own := RL) (cc := cL_end) (nL := 4) (ret := some .int) (hh := [(0, 9, 12, 13), (0, 9, 15, 20)]) [some (.ref (ad γ 0)), some (.int a0), some (.ref (ad γ 30)), none] (by decide) rfl rfl (by simp [lg_sl, Value.category]) (by simp [gl_le, glE, Value.category]) (fun hj p e s m args below meth c X Y hr => ?_)
  refine g_aload_n X dL_end_0 rfl rfl ?_
  refine g_iconstN X 0 dL_end_1 ?_
  refine g_aload_n X dL_end_2 rfl rfl ?_
  refine g_iload_n X dL_end_3 rfl rfl ?_
  refine g_catchH (na := 1) X Y hj _ hM gW_0 rfl gL_end_X4_end rfl ⟨rfl, rfl⟩ (by decide +kernel) rfl ⟨by decide, by decide⟩ rfl (Nat.le_of_ble_eq_true rfl) dL_end_4 ⟨by decide, by decide⟩ [⟨0, 9, 12, 13⟩] ⟨0, 9, 15, 20⟩ [] rfl (fun z hz => by simp only [List.mem_cons, List.not_mem_nil, or_false] at hz; subst hz; exact Or.inr ⟨by decide, eB, by decide +kernel, Y.2.2.2.2.2.2.1⟩) (by decide) (by decide) (by decide +kernel) ngT (fun q => ?_)
  refine g_astore_n3 X dL_end_15 rfl (by decide) rfl ?_
  refine g_iconstN X 2 dL_end_16 ?_
  exact g_iretH X hr Y.2.1 dL_end_17 ⟨by decide, by decide⟩ ⟨rfl, rfl⟩
set_option maxRecDepth 20000 in
theorem h_append_ok (l : Launch) (γ : gG) (σ σ2 : gS) (a0 : Int32) (r : Int32) (hM : gM l γ yX4_append wsX4_append ({ frames := 7, cells := 0, slots := 0, locals := 222 } : Room) [.ref (ad γ 0), .int a0] σ (gis (some (.int r)) σ2) 0 0) : gMH l γ yL_append wsL_append ({ frames := 8, cells := 1, slots := 6, locals := 243 } : Room) [.ref (ad γ 0), .int a0, .ref (ad γ 30)] σ (gis (some (.int (nI 0))) (outS σ2 r)) := by
  refine g_enterH (own := RL) (cc := cL_append) (nL := 4) (ret := some .int) (hh := [(0, 9, 12, 15), (0, 9, 15, 20)]) [some (.ref (ad γ 0)), some (.int a0), some (.ref (ad γ 30)), none] (by decide) rfl rfl (by simp [lg_sl, Value.category]) (by simp [gl_le, glE, Value.category]) (fun hj p e s m args below meth c X Y hr => ?_)
  refine g_aload_n X dL_append_0 rfl rfl ?_
  refine g_iconstN X 0 dL_append_1 ?_
  refine g_aload_n X dL_append_2 rfl rfl ?_
  refine g_iload_n X dL_append_3 rfl rfl ?_
  refine g_callVi (na := 1) X hj hM gW_0 rfl gL_append_X4_append rfl ⟨rfl, rfl⟩ (by decide +kernel) rfl ⟨by decide, by decide⟩ rfl (Nat.le_of_ble_eq_true rfl) dL_append_4 ⟨by decide, by decide⟩ ?_
  refine g_i2l X dL_append_7 rfl ?_
  refine g_ast_30 X rfl (by omega) dL_append_8 ?_
  refine g_goto (tgt := 18) X dL_append_9 (by decide) ?_
  refine g_iconstN X 0 dL_append_18 ?_
  exact g_iretH X hr Y.2.1 dL_append_19 ⟨by decide, by decide⟩ ⟨rfl, rfl⟩
set_option maxRecDepth 20000 in
theorem h_append_t1 (l : Launch) (γ : gG) (σ σ2 : gS) (a0 : Int32) (hM : gMX l γ yX4_append wsX4_append ({ frames := 7, cells := 1, slots := 6, locals := 222 } : Room) [.ref (ad γ 0), .int a0] σ eA σ2) : gMH l γ yL_append wsL_append ({ frames := 8, cells := 1, slots := 6, locals := 243 } : Room) [.ref (ad γ 0), .int a0, .ref (ad γ 30)] σ (gis (some (.int (nI 1))) σ2) := by
  refine g_enterH (own := RL) (cc := cL_append) (nL := 4) (ret := some .int) (hh := [(0, 9, 12, 15), (0, 9, 15, 20)]) [some (.ref (ad γ 0)), some (.int a0), some (.ref (ad γ 30)), none] (by decide) rfl rfl (by simp [lg_sl, Value.category]) (by simp [gl_le, glE, Value.category]) (fun hj p e s m args below meth c X Y hr => ?_)
  refine g_aload_n X dL_append_0 rfl rfl ?_
  refine g_iconstN X 0 dL_append_1 ?_
  refine g_aload_n X dL_append_2 rfl rfl ?_
  refine g_iload_n X dL_append_3 rfl rfl ?_
  refine g_catchH (na := 1) X Y hj _ hM gW_0 rfl gL_append_X4_append rfl ⟨rfl, rfl⟩ (by decide +kernel) rfl ⟨by decide, by decide⟩ rfl (Nat.le_of_ble_eq_true rfl) dL_append_4 ⟨by decide, by decide⟩ [] ⟨0, 9, 12, 15⟩ [⟨0, 9, 15, 20⟩] rfl (fun z hz => absurd hz (by simp)) (by decide) (by decide) (by decide +kernel) ngA (fun q => ?_)
  refine g_astore_n3 X dL_append_12 rfl (by decide) rfl ?_
  refine g_iconstN X 1 dL_append_13 ?_
  exact g_iretH X hr Y.2.1 dL_append_14 ⟨by decide, by decide⟩ ⟨rfl, rfl⟩
set_option maxRecDepth 20000 in
theorem h_append_t2 (l : Launch) (γ : gG) (σ σ2 : gS) (a0 : Int32) (hM : gMX l γ yX4_append wsX4_append ({ frames := 7, cells := 1, slots := 6, locals := 222 } : Room) [.ref (ad γ 0), .int a0] σ eT σ2) : gMH l γ yL_append wsL_append ({ frames := 8, cells := 1, slots := 6, locals := 243 } : Room) [.ref (ad γ 0), .int a0, .ref (ad γ 30)] σ (gis (some (.int (nI 2))) σ2) := by
  refine g_enterH (own := RL) (cc := cL_append) (nL := 4) (ret := some .int) (hh := [(0, 9, 12, 15), (0, 9, 15, 20)]) [some (.ref (ad γ 0)), some (.int a0), some (.ref (ad γ 30)), none] (by decide) rfl rfl (by simp [lg_sl, Value.category]) (by simp [gl_le, glE, Value.category]) (fun hj p e s m args below meth c X Y hr => ?_)
  refine g_aload_n X dL_append_0 rfl rfl ?_
  refine g_iconstN X 0 dL_append_1 ?_
  refine g_aload_n X dL_append_2 rfl rfl ?_
  refine g_iload_n X dL_append_3 rfl rfl ?_
  refine g_catchH (na := 1) X Y hj _ hM gW_0 rfl gL_append_X4_append rfl ⟨rfl, rfl⟩ (by decide +kernel) rfl ⟨by decide, by decide⟩ rfl (Nat.le_of_ble_eq_true rfl) dL_append_4 ⟨by decide, by decide⟩ [⟨0, 9, 12, 15⟩] ⟨0, 9, 15, 20⟩ [] rfl (fun z hz => by simp only [List.mem_cons, List.not_mem_nil, or_false] at hz; subst hz; exact Or.inr ⟨by decide, eA, by decide +kernel, Y.2.2.2.2.2.2.2⟩) (by decide) (by decide) (by decide +kernel) ngT (fun q => ?_)
  refine g_astore_n3 X dL_append_15 rfl (by decide) rfl ?_
  refine g_iconstN X 2 dL_append_16 ?_
  exact g_iretH X hr Y.2.1 dL_append_17 ⟨by decide, by decide⟩ ⟨rfl, rfl⟩
set_option maxRecDepth 20000 in
theorem h_give_ok (l : Launch) (γ : gG) (σ σ2 : gS) (r : Int32) (hM : gM l γ yX4_give wsX4_give ({ frames := 6, cells := 0, slots := 0, locals := 200 } : Room) [.ref (ad γ 0)] σ (gis (some (.int r)) σ2) 0 0) : gMH l γ yL_give wsL_give ({ frames := 7, cells := 1, slots := 6, locals := 221 } : Room) [.ref (ad γ 0), .ref (ad γ 30)] σ (gis (some (.int (nI 0))) (outS σ2 r)) := by
  refine g_enterH (own := RL) (cc := cL_give) (nL := 3) (ret := some .int) (hh := [(0, 8, 11, 15), (0, 8, 14, 20)]) [some (.ref (ad γ 0)), some (.ref (ad γ 30)), none] (by decide) rfl rfl (by simp [lg_sl, Value.category]) (by simp [gl_le, glE, Value.category]) (fun hj p e s m args below meth c X Y hr => ?_)
  refine g_aload_n X dL_give_0 rfl rfl ?_
  refine g_iconstN X 0 dL_give_1 ?_
  refine g_aload_n X dL_give_2 rfl rfl ?_
  refine g_callVi (na := 0) X hj hM gW_0 rfl gL_give_X4_give rfl ⟨rfl, rfl⟩ (by decide +kernel) rfl ⟨by decide, by decide⟩ rfl (Nat.le_of_ble_eq_true rfl) dL_give_3 ⟨by decide, by decide⟩ ?_
  refine g_i2l X dL_give_6 rfl ?_
  refine g_ast_30 X rfl (by omega) dL_give_7 ?_
  refine g_goto (tgt := 17) X dL_give_8 (by decide) ?_
  refine g_iconstN X 0 dL_give_17 ?_
  exact g_iretH X hr Y.2.1 dL_give_18 ⟨by decide, by decide⟩ ⟨rfl, rfl⟩
set_option maxRecDepth 20000 in
theorem h_give_t1 (l : Launch) (γ : gG) (σ σ2 : gS) (hM : gMX l γ yX4_give wsX4_give ({ frames := 6, cells := 1, slots := 6, locals := 200 } : Room) [.ref (ad γ 0)] σ eA σ2) : gMH l γ yL_give wsL_give ({ frames := 7, cells := 1, slots := 6, locals := 221 } : Room) [.ref (ad γ 0), .ref (ad γ 30)] σ (gis (some (.int (nI 1))) σ2) := by
  refine g_enterH (own := RL) (cc := cL_give) (nL := 3) (ret := some .int) (hh := [(0, 8, 11, 15), (0, 8, 14, 20)]) [some (.ref (ad γ 0)), some (.ref (ad γ 30)), none] (by decide) rfl rfl (by simp [lg_sl, Value.category]) (by simp [gl_le, glE, Value.category]) (fun hj p e s m args below meth c X Y hr => ?_)
  refine g_aload_n X dL_give_0 rfl rfl ?_
  refine g_iconstN X 0 dL_give_1 ?_
  refine g_aload_n X dL_give_2 rfl rfl ?_
  refine g_catchH (na := 0) X Y hj _ hM gW_0 rfl gL_give_X4_give rfl ⟨rfl, rfl⟩ (by decide +kernel) rfl ⟨by decide, by decide⟩ rfl (Nat.le_of_ble_eq_true rfl) dL_give_3 ⟨by decide, by decide⟩ [] ⟨0, 8, 11, 15⟩ [⟨0, 8, 14, 20⟩] rfl (fun z hz => absurd hz (by simp)) (by decide) (by decide) (by decide +kernel) ngA (fun q => ?_)
  refine g_astore_n2 X dL_give_11 rfl (by decide) rfl ?_
  refine g_iconstN X 1 dL_give_12 ?_
  exact g_iretH X hr Y.2.1 dL_give_13 ⟨by decide, by decide⟩ ⟨rfl, rfl⟩
set_option maxRecDepth 20000 in
theorem h_give_t2 (l : Launch) (γ : gG) (σ σ2 : gS) (hM : gMX l γ yX4_give wsX4_give ({ frames := 6, cells := 1, slots := 6, locals := 200 } : Room) [.ref (ad γ 0)] σ eT σ2) : gMH l γ yL_give wsL_give ({ frames := 7, cells := 1, slots := 6, locals := 221 } : Room) [.ref (ad γ 0), .ref (ad γ 30)] σ (gis (some (.int (nI 2))) σ2) := by
  refine g_enterH (own := RL) (cc := cL_give) (nL := 3) (ret := some .int) (hh := [(0, 8, 11, 15), (0, 8, 14, 20)]) [some (.ref (ad γ 0)), some (.ref (ad γ 30)), none] (by decide) rfl rfl (by simp [lg_sl, Value.category]) (by simp [gl_le, glE, Value.category]) (fun hj p e s m args below meth c X Y hr => ?_)
  refine g_aload_n X dL_give_0 rfl rfl ?_
  refine g_iconstN X 0 dL_give_1 ?_
  refine g_aload_n X dL_give_2 rfl rfl ?_
  refine g_catchH (na := 0) X Y hj _ hM gW_0 rfl gL_give_X4_give rfl ⟨rfl, rfl⟩ (by decide +kernel) rfl ⟨by decide, by decide⟩ rfl (Nat.le_of_ble_eq_true rfl) dL_give_3 ⟨by decide, by decide⟩ [⟨0, 8, 11, 15⟩] ⟨0, 8, 14, 20⟩ [] rfl (fun z hz => by simp only [List.mem_cons, List.not_mem_nil, or_false] at hz; subst hz; exact Or.inr ⟨by decide, eA, by decide +kernel, Y.2.2.2.2.2.2.2⟩) (by decide) (by decide) (by decide +kernel) ngT (fun q => ?_)
  refine g_astore_n2 X dL_give_14 rfl (by decide) rfl ?_
  refine g_iconstN X 2 dL_give_15 ?_
  exact g_iretH X hr Y.2.1 dL_give_16 ⟨by decide, by decide⟩ ⟨rfl, rfl⟩
set_option maxRecDepth 20000 in
theorem h_undo_ok (l : Launch) (γ : gG) (σ σ2 : gS) (r : Int32) (hM : gM l γ yX4_undo wsX4_undo ({ frames := 6, cells := 0, slots := 0, locals := 200 } : Room) [.ref (ad γ 0)] σ (gis (some (.int r)) σ2) 0 0) : gMH l γ yL_undo wsL_undo ({ frames := 7, cells := 1, slots := 6, locals := 220 } : Room) [.ref (ad γ 0), .ref (ad γ 30)] σ (gis (some (.int (nI 0))) (outS σ2 r)) := by
  refine g_enterH (own := RL) (cc := cL_undo) (nL := 3) (ret := some .int) (hh := [(0, 8, 11, 20)]) [some (.ref (ad γ 0)), some (.ref (ad γ 30)), none] (by decide) rfl rfl (by simp [lg_sl, Value.category]) (by simp [gl_le, glE, Value.category]) (fun hj p e s m args below meth c X Y hr => ?_)
  refine g_aload_n X dL_undo_0 rfl rfl ?_
  refine g_iconstN X 0 dL_undo_1 ?_
  refine g_aload_n X dL_undo_2 rfl rfl ?_
  refine g_callVi (na := 0) X hj hM gW_0 rfl gL_undo_X4_undo rfl ⟨rfl, rfl⟩ (by decide +kernel) rfl ⟨by decide, by decide⟩ rfl (Nat.le_of_ble_eq_true rfl) dL_undo_3 ⟨by decide, by decide⟩ ?_
  refine g_i2l X dL_undo_6 rfl ?_
  refine g_ast_30 X rfl (by omega) dL_undo_7 ?_
  refine g_goto (tgt := 14) X dL_undo_8 (by decide) ?_
  refine g_iconstN X 0 dL_undo_14 ?_
  exact g_iretH X hr Y.2.1 dL_undo_15 ⟨by decide, by decide⟩ ⟨rfl, rfl⟩
set_option maxRecDepth 20000 in
theorem h_undo_t1 (l : Launch) (γ : gG) (σ σ2 : gS) (hM : gMX l γ yX4_undo wsX4_undo ({ frames := 6, cells := 1, slots := 6, locals := 200 } : Room) [.ref (ad γ 0)] σ eT σ2) : gMH l γ yL_undo wsL_undo ({ frames := 7, cells := 1, slots := 6, locals := 220 } : Room) [.ref (ad γ 0), .ref (ad γ 30)] σ (gis (some (.int (nI 1))) σ2) := by
  refine g_enterH (own := RL) (cc := cL_undo) (nL := 3) (ret := some .int) (hh := [(0, 8, 11, 20)]) [some (.ref (ad γ 0)), some (.ref (ad γ 30)), none] (by decide) rfl rfl (by simp [lg_sl, Value.category]) (by simp [gl_le, glE, Value.category]) (fun hj p e s m args below meth c X Y hr => ?_)
  refine g_aload_n X dL_undo_0 rfl rfl ?_
  refine g_iconstN X 0 dL_undo_1 ?_
  refine g_aload_n X dL_undo_2 rfl rfl ?_
  refine g_catchH (na := 0) X Y hj _ hM gW_0 rfl gL_undo_X4_undo rfl ⟨rfl, rfl⟩ (by decide +kernel) rfl ⟨by decide, by decide⟩ rfl (Nat.le_of_ble_eq_true rfl) dL_undo_3 ⟨by decide, by decide⟩ [] ⟨0, 8, 11, 20⟩ [] rfl (fun z hz => absurd hz (by simp)) (by decide) (by decide) (by decide +kernel) ngT (fun q => ?_)
  refine g_astore_n2 X dL_undo_11 rfl (by decide) rfl ?_
  refine g_iconstN X 1 dL_undo_12 ?_
  exact g_iretH X hr Y.2.1 dL_undo_13 ⟨by decide, by decide⟩ ⟨rfl, rfl⟩
set_option maxRecDepth 20000 in
theorem h_person_ok (l : Launch) (γ : gG) (σ σ2 : gS) (a0 a1 : Int32) (r : Int32) (hM : gM l γ yX4_person wsX4_person ({ frames := 7, cells := 0, slots := 0, locals := 222 } : Room) [.ref (ad γ 0), .int a0, .int a1] σ (gis (some (.int r)) σ2) 0 0) : gMH l γ yL_person wsL_person ({ frames := 8, cells := 1, slots := 6, locals := 244 } : Room) [.ref (ad γ 0), .int a0, .int a1, .ref (ad γ 30)] σ (gis (some (.int (nI 0))) (outS σ2 r)) := by
  refine g_enterH (own := RL) (cc := cL_person) (nL := 5) (ret := some .int) (hh := [(0, 10, 13, 13), (0, 10, 17, 15)]) [some (.ref (ad γ 0)), some (.int a0), some (.int a1), some (.ref (ad γ 30)), none] (by decide) rfl rfl (by simp [lg_sl, Value.category]) (by simp [gl_le, glE, Value.category]) (fun hj p e s m args below meth c X Y hr => ?_)
  refine g_aload_n X dL_person_0 rfl rfl ?_
  refine g_iconstN X 0 dL_person_1 ?_
  refine g_aload_n X dL_person_2 rfl rfl ?_
  refine g_iload_n X dL_person_3 rfl rfl ?_
  refine g_iload_n X dL_person_4 rfl rfl ?_
  refine g_callVi (na := 2) X hj hM gW_0 rfl gL_person_X4_person rfl ⟨rfl, rfl⟩ (by decide +kernel) rfl ⟨by decide, by decide⟩ rfl (Nat.le_of_ble_eq_true rfl) dL_person_5 ⟨by decide, by decide⟩ ?_
  refine g_i2l X dL_person_8 rfl ?_
  refine g_ast_30 X rfl (by omega) dL_person_9 ?_
  refine g_goto (tgt := 21) X dL_person_10 (by decide) ?_
  refine g_iconstN X 0 dL_person_21 ?_
  exact g_iretH X hr Y.2.1 dL_person_22 ⟨by decide, by decide⟩ ⟨rfl, rfl⟩
set_option maxRecDepth 20000 in
theorem h_person_t1 (l : Launch) (γ : gG) (σ σ2 : gS) (a0 a1 : Int32) (hM : gMX l γ yX4_person wsX4_person ({ frames := 7, cells := 1, slots := 6, locals := 222 } : Room) [.ref (ad γ 0), .int a0, .int a1] σ eB σ2) : gMH l γ yL_person wsL_person ({ frames := 8, cells := 1, slots := 6, locals := 244 } : Room) [.ref (ad γ 0), .int a0, .int a1, .ref (ad γ 30)] σ (gis (some (.int (nI 1))) σ2) := by
  refine g_enterH (own := RL) (cc := cL_person) (nL := 5) (ret := some .int) (hh := [(0, 10, 13, 13), (0, 10, 17, 15)]) [some (.ref (ad γ 0)), some (.int a0), some (.int a1), some (.ref (ad γ 30)), none] (by decide) rfl rfl (by simp [lg_sl, Value.category]) (by simp [gl_le, glE, Value.category]) (fun hj p e s m args below meth c X Y hr => ?_)
  refine g_aload_n X dL_person_0 rfl rfl ?_
  refine g_iconstN X 0 dL_person_1 ?_
  refine g_aload_n X dL_person_2 rfl rfl ?_
  refine g_iload_n X dL_person_3 rfl rfl ?_
  refine g_iload_n X dL_person_4 rfl rfl ?_
  refine g_catchH (na := 2) X Y hj _ hM gW_0 rfl gL_person_X4_person rfl ⟨rfl, rfl⟩ (by decide +kernel) rfl ⟨by decide, by decide⟩ rfl (Nat.le_of_ble_eq_true rfl) dL_person_5 ⟨by decide, by decide⟩ [] ⟨0, 10, 13, 13⟩ [⟨0, 10, 17, 15⟩] rfl (fun z hz => absurd hz (by simp)) (by decide) (by decide) (by decide +kernel) ngB (fun q => ?_)
  refine g_astore_s4 X dL_person_13 (by decide) rfl ?_
  refine g_iconstN X 1 dL_person_15 ?_
  exact g_iretH X hr Y.2.1 dL_person_16 ⟨by decide, by decide⟩ ⟨rfl, rfl⟩
set_option maxRecDepth 20000 in
theorem h_person_t2 (l : Launch) (γ : gG) (σ σ2 : gS) (a0 a1 : Int32) (hM : gMX l γ yX4_person wsX4_person ({ frames := 7, cells := 1, slots := 6, locals := 222 } : Room) [.ref (ad γ 0), .int a0, .int a1] σ eA σ2) : gMH l γ yL_person wsL_person ({ frames := 8, cells := 1, slots := 6, locals := 244 } : Room) [.ref (ad γ 0), .int a0, .int a1, .ref (ad γ 30)] σ (gis (some (.int (nI 2))) σ2) := by
  refine g_enterH (own := RL) (cc := cL_person) (nL := 5) (ret := some .int) (hh := [(0, 10, 13, 13), (0, 10, 17, 15)]) [some (.ref (ad γ 0)), some (.int a0), some (.int a1), some (.ref (ad γ 30)), none] (by decide) rfl rfl (by simp [lg_sl, Value.category]) (by simp [gl_le, glE, Value.category]) (fun hj p e s m args below meth c X Y hr => ?_)
  refine g_aload_n X dL_person_0 rfl rfl ?_
  refine g_iconstN X 0 dL_person_1 ?_
  refine g_aload_n X dL_person_2 rfl rfl ?_
  refine g_iload_n X dL_person_3 rfl rfl ?_
  refine g_iload_n X dL_person_4 rfl rfl ?_
  refine g_catchH (na := 2) X Y hj _ hM gW_0 rfl gL_person_X4_person rfl ⟨rfl, rfl⟩ (by decide +kernel) rfl ⟨by decide, by decide⟩ rfl (Nat.le_of_ble_eq_true rfl) dL_person_5 ⟨by decide, by decide⟩ [⟨0, 10, 13, 13⟩] ⟨0, 10, 17, 15⟩ [] rfl (fun z hz => by simp only [List.mem_cons, List.not_mem_nil, or_false] at hz; subst hz; exact Or.inr ⟨by decide, eB, by decide +kernel, Y.2.2.2.2.2.1⟩) (by decide) (by decide) (by decide +kernel) ngA (fun q => ?_)
  refine g_astore_s4 X dL_person_17 (by decide) rfl ?_
  refine g_iconstN X 2 dL_person_19 ?_
  exact g_iretH X hr Y.2.1 dL_person_20 ⟨by decide, by decide⟩ ⟨rfl, rfl⟩
set_option maxRecDepth 20000 in
theorem h_bond_ok (l : Launch) (γ : gG) (σ σ2 : gS) (a0 a1 : Int32) (r : Int32) (hM : gM l γ yX4_bond wsX4_bond ({ frames := 7, cells := 0, slots := 0, locals := 222 } : Room) [.ref (ad γ 0), .int a0, .int a1] σ (gis (some (.int r)) σ2) 0 0) : gMH l γ yL_bond wsL_bond ({ frames := 8, cells := 1, slots := 6, locals := 244 } : Room) [.ref (ad γ 0), .int a0, .int a1, .ref (ad γ 30)] σ (gis (some (.int (nI 0))) (outS σ2 r)) := by
  refine g_enterH (own := RL) (cc := cL_bond) (nL := 5) (ret := some .int) (hh := [(0, 10, 13, 13), (0, 10, 17, 15)]) [some (.ref (ad γ 0)), some (.int a0), some (.int a1), some (.ref (ad γ 30)), none] (by decide) rfl rfl (by simp [lg_sl, Value.category]) (by simp [gl_le, glE, Value.category]) (fun hj p e s m args below meth c X Y hr => ?_)
  refine g_aload_n X dL_bond_0 rfl rfl ?_
  refine g_iconstN X 0 dL_bond_1 ?_
  refine g_aload_n X dL_bond_2 rfl rfl ?_
  refine g_iload_n X dL_bond_3 rfl rfl ?_
  refine g_iload_n X dL_bond_4 rfl rfl ?_
  refine g_callVi (na := 2) X hj hM gW_0 rfl gL_bond_X4_bond rfl ⟨rfl, rfl⟩ (by decide +kernel) rfl ⟨by decide, by decide⟩ rfl (Nat.le_of_ble_eq_true rfl) dL_bond_5 ⟨by decide, by decide⟩ ?_
  refine g_i2l X dL_bond_8 rfl ?_
  refine g_ast_30 X rfl (by omega) dL_bond_9 ?_
  refine g_goto (tgt := 21) X dL_bond_10 (by decide) ?_
  refine g_iconstN X 0 dL_bond_21 ?_
  exact g_iretH X hr Y.2.1 dL_bond_22 ⟨by decide, by decide⟩ ⟨rfl, rfl⟩
set_option maxRecDepth 20000 in
theorem h_bond_t1 (l : Launch) (γ : gG) (σ σ2 : gS) (a0 a1 : Int32) (hM : gMX l γ yX4_bond wsX4_bond ({ frames := 7, cells := 1, slots := 6, locals := 222 } : Room) [.ref (ad γ 0), .int a0, .int a1] σ eB σ2) : gMH l γ yL_bond wsL_bond ({ frames := 8, cells := 1, slots := 6, locals := 244 } : Room) [.ref (ad γ 0), .int a0, .int a1, .ref (ad γ 30)] σ (gis (some (.int (nI 1))) σ2) := by
  refine g_enterH (own := RL) (cc := cL_bond) (nL := 5) (ret := some .int) (hh := [(0, 10, 13, 13), (0, 10, 17, 15)]) [some (.ref (ad γ 0)), some (.int a0), some (.int a1), some (.ref (ad γ 30)), none] (by decide) rfl rfl (by simp [lg_sl, Value.category]) (by simp [gl_le, glE, Value.category]) (fun hj p e s m args below meth c X Y hr => ?_)
  refine g_aload_n X dL_bond_0 rfl rfl ?_
  refine g_iconstN X 0 dL_bond_1 ?_
  refine g_aload_n X dL_bond_2 rfl rfl ?_
  refine g_iload_n X dL_bond_3 rfl rfl ?_
  refine g_iload_n X dL_bond_4 rfl rfl ?_
  refine g_catchH (na := 2) X Y hj _ hM gW_0 rfl gL_bond_X4_bond rfl ⟨rfl, rfl⟩ (by decide +kernel) rfl ⟨by decide, by decide⟩ rfl (Nat.le_of_ble_eq_true rfl) dL_bond_5 ⟨by decide, by decide⟩ [] ⟨0, 10, 13, 13⟩ [⟨0, 10, 17, 15⟩] rfl (fun z hz => absurd hz (by simp)) (by decide) (by decide) (by decide +kernel) ngB (fun q => ?_)
  refine g_astore_s4 X dL_bond_13 (by decide) rfl ?_
  refine g_iconstN X 1 dL_bond_15 ?_
  exact g_iretH X hr Y.2.1 dL_bond_16 ⟨by decide, by decide⟩ ⟨rfl, rfl⟩
set_option maxRecDepth 20000 in
theorem h_bond_t2 (l : Launch) (γ : gG) (σ σ2 : gS) (a0 a1 : Int32) (hM : gMX l γ yX4_bond wsX4_bond ({ frames := 7, cells := 1, slots := 6, locals := 222 } : Room) [.ref (ad γ 0), .int a0, .int a1] σ eA σ2) : gMH l γ yL_bond wsL_bond ({ frames := 8, cells := 1, slots := 6, locals := 244 } : Room) [.ref (ad γ 0), .int a0, .int a1, .ref (ad γ 30)] σ (gis (some (.int (nI 2))) σ2) := by
  refine g_enterH (own := RL) (cc := cL_bond) (nL := 5) (ret := some .int) (hh := [(0, 10, 13, 13), (0, 10, 17, 15)]) [some (.ref (ad γ 0)), some (.int a0), some (.int a1), some (.ref (ad γ 30)), none] (by decide) rfl rfl (by simp [lg_sl, Value.category]) (by simp [gl_le, glE, Value.category]) (fun hj p e s m args below meth c X Y hr => ?_)
  refine g_aload_n X dL_bond_0 rfl rfl ?_
  refine g_iconstN X 0 dL_bond_1 ?_
  refine g_aload_n X dL_bond_2 rfl rfl ?_
  refine g_iload_n X dL_bond_3 rfl rfl ?_
  refine g_iload_n X dL_bond_4 rfl rfl ?_
  refine g_catchH (na := 2) X Y hj _ hM gW_0 rfl gL_bond_X4_bond rfl ⟨rfl, rfl⟩ (by decide +kernel) rfl ⟨by decide, by decide⟩ rfl (Nat.le_of_ble_eq_true rfl) dL_bond_5 ⟨by decide, by decide⟩ [⟨0, 10, 13, 13⟩] ⟨0, 10, 17, 15⟩ [] rfl (fun z hz => by simp only [List.mem_cons, List.not_mem_nil, or_false] at hz; subst hz; exact Or.inr ⟨by decide, eB, by decide +kernel, Y.2.2.2.2.2.1⟩) (by decide) (by decide) (by decide +kernel) ngA (fun q => ?_)
  refine g_astore_s4 X dL_bond_17 (by decide) rfl ?_
  refine g_iconstN X 2 dL_bond_19 ?_
  exact g_iretH X hr Y.2.1 dL_bond_20 ⟨by decide, by decide⟩ ⟨rfl, rfl⟩
set_option maxRecDepth 20000 in
theorem h_layer_ok (l : Launch) (γ : gG) (σ σ2 : gS) (a0 a1 a2 : Int32) (r : Int32) (hM : gM l γ yX4_layer wsX4_layer ({ frames := 7, cells := 0, slots := 0, locals := 222 } : Room) [.ref (ad γ 0), .int a0, .int a1, .int a2] σ (gis (some (.int r)) σ2) 0 0) : gMH l γ yL_layer wsL_layer ({ frames := 8, cells := 1, slots := 6, locals := 245 } : Room) [.ref (ad γ 0), .int a0, .int a1, .int a2, .ref (ad γ 30)] σ (gis (some (.int (nI 0))) (outS σ2 r)) := by
  refine g_enterH (own := RL) (cc := cL_layer) (nL := 6) (ret := some .int) (hh := [(0, 12, 15, 13), (0, 12, 19, 15)]) [some (.ref (ad γ 0)), some (.int a0), some (.int a1), some (.int a2), some (.ref (ad γ 30)), none] (by decide) rfl rfl (by simp [lg_sl, Value.category]) (by simp [gl_le, glE, Value.category]) (fun hj p e s m args below meth c X Y hr => ?_)
  refine g_aload X dL_layer_0 rfl ?_
  refine g_iconstN X 0 dL_layer_2 ?_
  refine g_aload_n X dL_layer_3 rfl rfl ?_
  refine g_iload_n X dL_layer_4 rfl rfl ?_
  refine g_iload_n X dL_layer_5 rfl rfl ?_
  refine g_iload_n X dL_layer_6 rfl rfl ?_
  refine g_callVi (na := 3) X hj hM gW_0 rfl gL_layer_X4_layer rfl ⟨rfl, rfl⟩ (by decide +kernel) rfl ⟨by decide, by decide⟩ rfl (Nat.le_of_ble_eq_true rfl) dL_layer_7 ⟨by decide, by decide⟩ ?_
  refine g_i2l X dL_layer_10 rfl ?_
  refine g_ast_30 X rfl (by omega) dL_layer_11 ?_
  refine g_goto (tgt := 23) X dL_layer_12 (by decide) ?_
  refine g_iconstN X 0 dL_layer_23 ?_
  exact g_iretH X hr Y.2.1 dL_layer_24 ⟨by decide, by decide⟩ ⟨rfl, rfl⟩
set_option maxRecDepth 20000 in
theorem h_layer_t1 (l : Launch) (γ : gG) (σ σ2 : gS) (a0 a1 a2 : Int32) (hM : gMX l γ yX4_layer wsX4_layer ({ frames := 7, cells := 1, slots := 6, locals := 222 } : Room) [.ref (ad γ 0), .int a0, .int a1, .int a2] σ eB σ2) : gMH l γ yL_layer wsL_layer ({ frames := 8, cells := 1, slots := 6, locals := 245 } : Room) [.ref (ad γ 0), .int a0, .int a1, .int a2, .ref (ad γ 30)] σ (gis (some (.int (nI 1))) σ2) := by
  refine g_enterH (own := RL) (cc := cL_layer) (nL := 6) (ret := some .int) (hh := [(0, 12, 15, 13), (0, 12, 19, 15)]) [some (.ref (ad γ 0)), some (.int a0), some (.int a1), some (.int a2), some (.ref (ad γ 30)), none] (by decide) rfl rfl (by simp [lg_sl, Value.category]) (by simp [gl_le, glE, Value.category]) (fun hj p e s m args below meth c X Y hr => ?_)
  refine g_aload X dL_layer_0 rfl ?_
  refine g_iconstN X 0 dL_layer_2 ?_
  refine g_aload_n X dL_layer_3 rfl rfl ?_
  refine g_iload_n X dL_layer_4 rfl rfl ?_
  refine g_iload_n X dL_layer_5 rfl rfl ?_
  refine g_iload_n X dL_layer_6 rfl rfl ?_
  refine g_catchH (na := 3) X Y hj _ hM gW_0 rfl gL_layer_X4_layer rfl ⟨rfl, rfl⟩ (by decide +kernel) rfl ⟨by decide, by decide⟩ rfl (Nat.le_of_ble_eq_true rfl) dL_layer_7 ⟨by decide, by decide⟩ [] ⟨0, 12, 15, 13⟩ [⟨0, 12, 19, 15⟩] rfl (fun z hz => absurd hz (by simp)) (by decide) (by decide) (by decide +kernel) ngB (fun q => ?_)
  refine g_astore_s5 X dL_layer_15 (by decide) rfl ?_
  refine g_iconstN X 1 dL_layer_17 ?_
  exact g_iretH X hr Y.2.1 dL_layer_18 ⟨by decide, by decide⟩ ⟨rfl, rfl⟩
set_option maxRecDepth 20000 in
theorem h_layer_t2 (l : Launch) (γ : gG) (σ σ2 : gS) (a0 a1 a2 : Int32) (hM : gMX l γ yX4_layer wsX4_layer ({ frames := 7, cells := 1, slots := 6, locals := 222 } : Room) [.ref (ad γ 0), .int a0, .int a1, .int a2] σ eA σ2) : gMH l γ yL_layer wsL_layer ({ frames := 8, cells := 1, slots := 6, locals := 245 } : Room) [.ref (ad γ 0), .int a0, .int a1, .int a2, .ref (ad γ 30)] σ (gis (some (.int (nI 2))) σ2) := by
  refine g_enterH (own := RL) (cc := cL_layer) (nL := 6) (ret := some .int) (hh := [(0, 12, 15, 13), (0, 12, 19, 15)]) [some (.ref (ad γ 0)), some (.int a0), some (.int a1), some (.int a2), some (.ref (ad γ 30)), none] (by decide) rfl rfl (by simp [lg_sl, Value.category]) (by simp [gl_le, glE, Value.category]) (fun hj p e s m args below meth c X Y hr => ?_)
  refine g_aload X dL_layer_0 rfl ?_
  refine g_iconstN X 0 dL_layer_2 ?_
  refine g_aload_n X dL_layer_3 rfl rfl ?_
  refine g_iload_n X dL_layer_4 rfl rfl ?_
  refine g_iload_n X dL_layer_5 rfl rfl ?_
  refine g_iload_n X dL_layer_6 rfl rfl ?_
  refine g_catchH (na := 3) X Y hj _ hM gW_0 rfl gL_layer_X4_layer rfl ⟨rfl, rfl⟩ (by decide +kernel) rfl ⟨by decide, by decide⟩ rfl (Nat.le_of_ble_eq_true rfl) dL_layer_7 ⟨by decide, by decide⟩ [⟨0, 12, 15, 13⟩] ⟨0, 12, 19, 15⟩ [] rfl (fun z hz => by simp only [List.mem_cons, List.not_mem_nil, or_false] at hz; subst hz; exact Or.inr ⟨by decide, eB, by decide +kernel, Y.2.2.2.2.2.1⟩) (by decide) (by decide) (by decide +kernel) ngA (fun q => ?_)
  refine g_astore_s5 X dL_layer_19 (by decide) rfl ?_
  refine g_iconstN X 2 dL_layer_21 ?_
  exact g_iretH X hr Y.2.1 dL_layer_22 ⟨by decide, by decide⟩ ⟨rfl, rfl⟩
set_option maxRecDepth 20000 in
theorem h_debt_ok (l : Launch) (γ : gG) (σ σ2 : gS) (a0 a1 : Int32) (r : Int32) (hM : gM l γ yX4_debt wsX4_debt ({ frames := 7, cells := 0, slots := 0, locals := 220 } : Room) [.ref (ad γ 0), .int a0, .int a1] σ (gis (some (.int r)) σ2) 0 0) : gMH l γ yL_debt wsL_debt ({ frames := 8, cells := 1, slots := 6, locals := 242 } : Room) [.ref (ad γ 0), .int a0, .int a1, .ref (ad γ 30)] σ (gis (some (.int (nI 0))) (outS σ2 r)) := by
  refine g_enterH (own := RL) (cc := cL_debt) (nL := 5) (ret := some .int) (hh := [(0, 10, 13, 13)]) [some (.ref (ad γ 0)), some (.int a0), some (.int a1), some (.ref (ad γ 30)), none] (by decide) rfl rfl (by simp [lg_sl, Value.category]) (by simp [gl_le, glE, Value.category]) (fun hj p e s m args below meth c X Y hr => ?_)
  refine g_aload_n X dL_debt_0 rfl rfl ?_
  refine g_iconstN X 0 dL_debt_1 ?_
  refine g_aload_n X dL_debt_2 rfl rfl ?_
  refine g_iload_n X dL_debt_3 rfl rfl ?_
  refine g_iload_n X dL_debt_4 rfl rfl ?_
  refine g_callVi (na := 2) X hj hM gW_0 rfl gL_debt_X4_debt rfl ⟨rfl, rfl⟩ (by decide +kernel) rfl ⟨by decide, by decide⟩ rfl (Nat.le_of_ble_eq_true rfl) dL_debt_5 ⟨by decide, by decide⟩ ?_
  refine g_i2l X dL_debt_8 rfl ?_
  refine g_ast_30 X rfl (by omega) dL_debt_9 ?_
  refine g_goto (tgt := 17) X dL_debt_10 (by decide) ?_
  refine g_iconstN X 0 dL_debt_17 ?_
  exact g_iretH X hr Y.2.1 dL_debt_18 ⟨by decide, by decide⟩ ⟨rfl, rfl⟩
set_option maxRecDepth 20000 in
theorem h_debt_t1 (l : Launch) (γ : gG) (σ σ2 : gS) (a0 a1 : Int32) (hM : gMX l γ yX4_debt wsX4_debt ({ frames := 7, cells := 1, slots := 6, locals := 220 } : Room) [.ref (ad γ 0), .int a0, .int a1] σ eB σ2) : gMH l γ yL_debt wsL_debt ({ frames := 8, cells := 1, slots := 6, locals := 242 } : Room) [.ref (ad γ 0), .int a0, .int a1, .ref (ad γ 30)] σ (gis (some (.int (nI 1))) σ2) := by
  refine g_enterH (own := RL) (cc := cL_debt) (nL := 5) (ret := some .int) (hh := [(0, 10, 13, 13)]) [some (.ref (ad γ 0)), some (.int a0), some (.int a1), some (.ref (ad γ 30)), none] (by decide) rfl rfl (by simp [lg_sl, Value.category]) (by simp [gl_le, glE, Value.category]) (fun hj p e s m args below meth c X Y hr => ?_)
  refine g_aload_n X dL_debt_0 rfl rfl ?_
  refine g_iconstN X 0 dL_debt_1 ?_
  refine g_aload_n X dL_debt_2 rfl rfl ?_
  refine g_iload_n X dL_debt_3 rfl rfl ?_
  refine g_iload_n X dL_debt_4 rfl rfl ?_
  refine g_catchH (na := 2) X Y hj _ hM gW_0 rfl gL_debt_X4_debt rfl ⟨rfl, rfl⟩ (by decide +kernel) rfl ⟨by decide, by decide⟩ rfl (Nat.le_of_ble_eq_true rfl) dL_debt_5 ⟨by decide, by decide⟩ [] ⟨0, 10, 13, 13⟩ [] rfl (fun z hz => absurd hz (by simp)) (by decide) (by decide) (by decide +kernel) ngB (fun q => ?_)
  refine g_astore_s4 X dL_debt_13 (by decide) rfl ?_
  refine g_iconstN X 1 dL_debt_15 ?_
  exact g_iretH X hr Y.2.1 dL_debt_16 ⟨by decide, by decide⟩ ⟨rfl, rfl⟩
set_option maxRecDepth 20000 in
theorem h_count_ok (l : Launch) (γ : gG) (σ σ2 : gS) (a0 : Int32) (r : Int32) (hM : gM l γ yX4_count wsX4_count ({ frames := 7, cells := 0, slots := 0, locals := 222 } : Room) [.ref (ad γ 0), .int a0] σ (gis (some (.int r)) σ2) 0 0) : gMH l γ yL_count wsL_count ({ frames := 8, cells := 1, slots := 6, locals := 243 } : Room) [.ref (ad γ 0), .int a0, .ref (ad γ 30)] σ (gis (some (.int (nI 0))) (outS σ2 r)) := by
  refine g_enterH (own := RL) (cc := cL_count) (nL := 4) (ret := some .int) (hh := [(0, 9, 12, 15)]) [some (.ref (ad γ 0)), some (.int a0), some (.ref (ad γ 30)), none] (by decide) rfl rfl (by simp [lg_sl, Value.category]) (by simp [gl_le, glE, Value.category]) (fun hj p e s m args below meth c X Y hr => ?_)
  refine g_aload_n X dL_count_0 rfl rfl ?_
  refine g_iconstN X 0 dL_count_1 ?_
  refine g_aload_n X dL_count_2 rfl rfl ?_
  refine g_iload_n X dL_count_3 rfl rfl ?_
  refine g_callVi (na := 1) X hj hM gW_0 rfl gL_count_X4_count rfl ⟨rfl, rfl⟩ (by decide +kernel) rfl ⟨by decide, by decide⟩ rfl (Nat.le_of_ble_eq_true rfl) dL_count_4 ⟨by decide, by decide⟩ ?_
  refine g_i2l X dL_count_7 rfl ?_
  refine g_ast_30 X rfl (by omega) dL_count_8 ?_
  refine g_goto (tgt := 15) X dL_count_9 (by decide) ?_
  refine g_iconstN X 0 dL_count_15 ?_
  exact g_iretH X hr Y.2.1 dL_count_16 ⟨by decide, by decide⟩ ⟨rfl, rfl⟩
set_option maxRecDepth 20000 in
theorem h_count_t1 (l : Launch) (γ : gG) (σ σ2 : gS) (a0 : Int32) (hM : gMX l γ yX4_count wsX4_count ({ frames := 7, cells := 1, slots := 6, locals := 222 } : Room) [.ref (ad γ 0), .int a0] σ eA σ2) : gMH l γ yL_count wsL_count ({ frames := 8, cells := 1, slots := 6, locals := 243 } : Room) [.ref (ad γ 0), .int a0, .ref (ad γ 30)] σ (gis (some (.int (nI 1))) σ2) := by
  refine g_enterH (own := RL) (cc := cL_count) (nL := 4) (ret := some .int) (hh := [(0, 9, 12, 15)]) [some (.ref (ad γ 0)), some (.int a0), some (.ref (ad γ 30)), none] (by decide) rfl rfl (by simp [lg_sl, Value.category]) (by simp [gl_le, glE, Value.category]) (fun hj p e s m args below meth c X Y hr => ?_)
  refine g_aload_n X dL_count_0 rfl rfl ?_
  refine g_iconstN X 0 dL_count_1 ?_
  refine g_aload_n X dL_count_2 rfl rfl ?_
  refine g_iload_n X dL_count_3 rfl rfl ?_
  refine g_catchH (na := 1) X Y hj _ hM gW_0 rfl gL_count_X4_count rfl ⟨rfl, rfl⟩ (by decide +kernel) rfl ⟨by decide, by decide⟩ rfl (Nat.le_of_ble_eq_true rfl) dL_count_4 ⟨by decide, by decide⟩ [] ⟨0, 9, 12, 15⟩ [] rfl (fun z hz => absurd hz (by simp)) (by decide) (by decide) (by decide +kernel) ngA (fun q => ?_)
  refine g_astore_n3 X dL_count_12 rfl (by decide) rfl ?_
  refine g_iconstN X 1 dL_count_13 ?_
  exact g_iretH X hr Y.2.1 dL_count_14 ⟨by decide, by decide⟩ ⟨rfl, rfl⟩
set_option maxRecDepth 20000 in
theorem h_setting_ok (l : Launch) (γ : gG) (σ σ2 : gS) (a0 : Int32) (r : Int32) (hM : gM l γ yX4_setting wsX4_setting ({ frames := 7, cells := 0, slots := 0, locals := 220 } : Room) [.ref (ad γ 0), .int a0] σ (gis (some (.int r)) σ2) 0 0) : gMH l γ yL_setting wsL_setting ({ frames := 8, cells := 1, slots := 6, locals := 241 } : Room) [.ref (ad γ 0), .int a0, .ref (ad γ 30)] σ (gis (some (.int (nI 0))) (outS σ2 r)) := by
  refine g_enterH (own := RL) (cc := cL_setting) (nL := 4) (ret := some .int) (hh := [(0, 9, 12, 13)]) [some (.ref (ad γ 0)), some (.int a0), some (.ref (ad γ 30)), none] (by decide) rfl rfl (by simp [lg_sl, Value.category]) (by simp [gl_le, glE, Value.category]) (fun hj p e s m args below meth c X Y hr => ?_)
  refine g_aload_n X dL_setting_0 rfl rfl ?_
  refine g_iconstN X 0 dL_setting_1 ?_
  refine g_aload_n X dL_setting_2 rfl rfl ?_
  refine g_iload_n X dL_setting_3 rfl rfl ?_
  refine g_callVi (na := 1) X hj hM gW_0 rfl gL_setting_X4_setting rfl ⟨rfl, rfl⟩ (by decide +kernel) rfl ⟨by decide, by decide⟩ rfl (Nat.le_of_ble_eq_true rfl) dL_setting_4 ⟨by decide, by decide⟩ ?_
  refine g_i2l X dL_setting_7 rfl ?_
  refine g_ast_30 X rfl (by omega) dL_setting_8 ?_
  refine g_goto (tgt := 15) X dL_setting_9 (by decide) ?_
  refine g_iconstN X 0 dL_setting_15 ?_
  exact g_iretH X hr Y.2.1 dL_setting_16 ⟨by decide, by decide⟩ ⟨rfl, rfl⟩
set_option maxRecDepth 20000 in
theorem h_setting_t1 (l : Launch) (γ : gG) (σ σ2 : gS) (a0 : Int32) (hM : gMX l γ yX4_setting wsX4_setting ({ frames := 7, cells := 1, slots := 6, locals := 220 } : Room) [.ref (ad γ 0), .int a0] σ eB σ2) : gMH l γ yL_setting wsL_setting ({ frames := 8, cells := 1, slots := 6, locals := 241 } : Room) [.ref (ad γ 0), .int a0, .ref (ad γ 30)] σ (gis (some (.int (nI 1))) σ2) := by
  refine g_enterH (own := RL) (cc := cL_setting) (nL := 4) (ret := some .int) (hh := [(0, 9, 12, 13)]) [some (.ref (ad γ 0)), some (.int a0), some (.ref (ad γ 30)), none] (by decide) rfl rfl (by simp [lg_sl, Value.category]) (by simp [gl_le, glE, Value.category]) (fun hj p e s m args below meth c X Y hr => ?_)
  refine g_aload_n X dL_setting_0 rfl rfl ?_
  refine g_iconstN X 0 dL_setting_1 ?_
  refine g_aload_n X dL_setting_2 rfl rfl ?_
  refine g_iload_n X dL_setting_3 rfl rfl ?_
  refine g_catchH (na := 1) X Y hj _ hM gW_0 rfl gL_setting_X4_setting rfl ⟨rfl, rfl⟩ (by decide +kernel) rfl ⟨by decide, by decide⟩ rfl (Nat.le_of_ble_eq_true rfl) dL_setting_4 ⟨by decide, by decide⟩ [] ⟨0, 9, 12, 13⟩ [] rfl (fun z hz => absurd hz (by simp)) (by decide) (by decide) (by decide +kernel) ngB (fun q => ?_)
  refine g_astore_n3 X dL_setting_12 rfl (by decide) rfl ?_
  refine g_iconstN X 1 dL_setting_13 ?_
  exact g_iretH X hr Y.2.1 dL_setting_14 ⟨by decide, by decide⟩ ⟨rfl, rfl⟩
set_option maxRecDepth 20000 in
theorem h_ifCalled_ok (l : Launch) (γ : gG) (σ σ2 : gS) (a0 a1 a2 : Int32) (r : Int32) (hM : gM l γ yX4_ifCalled wsX4_ifCalled ({ frames := 8, cells := 0, slots := 0, locals := 242 } : Room) [.ref (ad γ 0), .int a0, .int a1, .int a2] σ (gis (some (.int r)) σ2) 0 0) : gMH l γ yL_ifCalled wsL_ifCalled ({ frames := 9, cells := 1, slots := 6, locals := 265 } : Room) [.ref (ad γ 0), .int a0, .int a1, .int a2, .ref (ad γ 30)] σ (gis (some (.int (nI 0))) (outS σ2 r)) := by
  refine g_enterH (own := RL) (cc := cL_ifCalled) (nL := 6) (ret := some .int) (hh := [(0, 12, 15, 13), (0, 12, 19, 15)]) [some (.ref (ad γ 0)), some (.int a0), some (.int a1), some (.int a2), some (.ref (ad γ 30)), none] (by decide) rfl rfl (by simp [lg_sl, Value.category]) (by simp [gl_le, glE, Value.category]) (fun hj p e s m args below meth c X Y hr => ?_)
  refine g_aload X dL_ifCalled_0 rfl ?_
  refine g_iconstN X 0 dL_ifCalled_2 ?_
  refine g_aload_n X dL_ifCalled_3 rfl rfl ?_
  refine g_iload_n X dL_ifCalled_4 rfl rfl ?_
  refine g_iload_n X dL_ifCalled_5 rfl rfl ?_
  refine g_iload_n X dL_ifCalled_6 rfl rfl ?_
  refine g_callVi (na := 3) X hj hM gW_0 rfl gL_ifCalled_X4_ifCalled rfl ⟨rfl, rfl⟩ (by decide +kernel) rfl ⟨by decide, by decide⟩ rfl (Nat.le_of_ble_eq_true rfl) dL_ifCalled_7 ⟨by decide, by decide⟩ ?_
  refine g_i2l X dL_ifCalled_10 rfl ?_
  refine g_ast_30 X rfl (by omega) dL_ifCalled_11 ?_
  refine g_goto (tgt := 23) X dL_ifCalled_12 (by decide) ?_
  refine g_iconstN X 0 dL_ifCalled_23 ?_
  exact g_iretH X hr Y.2.1 dL_ifCalled_24 ⟨by decide, by decide⟩ ⟨rfl, rfl⟩
set_option maxRecDepth 20000 in
theorem h_ifCalled_t1 (l : Launch) (γ : gG) (σ σ2 : gS) (a0 a1 a2 : Int32) (hM : gMX l γ yX4_ifCalled wsX4_ifCalled ({ frames := 8, cells := 1, slots := 6, locals := 242 } : Room) [.ref (ad γ 0), .int a0, .int a1, .int a2] σ eB σ2) : gMH l γ yL_ifCalled wsL_ifCalled ({ frames := 9, cells := 1, slots := 6, locals := 265 } : Room) [.ref (ad γ 0), .int a0, .int a1, .int a2, .ref (ad γ 30)] σ (gis (some (.int (nI 1))) σ2) := by
  refine g_enterH (own := RL) (cc := cL_ifCalled) (nL := 6) (ret := some .int) (hh := [(0, 12, 15, 13), (0, 12, 19, 15)]) [some (.ref (ad γ 0)), some (.int a0), some (.int a1), some (.int a2), some (.ref (ad γ 30)), none] (by decide) rfl rfl (by simp [lg_sl, Value.category]) (by simp [gl_le, glE, Value.category]) (fun hj p e s m args below meth c X Y hr => ?_)
  refine g_aload X dL_ifCalled_0 rfl ?_
  refine g_iconstN X 0 dL_ifCalled_2 ?_
  refine g_aload_n X dL_ifCalled_3 rfl rfl ?_
  refine g_iload_n X dL_ifCalled_4 rfl rfl ?_
  refine g_iload_n X dL_ifCalled_5 rfl rfl ?_
  refine g_iload_n X dL_ifCalled_6 rfl rfl ?_
  refine g_catchH (na := 3) X Y hj _ hM gW_0 rfl gL_ifCalled_X4_ifCalled rfl ⟨rfl, rfl⟩ (by decide +kernel) rfl ⟨by decide, by decide⟩ rfl (Nat.le_of_ble_eq_true rfl) dL_ifCalled_7 ⟨by decide, by decide⟩ [] ⟨0, 12, 15, 13⟩ [⟨0, 12, 19, 15⟩] rfl (fun z hz => absurd hz (by simp)) (by decide) (by decide) (by decide +kernel) ngB (fun q => ?_)
  refine g_astore_s5 X dL_ifCalled_15 (by decide) rfl ?_
  refine g_iconstN X 1 dL_ifCalled_17 ?_
  exact g_iretH X hr Y.2.1 dL_ifCalled_18 ⟨by decide, by decide⟩ ⟨rfl, rfl⟩
set_option maxRecDepth 20000 in
theorem h_ifCalled_t2 (l : Launch) (γ : gG) (σ σ2 : gS) (a0 a1 a2 : Int32) (hM : gMX l γ yX4_ifCalled wsX4_ifCalled ({ frames := 8, cells := 1, slots := 6, locals := 242 } : Room) [.ref (ad γ 0), .int a0, .int a1, .int a2] σ eA σ2) : gMH l γ yL_ifCalled wsL_ifCalled ({ frames := 9, cells := 1, slots := 6, locals := 265 } : Room) [.ref (ad γ 0), .int a0, .int a1, .int a2, .ref (ad γ 30)] σ (gis (some (.int (nI 2))) σ2) := by
  refine g_enterH (own := RL) (cc := cL_ifCalled) (nL := 6) (ret := some .int) (hh := [(0, 12, 15, 13), (0, 12, 19, 15)]) [some (.ref (ad γ 0)), some (.int a0), some (.int a1), some (.int a2), some (.ref (ad γ 30)), none] (by decide) rfl rfl (by simp [lg_sl, Value.category]) (by simp [gl_le, glE, Value.category]) (fun hj p e s m args below meth c X Y hr => ?_)
  refine g_aload X dL_ifCalled_0 rfl ?_
  refine g_iconstN X 0 dL_ifCalled_2 ?_
  refine g_aload_n X dL_ifCalled_3 rfl rfl ?_
  refine g_iload_n X dL_ifCalled_4 rfl rfl ?_
  refine g_iload_n X dL_ifCalled_5 rfl rfl ?_
  refine g_iload_n X dL_ifCalled_6 rfl rfl ?_
  refine g_catchH (na := 3) X Y hj _ hM gW_0 rfl gL_ifCalled_X4_ifCalled rfl ⟨rfl, rfl⟩ (by decide +kernel) rfl ⟨by decide, by decide⟩ rfl (Nat.le_of_ble_eq_true rfl) dL_ifCalled_7 ⟨by decide, by decide⟩ [⟨0, 12, 15, 13⟩] ⟨0, 12, 19, 15⟩ [] rfl (fun z hz => by simp only [List.mem_cons, List.not_mem_nil, or_false] at hz; subst hz; exact Or.inr ⟨by decide, eB, by decide +kernel, Y.2.2.2.2.2.1⟩) (by decide) (by decide) (by decide +kernel) ngA (fun q => ?_)
  refine g_astore_s5 X dL_ifCalled_19 (by decide) rfl ?_
  refine g_iconstN X 2 dL_ifCalled_21 ?_
  exact g_iretH X hr Y.2.1 dL_ifCalled_22 ⟨by decide, by decide⟩ ⟨rfl, rfl⟩
set_option maxRecDepth 20000 in
theorem h_thin_ok (l : Launch) (γ : gG) (σ σ2 : gS) (a0 : Int32) (r : Int32) (hM : gM l γ yX4_thin wsX4_thin ({ frames := 7, cells := 0, slots := 0, locals := 221 } : Room) [.ref (ad γ 0), .int a0] σ (gis (some (.int r)) σ2) 0 0) : gMH l γ yL_thin wsL_thin ({ frames := 8, cells := 1, slots := 6, locals := 242 } : Room) [.ref (ad γ 0), .int a0, .ref (ad γ 30)] σ (gis (some (.int (nI 0))) (outS σ2 r)) := by
  refine g_enterH (own := RL) (cc := cL_thin) (nL := 4) (ret := some .int) (hh := [(0, 9, 12, 13)]) [some (.ref (ad γ 0)), some (.int a0), some (.ref (ad γ 30)), none] (by decide) rfl rfl (by simp [lg_sl, Value.category]) (by simp [gl_le, glE, Value.category]) (fun hj p e s m args below meth c X Y hr => ?_)
  refine g_aload_n X dL_thin_0 rfl rfl ?_
  refine g_iconstN X 0 dL_thin_1 ?_
  refine g_aload_n X dL_thin_2 rfl rfl ?_
  refine g_iload_n X dL_thin_3 rfl rfl ?_
  refine g_callVi (na := 1) X hj hM gW_0 rfl gL_thin_X4_thin rfl ⟨rfl, rfl⟩ (by decide +kernel) rfl ⟨by decide, by decide⟩ rfl (Nat.le_of_ble_eq_true rfl) dL_thin_4 ⟨by decide, by decide⟩ ?_
  refine g_i2l X dL_thin_7 rfl ?_
  refine g_ast_30 X rfl (by omega) dL_thin_8 ?_
  refine g_goto (tgt := 15) X dL_thin_9 (by decide) ?_
  refine g_iconstN X 0 dL_thin_15 ?_
  exact g_iretH X hr Y.2.1 dL_thin_16 ⟨by decide, by decide⟩ ⟨rfl, rfl⟩
set_option maxRecDepth 20000 in
theorem h_thin_t1 (l : Launch) (γ : gG) (σ σ2 : gS) (a0 : Int32) (hM : gMX l γ yX4_thin wsX4_thin ({ frames := 7, cells := 1, slots := 6, locals := 221 } : Room) [.ref (ad γ 0), .int a0] σ eB σ2) : gMH l γ yL_thin wsL_thin ({ frames := 8, cells := 1, slots := 6, locals := 242 } : Room) [.ref (ad γ 0), .int a0, .ref (ad γ 30)] σ (gis (some (.int (nI 1))) σ2) := by
  refine g_enterH (own := RL) (cc := cL_thin) (nL := 4) (ret := some .int) (hh := [(0, 9, 12, 13)]) [some (.ref (ad γ 0)), some (.int a0), some (.ref (ad γ 30)), none] (by decide) rfl rfl (by simp [lg_sl, Value.category]) (by simp [gl_le, glE, Value.category]) (fun hj p e s m args below meth c X Y hr => ?_)
  refine g_aload_n X dL_thin_0 rfl rfl ?_
  refine g_iconstN X 0 dL_thin_1 ?_
  refine g_aload_n X dL_thin_2 rfl rfl ?_
  refine g_iload_n X dL_thin_3 rfl rfl ?_
  refine g_catchH (na := 1) X Y hj _ hM gW_0 rfl gL_thin_X4_thin rfl ⟨rfl, rfl⟩ (by decide +kernel) rfl ⟨by decide, by decide⟩ rfl (Nat.le_of_ble_eq_true rfl) dL_thin_4 ⟨by decide, by decide⟩ [] ⟨0, 9, 12, 13⟩ [] rfl (fun z hz => absurd hz (by simp)) (by decide) (by decide) (by decide +kernel) ngB (fun q => ?_)
  refine g_astore_n3 X dL_thin_12 rfl (by decide) rfl ?_
  refine g_iconstN X 1 dL_thin_13 ?_
  exact g_iretH X hr Y.2.1 dL_thin_14 ⟨by decide, by decide⟩ ⟨rfl, rfl⟩
set_option maxRecDepth 20000 in
theorem h_spare_ok (l : Launch) (γ : gG) (σ σ2 : gS) (a0 : Int32) (r : Int32) (hM : gM l γ yX4_spare wsX4_spare ({ frames := 7, cells := 0, slots := 0, locals := 220 } : Room) [.ref (ad γ 0), .int a0] σ (gis (some (.int r)) σ2) 0 0) : gMH l γ yL_spare wsL_spare ({ frames := 8, cells := 1, slots := 6, locals := 241 } : Room) [.ref (ad γ 0), .int a0, .ref (ad γ 30)] σ (gis (some (.int (nI 0))) (outS σ2 r)) := by
  refine g_enterH (own := RL) (cc := cL_spare) (nL := 4) (ret := some .int) (hh := [(0, 9, 12, 13)]) [some (.ref (ad γ 0)), some (.int a0), some (.ref (ad γ 30)), none] (by decide) rfl rfl (by simp [lg_sl, Value.category]) (by simp [gl_le, glE, Value.category]) (fun hj p e s m args below meth c X Y hr => ?_)
  refine g_aload_n X dL_spare_0 rfl rfl ?_
  refine g_iconstN X 0 dL_spare_1 ?_
  refine g_aload_n X dL_spare_2 rfl rfl ?_
  refine g_iload_n X dL_spare_3 rfl rfl ?_
  refine g_callVi (na := 1) X hj hM gW_0 rfl gL_spare_X4_spare rfl ⟨rfl, rfl⟩ (by decide +kernel) rfl ⟨by decide, by decide⟩ rfl (Nat.le_of_ble_eq_true rfl) dL_spare_4 ⟨by decide, by decide⟩ ?_
  refine g_i2l X dL_spare_7 rfl ?_
  refine g_ast_30 X rfl (by omega) dL_spare_8 ?_
  refine g_goto (tgt := 15) X dL_spare_9 (by decide) ?_
  refine g_iconstN X 0 dL_spare_15 ?_
  exact g_iretH X hr Y.2.1 dL_spare_16 ⟨by decide, by decide⟩ ⟨rfl, rfl⟩
set_option maxRecDepth 20000 in
theorem h_spare_t1 (l : Launch) (γ : gG) (σ σ2 : gS) (a0 : Int32) (hM : gMX l γ yX4_spare wsX4_spare ({ frames := 7, cells := 1, slots := 6, locals := 220 } : Room) [.ref (ad γ 0), .int a0] σ eB σ2) : gMH l γ yL_spare wsL_spare ({ frames := 8, cells := 1, slots := 6, locals := 241 } : Room) [.ref (ad γ 0), .int a0, .ref (ad γ 30)] σ (gis (some (.int (nI 1))) σ2) := by
  refine g_enterH (own := RL) (cc := cL_spare) (nL := 4) (ret := some .int) (hh := [(0, 9, 12, 13)]) [some (.ref (ad γ 0)), some (.int a0), some (.ref (ad γ 30)), none] (by decide) rfl rfl (by simp [lg_sl, Value.category]) (by simp [gl_le, glE, Value.category]) (fun hj p e s m args below meth c X Y hr => ?_)
  refine g_aload_n X dL_spare_0 rfl rfl ?_
  refine g_iconstN X 0 dL_spare_1 ?_
  refine g_aload_n X dL_spare_2 rfl rfl ?_
  refine g_iload_n X dL_spare_3 rfl rfl ?_
  refine g_catchH (na := 1) X Y hj _ hM gW_0 rfl gL_spare_X4_spare rfl ⟨rfl, rfl⟩ (by decide +kernel) rfl ⟨by decide, by decide⟩ rfl (Nat.le_of_ble_eq_true rfl) dL_spare_4 ⟨by decide, by decide⟩ [] ⟨0, 9, 12, 13⟩ [] rfl (fun z hz => absurd hz (by simp)) (by decide) (by decide) (by decide +kernel) ngB (fun q => ?_)
  refine g_astore_n3 X dL_spare_12 rfl (by decide) rfl ?_
  refine g_iconstN X 1 dL_spare_13 ?_
  exact g_iretH X hr Y.2.1 dL_spare_14 ⟨by decide, by decide⟩ ⟨rfl, rfl⟩
