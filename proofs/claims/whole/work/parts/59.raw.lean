/-! THINGS ARE MADE: rows over a growing world -/
abbrev TY3 : Type := ClassId × ClassId × ClassId
def ty3 (y : TY3) : List (ClassId × FieldType) := [(y.1, .int), (y.2.1, .long), (y.2.2, .array .int)]
def CB (p : Program) (s : State) (m : MethodId) (args : Array Value) (c : Code) (cc : ByteArray) (own : String) (nL : Nat) (Ts : List Cond) (D : va_G) (y : TY3) (A : Nat → Prop) : Prop :=
  p.tables.exec = Jvm.exec ∧ c.code = cc ∧ c.maxLocals = nL ∧ s.vm.findClass own = some m.cls ∧ (∀ w ∈ Ts, w.before args s = true) ∧ va_K D vwCl (ty3 y) s ∧ (∀ q, s.heap.size ≤ q → A q) ∧ va_AOA .int s
def B (p : Program) (l : Launch) (e : Env) (R : Room) (s : State) (m : MethodId) (args : Array Value) (below : List Frame) (meth : Method) (c : Code) (D : va_G) (A : Nat → Prop) (nL k n : Nat) (Q : State → Prop) (pc : Nat) (ls : List (Option Value)) (st : List Value) (ws : va_W) : Prop :=
  ∀ (H : Heap) (locs : List Loc) (la : Array Slot), va_P D vwCl ws H → va_D A ws → va_S A s.heap H locs → gl_has la nL ls → W p l e R s m args below meth c H locs k n Q (F0 m pc la st)
section RAW
variable {p : Program} {l : Launch} {e : Env} {R : Room} {s : State} {m : MethodId} {args : Array Value} {below : List Frame} {meth : Method} {c : Code} {D : va_G} {yT : TY3} {A : Nat → Prop} {nL k n : Nat} {Q : State → Prop}
variable {cc : ByteArray} {own : String} {Ts : List Cond} {pc : Nat} {ls : List (Option Value)} {rest st : List Value} {ws : va_W}
theorem CB.x (X : CB p s m args c cc own nL Ts D yT A) : p.tables.exec = Jvm.exec := X.1
theorem CB.b (X : CB p s m args c cc own nL Ts D yT A) : c.code = cc := X.2.1
theorem CB.ml (X : CB p s m args c cc own nL Ts D yT A) : c.maxLocals = nL := X.2.2.1
theorem CB.ow (X : CB p s m args c cc own nL Ts D yT A) : s.vm.findClass own = some m.cls := X.2.2.2.1
theorem CB.ts (X : CB p s m args c cc own nL Ts D yT A) : ∀ w ∈ Ts, w.before args s = true := X.2.2.2.2.1
theorem CB.K (X : CB p s m args c cc own nL Ts D yT A) : va_K D vwCl (ty3 yT) s := X.2.2.2.2.2.1
theorem CB.al (X : CB p s m args c cc own nL Ts D yT A) : ∀ q, s.heap.size ≤ q → A q := X.2.2.2.2.2.2.1
theorem CB.ao (X : CB p s m args c cc own nL Ts D yT A) : va_AOA .int s := X.2.2.2.2.2.2.2
theorem b_le {ls' : List (Option Value)} (h : gl_le ls' ls) (kk : B p l e R s m args below meth c D A nL k n Q pc ls' st ws) : B p l e R s m args below meth c D A nL k n Q pc ls st ws := fun H locs la hP hD hS hl => kk H locs la hP hD hS (gl_sub hl (gl_le_at h))
theorem b_ws {ws' : va_W} (h : ws = ws') (kk : B p l e R s m args below meth c D A nL k n Q pc ls st ws') : B p l e R s m args below meth c D A nL k n Q pc ls st ws := by rw [h]; exact kk
theorem b_aload_n (X : CB p s m args c cc own nL Ts D yT A) {q : Fin 4} {i : Nat} {x : Nat} (hdg : decode cc pc = .ok (.aload_n q, 1)) (hi : (q : Nat) = i) (hx : ls[i]? = some (some (.ref x))) (kk : B p l e R s m args below meth c D A nL k n Q (pc + 1) ls (.ref x :: rest) ws) : B p l e R s m args below meth c D A nL k n Q pc ls rest ws := fun H locs la hP hD hS hl => lv_aload_n X.x X.b hdg hi (gl_at hl hx) (kk H locs la hP hD hS hl)
theorem b_iload_n (X : CB p s m args c cc own nL Ts D yT A) {q : Fin 4} {i : Nat} {x : Int32} (hdg : decode cc pc = .ok (.iload_n q, 1)) (hi : (q : Nat) = i) (hx : ls[i]? = some (some (.int x))) (kk : B p l e R s m args below meth c D A nL k n Q (pc + 1) ls (.int x :: rest) ws) : B p l e R s m args below meth c D A nL k n Q pc ls rest ws := fun H locs la hP hD hS hl => lv_iload_n X.x X.b hdg hi (gl_at hl hx) (kk H locs la hP hD hS hl)
theorem b_istore_n (X : CB p s m args c cc own nL Ts D yT A) {q : Fin 4} {i : Nat} {x : Int32} {ls' : List (Option Value)} (hdg : decode cc pc = .ok (.istore_n q, 1)) (hi : (q : Nat) = i) (hn : i < nL) (hok : gok ls i = true) (hls : ls.set i (some (.int x)) = ls') (kk : B p l e R s m args below meth c D A nL k n Q (pc + 1) ls' rest ws) : B p l e R s m args below meth c D A nL k n Q pc ls (.int x :: rest) ws := fun H locs la hP hD hS hl => lv_istore_n X.x X.b hdg hi hl hn rfl (fun la' hl' => kk H locs la' hP hD hS (hls ▸ gl_set1 hok rfl hl'))
theorem b_istore (X : CB p s m args c cc own nL Ts D yT A) {i : Nat} {x : Int32} {ls' : List (Option Value)} (hdg : decode cc pc = .ok (.istore i, 2)) (hn : i < nL) (hok : gok ls i = true) (hls : ls.set i (some (.int x)) = ls') (kk : B p l e R s m args below meth c D A nL k n Q (pc + 2) ls' rest ws) : B p l e R s m args below meth c D A nL k n Q pc ls (.int x :: rest) ws := fun H locs la hP hD hS hl => lv_istore X.x X.b hdg hl hn rfl (fun la' hl' => kk H locs la' hP hD hS (hls ▸ gl_set1 hok rfl hl'))
theorem b_astore_n (X : CB p s m args c cc own nL Ts D yT A) {q : Fin 4} {i : Nat} {x : Nat} {ls' : List (Option Value)} (hdg : decode cc pc = .ok (.astore_n q, 1)) (hi : (q : Nat) = i) (hn : i < nL) (hok : gok ls i = true) (hls : ls.set i (some (.ref x)) = ls') (kk : B p l e R s m args below meth c D A nL k n Q (pc + 1) ls' rest ws) : B p l e R s m args below meth c D A nL k n Q pc ls (.ref x :: rest) ws := fun H locs la hP hD hS hl => lv_astore_n X.x X.b hdg hi hl hn rfl (fun la' hl' => kk H locs la' hP hD hS (hls ▸ gl_set1 hok rfl hl'))
theorem b_iconst (X : CB p s m args c cc own nL Ts D yT A) {i : Int} {v : Int32} (hdg : decode cc pc = .ok (.iconst i, 1)) (hv : Int32.ofInt i = v) (kk : B p l e R s m args below meth c D A nL k n Q (pc + 1) ls (.int v :: rest) ws) : B p l e R s m args below meth c D A nL k n Q pc ls rest ws := fun H locs la hP hD hS hl => lv_iconst X.x X.b hdg hv (kk H locs la hP hD hS hl)
theorem b_bipush (X : CB p s m args c cc own nL Ts D yT A) {i : Int} {v : Int32} (hdg : decode cc pc = .ok (.bipush i, 2)) (hv : (Int8.ofInt i).toInt32 = v) (kk : B p l e R s m args below meth c D A nL k n Q (pc + 2) ls (.int v :: rest) ws) : B p l e R s m args below meth c D A nL k n Q pc ls rest ws := fun H locs la hP hD hS hl => lv_bipush X.x X.b hdg hv (kk H locs la hP hD hS hl)
theorem b_sipush (X : CB p s m args c cc own nL Ts D yT A) {i : Int} {v : Int32} (hdg : decode cc pc = .ok (.sipush i, 3)) (hv : (Int16.ofInt i).toInt32 = v) (kk : B p l e R s m args below meth c D A nL k n Q (pc + 3) ls (.int v :: rest) ws) : B p l e R s m args below meth c D A nL k n Q pc ls rest ws := fun H locs la hP hD hS hl => lv_sipush X.x X.b hdg hv (kk H locs la hP hD hS hl)
theorem b_dup (X : CB p s m args c cc own nL Ts D yT A) {va : Value} (hdg : decode cc pc = .ok (.dup, 1)) (hva : va.category = 1) (kk : B p l e R s m args below meth c D A nL k n Q (pc + 1) ls (va :: va :: rest) ws) : B p l e R s m args below meth c D A nL k n Q pc ls (va :: rest) ws := fun H locs la hP hD hS hl => lv_dup X.x X.b hdg hva (kk H locs la hP hD hS hl)
theorem b_iadd (X : CB p s m args c cc own nL Ts D yT A) {x y : Int32} (hdg : decode cc pc = .ok (.iadd, 1)) (kk : B p l e R s m args below meth c D A nL k n Q (pc + 1) ls (.int (x + y) :: rest) ws) : B p l e R s m args below meth c D A nL k n Q pc ls (.int y :: .int x :: rest) ws := fun H locs la hP hD hS hl => lv_iadd X.x X.b hdg (kk H locs la hP hD hS hl)
theorem b_imul (X : CB p s m args c cc own nL Ts D yT A) {x y : Int32} (hdg : decode cc pc = .ok (.imul, 1)) (kk : B p l e R s m args below meth c D A nL k n Q (pc + 1) ls (.int (x * y) :: rest) ws) : B p l e R s m args below meth c D A nL k n Q pc ls (.int y :: .int x :: rest) ws := fun H locs la hP hD hS hl => lv_imul X.x X.b hdg (kk H locs la hP hD hS hl)
theorem b_iinc (X : CB p s m args c cc own nL Ts D yT A) {i : Nat} {d : Int} {x v : Int32} {ls' : List (Option Value)} (hdg : decode cc pc = .ok (.iinc i d, 3)) (hx : ls[i]? = some (some (.int x))) (hv : x + Int32.ofInt d = v) (hn : i < nL) (hok : gok ls i = true) (hls : ls.set i (some (.int v)) = ls') (kk : B p l e R s m args below meth c D A nL k n Q (pc + 3) ls' rest ws) : B p l e R s m args below meth c D A nL k n Q pc ls rest ws := fun H locs la hP hD hS hl => by
  obtain ⟨q, hq⟩ := List.mem_iff_getElem?.mp (glL_mem.mpr hx)
  exact lv_iinc X.x X.b hdg hl hq hv hn rfl (fun la' hl' => kk H locs la' hP hD hS (hls ▸ gl_set1 hok rfl hl'))
theorem b_goto (X : CB p s m args c cc own nL Ts D yT A) {off : Int} {tgt : Nat} (hdg : decode cc pc = .ok (.goto off, 3)) (ht : (pc : Int) + off = (tgt : Int)) (kk : B p l e R s m args below meth c D A nL k n Q tgt ls rest ws) : B p l e R s m args below meth c D A nL k n Q pc ls rest ws := fun H locs la hP hD hS hl => lv_goto X.x X.b hdg ht (kk H locs la hP hD hS hl)
theorem b_icmp_ge (X : CB p s m args c cc own nL Ts D yT A) {a b : Nat} {off : Int} {tgt : Nat} (hdg : decode cc pc = .ok (.if_icmp .ge off, 3)) (ht : (pc : Int) + off = (tgt : Int)) (ha : a < 2 ^ 31) (hb : b < 2 ^ 31) (kt : b ≤ a → B p l e R s m args below meth c D A nL k n Q tgt ls rest ws) (kf : a < b → B p l e R s m args below meth c D A nL k n Q (pc + 3) ls rest ws) : B p l e R s m args below meth c D A nL k n Q pc ls (.int (nI b) :: .int (nI a) :: rest) ws := fun H locs la hP hD hS hl =>
  lv_icmp_ge X.x X.b hdg ht (fun h => kt ((nI_leI hb ha).mp h) H locs la hP hD hS hl) (fun h => kf (Nat.lt_of_not_le (fun w => h ((nI_leI hb ha).mpr w))) H locs la hP hD hS hl)
theorem b_oinit (X : CB p s m args c cc own nL Ts D yT A) {idx a : Nat} (hlink : Cond.methodLink own idx Lib.objectInit ∈ Ts) (hinst : Cond.instanceMethod Lib.objectInit ∈ Ts) (hcode : Cond.code Lib.objectInit ⟨#[0xb1]⟩ 1 none ∈ Ts) (hdg : decode cc pc = .ok (.invokespecial idx, 3)) (hcat : (rest.map fun v => v.category).sum ≤ 8) (hf : 1 ≤ R.frames) (hlo : 8 + 12 ≤ R.locals)
    (kk : B p l e R s m args below meth c D A nL k n Q (pc + 3) ls rest ws) : B p l e R s m args below meth c D A nL k n Q pc ls (.ref a :: rest) ws := fun H locs la hP hD hS hl =>
  W.objInit X.x X.b X.ow (X.ts _ hlink) (X.ts _ hinst) (X.ts _ hcode) (g := F0 m pc la (.ref a :: rest)) rfl (hl.1.trans X.ml.symm) rfl hdg hf (by show 2 * 0 + (rest.map fun v => v.category).sum + 12 ≤ R.locals; omega) (kk H locs la hP hD hS hl)
theorem ra_int {U : State} {cA : ClassId} (h1 : va_RA U cA .int) (h2 : va_RA U yT.1 .int) : cA = yT.1 := Option.some.inj (h1.symm.trans h2)
theorem ra_long {U : State} {cA : ClassId} (h1 : va_RA U cA .long) (h2 : va_RA U yT.2.1 .long) : cA = yT.2.1 := Option.some.inj (h1.symm.trans h2)
theorem ra_arr {U : State} {cA : ClassId} (h1 : va_RA U cA (.array .int)) (h2 : va_RA U yT.2.2 (.array .int)) : cA = yT.2.2 := Option.some.inj (h1.symm.trans h2)
theorem b_newI (X : CB p s m args c cc own nL Ts D yT A) {N : Nat} (harr : Cond.arrayClass .int ∈ Ts) (hN : N ≤ 3000) (hc : k + 1 ≤ R.cells) (hs : n + N ≤ R.slots) (hdg : decode cc pc = .ok (.newarray .int, 2))
    (kk : ∀ q, B p l e R s m args below meth c D A nL (k + 1) (n + N) Q (pc + 2) ls (.ref q :: rest) (ws ++ [(q, .inl (yT.1, N, .inl (fun _ => 0)))])) : B p l e R s m args below meth c D A nL k n Q pc ls (.int (nI N) :: rest) ws := fun H locs la hP hD hS hl => by
  refine va_newa X.x X.b (atype := .int) (X.ts _ harr) rfl X.K hP hD hS X.al (N' := N) (a0 := (N, .inl (fun _ => 0))) (fun _ => rfl) (nI_pos (by omega)) (nI_clamp (by omega)) (by show N * 4 ≤ 536870912; omega) hc hs hdg (fun q cA H1 hK1 hP1 hD1 hS1 => ?_)
  have e := ra_int (yT := yT) (hK1.2 3 (cA, .int) rfl).2 (X.K.2 0 (yT.1, .int) rfl).2
  subst e
  exact kk q H1 locs la hP1 hD1 hS1 hl
theorem b_newL (X : CB p s m args c cc own nL Ts D yT A) {N : Nat} (harr : Cond.arrayClass .long ∈ Ts) (hN : N ≤ 3000) (hc : k + 1 ≤ R.cells) (hs : n + N ≤ R.slots) (hdg : decode cc pc = .ok (.newarray .long, 2))
    (kk : ∀ q, B p l e R s m args below meth c D A nL (k + 1) (n + N) Q (pc + 2) ls (.ref q :: rest) (ws ++ [(q, .inl (yT.2.1, N, .inr (.inl (fun _ => 0))))])) : B p l e R s m args below meth c D A nL k n Q pc ls (.int (nI N) :: rest) ws := fun H locs la hP hD hS hl => by
  refine va_newa X.x X.b (atype := .long) (X.ts _ harr) rfl X.K hP hD hS X.al (N' := N) (a0 := (N, .inr (.inl (fun _ => 0)))) (fun _ => rfl) (nI_pos (by omega)) (nI_clamp (by omega)) (by show N * 8 ≤ 536870912; omega) hc hs hdg (fun q cA H1 hK1 hP1 hD1 hS1 => ?_)
  have e := ra_long (yT := yT) (hK1.2 3 (cA, .long) rfl).2 (X.K.2 1 (yT.2.1, .long) rfl).2
  subst e
  exact kk q H1 locs la hP1 hD1 hS1 hl
theorem b_put (X : CB p s m args c cc own nL Ts D yT A) {C : String} {T : u_T} {N ci index : Nat} (ty0 : Nat → FieldType) (hty : ∀ k, k < N → parseFieldDescriptor (T k).2.2.1 = some (ty0 k)) (hnm : ∀ a, a < N → ∀ b, b < N → a ≠ b → (T a).2.1 ≠ (T b).2.1) (hin : ∀ w ∈ u_ws C T N, w ∈ Ts) (q0 : Nat) {a : Nat} {fs : List Value} (he : ws[q0]? = some (a, .inr (ci, fs))) (hc : vwCl[ci]? = some (C, T, N)) (j : Nat) (hj : j < N)
    (hlink : Cond.fieldLink own index C (T j).2.1 (T j).2.2.1 ∈ Ts) (hT : (T j).1 = C) (hfin : (T j).2.2.2 = true) (hin2 : meth.name = "<init>") (hown : C = own) {ty : FieldType} {x : Nat} (hd : parseFieldDescriptor (T j).2.2.1 = some ty) (hn : narrow ty (.ref x) = .ref x) (hfit : fits ty (.ref x) = true) (hl0 : j < fs.length) (hdg : decode cc pc = .ok (.putfield index, 3)) {ws' : va_W} (hw : ws.set q0 (a, .inr (ci, fs.set j (.ref x))) = ws')
    (kk : B p l e R s m args below meth c D A nL k n Q (pc + 3) ls rest ws') : B p l e R s m args below meth c D A nL k n Q pc ls (.ref x :: .ref a :: rest) ws := fun H locs la hP hD hS hl => by
  subst hw
  exact va_putF (ref := C) X.x X.b X.ts hin ty0 hty hnm X.ow X.K hP hD hS q0 he hc j hj (X.ts _ hlink) (fun y hy => by rw [hT] at hy; exact hy) hfin hin2 (hT.trans hown) hd hn hfit hl0 hdg (fun H1 locs1 h1 h2 h3 => kk H1 locs1 la h1 h2 h3 hl)
theorem b_get (X : CB p s m args c cc own nL Ts D yT A) {C : String} {T : u_T} {N ci index : Nat} (hin : ∀ w ∈ u_ws C T N, w ∈ Ts) (q0 : Nat) {a : Nat} {fs : List Value} (he : ws[q0]? = some (a, .inr (ci, fs))) (hc : vwCl[ci]? = some (C, T, N)) (j : Nat) (hj : j < N) (hlink : Cond.fieldLink own index C (T j).2.1 (T j).2.2.1 ∈ Ts) (hT : (T j).1 = C) {v : Value} (hv : fs[j]? = some v) (hdg : decode cc pc = .ok (.getfield index, 3))
    (kk : B p l e R s m args below meth c D A nL k n Q (pc + 3) ls (v :: rest) ws) : B p l e R s m args below meth c D A nL k n Q pc ls (.ref a :: rest) ws := fun H locs la hP hD hS hl =>
  va_get (ref := C) X.x X.b X.ts hin X.ow X.K hP q0 he hc j hj (X.ts _ hlink) (fun y hy => by rw [hT] at hy; exact hy) hv hdg (kk H locs la hP hD hS hl)
theorem b_iast (X : CB p s m args c cc own nL Ts D yT A) (q0 : Nat) {a N : Nat} {f : Nat → Int32} (ha : ws[q0]? = some (a, .inl (yT.1, N, .inl f))) {j : Nat} {x : Int32} (hj : j < N) (hN : N ≤ 3000) (hdg : decode cc pc = .ok (.iastore, 1)) {ws' : va_W} (hw : ws.set q0 (a, .inl (yT.1, N, .inl (upd f j x))) = ws')
    (kk : B p l e R s m args below meth c D A nL k n Q (pc + 1) ls rest ws') : B p l e R s m args below meth c D A nL k n Q pc ls (.int x :: .int (nI j) :: .ref a :: rest) ws := fun H locs la hP hD hS hl => by
  subst hw
  refine va_iast X.x X.b X.K hP hD hS q0 0 ha rfl (vp_in_nI hj (by omega)) hdg (fun H1 locs1 h1 h2 h3 => ?_)
  rw [nI_clamp (by omega)] at h1 h2
  exact kk H1 locs1 la h1 h2 h3 hl
theorem b_new (X : CB p s m args c cc own nL Ts D yT A) {C : String} {T : u_T} {N ci index : Nat} (ty : Nat → FieldType) (hty : ∀ k, k < N → parseFieldDescriptor (T k).2.2.1 = some (ty k)) (hin : ∀ w ∈ u_ws C T N, w ∈ Ts) (hcl : Cond.classLink own index C ∈ Ts) (hinst : Cond.instantiable C N ∈ Ts) (hini : Cond.initialized C ∈ Ts) (hc : vwCl[ci]? = some (C, T, N)) {fs : List Value} (hfs : ∀ j, j < N → defaultValue (ty j) = vp_V fs j)
    (hcc : k + 1 ≤ R.cells) (hs : n + N ≤ R.slots) (hdg : decode cc pc = .ok (.new index, 3)) (kk : ∀ q, B p l e R s m args below meth c D A nL (k + 1) (n + N) Q (pc + 3) ls (.ref q :: rest) (ws ++ [(q, .inr (ci, fs))])) : B p l e R s m args below meth c D A nL k n Q pc ls rest ws := fun H locs la hP hD hS hl =>
  va_new X.x X.b X.ts hin ty hty X.ow (X.ts _ hcl) (X.ts _ hinst) (X.ts _ hini) X.K hP hD hS X.al hc hfs hcc hs hdg (fun q H1 h1 h2 h3 => kk q H1 locs la h1 h2 h3 hl)
end RAW
/-- which cells a maker may write: its own thing, and those that it makes -/
def bA (a sz : Nat) : Nat → Prop := fun q => q = a ∨ sz ≤ q
/-- maker y makes of the new thing a what post says -/
def gMI (l : Launch) (D : va_G) (yT : TY3) (y : MethodName) (ws : List Cond) (rm : Room) (e0 : va_E) (post : Nat → va_W → Prop) (mc ms : Nat) : Prop :=
  ∀ (a sz : Nat), Met l y ws rm (va_Pc [.ref a] (fun U => U.heap.size = sz ∧ va_P D vwCl [(a, e0)] U.heap ∧ va_K D vwCl (ty3 yT) U ∧ va_AOA .int U)) (va_Qv (S := va_W) (post a) (fun w1 t => va_P D vwCl w1 t.heap ∧ va_D (bA a sz) w1) (bA a sz)) mc ms (bA a sz)
theorem va_AOA.moved {ty : FieldType} {u U : State} (hvm : u.vm.Alike U.vm) (h : va_AOA ty u) : va_AOA ty U := over_moved hvm h
theorem D_one {a sz : Nat} {e : va_E} : va_D (bA a sz) [(a, e)] := by
  refine ⟨fun i j p q hi hj _ => ?_, fun k q hk => ?_⟩
  · have h1 : i < 1 := (List.getElem?_eq_some_iff.mp hi).1
    have h2 : j < 1 := (List.getElem?_eq_some_iff.mp hj).1
    omega
  · have h1 : k < 1 := (List.getElem?_eq_some_iff.mp hk).1
    obtain rfl : k = 0 := by omega
    cases hk
    exact Or.inl rfl
theorem D_app {A : Nat → Prop} {a sz : Nat} {e : va_E} {w0 w1 : va_W} (h0 : va_D A (w0 ++ [(a, e)])) (h1 : va_D (bA a sz) w1) (hlt : ∀ (k : Nat) (q : Nat × va_E), w0[k]? = some q → q.1 < sz) (hA : ∀ q, bA a sz q → A q) : va_D A (w0 ++ w1) := by
  have hl : ∀ k q, w0[k]? = some q → (w0 ++ [(a, e)])[k]? = some q := fun k q hk => by rw [List.getElem?_append_left (List.getElem?_eq_some_iff.mp hk).1]; exact hk
  have hlast : (w0 ++ [(a, e)])[w0.length]? = some (a, e) := by rw [List.getElem?_append_right (Nat.le_refl _)]; simp
  have hne : ∀ (k : Nat) (q : Nat × va_E), w0[k]? = some q → q.1 ≠ a := fun k q hk hq => by
    have := h0.1 k w0.length q (a, e) (hl k q hk) hlast hq
    have := (List.getElem?_eq_some_iff.mp hk).1
    omega
  have sp : ∀ k q, (w0 ++ w1)[k]? = some q → (k < w0.length ∧ w0[k]? = some q) ∨ (w0.length ≤ k ∧ w1[k - w0.length]? = some q) := fun k q hk => by
    by_cases h : k < w0.length
    · rw [List.getElem?_append_left h] at hk; exact Or.inl ⟨h, hk⟩
    · rw [List.getElem?_append_right (by omega)] at hk; exact Or.inr ⟨by omega, hk⟩
  have cross : ∀ (i j : Nat) (p q : Nat × va_E), w0[i]? = some p → w1[j]? = some q → p.1 ≠ q.1 := fun i j p q hi hj hpq => by
    rcases h1.2 j q hj with h | h
    · exact hne i p hi (hpq.trans h)
    · have := hlt i p hi
      omega
  refine ⟨fun i j p q hi hj hpq => ?_, fun k q hk => ?_⟩
  · rcases sp i p hi with ⟨h2, h3⟩ | ⟨h2, h3⟩
    · rcases sp j q hj with ⟨h4, h5⟩ | ⟨h4, h5⟩
      · exact h0.1 i j p q (hl i p h3) (hl j q h5) hpq
      · exact absurd hpq (cross i _ p q h3 h5)
    · rcases sp j q hj with ⟨h4, h5⟩ | ⟨h4, h5⟩
      · exact absurd hpq.symm (cross j _ q p h5 h3)
      · have := h1.1 _ _ p q h3 h5 hpq
        omega
  · rcases sp k q hk with ⟨-, h3⟩ | ⟨-, h3⟩
    · exact h0.2 k q (hl k q h3)
    · exact hA _ (h1.2 _ q h3)
section RAW2
variable {p : Program} {l : Launch} {e : Env} {R : Room} {s : State} {m : MethodId} {args : Array Value} {below : List Frame} {meth : Method} {c : Code} {D : va_G} {yT : TY3} {A : Nat → Prop} {nL k n : Nat} {Q : State → Prop}
variable {cc : ByteArray} {own : String} {Ts : List Cond} {pc : Nat} {ls : List (Option Value)} {rest st : List Value} {ws : va_W}
theorem b_enter {y : MethodName} {ws ws' : List Cond} {rm : Room} {e0 : va_E} {post : Nat → va_W → Prop} {mc ms : Nat} (hy : plainName y.cls = true) (hw : ws = Cond.code y cc nL none :: ws') (hown : y.cls = own) (hlen : 1 ≤ nL)
    (body : ∀ (a : Nat) (p : Program) (e : Env) (s : State) (m : MethodId) (args : Array Value) (below : List Frame) (meth : Method) (c : Code), CB p s m args c cc own nL ws D yT (bA a s.heap.size) → meth.sig.returnType = none → meth.locks = false → meth.name = y.name →
      B p l e rm s m args below meth c D (bA a s.heap.size) nL 0 0 (MQ below (va_Qv (S := va_W) (post a) (fun w1 t => va_P D vwCl w1 t.heap ∧ va_D (bA a s.heap.size) w1) (bA a s.heap.size)) args s mc ms (bA a s.heap.size)) 0 [some (.ref a)] [] [(a, e0)]) : gMI l D yT y ws rm e0 post mc ms := by
  intro a sz
  refine Met.ofW (cc := cc) (maxL := nL) (ret := none) hy hw ?_
  intro p e s m args below meth c s₁ Bd hml hv
  obtain ⟨rfl, hsz, hP, hK, hAO⟩ := hv
  subst hsz
  have hts := atoms_spec (ws := ws) Bd.pre
  have X : CB p s m [Value.ref a].toArray c cc own nL ws D yT (bA a s.heap.size) := ⟨Bd.exec, Bd.bytes, hml, by rw [← hown]; exact findClass_of_methodNamed Bd.named, hts, hK, fun q h => Or.inr h, hAO⟩
  have hl := lv_entry [Value.ref a] (n := nL) (by simpa [lg_sl, Value.category] using hlen)
  rw [lg_entry_eq]
  refine body a p e s m [Value.ref a].toArray below meth c X Bd.returns Bd.notSynchronized (name_of_methodNamed Bd.named Bd.method).1 s.heap [] _ hP D_one va_S.rf ?_
  refine ⟨hl.1, hl.2.1, fun q hq => hl.2.2 q ?_⟩
  obtain ⟨i, v⟩ := q
  exact glE_args (av := [Value.ref a]) (ls0 := [some (.ref a)]) (by simp [gl_le, glE, Value.category]) (glL_mem.mp hq)
theorem b_vret {a : Nat} {post : Nat → va_W → Prop} (X : CB p s m args c cc own nL Ts D yT (bA a s.heap.size)) (hr : meth.sig.returnType = none) (hlk : meth.locks = false) (hdg : decode cc pc = .ok (.return_, 1)) (hp : post a ws) :
    B p l e R s m args below meth c D (bA a s.heap.size) nL k n (MQ below (va_Qv (S := va_W) (post a) (fun w1 t => va_P D vwCl w1 t.heap ∧ va_D (bA a s.heap.size) w1) (bA a s.heap.size)) args s k n (bA a s.heap.size)) pc ls [] ws := fun H locs la hP hD hS hl =>
  W.vret X.x X.b hr (fun t ht hW => ⟨⟨ws, rfl, hp, by rw [ht]; exact hP, hD⟩, hS.F ht⟩) hS.2.2 hdg hlk
theorem b_blind {sz : Nat} {av : List Value} {w : va_W} : FrameBlind (va_Pc av (fun U => U.heap.size = sz ∧ va_P D vwCl w U.heap ∧ va_K D vwCl (ty3 yT) U ∧ va_AOA .int U)) := fun a U g mk q => by
  obtain ⟨q0, q1, qP, qK, qA⟩ := q
  exact ⟨q0, q1, qP, va_K.moved (u := U) (U := U.calling g mk a) (Vm.Alike.refl U.vm) qK, qA⟩
theorem b_init (X : CB p s m args c cc own nL Ts D yT A) {y : MethodName} {wsY ws' : List Cond} {rm : Room} {e0 : va_E} {post : Nat → va_W → Prop} {mc ms maxL index : Nat} {bytes : ByteArray} (hM : gMI l D yT y wsY rm e0 post mc ms) (hG : GoodIn Ts wsY) (hw : wsY = Cond.code y bytes maxL none :: ws') (hrm : rm.cells = mc ∧ rm.slots = ms) (hini : Cond.initialized y.cls ∈ Ts) (hlk : Cond.methodLink own index y ∈ Ts) (hin : Cond.instanceMethod y ∈ Ts) (hnm : y.name = "<init>")
    (hd : y.cls ≠ "java/lang/invoke/MethodHandle" ∧ y.cls ≠ "java/lang/invoke/VarHandle" ∧ (parseMethodDescriptor y.desc).map (fun d => d.parameters.length) = some 0) (hR : rm.frames + 1 ≤ R.frames ∧ 8 + (maxL + 11) + rm.locals ≤ R.locals) {w0 : va_W} {a : Nat} (hcat : (rest.map fun v => v.category).sum ≤ 8) (hdg : decode cc pc = .ok (.invokespecial index, 3)) (hf : k + mc ≤ R.cells ∧ n + ms ≤ R.slots)
    (kk : ∀ w1, post a w1 → B p l e R s m args below meth c D A nL (k + mc) (n + ms) Q (pc + 3) ls rest (w0 ++ w1)) : B p l e R s m args below meth c D A nL k n Q pc ls (.ref a :: rest) (w0 ++ [(a, e0)]) := fun H locs la hP hD hS hl => by
  have hlast : (w0 ++ [(a, e0)])[w0.length]? = some (a, e0) := by rw [List.getElem?_append_right (Nat.le_refl _)]; simp
  have hleft : ∀ k q, w0[k]? = some q → (w0 ++ [(a, e0)])[k]? = some q := fun k q hk => by rw [List.getElem?_append_left (List.getElem?_eq_some_iff.mp hk).1]; exact hk
  have hAa : A a := hD.2 _ _ hlast
  have hPa : va_P D vwCl [(a, e0)] H := fun k q hk => by
    have h1 : k < 1 := (List.getElem?_eq_some_iff.mp hk).1
    obtain rfl : k = 0 := by omega
    cases hk
    exact hP _ _ hlast
  have hAf : ∀ q, bA a H.size q → A q := fun q h => by
    rcases h with rfl | h
    · exact hAa
    · exact X.al q (Nat.le_trans hS.1 h)
  have hne : ∀ (k : Nat) (q : Nat × va_E), w0[k]? = some q → q.1 ≠ a := fun k q hk hq => by
    have := hD.1 k w0.length q (a, e0) (hleft k q hk) hlast hq
    have := (List.getElem?_eq_some_iff.mp hk).1
    omega
  refine va_callv (S := va_W) (a := #[.ref a]) (post := post a) (va_runI (As := []) (rest := rest) (b := a) ⟨X.x, X.b, X.ml, X.ow, X.ts⟩ (hM a H.size) ⟨callB_of 0 X.ts hG hw hrm.1 hrm.2 (X.ts _ hini) (X.ts _ hlk) hd hR, hnm, X.ts _ hin⟩ ⟨b_blind, fun U hU hW => ⟨rfl, by rw [hU], by rw [hU]; exact hPa, va_K.moved hW.alike X.K, X.ao.moved hW.alike⟩⟩ rfl rfl hl.1 rfl (lv_room hcat) hdg hf) hS (fun q _ h => hAf q h) hAf ?_
  intro w1 t H1 locs1 ht _ hpost hB hsz hsame hS1
  obtain ⟨hP1, hD1⟩ := hB
  rw [ht] at hP1
  refine kk w1 hpost H1 locs1 la ?_ (D_app hD hD1 (fun k q hk => (hP k q (hleft k q hk)).lt) hAf) hS1 hl
  refine va_P.app (va_P.kept (H := H) (fun k q hk => hP k q (hleft k q hk)) (fun k q hk => hsame q.1 (hP k q (hleft k q hk)).lt (fun h => ?_))) hP1
  rcases h with h | h
  · exact hne k q hk h
  · have := (hP k q (hleft k q hk)).lt
    omega
end RAW2
