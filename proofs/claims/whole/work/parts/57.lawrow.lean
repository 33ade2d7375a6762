/-! THE LAW'S WALK: its rows -/
theorem met_of {l : Launch} {y : MethodName} {ws : List Cond} {rm : Room} {Pc : Array Value → State → Prop} {Qc : Array Value → State → Outcome → State → Prop} {mc ms : Nat} {free : Addr → Prop} (h : vx_Met l y ws rm Pc Qc gXF mc ms free) : Met l y ws rm Pc Qc mc ms free := by
  intro p e ha hc hk s m args below hf happ hP hE
  obtain ⟨k, o, h1, h2, h3, hQ⟩ := h p e ha hc hk s m args below hf happ hP hE
  refine ⟨k, o, h1, h2, h3, ?_⟩
  rcases hQ with hQ | ⟨q, -, E, ce, L, hx, -⟩
  · exact hQ
  · exact hx.elim
section LAWR
variable {p : Program} {l : Launch} {e : Env} {R : Room} {s : State} {m : MethodId} {args : Array Value} {below : List Frame} {meth : Method} {c : Code} {γ : gG} {A : Nat → Prop} {nL k n : Nat} {Q : State → Prop}
variable {cc : ByteArray} {own : String} {Ts : List Cond} {pc : Nat} {ls : List (Option Value)} {rest st : List Value} {σ : gS} {b Lx : Nat} {xs : Nat → Int32}
theorem g_blindY {sz : Nat} {av : List Value} : FrameBlind (gPcY γ sz av σ) := fun a U g mk q => by
  obtain ⟨q0, q1, ⟨qP, qK⟩, qZ, qT, qN⟩ := q
  exact ⟨q0, q1, ⟨qP, va_K.moved (u := U) (U := U.calling g mk a) (Vm.Alike.refl U.vm) qK⟩, gZ.moved (u := U) (U := U.calling g mk a) (Vm.Alike.refl U.vm) qZ, gTx.same (u := U) (U := U.calling g mk a) rfl qT, gNc.moved (u := U) (U := U.calling g mk a) (Vm.Alike.refl U.vm) qN⟩
/-- what holds all along the law -/
def CL (l : Launch) (s : State) (A : Nat → Prop) (b Lx : Nat) (xs : Nat → Int32) : Prop := l.stackTraces = false ∧ gZ A s s.heap ∧ gTx s ∧ gNc s ∧ va_X b Lx xs s s.heap ∧ b < s.heap.size ∧ ¬ A b ∧ Lx ≤ 2048
theorem g_callH {na : Nat} {y : MethodName} {ws ws' : List Cond} {rm : Room} {post : Option Value → gS → Prop} {maxL index : Nat} {bytes : ByteArray} {ret : Option FieldType} {hh : List (Nat × Nat × Nat × Nat)} (X : CX p s m args c cc own nL Ts γ A) (Y : CL l s A b Lx xs) (hj : inj γ) (As : List Value) (hM : gMH l γ y ws rm As σ post)
    (hT : GoodIn Ts (va_wsS own index y ws)) (hw : ws = Cond.codeWith y bytes maxL ret hh :: ws') (hrm : rm.cells = 1 ∧ rm.slots = 6)
    (hd : y.cls ≠ "java/lang/invoke/MethodHandle" ∧ y.cls ≠ "java/lang/invoke/VarHandle" ∧ (parseMethodDescriptor y.desc).map (fun d => d.parameters.length) = some na) (hna : As.length = na) (hR : rm.frames + 1 ≤ R.frames ∧ 8 + (maxL + 11) + rm.locals ≤ R.locals)
    (hst : st = As.reverse ++ rest) (hcat : (rest.map fun v => v.category).sum ≤ 8) (hdg : decode cc pc = .ok (.invokestatic index, 3)) (hf : k + 1 ≤ R.cells ∧ n + 6 ≤ R.slots)
    (kk : ∀ v σ', post v σ' → G p l e R s m args below meth c γ A nL (k + 1) (n + 6) Q (pc + 3) ls (v.toList ++ rest) σ') : G p l e R s m args below meth c γ A nL k n Q pc ls st σ := fun H locs la hP hS hl => by
  have hAA := g_AA X hS
  exact g_after (a := As.toArray) hAA hS hl (vx_runSW (As := As) (rest := rest) ⟨X.1, X.2.1, X.ml, X.ow, X.ts⟩ (met_of (hM hj Y.1 H.size)) (vx_cwSW na X.ts hT hw hrm.1 hrm.2 hd hR) ⟨g_blindY, fun U hU hW => ⟨rfl, by rw [hU], ⟨by rw [hU]; exact hP, va_K.moved hW.alike X.K⟩, by rw [hU]; exact ((Y.2.1.kept hS.2.1).narrow hAA).moved hW.alike, Y.2.2.1.warm hW, Y.2.2.2.1.moved hW.alike⟩⟩ rfl hna hl.1 hst (lv_room hcat) hdg hf) kk
theorem g_xld (X : CX p s m args c cc own nL Ts γ A) (Y : CL l s A b Lx xs) {j : Nat} (hjx : j < Lx) (hdg : decode cc pc = .ok (.iaload, 1)) (kk : G p l e R s m args below meth c γ A nL k n Q (pc + 1) ls (.int (xs j) :: rest) σ) : G p l e R s m args below meth c γ A nL k n Q pc ls (.int (nI j) :: .ref b :: rest) σ := fun H locs la hP hS hl => by
  have hL := Y.2.2.2.2.2.2.2
  have e : (nI j).toNatClampNeg = j := nI_clamp (by omega)
  refine va_sld X.1 X.2.1 Y.2.2.2.2.1 Y.2.2.2.2.2.1 Y.2.2.2.2.2.2.1 hS (i := nI j) ?_ hdg ?_
  · intro h
    rcases h with h | h
    · exact nI_pos (by omega) h
    · rw [e] at h; omega
  · rw [e]
    exact kk H locs la hP hS hl
theorem g_xlen (X : CX p s m args c cc own nL Ts γ A) (Y : CL l s A b Lx xs) (hdg : decode cc pc = .ok (.arraylength, 1)) (kk : G p l e R s m args below meth c γ A nL k n Q (pc + 1) ls (.int (nI Lx) :: rest) σ) : G p l e R s m args below meth c γ A nL k n Q pc ls (.ref b :: rest) σ := fun H locs la hP hS hl =>
  va_slen X.1 X.2.1 Y.2.2.2.2.1 Y.2.2.2.2.2.1 Y.2.2.2.2.2.2.1 hS hdg (kk H locs la hP hS hl)
end LAWR
theorem and31 (x : Int32) : ∃ v, v < 32 ∧ x &&& nI 31 = nI v := by
  refine ⟨(x &&& nI 31).toBitVec.toNat, ?_, ?_⟩
  · have h : (x &&& nI 31).toBitVec = x.toBitVec &&& 31#32 := rfl
    rw [h, BitVec.toNat_and]
    have := Nat.and_le_right (n := x.toBitVec.toNat) (m := (31#32).toNat)
    have h31 : (31#32).toNat = 31 := rfl
    omega
  · apply Int32.toBitVec_inj.mp
    show _ = BitVec.ofNat 32 _
    simp
/-- the law's things at its loop's head -/
def LSl (γ : gG) (b t : Nat) : List (Option Value) := [some (.ref b), some (.ref (ad γ 0)), some (.ref (ad γ 23)), some (.ref (ad γ 30)), some (.int (nI (4 * t))), none, none, none, none]
theorem nI_z {a : Nat} (ha : a ≤ 3) (h : nI a = 0) : a = 0 := by
  obtain rfl | rfl | rfl | rfl : a = 0 ∨ a = 1 ∨ a = 2 ∨ a = 3 := by omega
  · rfl
  · exact absurd h (by decide)
  · exact absurd h (by decide)
  · exact absurd h (by decide)
theorem lg_self (x : Int64) : lg_cmp x x = 0 := by
  unfold lg_cmp
  simp
