/-! THE MAKERS -/
section INI
variable {p : Program} {l : Launch} {e : Env} {R : Room} {s : State} {m : MethodId} {args : Array Value} {below : List Frame} {meth : Method} {c : Code} {D : va_G} {yT : TY3} {A : Nat → Prop} {nL k n : Nat} {Q : State → Prop}
variable {cc : ByteArray} {own : String} {Ts : List Cond} {pc : Nat} {ls : List (Option Value)} {rest st : List Value} {ws : va_W}
theorem b_top {x y : Int32} (h : x = y) (kk : B p l e R s m args below meth c D A nL k n Q pc ls (.int y :: rest) ws) : B p l e R s m args below meth c D A nL k n Q pc ls (.int x :: rest) ws := by rw [h]; exact kk
theorem b_up {N : Nat} (LS : Nat → List (Option Value)) (WS : Nat → va_W) (h : ∀ i, i ≤ N → (i < N → B p l e R s m args below meth c D A nL k n Q pc (LS (i + 1)) [] (WS (i + 1))) → B p l e R s m args below meth c D A nL k n Q pc (LS i) [] (WS i)) : B p l e R s m args below meth c D A nL k n Q pc (LS 0) [] (WS 0) := by
  have key : ∀ d, d ≤ N → B p l e R s m args below meth c D A nL k n Q pc (LS (N - d)) [] (WS (N - d)) := by
    intro d
    induction d with
    | zero => intro _; exact h (N - 0) (by omega) (fun q => absurd q (by omega))
    | succ d ih =>
      intro hd
      refine h (N - (d + 1)) (by omega) (fun _ => ?_)
      have := ih (by omega)
      rw [show N - (d + 1) + 1 = N - d by omega]
      exact this
  have := key N (Nat.le_refl N)
  rw [Nat.sub_self] at this
  exact this
end INI
/-- cells at the start -/
def cV3 : Nat → (Nat → Int32)
  | 0 => upd (upd (upd (fun _ => 0) 112 (nI 5)) 113 (nI 20)) 114 (nI 5)
  | i + 1 => upd (cV3 i) (i * 6 + 1) (-1)
def cV5 : Nat → (Nat → Int32)
  | 0 => upd (upd (upd (fun _ => 0) 6 (nI 5)) 7 (nI 20)) 8 (nI 5)
  | i + 1 => upd (cV5 i) (17 + i) (-1)
def wI0 (yT : TY3) (a : Nat) (w : va_W) : Prop := ∃ q0 q1 q2 q3 : Nat, w = [(a, .inr (0, [.ref q0, .ref q1, .ref q2, .ref q3, .int 0, .int 0, .int 0, .int 0, .int 0, .int 0, .int 0, .int 0])), (q0, .inl (yT.1, 60, .inl (fun _ => 0))), (q1, .inl (yT.1, 4, .inl (fun _ => 0))), (q2, .inl (yT.1, 4, .inl (fun _ => 0))), (q3, .inl (yT.1, 5, .inl (fun _ => 0)))]
set_option maxRecDepth 20000 in
theorem i_X0 (l : Launch) (D : va_G) (yT : TY3) : gMI l D yT yX0_init wsX0_init ({ frames := 1, cells := 4, slots := 73, locals := 20 } : Room) (.inr (0, [.null, .null, .null, .null, .int 0, .int 0, .int 0, .int 0, .int 0, .int 0, .int 0, .int 0])) (wI0 yT) 4 73 := by
  refine b_enter (own := RX0) (cc := cX0_init) (nL := 1) (by decide) rfl rfl (by decide) (fun a p e s m args below meth c X hr hlk hnm => ?_)
  have hin : ∀ w ∈ wsX00, w ∈ wsX0_init := by decide +kernel
  refine b_aload_n X dX0_init_0 rfl rfl ?_
  refine b_oinit X (by decide +kernel) (by decide +kernel) (by decide +kernel) dX0_init_1 (by decide) (by decide) (by decide) ?_
  refine b_aload_n X dX0_init_4 rfl rfl ?_
  refine b_bipush (v := nI 60) X dX0_init_5 (by decide) ?_
  refine b_newI (N := 60) X (by decide +kernel) (by decide) (by decide) (by decide) dX0_init_7 (fun q0 => ?_)
  refine b_put (C := RX0) (T := TX0) (N := 12) (ci := 0) X tyX0 tyX0_ok nmX0 hin 0 rfl rfl 0 (by decide) (by decide +kernel) rfl rfl hnm rfl (ty := .array .int) (by decide +kernel) rfl rfl (by simp) dX0_init_9 (ws' := [(a, .inr (0, [.ref q0, .null, .null, .null, .int 0, .int 0, .int 0, .int 0, .int 0, .int 0, .int 0, .int 0])), (q0, .inl (yT.1, 60, .inl (fun _ => 0)))]) rfl ?_
  refine b_aload_n X dX0_init_12 rfl rfl ?_
  refine b_iconst (v := nI 4) X dX0_init_13 (by decide) ?_
  refine b_newI (N := 4) X (by decide +kernel) (by decide) (by decide) (by decide) dX0_init_14 (fun q1 => ?_)
  refine b_put (C := RX0) (T := TX0) (N := 12) (ci := 0) X tyX0 tyX0_ok nmX0 hin 0 rfl rfl 1 (by decide) (by decide +kernel) rfl rfl hnm rfl (ty := .array .int) (by decide +kernel) rfl rfl (by simp) dX0_init_16 (ws' := [(a, .inr (0, [.ref q0, .ref q1, .null, .null, .int 0, .int 0, .int 0, .int 0, .int 0, .int 0, .int 0, .int 0])), (q0, .inl (yT.1, 60, .inl (fun _ => 0))), (q1, .inl (yT.1, 4, .inl (fun _ => 0)))]) rfl ?_
  refine b_aload_n X dX0_init_19 rfl rfl ?_
  refine b_iconst (v := nI 4) X dX0_init_20 (by decide) ?_
  refine b_newI (N := 4) X (by decide +kernel) (by decide) (by decide) (by decide) dX0_init_21 (fun q2 => ?_)
  refine b_put (C := RX0) (T := TX0) (N := 12) (ci := 0) X tyX0 tyX0_ok nmX0 hin 0 rfl rfl 2 (by decide) (by decide +kernel) rfl rfl hnm rfl (ty := .array .int) (by decide +kernel) rfl rfl (by simp) dX0_init_23 (ws' := [(a, .inr (0, [.ref q0, .ref q1, .ref q2, .null, .int 0, .int 0, .int 0, .int 0, .int 0, .int 0, .int 0, .int 0])), (q0, .inl (yT.1, 60, .inl (fun _ => 0))), (q1, .inl (yT.1, 4, .inl (fun _ => 0))), (q2, .inl (yT.1, 4, .inl (fun _ => 0)))]) rfl ?_
  refine b_aload_n X dX0_init_26 rfl rfl ?_
  refine b_iconst (v := nI 5) X dX0_init_27 (by decide) ?_
  refine b_newI (N := 5) X (by decide +kernel) (by decide) (by decide) (by decide) dX0_init_28 (fun q3 => ?_)
  refine b_put (C := RX0) (T := TX0) (N := 12) (ci := 0) X tyX0 tyX0_ok nmX0 hin 0 rfl rfl 3 (by decide) (by decide +kernel) rfl rfl hnm rfl (ty := .array .int) (by decide +kernel) rfl rfl (by simp) dX0_init_30 (ws' := [(a, .inr (0, [.ref q0, .ref q1, .ref q2, .ref q3, .int 0, .int 0, .int 0, .int 0, .int 0, .int 0, .int 0, .int 0])), (q0, .inl (yT.1, 60, .inl (fun _ => 0))), (q1, .inl (yT.1, 4, .inl (fun _ => 0))), (q2, .inl (yT.1, 4, .inl (fun _ => 0))), (q3, .inl (yT.1, 5, .inl (fun _ => 0)))]) rfl ?_
  exact b_vret X hr hlk dX0_init_33 ⟨q0, q1, q2, q3, rfl⟩
def wI2 (yT : TY3) (a : Nat) (w : va_W) : Prop := ∃ q0 q1 q2 q3 q4 q5 : Nat, w = [(a, .inr (2, [.ref q0, .ref q1, .ref q2, .ref q3, .ref q4, .ref q5, .int 0, .int 0, .int 0, .int 0, .int 0, .int 0])), (q0, .inl (yT.1, 8, .inl (fun _ => 0))), (q1, .inl (yT.1, 8, .inl (fun _ => 0))), (q2, .inl (yT.1, 8, .inl (fun _ => 0))), (q3, .inl (yT.1, 4, .inl (fun _ => 0))), (q4, .inl (yT.1, 4, .inl (fun _ => 0))), (q5, .inl (yT.2.1, 4, .inr (.inl (fun _ => 0))))]
set_option maxRecDepth 20000 in
theorem i_X2 (l : Launch) (D : va_G) (yT : TY3) : gMI l D yT yX2_init wsX2_init ({ frames := 1, cells := 6, slots := 36, locals := 20 } : Room) (.inr (2, [.null, .null, .null, .null, .null, .null, .int 0, .int 0, .int 0, .int 0, .int 0, .int 0])) (wI2 yT) 6 36 := by
  refine b_enter (own := RX2) (cc := cX2_init) (nL := 1) (by decide) rfl rfl (by decide) (fun a p e s m args below meth c X hr hlk hnm => ?_)
  have hin : ∀ w ∈ wsX20, w ∈ wsX2_init := by decide +kernel
  refine b_aload_n X dX2_init_0 rfl rfl ?_
  refine b_oinit X (by decide +kernel) (by decide +kernel) (by decide +kernel) dX2_init_1 (by decide) (by decide) (by decide) ?_
  refine b_aload_n X dX2_init_4 rfl rfl ?_
  refine b_bipush (v := nI 8) X dX2_init_5 (by decide) ?_
  refine b_newI (N := 8) X (by decide +kernel) (by decide) (by decide) (by decide) dX2_init_7 (fun q0 => ?_)
  refine b_put (C := RX2) (T := TX2) (N := 12) (ci := 2) X tyX2 tyX2_ok nmX2 hin 0 rfl rfl 0 (by decide) (by decide +kernel) rfl rfl hnm rfl (ty := .array .int) (by decide +kernel) rfl rfl (by simp) dX2_init_9 (ws' := [(a, .inr (2, [.ref q0, .null, .null, .null, .null, .null, .int 0, .int 0, .int 0, .int 0, .int 0, .int 0])), (q0, .inl (yT.1, 8, .inl (fun _ => 0)))]) rfl ?_
  refine b_aload_n X dX2_init_12 rfl rfl ?_
  refine b_bipush (v := nI 8) X dX2_init_13 (by decide) ?_
  refine b_newI (N := 8) X (by decide +kernel) (by decide) (by decide) (by decide) dX2_init_15 (fun q1 => ?_)
  refine b_put (C := RX2) (T := TX2) (N := 12) (ci := 2) X tyX2 tyX2_ok nmX2 hin 0 rfl rfl 1 (by decide) (by decide +kernel) rfl rfl hnm rfl (ty := .array .int) (by decide +kernel) rfl rfl (by simp) dX2_init_17 (ws' := [(a, .inr (2, [.ref q0, .ref q1, .null, .null, .null, .null, .int 0, .int 0, .int 0, .int 0, .int 0, .int 0])), (q0, .inl (yT.1, 8, .inl (fun _ => 0))), (q1, .inl (yT.1, 8, .inl (fun _ => 0)))]) rfl ?_
  refine b_aload_n X dX2_init_20 rfl rfl ?_
  refine b_bipush (v := nI 8) X dX2_init_21 (by decide) ?_
  refine b_newI (N := 8) X (by decide +kernel) (by decide) (by decide) (by decide) dX2_init_23 (fun q2 => ?_)
  refine b_put (C := RX2) (T := TX2) (N := 12) (ci := 2) X tyX2 tyX2_ok nmX2 hin 0 rfl rfl 2 (by decide) (by decide +kernel) rfl rfl hnm rfl (ty := .array .int) (by decide +kernel) rfl rfl (by simp) dX2_init_25 (ws' := [(a, .inr (2, [.ref q0, .ref q1, .ref q2, .null, .null, .null, .int 0, .int 0, .int 0, .int 0, .int 0, .int 0])), (q0, .inl (yT.1, 8, .inl (fun _ => 0))), (q1, .inl (yT.1, 8, .inl (fun _ => 0))), (q2, .inl (yT.1, 8, .inl (fun _ => 0)))]) rfl ?_
  refine b_aload_n X dX2_init_28 rfl rfl ?_
  refine b_iconst (v := nI 4) X dX2_init_29 (by decide) ?_
  refine b_newI (N := 4) X (by decide +kernel) (by decide) (by decide) (by decide) dX2_init_30 (fun q3 => ?_)
  refine b_put (C := RX2) (T := TX2) (N := 12) (ci := 2) X tyX2 tyX2_ok nmX2 hin 0 rfl rfl 3 (by decide) (by decide +kernel) rfl rfl hnm rfl (ty := .array .int) (by decide +kernel) rfl rfl (by simp) dX2_init_32 (ws' := [(a, .inr (2, [.ref q0, .ref q1, .ref q2, .ref q3, .null, .null, .int 0, .int 0, .int 0, .int 0, .int 0, .int 0])), (q0, .inl (yT.1, 8, .inl (fun _ => 0))), (q1, .inl (yT.1, 8, .inl (fun _ => 0))), (q2, .inl (yT.1, 8, .inl (fun _ => 0))), (q3, .inl (yT.1, 4, .inl (fun _ => 0)))]) rfl ?_
  refine b_aload_n X dX2_init_35 rfl rfl ?_
  refine b_iconst (v := nI 4) X dX2_init_36 (by decide) ?_
  refine b_newI (N := 4) X (by decide +kernel) (by decide) (by decide) (by decide) dX2_init_37 (fun q4 => ?_)
  refine b_put (C := RX2) (T := TX2) (N := 12) (ci := 2) X tyX2 tyX2_ok nmX2 hin 0 rfl rfl 4 (by decide) (by decide +kernel) rfl rfl hnm rfl (ty := .array .int) (by decide +kernel) rfl rfl (by simp) dX2_init_39 (ws' := [(a, .inr (2, [.ref q0, .ref q1, .ref q2, .ref q3, .ref q4, .null, .int 0, .int 0, .int 0, .int 0, .int 0, .int 0])), (q0, .inl (yT.1, 8, .inl (fun _ => 0))), (q1, .inl (yT.1, 8, .inl (fun _ => 0))), (q2, .inl (yT.1, 8, .inl (fun _ => 0))), (q3, .inl (yT.1, 4, .inl (fun _ => 0))), (q4, .inl (yT.1, 4, .inl (fun _ => 0)))]) rfl ?_
  refine b_aload_n X dX2_init_42 rfl rfl ?_
  refine b_iconst (v := nI 4) X dX2_init_43 (by decide) ?_
  refine b_newL (N := 4) X (by decide +kernel) (by decide) (by decide) (by decide) dX2_init_44 (fun q5 => ?_)
  refine b_put (C := RX2) (T := TX2) (N := 12) (ci := 2) X tyX2 tyX2_ok nmX2 hin 0 rfl rfl 5 (by decide) (by decide +kernel) rfl rfl hnm rfl (ty := .array .long) (by decide +kernel) rfl rfl (by simp) dX2_init_46 (ws' := [(a, .inr (2, [.ref q0, .ref q1, .ref q2, .ref q3, .ref q4, .ref q5, .int 0, .int 0, .int 0, .int 0, .int 0, .int 0])), (q0, .inl (yT.1, 8, .inl (fun _ => 0))), (q1, .inl (yT.1, 8, .inl (fun _ => 0))), (q2, .inl (yT.1, 8, .inl (fun _ => 0))), (q3, .inl (yT.1, 4, .inl (fun _ => 0))), (q4, .inl (yT.1, 4, .inl (fun _ => 0))), (q5, .inl (yT.2.1, 4, .inr (.inl (fun _ => 0))))]) rfl ?_
  exact b_vret X hr hlk dX2_init_49 ⟨q0, q1, q2, q3, q4, q5, rfl⟩
def wI3 (yT : TY3) (a : Nat) (w : va_W) : Prop := ∃ q0 : Nat, w = [(a, .inr (3, [.ref q0])), (q0, .inl (yT.1, 427, .inl (cV3 8)))]
set_option maxRecDepth 20000 in
theorem i_X3 (l : Launch) (D : va_G) (yT : TY3) : gMI l D yT yX3_init wsX3_init ({ frames := 1, cells := 1, slots := 427, locals := 20 } : Room) (.inr (3, [.null])) (wI3 yT) 1 427 := by
  refine b_enter (own := RX3) (cc := cX3_init) (nL := 2) (by decide) rfl rfl (by decide) (fun a p e s m args below meth c X hr hlk hnm => ?_)
  have hin : ∀ w ∈ wsX30, w ∈ wsX3_init := by decide +kernel
  refine b_le (ls' := [some (.ref a), none]) (by simp [gl_le]) ?_
  refine b_aload_n X dX3_init_0 rfl rfl ?_
  refine b_oinit X (by decide +kernel) (by decide +kernel) (by decide +kernel) dX3_init_1 (by decide) (by decide) (by decide) ?_
  refine b_aload_n X dX3_init_4 rfl rfl ?_
  refine b_sipush (v := nI 427) X dX3_init_5 (by decide) ?_
  refine b_newI (N := 427) X (by decide +kernel) (by decide) (by decide) (by decide) dX3_init_8 (fun q0 => ?_)
  refine b_put (C := RX3) (T := TX3) (N := 1) (ci := 3) X tyX3 tyX3_ok nmX3 hin 0 rfl rfl 0 (by decide) (by decide +kernel) rfl rfl hnm rfl (ty := .array .int) (by decide +kernel) rfl rfl (by simp) dX3_init_10 (ws' := [(a, .inr (3, [.ref q0])), (q0, .inl (yT.1, 427, .inl (fun _ => 0)))]) rfl ?_
  refine b_aload_n X dX3_init_13 rfl rfl ?_
  refine b_get (C := RX3) (T := TX3) (N := 1) (ci := 3) X hin 0 rfl rfl 0 (by decide) (by decide +kernel) rfl rfl dX3_init_14 ?_
  refine b_bipush (v := nI 112) X dX3_init_17 (by decide) ?_
  refine b_iconst (v := nI 5) X dX3_init_19 (by decide) ?_
  refine b_iast (j := 112) (x := nI 5) X 1 rfl (by decide) (by decide) dX3_init_20 (ws' := [(a, .inr (3, [.ref q0])), (q0, .inl (yT.1, 427, .inl (upd (fun _ => 0) 112 (nI 5))))]) rfl ?_
  refine b_aload_n X dX3_init_21 rfl rfl ?_
  refine b_get (C := RX3) (T := TX3) (N := 1) (ci := 3) X hin 0 rfl rfl 0 (by decide) (by decide +kernel) rfl rfl dX3_init_22 ?_
  refine b_bipush (v := nI 113) X dX3_init_25 (by decide) ?_
  refine b_bipush (v := nI 20) X dX3_init_27 (by decide) ?_
  refine b_iast (j := 113) (x := nI 20) X 1 rfl (by decide) (by decide) dX3_init_29 (ws' := [(a, .inr (3, [.ref q0])), (q0, .inl (yT.1, 427, .inl (upd (upd (fun _ => 0) 112 (nI 5)) 113 (nI 20))))]) rfl ?_
  refine b_aload_n X dX3_init_30 rfl rfl ?_
  refine b_get (C := RX3) (T := TX3) (N := 1) (ci := 3) X hin 0 rfl rfl 0 (by decide) (by decide +kernel) rfl rfl dX3_init_31 ?_
  refine b_bipush (v := nI 114) X dX3_init_34 (by decide) ?_
  refine b_iconst (v := nI 5) X dX3_init_36 (by decide) ?_
  refine b_iast (j := 114) (x := nI 5) X 1 rfl (by decide) (by decide) dX3_init_37 (ws' := [(a, .inr (3, [.ref q0])), (q0, .inl (yT.1, 427, .inl (upd (upd (upd (fun _ => 0) 112 (nI 5)) 113 (nI 20)) 114 (nI 5))))]) rfl ?_
  refine b_iconst (v := nI 0) X dX3_init_38 (by decide) ?_
  refine b_istore_n (ls' := [some (.ref a), some (.int (nI 0))]) X dX3_init_39 rfl (by decide) rfl rfl ?_
  refine b_up (N := 8) (fun i => [some (.ref a), some (.int (nI i))]) (fun i => [(a, .inr (3, [.ref q0])), (q0, .inl (yT.1, 427, .inl (cV3 i)))]) (fun i hi ih => ?_)
  refine b_iload_n X dX3_init_40 rfl rfl ?_
  refine b_bipush (v := nI 8) X dX3_init_41 (by decide) ?_
  refine b_icmp_ge (tgt := 64) X dX3_init_43 (by decide) (by omega) (by omega) (fun h8 => ?_) (fun h8 => ?_)
  · have e8 : i = 8 := by omega
    subst e8
    exact b_vret X hr hlk dX3_init_64 ⟨q0, rfl⟩
  · skip
    refine b_aload_n X dX3_init_46 rfl rfl ?_
    refine b_get (C := RX3) (T := TX3) (N := 1) (ci := 3) X hin 0 rfl rfl 0 (by decide) (by decide +kernel) rfl rfl dX3_init_47 ?_
    refine b_iload_n X dX3_init_50 rfl rfl ?_
    refine b_bipush (v := nI 6) X dX3_init_51 (by decide) ?_
    refine b_imul X dX3_init_53 ?_
    refine b_iconst (v := nI 1) X dX3_init_54 (by decide) ?_
    refine b_iadd X dX3_init_55 ?_
    refine b_top (y := nI (i * 6 + 1)) (by rw [pk_mul, nI_add]) ?_
    refine b_iconst (v := -1) X dX3_init_56 (by decide) ?_
    refine b_iast (j := i * 6 + 1) (x := -1) X 1 rfl (by omega) (by decide) dX3_init_57 (ws' := [(a, .inr (3, [.ref q0])), (q0, .inl (yT.1, 427, .inl (cV3 (i + 1))))]) rfl ?_
    refine b_iinc (v := nI (i + 1)) (ls' := [some (.ref a), some (.int (nI (i + 1)))]) X dX3_init_58 rfl (nI_add (a := i) (b := 1)) (by decide) rfl rfl ?_
    exact b_goto (tgt := 40) X dX3_init_61 (by decide) (ih (by omega))
def wI5 (yT : TY3) (a : Nat) (w : va_W) : Prop := ∃ q0 q1 q2 q3 q4 q5 : Nat, w = [(a, .inr (5, [.ref q0, .ref q1, .ref q2, .int 0, .ref q3, .int 0, .int 0, .int 0, .int 0, .int 0, .ref q4, .int 0, .ref q5, .long 0])), (q0, .inl (yT.1, 431, .inl (cV5 8))), (q1, .inl (yT.1, 2586, .inl (fun _ => 0))), (q2, .inl (yT.1, 431, .inl (fun _ => 0))), (q3, .inl (yT.1, 60, .inl (fun _ => 0))), (q4, .inl (yT.1, 4, .inl (fun _ => 0))), (q5, .inl (yT.1, 31, .inl (fun _ => 0)))]
set_option maxRecDepth 20000 in
theorem i_X5 (l : Launch) (D : va_G) (yT : TY3) : gMI l D yT yX5_init wsX5_init ({ frames := 1, cells := 6, slots := 3543, locals := 20 } : Room) (.inr (5, [.null, .null, .null, .int 0, .null, .int 0, .int 0, .int 0, .int 0, .int 0, .null, .int 0, .null, .long 0])) (wI5 yT) 6 3543 := by
  refine b_enter (own := RX5) (cc := cX5_init) (nL := 2) (by decide) rfl rfl (by decide) (fun a p e s m args below meth c X hr hlk hnm => ?_)
  have hin : ∀ w ∈ wsX50, w ∈ wsX5_init := by decide +kernel
  refine b_le (ls' := [some (.ref a), none]) (by simp [gl_le]) ?_
  refine b_aload_n X dX5_init_0 rfl rfl ?_
  refine b_oinit X (by decide +kernel) (by decide +kernel) (by decide +kernel) dX5_init_1 (by decide) (by decide) (by decide) ?_
  refine b_aload_n X dX5_init_4 rfl rfl ?_
  refine b_sipush (v := nI 431) X dX5_init_5 (by decide) ?_
  refine b_newI (N := 431) X (by decide +kernel) (by decide) (by decide) (by decide) dX5_init_8 (fun q0 => ?_)
  refine b_put (C := RX5) (T := TX5) (N := 14) (ci := 5) X tyX5 tyX5_ok nmX5 hin 0 rfl rfl 0 (by decide) (by decide +kernel) rfl rfl hnm rfl (ty := .array .int) (by decide +kernel) rfl rfl (by simp) dX5_init_10 (ws' := [(a, .inr (5, [.ref q0, .null, .null, .int 0, .null, .int 0, .int 0, .int 0, .int 0, .int 0, .null, .int 0, .null, .long 0])), (q0, .inl (yT.1, 431, .inl (fun _ => 0)))]) rfl ?_
  refine b_aload_n X dX5_init_13 rfl rfl ?_
  refine b_sipush (v := nI 2586) X dX5_init_14 (by decide) ?_
  refine b_newI (N := 2586) X (by decide +kernel) (by decide) (by decide) (by decide) dX5_init_17 (fun q1 => ?_)
  refine b_put (C := RX5) (T := TX5) (N := 14) (ci := 5) X tyX5 tyX5_ok nmX5 hin 0 rfl rfl 1 (by decide) (by decide +kernel) rfl rfl hnm rfl (ty := .array .int) (by decide +kernel) rfl rfl (by simp) dX5_init_19 (ws' := [(a, .inr (5, [.ref q0, .ref q1, .null, .int 0, .null, .int 0, .int 0, .int 0, .int 0, .int 0, .null, .int 0, .null, .long 0])), (q0, .inl (yT.1, 431, .inl (fun _ => 0))), (q1, .inl (yT.1, 2586, .inl (fun _ => 0)))]) rfl ?_
  refine b_aload_n X dX5_init_22 rfl rfl ?_
  refine b_sipush (v := nI 431) X dX5_init_23 (by decide) ?_
  refine b_newI (N := 431) X (by decide +kernel) (by decide) (by decide) (by decide) dX5_init_26 (fun q2 => ?_)
  refine b_put (C := RX5) (T := TX5) (N := 14) (ci := 5) X tyX5 tyX5_ok nmX5 hin 0 rfl rfl 2 (by decide) (by decide +kernel) rfl rfl hnm rfl (ty := .array .int) (by decide +kernel) rfl rfl (by simp) dX5_init_28 (ws' := [(a, .inr (5, [.ref q0, .ref q1, .ref q2, .int 0, .null, .int 0, .int 0, .int 0, .int 0, .int 0, .null, .int 0, .null, .long 0])), (q0, .inl (yT.1, 431, .inl (fun _ => 0))), (q1, .inl (yT.1, 2586, .inl (fun _ => 0))), (q2, .inl (yT.1, 431, .inl (fun _ => 0)))]) rfl ?_
  refine b_aload_n X dX5_init_31 rfl rfl ?_
  refine b_bipush (v := nI 60) X dX5_init_32 (by decide) ?_
  refine b_newI (N := 60) X (by decide +kernel) (by decide) (by decide) (by decide) dX5_init_34 (fun q3 => ?_)
  refine b_put (C := RX5) (T := TX5) (N := 14) (ci := 5) X tyX5 tyX5_ok nmX5 hin 0 rfl rfl 4 (by decide) (by decide +kernel) rfl rfl hnm rfl (ty := .array .int) (by decide +kernel) rfl rfl (by simp) dX5_init_36 (ws' := [(a, .inr (5, [.ref q0, .ref q1, .ref q2, .int 0, .ref q3, .int 0, .int 0, .int 0, .int 0, .int 0, .null, .int 0, .null, .long 0])), (q0, .inl (yT.1, 431, .inl (fun _ => 0))), (q1, .inl (yT.1, 2586, .inl (fun _ => 0))), (q2, .inl (yT.1, 431, .inl (fun _ => 0))), (q3, .inl (yT.1, 60, .inl (fun _ => 0)))]) rfl ?_
  refine b_aload_n X dX5_init_39 rfl rfl ?_
  refine b_iconst (v := nI 4) X dX5_init_40 (by decide) ?_
  refine b_newI (N := 4) X (by decide +kernel) (by decide) (by decide) (by decide) dX5_init_41 (fun q4 => ?_)
  refine b_put (C := RX5) (T := TX5) (N := 14) (ci := 5) X tyX5 tyX5_ok nmX5 hin 0 rfl rfl 10 (by decide) (by decide +kernel) rfl rfl hnm rfl (ty := .array .int) (by decide +kernel) rfl rfl (by simp) dX5_init_43 (ws' := [(a, .inr (5, [.ref q0, .ref q1, .ref q2, .int 0, .ref q3, .int 0, .int 0, .int 0, .int 0, .int 0, .ref q4, .int 0, .null, .long 0])), (q0, .inl (yT.1, 431, .inl (fun _ => 0))), (q1, .inl (yT.1, 2586, .inl (fun _ => 0))), (q2, .inl (yT.1, 431, .inl (fun _ => 0))), (q3, .inl (yT.1, 60, .inl (fun _ => 0))), (q4, .inl (yT.1, 4, .inl (fun _ => 0)))]) rfl ?_
  refine b_aload_n X dX5_init_46 rfl rfl ?_
  refine b_bipush (v := nI 31) X dX5_init_47 (by decide) ?_
  refine b_newI (N := 31) X (by decide +kernel) (by decide) (by decide) (by decide) dX5_init_49 (fun q5 => ?_)
  refine b_put (C := RX5) (T := TX5) (N := 14) (ci := 5) X tyX5 tyX5_ok nmX5 hin 0 rfl rfl 12 (by decide) (by decide +kernel) rfl rfl hnm rfl (ty := .array .int) (by decide +kernel) rfl rfl (by simp) dX5_init_51 (ws' := [(a, .inr (5, [.ref q0, .ref q1, .ref q2, .int 0, .ref q3, .int 0, .int 0, .int 0, .int 0, .int 0, .ref q4, .int 0, .ref q5, .long 0])), (q0, .inl (yT.1, 431, .inl (fun _ => 0))), (q1, .inl (yT.1, 2586, .inl (fun _ => 0))), (q2, .inl (yT.1, 431, .inl (fun _ => 0))), (q3, .inl (yT.1, 60, .inl (fun _ => 0))), (q4, .inl (yT.1, 4, .inl (fun _ => 0))), (q5, .inl (yT.1, 31, .inl (fun _ => 0)))]) rfl ?_
  refine b_aload_n X dX5_init_54 rfl rfl ?_
  refine b_get (C := RX5) (T := TX5) (N := 14) (ci := 5) X hin 0 rfl rfl 0 (by decide) (by decide +kernel) rfl rfl dX5_init_55 ?_
  refine b_bipush (v := nI 6) X dX5_init_58 (by decide) ?_
  refine b_iconst (v := nI 5) X dX5_init_60 (by decide) ?_
  refine b_iast (j := 6) (x := nI 5) X 1 rfl (by decide) (by decide) dX5_init_61 (ws' := [(a, .inr (5, [.ref q0, .ref q1, .ref q2, .int 0, .ref q3, .int 0, .int 0, .int 0, .int 0, .int 0, .ref q4, .int 0, .ref q5, .long 0])), (q0, .inl (yT.1, 431, .inl (upd (fun _ => 0) 6 (nI 5)))), (q1, .inl (yT.1, 2586, .inl (fun _ => 0))), (q2, .inl (yT.1, 431, .inl (fun _ => 0))), (q3, .inl (yT.1, 60, .inl (fun _ => 0))), (q4, .inl (yT.1, 4, .inl (fun _ => 0))), (q5, .inl (yT.1, 31, .inl (fun _ => 0)))]) rfl ?_
  refine b_aload_n X dX5_init_62 rfl rfl ?_
  refine b_get (C := RX5) (T := TX5) (N := 14) (ci := 5) X hin 0 rfl rfl 0 (by decide) (by decide +kernel) rfl rfl dX5_init_63 ?_
  refine b_bipush (v := nI 7) X dX5_init_66 (by decide) ?_
  refine b_bipush (v := nI 20) X dX5_init_68 (by decide) ?_
  refine b_iast (j := 7) (x := nI 20) X 1 rfl (by decide) (by decide) dX5_init_70 (ws' := [(a, .inr (5, [.ref q0, .ref q1, .ref q2, .int 0, .ref q3, .int 0, .int 0, .int 0, .int 0, .int 0, .ref q4, .int 0, .ref q5, .long 0])), (q0, .inl (yT.1, 431, .inl (upd (upd (fun _ => 0) 6 (nI 5)) 7 (nI 20)))), (q1, .inl (yT.1, 2586, .inl (fun _ => 0))), (q2, .inl (yT.1, 431, .inl (fun _ => 0))), (q3, .inl (yT.1, 60, .inl (fun _ => 0))), (q4, .inl (yT.1, 4, .inl (fun _ => 0))), (q5, .inl (yT.1, 31, .inl (fun _ => 0)))]) rfl ?_
  refine b_aload_n X dX5_init_71 rfl rfl ?_
  refine b_get (C := RX5) (T := TX5) (N := 14) (ci := 5) X hin 0 rfl rfl 0 (by decide) (by decide +kernel) rfl rfl dX5_init_72 ?_
  refine b_bipush (v := nI 8) X dX5_init_75 (by decide) ?_
  refine b_iconst (v := nI 5) X dX5_init_77 (by decide) ?_
  refine b_iast (j := 8) (x := nI 5) X 1 rfl (by decide) (by decide) dX5_init_78 (ws' := [(a, .inr (5, [.ref q0, .ref q1, .ref q2, .int 0, .ref q3, .int 0, .int 0, .int 0, .int 0, .int 0, .ref q4, .int 0, .ref q5, .long 0])), (q0, .inl (yT.1, 431, .inl (upd (upd (upd (fun _ => 0) 6 (nI 5)) 7 (nI 20)) 8 (nI 5)))), (q1, .inl (yT.1, 2586, .inl (fun _ => 0))), (q2, .inl (yT.1, 431, .inl (fun _ => 0))), (q3, .inl (yT.1, 60, .inl (fun _ => 0))), (q4, .inl (yT.1, 4, .inl (fun _ => 0))), (q5, .inl (yT.1, 31, .inl (fun _ => 0)))]) rfl ?_
  refine b_iconst (v := nI 0) X dX5_init_79 (by decide) ?_
  refine b_istore_n (ls' := [some (.ref a), some (.int (nI 0))]) X dX5_init_80 rfl (by decide) rfl rfl ?_
  refine b_up (N := 8) (fun i => [some (.ref a), some (.int (nI i))]) (fun i => [(a, .inr (5, [.ref q0, .ref q1, .ref q2, .int 0, .ref q3, .int 0, .int 0, .int 0, .int 0, .int 0, .ref q4, .int 0, .ref q5, .long 0])), (q0, .inl (yT.1, 431, .inl (cV5 i))), (q1, .inl (yT.1, 2586, .inl (fun _ => 0))), (q2, .inl (yT.1, 431, .inl (fun _ => 0))), (q3, .inl (yT.1, 60, .inl (fun _ => 0))), (q4, .inl (yT.1, 4, .inl (fun _ => 0))), (q5, .inl (yT.1, 31, .inl (fun _ => 0)))]) (fun i hi ih => ?_)
  refine b_iload_n X dX5_init_81 rfl rfl ?_
  refine b_bipush (v := nI 8) X dX5_init_82 (by decide) ?_
  refine b_icmp_ge (tgt := 103) X dX5_init_84 (by decide) (by omega) (by omega) (fun h8 => ?_) (fun h8 => ?_)
  · have e8 : i = 8 := by omega
    subst e8
    exact b_vret X hr hlk dX5_init_103 ⟨q0, q1, q2, q3, q4, q5, rfl⟩
  · skip
    refine b_aload_n X dX5_init_87 rfl rfl ?_
    refine b_get (C := RX5) (T := TX5) (N := 14) (ci := 5) X hin 0 rfl rfl 0 (by decide) (by decide +kernel) rfl rfl dX5_init_88 ?_
    refine b_bipush (v := nI 17) X dX5_init_91 (by decide) ?_
    refine b_iload_n X dX5_init_93 rfl rfl ?_
    refine b_iadd X dX5_init_94 ?_
    refine b_top (y := nI (17 + i)) (by rw [nI_add]) ?_
    refine b_iconst (v := -1) X dX5_init_95 (by decide) ?_
    refine b_iast (j := 17 + i) (x := -1) X 1 rfl (by omega) (by decide) dX5_init_96 (ws' := [(a, .inr (5, [.ref q0, .ref q1, .ref q2, .int 0, .ref q3, .int 0, .int 0, .int 0, .int 0, .int 0, .ref q4, .int 0, .ref q5, .long 0])), (q0, .inl (yT.1, 431, .inl (cV5 (i + 1)))), (q1, .inl (yT.1, 2586, .inl (fun _ => 0))), (q2, .inl (yT.1, 431, .inl (fun _ => 0))), (q3, .inl (yT.1, 60, .inl (fun _ => 0))), (q4, .inl (yT.1, 4, .inl (fun _ => 0))), (q5, .inl (yT.1, 31, .inl (fun _ => 0)))]) rfl ?_
    refine b_iinc (v := nI (i + 1)) (ls' := [some (.ref a), some (.int (nI (i + 1)))]) X dX5_init_97 rfl (nI_add (a := i) (b := 1)) (by decide) rfl rfl ?_
    exact b_goto (tgt := 81) X dX5_init_100 (by decide) (ih (by omega))
