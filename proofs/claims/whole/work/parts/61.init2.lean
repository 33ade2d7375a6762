/-! THE MAKERS OF THE HISTORY AND OF THE WHOLE -/
def eRows (yT : TY3) (r : Nat → Nat) : va_E := .inl (yT.2.2, 6, .inr (.inr (.inr (.inr (fun i => if i < 6 then some (r i) else none)))))
def eI (yT : TY3) (n : Nat) (f : Nat → Int32) : va_E := .inl (yT.1, n, .inl f)
def eL (yT : TY3) (n : Nat) (f : Nat → Int64) : va_E := .inl (yT.2.1, n, .inr (.inl f))
def zI : Nat → Int32 := fun _ => 0
def wI1 (yT : TY3) (a : Nat) (w : va_W) : Prop := ∃ (q : Nat) (r : Nat → Nat), w = [(a, .inr (1, [.ref q, .int 0, .int 0])), (q, eRows yT r), (r 0, eI yT 427 zI), (r 1, eI yT 427 zI), (r 2, eI yT 427 zI), (r 3, eI yT 427 zI), (r 4, eI yT 427 zI), (r 5, eI yT 427 zI)]
set_option maxRecDepth 20000 in
theorem i_X1 (l : Launch) (D : va_G) (yT : TY3) : gMI l D yT yX1_init wsX1_init ({ frames := 1, cells := 7, slots := 2568, locals := 20 } : Room) (.inr (1, [.null, .int 0, .int 0])) (wI1 yT) 7 2568 := by
  refine b_enter (own := RX1) (cc := cX1_init) (nL := 1) (by decide) rfl rfl (by decide) (fun a p e s m args below meth c X hr hlk hnm => ?_)
  have hin : ∀ w ∈ wsX10, w ∈ wsX1_init := by decide +kernel
  refine b_aload_n X dX1_init_0 rfl rfl ?_
  refine b_oinit X (by decide +kernel) (by decide +kernel) (by decide +kernel) dX1_init_1 (by decide) (by decide) (by decide) ?_
  refine b_aload_n X dX1_init_4 rfl rfl ?_
  refine b_bipush (v := nI 6) X dX1_init_5 (by decide) ?_
  refine b_sipush (v := nI 427) X dX1_init_7 (by decide) ?_
  intro H locs la hP hD hS hl
  refine va_mna (X := [(a, .inr (1, [.null, .int 0, .int 0]))]) (L := []) (f := fun _ => eI yT 427 zI) (ty := .int) (cy := yT.1) (N' := 6) (K' := 427) (z := (427, .inl zI)) X.x X.b X.ow (X.ts _ (by decide +kernel)) X.ao (X.ts _ (by decide +kernel)) (X.K.2 0 (yT.1, .int) rfl).2 X.K hP hD hS X.al (by decide) (by decide) (by decide) (by decide) (by decide) (by decide) (by decide) rfl rfl (by decide) (by decide) (fun cX => ?_) dX1_init_10 (fun q r cA H1 hinj hL hK1 hP1 hD1 hS1 => ?_)
  · show ({ cls := cX, slots := Array.replicate 427 (.int 0), vm := .none } : Cell) = _
    rw [arrV_new]
    rfl
  · have e := ra_arr (yT := yT) (hK1.2 3 (cA, .array .int) rfl).2 (X.K.2 2 (yT.2.2, .array .int) rfl).2
    subst e
    have hv : ∀ i, i < 6 → vr_up (fun _ => eI yT 427 zI) ((List.range 6).map r) (.inl (yT.1, (427, .inl zI))) (r i) = eI yT 427 zI := fun i hi => by
      rw [vr_up_in (List.mem_map.mpr ⟨i, List.mem_range.mpr hi, rfl⟩)]; rfl
    have ew : (([(a, .inr (1, [.null, .int 0, .int 0]))] ++ [(q, .inl (yT.2.2, 6, .inr (.inr (.inr (.inr (fun i => if i < 6 then some (r i) else none))))))]) ++ va_pl ([] ++ (List.range 6).map r) (vr_up (fun _ => eI yT 427 zI) ((List.range 6).map r) (.inl (yT.1, (427, .inl zI)))) : va_W) = [(a, .inr (1, [.null, .int 0, .int 0])), (q, eRows yT r), (r 0, eI yT 427 zI), (r 1, eI yT 427 zI), (r 2, eI yT 427 zI), (r 3, eI yT 427 zI), (r 4, eI yT 427 zI), (r 5, eI yT 427 zI)] := by
      show ([(a, .inr (1, [.null, .int 0, .int 0])), (q, eRows yT r), (r 0, _), (r 1, _), (r 2, _), (r 3, _), (r 4, _), (r 5, _)] : va_W) = _
      rw [hv 0 (by decide), hv 1 (by decide), hv 2 (by decide), hv 3 (by decide), hv 4 (by decide), hv 5 (by decide)]
    rw [ew] at hP1 hD1
    have fin : B p l e ({ frames := 1, cells := 7, slots := 2568, locals := 20 } : Room) s m args below meth c D (bA a s.heap.size) 1 (0 + 1 + 6) (0 + 6 + 6 * 427) (MQ below (va_Qv (S := va_W) (wI1 yT a) (fun w1 t => va_P D vwCl w1 t.heap ∧ va_D (bA a s.heap.size) w1) (bA a s.heap.size)) args s 7 2568 (bA a s.heap.size)) 14 [some (.ref a)] [.ref q, .ref a] [(a, .inr (1, [.null, .int 0, .int 0])), (q, eRows yT r), (r 0, eI yT 427 zI), (r 1, eI yT 427 zI), (r 2, eI yT 427 zI), (r 3, eI yT 427 zI), (r 4, eI yT 427 zI), (r 5, eI yT 427 zI)] := by
      refine b_put (C := RX1) (T := TX1) (N := 3) (ci := 1) X tyX1 tyX1_ok nmX1 hin 0 rfl rfl 0 (by decide) (by decide +kernel) rfl rfl hnm rfl (ty := .array (.array .int)) (by decide +kernel) rfl rfl (by simp) dX1_init_14 (ws' := [(a, .inr (1, [.ref q, .int 0, .int 0])), (q, eRows yT r), (r 0, eI yT 427 zI), (r 1, eI yT 427 zI), (r 2, eI yT 427 zI), (r 3, eI yT 427 zI), (r 4, eI yT 427 zI), (r 5, eI yT 427 zI)]) rfl ?_
      exact b_vret X hr hlk dX1_init_17 ⟨q, r, rfl⟩
    exact fin H1 locs la hP1 hD1 hS1 hl
def wI4 (yT : TY3) (a : Nat) (w : va_W) : Prop := ∃ (a1 a2 a3 a4 : Nat) (r : Nat → Nat) (a11 a12 a13 a14 a15 a16 a17 a18 a19 a20 a21 a22 : Nat), w =
  [(a, .inr (4, [.ref a1, .ref a3, .ref a11, .ref a16])), (a1, .inr (3, [.ref a2])), (a2, eI yT 427 (cV3 8)), (a3, .inr (1, [.ref a4, .int 0, .int 0])), (a4, eRows yT r), (r 0, eI yT 427 zI), (r 1, eI yT 427 zI), (r 2, eI yT 427 zI), (r 3, eI yT 427 zI), (r 4, eI yT 427 zI), (r 5, eI yT 427 zI),
   (a11, .inr (0, [.ref a12, .ref a13, .ref a14, .ref a15, .int 0, .int 0, .int 0, .int 0, .int 0, .int 0, .int 0, .int 0])), (a12, eI yT 60 zI), (a13, eI yT 4 zI), (a14, eI yT 4 zI), (a15, eI yT 5 zI),
   (a16, .inr (2, [.ref a17, .ref a18, .ref a19, .ref a20, .ref a21, .ref a22, .int 0, .int 0, .int 0, .int 0, .int 0, .int 0])), (a17, eI yT 8 zI), (a18, eI yT 8 zI), (a19, eI yT 8 zI), (a20, eI yT 4 zI), (a21, eI yT 4 zI), (a22, eL yT 4 (fun _ => 0))]
set_option maxRecDepth 40000 in
theorem i_X4 (l : Launch) (D : va_G) (yT : TY3) : gMI l D yT yX4_init wsX4_init ({ frames := 2, cells := 22, slots := 3132, locals := 41 } : Room) (.inr (4, [.null, .null, .null, .null])) (wI4 yT) 22 3132 := by
  refine b_enter (own := RX4) (cc := cX4_init) (nL := 1) (by decide) rfl rfl (by decide) (fun a p e s m args below meth c X hr hlk hnm => ?_)
  have hi4 : ∀ w ∈ wsX40, w ∈ wsX4_init := by decide +kernel
  have hi3 : ∀ w ∈ wsX30, w ∈ wsX4_init := by decide +kernel
  have hi1 : ∀ w ∈ wsX10, w ∈ wsX4_init := by decide +kernel
  have hi0 : ∀ w ∈ wsX00, w ∈ wsX4_init := by decide +kernel
  have hi2 : ∀ w ∈ wsX20, w ∈ wsX4_init := by decide +kernel
  refine b_aload_n X dX4_init_0 rfl rfl ?_
  refine b_oinit X (by decide +kernel) (by decide +kernel) (by decide +kernel) dX4_init_1 (by decide) (by decide) (by decide) ?_
  refine b_aload_n X dX4_init_4 rfl rfl ?_
  refine b_new (C := RX3) (T := TX3) (N := 1) (ci := 3) X tyX3 tyX3_ok hi3 (by decide +kernel) (by decide +kernel) (by decide +kernel) rfl (fs := [.null]) (by decide +kernel) (by decide) (by decide) dX4_init_5 (fun a1 => ?_)
  refine b_dup X dX4_init_8 rfl ?_
  refine b_init X (i_X3 l D yT) gX4_init_X3_init rfl ⟨rfl, rfl⟩ (by decide +kernel) (by decide +kernel) (by decide +kernel) rfl (by decide +kernel) ⟨by decide, by decide⟩ (Nat.le_of_ble_eq_true rfl) dX4_init_9 ⟨by decide, by decide⟩ (fun w1 hw1 => ?_)
  obtain ⟨a2, rfl⟩ := hw1
  refine b_put (C := RX4) (T := TX4) (N := 4) (ci := 4) X tyX4 tyX4_ok nmX4 hi4 0 rfl rfl 0 (by decide) (by decide +kernel) rfl rfl hnm rfl (ty := .object "BondLayers$State") (by decide +kernel) rfl rfl (by simp) dX4_init_12 (ws' := [(a, .inr (4, [.ref a1, .null, .null, .null])), (a1, .inr (3, [.ref a2])), (a2, eI yT 427 (cV3 8))]) rfl ?_
  refine b_aload_n X dX4_init_15 rfl rfl ?_
  refine b_new (C := RX1) (T := TX1) (N := 3) (ci := 1) X tyX1 tyX1_ok hi1 (by decide +kernel) (by decide +kernel) (by decide +kernel) rfl (fs := [.null, .int 0, .int 0]) (by decide +kernel) (by decide) (by decide) dX4_init_16 (fun a3 => ?_)
  refine b_dup X dX4_init_19 rfl ?_
  refine b_init X (i_X1 l D yT) gX4_init_X1_init rfl ⟨rfl, rfl⟩ (by decide +kernel) (by decide +kernel) (by decide +kernel) rfl (by decide +kernel) ⟨by decide, by decide⟩ (Nat.le_of_ble_eq_true rfl) dX4_init_20 ⟨by decide, by decide⟩ (fun w1 hw1 => ?_)
  obtain ⟨a4, r, rfl⟩ := hw1
  refine b_put (C := RX4) (T := TX4) (N := 4) (ci := 4) X tyX4 tyX4_ok nmX4 hi4 0 rfl rfl 1 (by decide) (by decide +kernel) rfl rfl hnm rfl (ty := .object "BondLayers$History") (by decide +kernel) rfl rfl (by simp) dX4_init_23 (ws' := [(a, .inr (4, [.ref a1, .ref a3, .null, .null])), (a1, .inr (3, [.ref a2])), (a2, eI yT 427 (cV3 8)), (a3, .inr (1, [.ref a4, .int 0, .int 0])), (a4, eRows yT r), (r 0, eI yT 427 zI), (r 1, eI yT 427 zI), (r 2, eI yT 427 zI), (r 3, eI yT 427 zI), (r 4, eI yT 427 zI), (r 5, eI yT 427 zI)]) rfl ?_
  refine b_aload_n X dX4_init_26 rfl rfl ?_
  refine b_new (C := RX0) (T := TX0) (N := 12) (ci := 0) X tyX0 tyX0_ok hi0 (by decide +kernel) (by decide +kernel) (by decide +kernel) rfl (fs := [.null, .null, .null, .null, .int 0, .int 0, .int 0, .int 0, .int 0, .int 0, .int 0, .int 0]) (by decide +kernel) (by decide) (by decide) dX4_init_27 (fun a11 => ?_)
  refine b_dup X dX4_init_30 rfl ?_
  refine b_init X (i_X0 l D yT) gX4_init_X0_init rfl ⟨rfl, rfl⟩ (by decide +kernel) (by decide +kernel) (by decide +kernel) rfl (by decide +kernel) ⟨by decide, by decide⟩ (Nat.le_of_ble_eq_true rfl) dX4_init_31 ⟨by decide, by decide⟩ (fun w1 hw1 => ?_)
  obtain ⟨a12, a13, a14, a15, rfl⟩ := hw1
  refine b_put (C := RX4) (T := TX4) (N := 4) (ci := 4) X tyX4 tyX4_ok nmX4 hi4 0 rfl rfl 2 (by decide) (by decide +kernel) rfl rfl hnm rfl (ty := .object "BondLayers$BondText") (by decide +kernel) rfl rfl (by simp) dX4_init_34 (ws' := [(a, .inr (4, [.ref a1, .ref a3, .ref a11, .null])), (a1, .inr (3, [.ref a2])), (a2, eI yT 427 (cV3 8)), (a3, .inr (1, [.ref a4, .int 0, .int 0])), (a4, eRows yT r), (r 0, eI yT 427 zI), (r 1, eI yT 427 zI), (r 2, eI yT 427 zI), (r 3, eI yT 427 zI), (r 4, eI yT 427 zI), (r 5, eI yT 427 zI),
   (a11, .inr (0, [.ref a12, .ref a13, .ref a14, .ref a15, .int 0, .int 0, .int 0, .int 0, .int 0, .int 0, .int 0, .int 0])), (a12, eI yT 60 zI), (a13, eI yT 4 zI), (a14, eI yT 4 zI), (a15, eI yT 5 zI)]) rfl ?_
  refine b_aload_n X dX4_init_37 rfl rfl ?_
  refine b_new (C := RX2) (T := TX2) (N := 12) (ci := 2) X tyX2 tyX2_ok hi2 (by decide +kernel) (by decide +kernel) (by decide +kernel) rfl (fs := [.null, .null, .null, .null, .null, .null, .int 0, .int 0, .int 0, .int 0, .int 0, .int 0]) (by decide +kernel) (by decide) (by decide) dX4_init_38 (fun a16 => ?_)
  refine b_dup X dX4_init_41 rfl ?_
  refine b_init X (i_X2 l D yT) gX4_init_X2_init rfl ⟨rfl, rfl⟩ (by decide +kernel) (by decide +kernel) (by decide +kernel) rfl (by decide +kernel) ⟨by decide, by decide⟩ (Nat.le_of_ble_eq_true rfl) dX4_init_42 ⟨by decide, by decide⟩ (fun w1 hw1 => ?_)
  obtain ⟨a17, a18, a19, a20, a21, a22, rfl⟩ := hw1
  refine b_put (C := RX4) (T := TX4) (N := 4) (ci := 4) X tyX4 tyX4_ok nmX4 hi4 0 rfl rfl 3 (by decide) (by decide +kernel) rfl rfl hnm rfl (ty := .object "BondLayers$Payment") (by decide +kernel) rfl rfl (by simp) dX4_init_45 (ws' := [(a, .inr (4, [.ref a1, .ref a3, .ref a11, .ref a16])), (a1, .inr (3, [.ref a2])), (a2, eI yT 427 (cV3 8)), (a3, .inr (1, [.ref a4, .int 0, .int 0])), (a4, eRows yT r), (r 0, eI yT 427 zI), (r 1, eI yT 427 zI), (r 2, eI yT 427 zI), (r 3, eI yT 427 zI), (r 4, eI yT 427 zI), (r 5, eI yT 427 zI),
   (a11, .inr (0, [.ref a12, .ref a13, .ref a14, .ref a15, .int 0, .int 0, .int 0, .int 0, .int 0, .int 0, .int 0, .int 0])), (a12, eI yT 60 zI), (a13, eI yT 4 zI), (a14, eI yT 4 zI), (a15, eI yT 5 zI),
   (a16, .inr (2, [.ref a17, .ref a18, .ref a19, .ref a20, .ref a21, .ref a22, .int 0, .int 0, .int 0, .int 0, .int 0, .int 0])), (a17, eI yT 8 zI), (a18, eI yT 8 zI), (a19, eI yT 8 zI), (a20, eI yT 4 zI), (a21, eI yT 4 zI), (a22, eL yT 4 (fun _ => 0))]) rfl ?_
  exact b_vret X hr hlk dX4_init_48 ⟨a1, a2, a3, a4, r, a11, a12, a13, a14, a15, a16, a17, a18, a19, a20, a21, a22, rfl⟩
