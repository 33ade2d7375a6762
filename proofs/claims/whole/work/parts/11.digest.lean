/-! THE WORST BOND, THE SHARE, THE HASH: pure words -/
theorem PQ.tr {σ σ1 σ2 : gS} (h1 : PQ σ σ1) (h2 : PQ σ1 σ2) : PQ σ σ2 := by
  obtain ⟨bo, pr, am, bp, pd, th, ca, ow, mg, du, bl, re, rfl⟩ := h1
  obtain ⟨bo2, pr2, am2, bp2, pd2, th2, ca2, ow2, mg2, du2, bl2, re2, rfl⟩ := h2
  rw [py_py]
  exact ⟨_, _, _, _, _, _, _, _, _, _, _, _, rfl⟩
theorem PQ.py (σ : gS) (bo pr am bp pd th : Int32) (ca ow mg du bl : Nat → Int32) (re : Nat → Int64) : PQ σ (pyS σ bo pr am bp pd th ca ow mg du bl re) := ⟨_, _, _, _, _, _, _, _, _, _, _, _, rfl⟩
/-- what a call of x would do -/
def drE (σ : gS) (b prn L : Nat) (x : Int32) (w : Nat) : Int32 := efI (σ.1 2) b L (drAm σ b x) (drBp σ b prn x) (drT σ b prn L x).1 (drT σ b prn L x).2.2.1.1 w
/-- what would be, whatever was worked out before -/
def DrOK (σ0 : gS) (b prn L : Nat) (ef : Nat → Int32) (th lo : Int32) : Prop := ∀ σ, PQ σ0 σ → (∀ w, w ≤ 10 → drE σ b prn L (nI 1000) w = ef w) ∧ (drT σ b prn L (leftOf (σ.1 2) b)).2.1 = th ∧ drAm σ b (leftOf (σ.1 2) b) - (drT σ b prn L (leftOf (σ.1 2) b)).1 = lo
def mixI (h x : Int64) : Int64 := 31 * h + x
def dgF (f : Nat → Int64) : Nat → Int64 → Int64
  | 0, h => h
  | i + 1, h => mixI (dgF f i h) (f i)
def woI (lo : Nat → Int32) : Nat → Int32 × Int32
  | 0 => (-1, nI 0)
  | i + 1 => if lo i ≤ (woI lo i).2 then woI lo i else (nI i, lo i)
def prI (v : Nat → Int32) (N : Nat) (L : Nat → Nat) (q : Nat) (h : Int64) : Int64 :=
  dgF (fun o => (v (48 + q * 8 + o)).toInt64) 8 (mixI (dgF (fun w => (perI v N L q w).toInt64) 11 h) (spareOf v N L q).toInt64)
def dlF (v : Nat → Int32) (b : Nat) : Nat → Int64 → Int64
  | 0, h => h
  | i + 1, h => dgF (fun w => (v (117 + b * 31 + 15 + i * 4 + w)).toInt64) 4 (dlF v b i h)
def boI (v : Nat → Int32) (b L : Nat) (ef : Nat → Int32) (th : Int32) (h : Int64) : Int64 :=
  mixI (dgF (fun w => (ef w).toInt64) 11 (dlF v b L (dgF (fun w => (bonI v b L w).toInt64) 12 h))) th.toInt64
def dpF (v : Nat → Int32) (N : Nat) (L : Nat → Nat) : Nat → Int64 → Int64
  | 0, h => h
  | q + 1, h => prI v N L q (dpF v N L q h)
def dbF (v : Nat → Int32) (L : Nat → Nat) (ef : Nat → Nat → Int32) (th : Nat → Int32) : Nat → Int64 → Int64
  | 0, h => h
  | b + 1, h => boI v b (L b) (ef b) (th b) (dbF v L ef th b h)
def psD (called paid : Int32) : UInt64 := if called = 0 then FP.dconst1 else FP.ddiv (FP.i2d paid) (FP.i2d called)
def bTwo : UInt64 := 4611686018427387904
def bMax : UInt64 := 4841369599423283200
def bsI : Nat → UInt64 → Int64 → UInt64 × Int64
  | 0, f, e => (f, e)
  | r + 1, f, e => if Op.cmpValue (FP.dcmp f FP.dconst1) .g ≥ 0 then (f, e) else bsI r (FP.dmul f bTwo) (e - 1)
def bsOK : Nat → UInt64 → Prop
  | 0, _ => True
  | r + 1, f => Op.cmpValue (FP.dcmp f FP.dconst1) .g ≥ 0 ∨ (vf_n64 (FP.dmul f bTwo) ∧ bsOK r (FP.dmul f bTwo))
def bitsI (d : UInt64) : Int64 := if Op.cmpValue (FP.dcmp d FP.dconst0) .l > 0 then ((bsI 60 d 1023).2 <<< ((nI 52).toInt64 &&& 63)) + FP.d2l (FP.dmul (FP.dsub (bsI 60 d 1023).1 FP.dconst1) bMax) else 0
def bitsOK (d : UInt64) : Prop := bsOK 60 d ∧ vf_n64 (FP.dsub (bsI 60 d 1023).1 FP.dconst1) ∧ vf_n64 (FP.dmul (FP.dsub (bsI 60 d 1023).1 FP.dconst1) bMax)
/-- the hash -/
def dgI (v : Nat → Int32) (hs : Int32) (N : Nat) (L : Nat → Nat) (ef : Nat → Nat → Int32) (th lo : Nat → Int32) (k : Nat) (co : Nat → Int32) : Int64 :=
  dgF (fun j => (co j).toInt64) k (mixI (mixI (mixI (dbF v L ef th N (dpF v N L 8 (dgF (fun j => (v (112 + j)).toInt64) 3 (dgF (fun w => (cntI v hs N w).toInt64) 10 2503)))) (woI lo N).1.toInt64) (bitsI (psD (bsum v N 6) (bsum v N 7)))) (nI k).toInt64)
/-- a bond as the working-out wants it -/
def BH (v : Nat → Int32) (b prn L : Nat) (su : Nat → Nat) : Prop := v (117 + b * 31 + 0) = nI prn ∧ prn < 8 ∧ v (117 + b * 31 + 3) = nI L ∧ L ≤ 4 ∧ ∀ i, i < L → v (117 + b * 31 + 15 + i * 4 + 0) = nI (su i) ∧ su i < 8
section GD
variable {p : Program} {l : Launch} {e : Env} {R : Room} {s : State} {m : MethodId} {args : Array Value} {below : List Frame} {meth : Method} {c : Code} {γ : gG} {A : Nat → Prop} {nL k n : Nat} {Q : State → Prop}
variable {cc : ByteArray} {own : String} {Ts : List Cond} {pc : Nat} {ls : List (Option Value)} {rest st : List Value} {σ : gS}
theorem g_callVd {na : Nat} {y : MethodName} {ws ws' : List Cond} {rm : Room} {r : UInt64} {σ' : gS} {mc ms maxL index : Nat} {bytes : ByteArray} {ret : Option FieldType} {C : String} {T : u_T} {N : Nat} (X : CX p s m args c cc own nL Ts γ A) (hj : inj γ) {o ci : Nat} {fs : List Value} {As : List Value} (hM : gM l γ y ws rm (.ref (ad γ o) :: As) σ (gis (some (.double r)) σ') mc ms)
    (ho : (gW γ σ)[o]? = some (ad γ o, .inr (ci, fs))) (hc : vwCl[ci]? = some (C, T, N)) (hT : GoodIn Ts (wsV own index C y ws)) (hw : ws = Cond.code y bytes maxL ret :: ws') (hrm : rm.cells = mc ∧ rm.slots = ms)
    (hd : y.cls = C ∧ y.cls ≠ "java/lang/invoke/MethodHandle" ∧ y.cls ≠ "java/lang/invoke/VarHandle" ∧ (parseMethodDescriptor y.desc).map (fun d => d.parameters.length) = some na) (hna : As.length = na) (hR : rm.frames + 1 ≤ R.frames ∧ 8 + (maxL + 11) + rm.locals ≤ R.locals)
    (hst : st = As.reverse ++ .ref (ad γ o) :: rest) (hcat : (rest.map fun v => v.category).sum ≤ 8) (hdg : decode cc pc = .ok (.invokevirtual index, 3)) (hf : k + mc ≤ R.cells ∧ n + ms ≤ R.slots)
    (kk : G p l e R s m args below meth c γ A nL (k + mc) (n + ms) Q (pc + 3) ls (.double r :: rest) σ') : G p l e R s m args below meth c γ A nL k n Q pc ls st σ :=
  g_callV X hj As hM ho hc hT hw hrm hd hna hR hst hcat hdg hf (fun v σ2 h => by obtain ⟨rfl, rfl⟩ := h; exact kk)
end GD

set_option maxRecDepth 20000 in
theorem k_X4_mix (l : Launch) (γ : gG) (σ : gS) (h x : Int64) : gM l γ yX4_mix wsX4_mix ({ frames := 0, cells := 0, slots := 0, locals := 0 } : Room) [.long h, .long x] σ (gis (some (.long (mixI h x))) σ) 0 0 := by
  refine g_enter (own := RX4) (cc := cX4_mix) (nL := 4) (ret := (some .long)) [some (.long h), none, some (.long x), none] (by decide) rfl rfl (by simp [lg_sl, Value.category]) (by simp [gl_le, glE, Value.category]) (fun hj p e s m args below meth c X hr hlk hnm => ?_)
  refine g_ldc2 (v := 31) X (by decide +kernel) dX4_mix_0 ?_
  refine g_lload_n X dX4_mix_3 rfl rfl ?_
  refine g_lmul X dX4_mix_4 ?_
  refine g_lload_n X dX4_mix_5 rfl rfl ?_
  refine g_ladd X dX4_mix_6 ?_
  exact g_lret X hr hlk dX4_mix_7 ⟨rfl, rfl⟩
set_option maxRecDepth 20000 in
theorem k_X4_mixPerson (l : Launch) (γ : gG) (σ : gS) (h : Int64) (q : Nat) (hq : q < 8) (N : Nat) (L : Nat → Nat) (hS : Sh (σ.1 2) N L) : gM l γ yX4_mixPerson wsX4_mixPerson ({ frames := 8, cells := 0, slots := 0, locals := 244 } : Room) [.ref (ad γ 0), .long h, .int (nI q)] σ (gis (some (.long (prI (σ.1 2) N L q h))) σ) 0 0 := by
  refine g_enter (own := RX4) (cc := cX4_mixPerson) (nL := 7) (ret := (some .long)) [some (.ref (ad γ 0)), some (.long h), none, some (.int (nI q)), none, none, none] (by decide) rfl rfl (by simp [lg_sl, Value.category]) (by simp [gl_le, glE, Value.category]) (fun hj p e s m args below meth c X hr hlk hnm => ?_)
  refine g_lload_n X dX4_mixPerson_0 rfl rfl ?_
  refine g_lstore_s4 X dX4_mixPerson_1 (by decide) rfl ?_
  refine g_iconstN X 0 dX4_mixPerson_3 ?_
  refine g_istore_s6 X dX4_mixPerson_4 (by decide) rfl ?_
  refine g_up (i0 := 0) (N := 11) (fun i => [some (.ref (ad γ 0)), some (.long h), none, some (.int (nI q)), some (.long (dgF (fun w => (perI (σ.1 2) N L q w).toInt64) i h)), none, some (.int (nI i))]) (fun i => σ) (by simp [gl_le, dgF]) rfl (by omega) (fun i hi ih6 => ?_)
  refine g_iload X dX4_mixPerson_6 rfl ?_
  refine g_bipush (v := nI 10) X dX4_mixPerson_8 (by decide) ?_
  refine g_icmpN_gt (tgt := 34) X dX4_mixPerson_10 (by decide) (by omega) (by omega) (fun c_10 => ?_) (fun c_10 => ?_)
  · have e : i = 11 := by omega
    subst e
    refine g_lload X dX4_mixPerson_34 rfl ?_
    refine g_aload_n X dX4_mixPerson_36 rfl rfl ?_
    refine g_iload_n X dX4_mixPerson_37 rfl rfl ?_
    refine g_callVi (na := 1) X hj (k_X4_spare l γ _ _ (by omega) N L hS) gW_0 rfl gX4_mixPerson_X4_spare rfl ⟨rfl, rfl⟩ (by decide +kernel) rfl ⟨by decide, by decide⟩ rfl (Nat.le_of_ble_eq_true rfl) dX4_mixPerson_38 ⟨by decide, by decide⟩ ?_
    refine g_i2l X dX4_mixPerson_41 rfl ?_
    refine g_callSl (na := 2) X hj (k_X4_mix l γ _ _ _) gX4_mixPerson_X4_mix rfl ⟨rfl, rfl⟩ (by decide +kernel) rfl ⟨by decide, by decide⟩ rfl (Nat.le_of_ble_eq_true rfl) dX4_mixPerson_42 ⟨by decide, by decide⟩ ?_
    refine g_lstore_s4 X dX4_mixPerson_45 (by decide) rfl ?_
    refine g_iconstN X 0 dX4_mixPerson_47 ?_
    refine g_istore_s6 X dX4_mixPerson_48 (by decide) rfl ?_
    refine g_up (i0 := 0) (N := 8) (fun i => [some (.ref (ad γ 0)), some (.long h), none, some (.int (nI q)), some (.long (dgF (fun o => (σ.1 2 (48 + q * 8 + o)).toInt64) i (mixI (dgF (fun w => (perI (σ.1 2) N L q w).toInt64) 11 h) (spareOf (σ.1 2) N L q).toInt64))), none, some (.int (nI i))]) (fun i => σ) (by simp [gl_le, dgF]) rfl (by omega) (fun i hi ih50 => ?_)
    refine g_iload X dX4_mixPerson_50 rfl ?_
    refine g_bipush (v := nI 8) X dX4_mixPerson_52 (by decide) ?_
    refine g_icmpN_ge (tgt := 78) X dX4_mixPerson_54 (by decide) (by omega) (by omega) (fun c_54 => ?_) (fun c_54 => ?_)
    · have e : i = 8 := by omega
      subst e
      refine g_lload X dX4_mixPerson_78 rfl ?_
      exact g_lret X hr hlk dX4_mixPerson_80 ⟨rfl, rfl⟩
    · refine g_lload X dX4_mixPerson_57 rfl ?_
      refine g_aload_n X dX4_mixPerson_59 rfl rfl ?_
      refine g_iload_n X dX4_mixPerson_60 rfl rfl ?_
      refine g_iload X dX4_mixPerson_61 rfl ?_
      refine g_callVi (na := 2) X hj (k_X4_debt l γ _ _ _ (by omega) (by omega)) gW_0 rfl gX4_mixPerson_X4_debt rfl ⟨rfl, rfl⟩ (by decide +kernel) rfl ⟨by decide, by decide⟩ rfl (Nat.le_of_ble_eq_true rfl) dX4_mixPerson_63 ⟨by decide, by decide⟩ ?_
      refine g_i2l X dX4_mixPerson_66 rfl ?_
      refine g_callSl (na := 2) X hj (k_X4_mix l γ _ _ _) gX4_mixPerson_X4_mix rfl ⟨rfl, rfl⟩ (by decide +kernel) rfl ⟨by decide, by decide⟩ rfl (Nat.le_of_ble_eq_true rfl) dX4_mixPerson_67 ⟨by decide, by decide⟩ ?_
      refine g_lstore_s4 X dX4_mixPerson_70 (by decide) rfl ?_
      refine g_iincN6 (d := 1) X dX4_mixPerson_72 (by decide) rfl ?_
      refine g_goto (tgt := 50) X dX4_mixPerson_75 (by decide) ?_
      exact g_le (by simp [gl_le, dgF]) (ih50 (by omega))
  · refine g_lload X dX4_mixPerson_13 rfl ?_
    refine g_aload_n X dX4_mixPerson_15 rfl rfl ?_
    refine g_iload_n X dX4_mixPerson_16 rfl rfl ?_
    refine g_iload X dX4_mixPerson_17 rfl ?_
    refine g_callVi (na := 2) X hj (k_X4_person l γ _ _ _ (by omega) (by omega) N L hS) gW_0 rfl gX4_mixPerson_X4_person rfl ⟨rfl, rfl⟩ (by decide +kernel) rfl ⟨by decide, by decide⟩ rfl (Nat.le_of_ble_eq_true rfl) dX4_mixPerson_19 ⟨by decide, by decide⟩ ?_
    refine g_i2l X dX4_mixPerson_22 rfl ?_
    refine g_callSl (na := 2) X hj (k_X4_mix l γ _ _ _) gX4_mixPerson_X4_mix rfl ⟨rfl, rfl⟩ (by decide +kernel) rfl ⟨by decide, by decide⟩ rfl (Nat.le_of_ble_eq_true rfl) dX4_mixPerson_23 ⟨by decide, by decide⟩ ?_
    refine g_lstore_s4 X dX4_mixPerson_26 (by decide) rfl ?_
    refine g_iincN6 (d := 1) X dX4_mixPerson_28 (by decide) rfl ?_
    refine g_goto (tgt := 6) X dX4_mixPerson_31 (by decide) ?_
    exact g_le (by simp [gl_le, dgF]) (ih6 (by omega))
set_option maxRecDepth 20000 in
theorem k_X4_worst (l : Launch) (γ : gG) (σ : gS) (N : Nat) (L prn : Nat → Nat) (su : Nat → Nat → Nat) (lo : Nat → Int32) (hN : σ.1 2 116 = nI N) (hN10 : N ≤ 10) (hB : ∀ b, b < N → BH (σ.1 2) b (prn b) (L b) (su b)) (hlo : ∀ b, b < N → ∀ τ, PQ σ τ → drAm τ b (leftOf (τ.1 2) b) - (drT τ b (prn b) (L b) (leftOf (τ.1 2) b)).1 = lo b) : gM l γ yX4_worst wsX4_worst ({ frames := 4, cells := 0, slots := 0, locals := 102 } : Room) [.ref (ad γ 0)] σ (fun v2 σ2 => v2 = some (.int (woI lo N).1) ∧ PQ σ σ2) 0 0 := by
  refine g_enter (own := RX4) (cc := cX4_worst) (nL := 4) (ret := (some .int)) [some (.ref (ad γ 0)), none, none, none] (by decide) rfl rfl (by simp [lg_sl, Value.category]) (by simp [gl_le, glE, Value.category]) (fun hj p e s m args below meth c X hr hlk hnm => ?_)
  have hi4 : ∀ w ∈ wsX40, w ∈ wsX4_worst := by decide +kernel
  refine g_iconst (v := -1) X dX4_worst_0 (by decide) ?_
  refine g_istore_n1 X dX4_worst_1 rfl (by decide) rfl ?_
  refine g_iconstN X 0 dX4_worst_2 ?_
  refine g_istore_n2 X dX4_worst_3 rfl (by decide) rfl ?_
  refine g_iconstN X 0 dX4_worst_4 ?_
  refine g_istore_n3 X dX4_worst_5 rfl (by decide) rfl ?_
  refine g_wf (fun r ls τ => ∃ (i : Nat), i + r = N ∧ PQ σ τ ∧ ls = [some (.ref (ad γ 0)), some (.int (woI lo i).1), some (.int (woI lo i).2), some (.int (nI i))]) N ⟨0, by omega, PQ.rf σ, rfl⟩ (fun r ls τ hI ih => ?_)
  obtain ⟨i, hi, hq, rfl⟩ := hI
  have hc := hq.c
  refine g_iload_n X dX4_worst_6 rfl rfl ?_
  refine g_aload_n X dX4_worst_7 rfl rfl ?_
  refine g_get_0_0 X hi4 (by decide +kernel) dX4_worst_8 ?_
  refine g_callVi (na := 0) X hj (k_X3_bondCount l γ _) gW_1 rfl gX4_worst_X3_bondCount rfl ⟨rfl, rfl⟩ (by decide +kernel) rfl ⟨by decide, by decide⟩ rfl (Nat.le_of_ble_eq_true rfl) dX4_worst_11 ⟨by decide, by decide⟩ ?_
  refine g_top (y := nI N) (by rw [hc]; exact hN) ?_
  refine g_icmpN_ge (tgt := 64) X dX4_worst_14 (by decide) (by omega) (by omega) (fun c_14 => ?_) (fun c_14 => ?_)
  · have e : i = N := by omega
    subst e
    refine g_iload_n X dX4_worst_64 rfl rfl ?_
    exact g_iret X hr hlk dX4_worst_65 ⟨rfl, hq⟩
  · obtain ⟨b0, b1, b2, b3, b4⟩ := hB i c_14
    rw [← hc] at b0 b2 b4
    have hl := hlo i c_14 τ hq
    refine g_aload_n X dX4_worst_17 rfl rfl ?_
    refine g_get_0_3 X hi4 (by decide +kernel) dX4_worst_18 ?_
    refine g_aload_n X dX4_worst_21 rfl rfl ?_
    refine g_get_0_0 X hi4 (by decide +kernel) dX4_worst_22 ?_
    refine g_iload_n X dX4_worst_25 rfl rfl ?_
    refine g_aload_n X dX4_worst_26 rfl rfl ?_
    refine g_get_0_0 X hi4 (by decide +kernel) dX4_worst_27 ?_
    refine g_iload_n X dX4_worst_30 rfl rfl ?_
    refine g_callVi (na := 1) X hj (k_X3_leftOfBond l γ _ _ (by omega)) gW_1 rfl gX4_worst_X3_leftOfBond rfl ⟨rfl, rfl⟩ (by decide +kernel) rfl ⟨by decide, by decide⟩ rfl (Nat.le_of_ble_eq_true rfl) dX4_worst_31 ⟨by decide, by decide⟩ ?_
    refine g_callVv (na := 3) X hj (k_X2_draw l γ τ _ (prn i) (L i) (su i) _ (by omega) b0 b1 b2 b3 b4) gW_16 rfl gX4_worst_X2_draw rfl ⟨rfl, rfl⟩ (by decide +kernel) rfl ⟨by decide, by decide⟩ rfl (Nat.le_of_ble_eq_true rfl) dX4_worst_34 ⟨by decide, by decide⟩ ?_
    unfold drS pyT
    refine g_aload_n X dX4_worst_37 rfl rfl ?_
    refine g_get_0_3 X hi4 (by decide +kernel) dX4_worst_38 ?_
    refine g_callVi (na := 0) X hj (k_X2_loss l γ _) gW_16 rfl gX4_worst_X2_loss rfl ⟨rfl, rfl⟩ (by decide +kernel) rfl ⟨by decide, by decide⟩ rfl (Nat.le_of_ble_eq_true rfl) dX4_worst_41 ⟨by decide, by decide⟩ ?_
    simp only [py_16_8, py_16_10]
    refine g_top hl ?_
    refine g_iload_n X dX4_worst_44 rfl rfl ?_
    refine g_icmp_le (tgt := 58) X dX4_worst_45 (by decide) (fun c_45 => ?_) (fun c_45 => ?_)
    · refine g_iincN3 (d := 1) X dX4_worst_58 (by decide) rfl ?_
      refine g_goto (tgt := 6) X dX4_worst_61 (by decide) ?_
      exact ih (r - 1) (by omega) _ _ ⟨i + 1, by omega, hq.dr _ _ _ _, by first | (simp only [woI, if_pos c_45]; done) | (simp only [woI, if_neg c_45]; done)⟩
    · refine g_aload_n X dX4_worst_48 rfl rfl ?_
      refine g_get_0_3 X hi4 (by decide +kernel) dX4_worst_49 ?_
      refine g_callVi (na := 0) X hj (k_X2_loss l γ _) gW_16 rfl gX4_worst_X2_loss rfl ⟨rfl, rfl⟩ (by decide +kernel) rfl ⟨by decide, by decide⟩ rfl (Nat.le_of_ble_eq_true rfl) dX4_worst_52 ⟨by decide, by decide⟩ ?_
      simp only [py_16_8, py_16_10]
      refine g_top hl ?_
      refine g_istore_n2 X dX4_worst_55 rfl (by decide) rfl ?_
      refine g_iload_n X dX4_worst_56 rfl rfl ?_
      refine g_istore_n1 X dX4_worst_57 rfl (by decide) rfl ?_
      refine g_iincN3 (d := 1) X dX4_worst_58 (by decide) rfl ?_
      refine g_goto (tgt := 6) X dX4_worst_61 (by decide) ?_
      exact ih (r - 1) (by omega) _ _ ⟨i + 1, by omega, hq.dr _ _ _ _, by first | (simp only [woI, if_pos c_45]; done) | (simp only [woI, if_neg c_45]; done)⟩
set_option maxRecDepth 20000 in
theorem k_X4_paidShare (l : Launch) (γ : gG) (σ : gS) (N : Nat) (hN : σ.1 2 116 = nI N) (hN10 : N ≤ 10) (hnan : bsum (σ.1 2) N 6 = 0 ∨ vf_n64 (FP.ddiv (FP.i2d (bsum (σ.1 2) N 7)) (FP.i2d (bsum (σ.1 2) N 6)))) : gM l γ yX4_paidShare wsX4_paidShare ({ frames := 2, cells := 0, slots := 0, locals := 45 } : Room) [.ref (ad γ 0)] σ (gis (some (.double (psD (bsum (σ.1 2) N 6) (bsum (σ.1 2) N 7)))) σ) 0 0 := by
  refine g_enter (own := RX4) (cc := cX4_paidShare) (nL := 2) (ret := (some .double)) [some (.ref (ad γ 0)), none] (by decide) rfl rfl (by simp [lg_sl, Value.category]) (by simp [gl_le, glE, Value.category]) (fun hj p e s m args below meth c X hr hlk hnm => ?_)
  have hi4 : ∀ w ∈ wsX40, w ∈ wsX4_paidShare := by decide +kernel
  refine g_aload_n X dX4_paidShare_0 rfl rfl ?_
  refine g_get_0_0 X hi4 (by decide +kernel) dX4_paidShare_1 ?_
  refine g_bipush (v := nI 6) X dX4_paidShare_4 (by decide) ?_
  refine g_callVi (na := 1) X hj (k_X3_sumOverBonds l γ _ N _ (by omega) hN hN10) gW_1 rfl gX4_paidShare_X3_sumOverBonds rfl ⟨rfl, rfl⟩ (by decide +kernel) rfl ⟨by decide, by decide⟩ rfl (Nat.le_of_ble_eq_true rfl) dX4_paidShare_6 ⟨by decide, by decide⟩ ?_
  refine g_istore_n1 X dX4_paidShare_9 rfl (by decide) rfl ?_
  refine g_iload_n X dX4_paidShare_10 rfl rfl ?_
  refine g_if_ne (tgt := 16) X dX4_paidShare_11 (by decide) (fun c_11 => ?_) (fun c_11 => ?_)
  · refine g_aload_n X dX4_paidShare_16 rfl rfl ?_
    refine g_get_0_0 X hi4 (by decide +kernel) dX4_paidShare_17 ?_
    refine g_bipush (v := nI 7) X dX4_paidShare_20 (by decide) ?_
    refine g_callVi (na := 1) X hj (k_X3_sumOverBonds l γ _ N _ (by omega) hN hN10) gW_1 rfl gX4_paidShare_X3_sumOverBonds rfl ⟨rfl, rfl⟩ (by decide +kernel) rfl ⟨by decide, by decide⟩ rfl (Nat.le_of_ble_eq_true rfl) dX4_paidShare_22 ⟨by decide, by decide⟩ ?_
    refine g_i2d X dX4_paidShare_25 ?_
    refine g_iload_n X dX4_paidShare_26 rfl rfl ?_
    refine g_i2d X dX4_paidShare_27 ?_
    refine g_ddiv X dX4_paidShare_28 (hnan.resolve_left c_11) ?_
    exact g_dret X hr hlk dX4_paidShare_29 ⟨by unfold psD bsum; rw [if_neg c_11], rfl⟩
  · refine g_dconst1 X dX4_paidShare_14 ?_
    exact g_dret X hr hlk dX4_paidShare_15 ⟨by unfold psD bsum; rw [if_pos c_11], rfl⟩
set_option maxRecDepth 20000 in
theorem k_X4_bitsOfShare (l : Launch) (γ : gG) (σ : gS) (u : UInt64) (hu : bitsOK u) : gM l γ yX4_bitsOfShare wsX4_bitsOfShare ({ frames := 0, cells := 0, slots := 0, locals := 0 } : Room) [.double u] σ (gis (some (.long (bitsI u))) σ) 0 0 := by
  refine g_enter (own := RX4) (cc := cX4_bitsOfShare) (nL := 7) (ret := (some .long)) [some (.double u), none, none, none, none, none, none] (by decide) rfl rfl (by simp [lg_sl, Value.category]) (by simp [gl_le, glE, Value.category]) (fun hj p e s m args below meth c X hr hlk hnm => ?_)
  refine g_dload_n X dX4_bitsOfShare_0 rfl rfl ?_
  refine g_dconst0 X dX4_bitsOfShare_1 ?_
  refine g_dcmp X dX4_bitsOfShare_2 ?_
  refine g_if_gt (tgt := 8) X dX4_bitsOfShare_3 (by decide) (fun c_3 => ?_) (fun c_3 => ?_)
  · refine g_dload_n X dX4_bitsOfShare_8 rfl rfl ?_
    refine g_dstore_n2 X dX4_bitsOfShare_9 rfl (by decide) rfl ?_
    refine g_ldc2 (v := 1023) X (by decide +kernel) dX4_bitsOfShare_10 ?_
    refine g_lstore_s4 X dX4_bitsOfShare_13 (by decide) rfl ?_
    refine g_iconstN X 0 dX4_bitsOfShare_15 ?_
    refine g_istore_s6 X dX4_bitsOfShare_16 (by decide) rfl ?_
    refine g_wf (fun r ls τ => ∃ (i : Nat) (f : UInt64) (z : Int64), i + r = 60 ∧ τ = σ ∧ ls = [some (.double u), none, some (.double f), none, some (.long z), none, some (.int (nI i))] ∧ bsI 60 u 1023 = bsI r f z ∧ bsOK r f) 60 ⟨0, u, 1023, by omega, rfl, rfl, rfl, hu.1⟩ (fun r ls τ hI ih => ?_)
    obtain ⟨i, f, z, hi, rfl, rfl, hbs, hok⟩ := hI
    refine g_iload X dX4_bitsOfShare_18 rfl ?_
    refine g_bipush (v := nI 60) X dX4_bitsOfShare_20 (by decide) ?_
    refine g_icmpN_ge (tgt := 49) X dX4_bitsOfShare_22 (by decide) (by omega) (by omega) (fun c_22 => ?_) (fun c_22 => ?_)
    · have hf : bsI 60 u 1023 = (f, z) := by rw [hbs]; first | (have q9 := c_28; simp only [bsI, if_pos q9]; done) | (have e : r = 0 := (by omega); subst e; rfl)
      have hd1 := hu.2.1
      have hd2 := hu.2.2
      rw [hf] at hd1 hd2
      refine g_lload X dX4_bitsOfShare_49 rfl ?_
      refine g_bipush (v := nI 52) X dX4_bitsOfShare_51 (by decide) ?_
      refine g_lshl X dX4_bitsOfShare_53 rfl ?_
      refine g_dload_n X dX4_bitsOfShare_54 rfl rfl ?_
      refine g_dconst1 X dX4_bitsOfShare_55 ?_
      refine g_dsub X dX4_bitsOfShare_56 hd1 ?_
      refine g_ldc2d (v := 4841369599423283200) X (by decide +kernel) dX4_bitsOfShare_57 ?_
      refine g_dmul X dX4_bitsOfShare_60 hd2 ?_
      refine g_d2l X dX4_bitsOfShare_61 ?_
      refine g_ladd X dX4_bitsOfShare_62 ?_
      exact g_lret X hr hlk dX4_bitsOfShare_63 ⟨by unfold bitsI; rw [if_pos c_3, hf]; rfl, rfl⟩
    · obtain ⟨r, rfl⟩ : ∃ r2, r = r2 + 1 := ⟨r - 1, by omega⟩
      refine g_dload_n X dX4_bitsOfShare_25 rfl rfl ?_
      refine g_dconst1 X dX4_bitsOfShare_26 ?_
      refine g_dcmp X dX4_bitsOfShare_27 ?_
      refine g_if_ge (tgt := 49) X dX4_bitsOfShare_28 (by decide) (fun c_28 => ?_) (fun c_28 => ?_)
      · have hf : bsI 60 u 1023 = (f, z) := by rw [hbs]; first | (have q9 := c_28; simp only [bsI, if_pos q9]; done) | (have e : r = 0 := (by omega); subst e; rfl)
        have hd1 := hu.2.1
        have hd2 := hu.2.2
        rw [hf] at hd1 hd2
        refine g_lload X dX4_bitsOfShare_49 rfl ?_
        refine g_bipush (v := nI 52) X dX4_bitsOfShare_51 (by decide) ?_
        refine g_lshl X dX4_bitsOfShare_53 rfl ?_
        refine g_dload_n X dX4_bitsOfShare_54 rfl rfl ?_
        refine g_dconst1 X dX4_bitsOfShare_55 ?_
        refine g_dsub X dX4_bitsOfShare_56 hd1 ?_
        refine g_ldc2d (v := 4841369599423283200) X (by decide +kernel) dX4_bitsOfShare_57 ?_
        refine g_dmul X dX4_bitsOfShare_60 hd2 ?_
        refine g_d2l X dX4_bitsOfShare_61 ?_
        refine g_ladd X dX4_bitsOfShare_62 ?_
        exact g_lret X hr hlk dX4_bitsOfShare_63 ⟨by unfold bitsI; rw [if_pos c_3, hf]; rfl, rfl⟩
      · replace hok := hok.resolve_left c_28
        refine g_dload_n X dX4_bitsOfShare_31 rfl rfl ?_
        refine g_ldc2d (v := 4611686018427387904) X (by decide +kernel) dX4_bitsOfShare_32 ?_
        refine g_dmul X dX4_bitsOfShare_35 hok.1 ?_
        refine g_dstore_n2 X dX4_bitsOfShare_36 rfl (by decide) rfl ?_
        refine g_lload X dX4_bitsOfShare_37 rfl ?_
        refine g_lconst (v := 1) X dX4_bitsOfShare_39 (by decide) ?_
        refine g_lsub X dX4_bitsOfShare_40 ?_
        refine g_lstore_s4 X dX4_bitsOfShare_41 (by decide) rfl ?_
        refine g_iincN6 (d := 1) X dX4_bitsOfShare_43 (by decide) rfl ?_
        refine g_goto (tgt := 18) X dX4_bitsOfShare_46 (by decide) ?_
        exact ih r (by omega) _ _ ⟨i + 1, FP.dmul f bTwo, z - 1, by omega, rfl, rfl, by rw [hbs]; simp only [bsI, if_neg c_28], hok.2⟩
  · refine g_lconst (v := 0) X dX4_bitsOfShare_6 (by decide) ?_
    exact g_lret X hr hlk dX4_bitsOfShare_7 ⟨by unfold bitsI; rw [if_neg c_3], rfl⟩
set_option maxRecDepth 20000 in
theorem k_X4_mixBond (l : Launch) (γ : gG) (σ : gS) (σ0 : gS) (hq : PQ σ0 σ) (h : Int64) (b N prn L : Nat) (su : Nat → Nat) (ef : Nat → Int32) (th lo : Int32) (hb : b < N) (hN : σ.1 2 116 = nI N) (hN10 : N ≤ 10) (hB : BH (σ.1 2) b prn L su) (hD : DrOK σ0 b prn L ef th lo) : gM l γ yX4_mixBond wsX4_mixBond ({ frames := 8, cells := 0, slots := 0, locals := 245 } : Room) [.ref (ad γ 0), .long h, .int (nI b)] σ (fun v2 σ2 => v2 = some (.long (boI (σ.1 2) b L ef th h)) ∧ PQ σ0 σ2) 0 0 := by
  obtain ⟨hB0, hB1, hB2, hB3, hB4⟩ := hB
  have hD1 := hD σ hq
  refine g_enter (own := RX4) (cc := cX4_mixBond) (nL := 8) (ret := (some .long)) [some (.ref (ad γ 0)), some (.long h), none, some (.int (nI b)), none, none, none, none] (by decide) rfl rfl (by simp [lg_sl, Value.category]) (by simp [gl_le, glE, Value.category]) (fun hj p e s m args below meth c X hr hlk hnm => ?_)
  have hi4 : ∀ w ∈ wsX40, w ∈ wsX4_mixBond := by decide +kernel
  refine g_lload_n X dX4_mixBond_0 rfl rfl ?_
  refine g_lstore_s4 X dX4_mixBond_1 (by decide) rfl ?_
  refine g_iconstN X 0 dX4_mixBond_3 ?_
  refine g_istore_s6 X dX4_mixBond_4 (by decide) rfl ?_
  refine g_up (i0 := 0) (N := 12) (fun i => [some (.ref (ad γ 0)), some (.long h), none, some (.int (nI b)), some (.long (dgF (fun w => (bonI (σ.1 2) b L w).toInt64) i h)), none, some (.int (nI i)), none]) (fun i => σ) (by simp [gl_le, dgF]) rfl (by omega) (fun i hi ih6 => ?_)
  refine g_iload X dX4_mixBond_6 rfl ?_
  refine g_bipush (v := nI 11) X dX4_mixBond_8 (by decide) ?_
  refine g_icmpN_gt (tgt := 34) X dX4_mixBond_10 (by decide) (by omega) (by omega) (fun c_10 => ?_) (fun c_10 => ?_)
  · have e : i = 12 := by omega
    subst e
    refine g_iconstN X 0 dX4_mixBond_34 ?_
    refine g_istore_s6 X dX4_mixBond_35 (by decide) rfl ?_
    refine g_wf (fun r ls τ => ∃ (i : Nat), i + r = L ∧ σ = τ ∧ gl_le ([some (.ref (ad γ 0)), some (.long h), none, some (.int (nI b)), some (.long (dlF (σ.1 2) b i (dgF (fun w => (bonI (σ.1 2) b L w).toInt64) 12 h))), none, some (.int (nI i)), none]) ls) L ⟨0, by omega, rfl, by simp [gl_le, dlF]⟩ (fun r ls τ hI ih => ?_)
    obtain ⟨i, hi, rfl, hgl⟩ := hI
    refine g_le hgl ?_
    refine g_iload X dX4_mixBond_37 rfl ?_
    refine g_aload_n X dX4_mixBond_39 rfl rfl ?_
    refine g_get_0_0 X hi4 (by decide +kernel) dX4_mixBond_40 ?_
    refine g_iload_n X dX4_mixBond_43 rfl rfl ?_
    refine g_iconstN X 3 dX4_mixBond_44 ?_
    refine g_callVi (na := 2) X hj (k_X3_bondFact l γ _ _ _ (by omega)) gW_1 rfl gX4_mixBond_X3_bondFact rfl ⟨rfl, rfl⟩ (by decide +kernel) rfl ⟨by decide, by decide⟩ rfl (Nat.le_of_ble_eq_true rfl) dX4_mixBond_45 ⟨by decide, by decide⟩ ?_
    refine g_top (y := nI L) hB2 ?_
    refine g_icmpN_ge (tgt := 89) X dX4_mixBond_48 (by decide) (by omega) (by omega) (fun c_48 => ?_) (fun c_48 => ?_)
    · have e : L = i := by omega
      subst e
      refine g_aload_n X dX4_mixBond_89 rfl rfl ?_
      refine g_get_0_3 X hi4 (by decide +kernel) dX4_mixBond_90 ?_
      refine g_aload_n X dX4_mixBond_93 rfl rfl ?_
      refine g_get_0_0 X hi4 (by decide +kernel) dX4_mixBond_94 ?_
      refine g_iload_n X dX4_mixBond_97 rfl rfl ?_
      refine g_sipush (v := nI 1000) X dX4_mixBond_98 (by decide) ?_
      refine g_callVv (na := 3) X hj (k_X2_draw l γ σ _ prn L su _ (by omega) hB0 hB1 hB2 hB3 hB4) gW_16 rfl gX4_mixBond_X2_draw rfl ⟨rfl, rfl⟩ (by decide +kernel) rfl ⟨by decide, by decide⟩ rfl (Nat.le_of_ble_eq_true rfl) dX4_mixBond_101 ⟨by decide, by decide⟩ ?_
      unfold drS pyT
      refine g_iconstN X 0 dX4_mixBond_104 ?_
      refine g_istore_s6 X dX4_mixBond_105 (by decide) rfl ?_
      refine g_up (i0 := 0) (N := 11) (fun i => [some (.ref (ad γ 0)), some (.long h), none, some (.int (nI b)), some (.long (dgF (fun w => (ef w).toInt64) i (dlF (σ.1 2) b L (dgF (fun w => (bonI (σ.1 2) b L w).toInt64) 12 h)))), none, some (.int (nI i)), none]) (fun _ => pyS σ (nI b) (nI prn) (drAm σ b (nI 1000)) (drBp σ b prn (nI 1000)) (drT σ b prn L (nI 1000)).1 (drT σ b prn L (nI 1000)).2.1 (drT σ b prn L (nI 1000)).2.2.1.1 (drT σ b prn L (nI 1000)).2.2.1.2.1 (drT σ b prn L (nI 1000)).2.2.1.2.2 (drT σ b prn L (nI 1000)).2.2.2.1 (drT σ b prn L (nI 1000)).2.2.2.2 (drSo σ b prn L (nI 1000)).2) (by simp [gl_le, dgF]) rfl (by omega) (fun i hi ih107 => ?_)
      refine g_iload X dX4_mixBond_107 rfl ?_
      refine g_bipush (v := nI 10) X dX4_mixBond_109 (by decide) ?_
      refine g_icmpN_gt (tgt := 141) X dX4_mixBond_111 (by decide) (by omega) (by omega) (fun c_111 => ?_) (fun c_111 => ?_)
      · have e : i = 11 := by omega
        subst e
        have hq2 : PQ σ0 (pyS σ (nI b) (nI prn) (drAm σ b (nI 1000)) (drBp σ b prn (nI 1000)) (drT σ b prn L (nI 1000)).1 (drT σ b prn L (nI 1000)).2.1 (drT σ b prn L (nI 1000)).2.2.1.1 (drT σ b prn L (nI 1000)).2.2.1.2.1 (drT σ b prn L (nI 1000)).2.2.1.2.2 (drT σ b prn L (nI 1000)).2.2.2.1 (drT σ b prn L (nI 1000)).2.2.2.2 (drSo σ b prn L (nI 1000)).2) := hq.tr (PQ.py _ _ _ _ _ _ _ _ _ _ _ _ _)
        refine g_lload X dX4_mixBond_141 rfl ?_
        refine g_aload_n X dX4_mixBond_143 rfl rfl ?_
        refine g_iload_n X dX4_mixBond_144 rfl rfl ?_
        refine g_callVi (na := 1) X hj (k_X4_thin l γ (pyS σ (nI b) (nI prn) (drAm σ b (nI 1000)) (drBp σ b prn (nI 1000)) (drT σ b prn L (nI 1000)).1 (drT σ b prn L (nI 1000)).2.1 (drT σ b prn L (nI 1000)).2.2.1.1 (drT σ b prn L (nI 1000)).2.2.1.2.1 (drT σ b prn L (nI 1000)).2.2.1.2.2 (drT σ b prn L (nI 1000)).2.2.2.1 (drT σ b prn L (nI 1000)).2.2.2.2 (drSo σ b prn L (nI 1000)).2) N b prn L su hB0 hB1 hB2 hB3 hB4 hb hN hN10) gW_0 rfl gX4_mixBond_X4_thin rfl ⟨rfl, rfl⟩ (by decide +kernel) rfl ⟨by decide, by decide⟩ rfl (Nat.le_of_ble_eq_true rfl) dX4_mixBond_145 ⟨by decide, by decide⟩ ?_
        refine g_top (y := th) ((hD _ hq2).2.1) ?_
        refine g_i2l X dX4_mixBond_148 rfl ?_
        refine g_callSl (na := 2) X hj (k_X4_mix l γ _ _ _) gX4_mixBond_X4_mix rfl ⟨rfl, rfl⟩ (by decide +kernel) rfl ⟨by decide, by decide⟩ rfl (Nat.le_of_ble_eq_true rfl) dX4_mixBond_149 ⟨by decide, by decide⟩ ?_
        exact g_lret X hr hlk dX4_mixBond_152 ⟨rfl, hq2.dr _ _ _ _⟩
      · refine g_lload X dX4_mixBond_114 rfl ?_
        refine g_aload_n X dX4_mixBond_116 rfl rfl ?_
        refine g_get_0_3 X hi4 (by decide +kernel) dX4_mixBond_117 ?_
        refine g_aload_n X dX4_mixBond_120 rfl rfl ?_
        refine g_get_0_0 X hi4 (by decide +kernel) dX4_mixBond_121 ?_
        refine g_iload X dX4_mixBond_124 rfl ?_
        refine g_callVi (na := 2) X hj (k_X2_effect l γ σ _ _ _ _ _ _ _ _ _ _ _ _ b L _ rfl (by omega) hB2 hB3 (by omega)) gW_16 rfl gX4_mixBond_X2_effect rfl ⟨rfl, rfl⟩ (by decide +kernel) rfl ⟨by decide, by decide⟩ rfl (Nat.le_of_ble_eq_true rfl) dX4_mixBond_126 ⟨by decide, by decide⟩ ?_
        refine g_top (y := ef i) (hD1.1 i (by omega)) ?_
        refine g_i2l X dX4_mixBond_129 rfl ?_
        refine g_callSl (na := 2) X hj (k_X4_mix l γ _ _ _) gX4_mixBond_X4_mix rfl ⟨rfl, rfl⟩ (by decide +kernel) rfl ⟨by decide, by decide⟩ rfl (Nat.le_of_ble_eq_true rfl) dX4_mixBond_130 ⟨by decide, by decide⟩ ?_
        refine g_lstore_s4 X dX4_mixBond_133 (by decide) rfl ?_
        refine g_iincN6 (d := 1) X dX4_mixBond_135 (by decide) rfl ?_
        refine g_goto (tgt := 107) X dX4_mixBond_138 (by decide) ?_
        exact g_le (by simp [gl_le, dgF]) (ih107 (by omega))
    · refine g_iconstN X 0 dX4_mixBond_51 ?_
      refine g_istore_s7 X dX4_mixBond_52 (by decide) rfl ?_
      refine g_up (i0 := 0) (N := 4) (fun i2 => [some (.ref (ad γ 0)), some (.long h), none, some (.int (nI b)), some (.long (dgF (fun w => (σ.1 2 (117 + b * 31 + 15 + i * 4 + w)).toInt64) i2 (dlF (σ.1 2) b i (dgF (fun w => (bonI (σ.1 2) b L w).toInt64) 12 h)))), none, some (.int (nI i)), some (.int (nI i2))]) (fun i2 => σ) (by simp [gl_le, dgF]) rfl (by omega) (fun i2 hi2 ih54 => ?_)
      refine g_iload X dX4_mixBond_54 rfl ?_
      refine g_iconstN X 3 dX4_mixBond_56 ?_
      refine g_icmpN_gt (tgt := 83) X dX4_mixBond_57 (by decide) (by omega) (by omega) (fun c_57 => ?_) (fun c_57 => ?_)
      · have e : i2 = 4 := by omega
        subst e
        refine g_iincN6 (d := 1) X dX4_mixBond_83 (by decide) rfl ?_
        refine g_goto (tgt := 37) X dX4_mixBond_86 (by decide) ?_
        exact ih (r - 1) (by omega) _ _ ⟨i + 1, by omega, rfl, by simp [gl_le, dlF]⟩
      · refine g_lload X dX4_mixBond_60 rfl ?_
        refine g_aload_n X dX4_mixBond_62 rfl rfl ?_
        refine g_iload_n X dX4_mixBond_63 rfl rfl ?_
        refine g_iload X dX4_mixBond_64 rfl ?_
        refine g_iload X dX4_mixBond_66 rfl ?_
        refine g_callVi (na := 3) X hj (k_X4_layer l γ _ _ _ _ N L hb hN hN10 (by omega) (by omega) hB2 hB3) gW_0 rfl gX4_mixBond_X4_layer rfl ⟨rfl, rfl⟩ (by decide +kernel) rfl ⟨by decide, by decide⟩ rfl (Nat.le_of_ble_eq_true rfl) dX4_mixBond_68 ⟨by decide, by decide⟩ ?_
        refine g_i2l X dX4_mixBond_71 rfl ?_
        refine g_callSl (na := 2) X hj (k_X4_mix l γ _ _ _) gX4_mixBond_X4_mix rfl ⟨rfl, rfl⟩ (by decide +kernel) rfl ⟨by decide, by decide⟩ rfl (Nat.le_of_ble_eq_true rfl) dX4_mixBond_72 ⟨by decide, by decide⟩ ?_
        refine g_lstore_s4 X dX4_mixBond_75 (by decide) rfl ?_
        refine g_iincN7 (d := 1) X dX4_mixBond_77 (by decide) rfl ?_
        refine g_goto (tgt := 54) X dX4_mixBond_80 (by decide) ?_
        exact g_le (by simp [gl_le, dgF]) (ih54 (by omega))
  · refine g_lload X dX4_mixBond_13 rfl ?_
    refine g_aload_n X dX4_mixBond_15 rfl rfl ?_
    refine g_iload_n X dX4_mixBond_16 rfl rfl ?_
    refine g_iload X dX4_mixBond_17 rfl ?_
    refine g_callVi (na := 2) X hj (k_X4_bond l γ _ _ _ N L hb hN hN10 (by omega) hB2 hB3) gW_0 rfl gX4_mixBond_X4_bond rfl ⟨rfl, rfl⟩ (by decide +kernel) rfl ⟨by decide, by decide⟩ rfl (Nat.le_of_ble_eq_true rfl) dX4_mixBond_19 ⟨by decide, by decide⟩ ?_
    refine g_i2l X dX4_mixBond_22 rfl ?_
    refine g_callSl (na := 2) X hj (k_X4_mix l γ _ _ _) gX4_mixBond_X4_mix rfl ⟨rfl, rfl⟩ (by decide +kernel) rfl ⟨by decide, by decide⟩ rfl (Nat.le_of_ble_eq_true rfl) dX4_mixBond_23 ⟨by decide, by decide⟩ ?_
    refine g_lstore_s4 X dX4_mixBond_26 (by decide) rfl ?_
    refine g_iincN6 (d := 1) X dX4_mixBond_28 (by decide) rfl ?_
    refine g_goto (tgt := 6) X dX4_mixBond_31 (by decide) ?_
    exact g_le (by simp [gl_le, dgF]) (ih6 (by omega))
set_option maxRecDepth 20000 in
theorem k_X4_digest (l : Launch) (γ : gG) (σ : gS) (N : Nat) (L prn : Nat → Nat) (su : Nat → Nat → Nat) (ef : Nat → Nat → Int32) (th lo : Nat → Int32) (k : Nat) (hS : Sh (σ.1 2) N L) (hB : ∀ b, b < N → BH (σ.1 2) b (prn b) (L b) (su b)) (hD : ∀ b, b < N → DrOK σ b (prn b) (L b) (ef b) (th b) (lo b)) (hk : σ.1 11 4 = nI k) (hk60 : k ≤ 60) (hnan : bsum (σ.1 2) N 6 = 0 ∨ vf_n64 (FP.ddiv (FP.i2d (bsum (σ.1 2) N 7)) (FP.i2d (bsum (σ.1 2) N 6)))) (hu : bitsOK (psD (bsum (σ.1 2) N 6) (bsum (σ.1 2) N 7))) : gM l γ yX4_digest wsX4_digest ({ frames := 9, cells := 0, slots := 0, locals := 272 } : Room) [.ref (ad γ 0)] σ (fun v2 σ2 => v2 = some (.long (dgI (σ.1 2) (σ.1 3 2) N L ef th lo k (σ.1 12))) ∧ PQ σ σ2) 0 0 := by
  have hN := hS.1
  have hN10 := hS.2.1
  refine g_enter (own := RX4) (cc := cX4_digest) (nL := 4) (ret := (some .long)) [some (.ref (ad γ 0)), none, none, none] (by decide) rfl rfl (by simp [lg_sl, Value.category]) (by simp [gl_le, glE, Value.category]) (fun hj p e s m args below meth c X hr hlk hnm => ?_)
  have hi4 : ∀ w ∈ wsX40, w ∈ wsX4_digest := by decide +kernel
  refine g_ldc2 (v := 2503) X (by decide +kernel) dX4_digest_0 ?_
  refine g_lstore_n1 X dX4_digest_3 rfl (by decide) rfl ?_
  refine g_iconstN X 0 dX4_digest_4 ?_
  refine g_istore_n3 X dX4_digest_5 rfl (by decide) rfl ?_
  refine g_up (i0 := 0) (N := 10) (fun i => [some (.ref (ad γ 0)), some (.long ((dgF (fun w => (cntI (σ.1 2) (σ.1 3 2) N w).toInt64) i 2503))), none, some (.int (nI i))]) (fun i => σ) (by simp [gl_le, dgF]) rfl (by omega) (fun i hi ih6 => ?_)
  refine g_iload_n X dX4_digest_6 rfl rfl ?_
  refine g_bipush (v := nI 9) X dX4_digest_7 (by decide) ?_
  refine g_icmpN_gt (tgt := 29) X dX4_digest_9 (by decide) (by omega) (by omega) (fun c_9 => ?_) (fun c_9 => ?_)
  · have e : i = 10 := by omega
    subst e
    refine g_iconstN X 0 dX4_digest_29 ?_
    refine g_istore_n3 X dX4_digest_30 rfl (by decide) rfl ?_
    refine g_up (i0 := 0) (N := 3) (fun i => [some (.ref (ad γ 0)), some (.long ((dgF (fun j => (σ.1 2 (112 + j)).toInt64) i (dgF (fun w => (cntI (σ.1 2) (σ.1 3 2) N w).toInt64) 10 2503)))), none, some (.int (nI i))]) (fun i => σ) (by simp [gl_le, dgF]) rfl (by omega) (fun i hi ih31 => ?_)
    refine g_iload_n X dX4_digest_31 rfl rfl ?_
    refine g_iconstN X 3 dX4_digest_32 ?_
    refine g_icmpN_ge (tgt := 53) X dX4_digest_33 (by decide) (by omega) (by omega) (fun c_33 => ?_) (fun c_33 => ?_)
    · have e : i = 3 := by omega
      subst e
      refine g_iconstN X 0 dX4_digest_53 ?_
      refine g_istore_n3 X dX4_digest_54 rfl (by decide) rfl ?_
      refine g_up (i0 := 0) (N := 8) (fun i => [some (.ref (ad γ 0)), some (.long ((dpF (σ.1 2) N L i (dgF (fun j => (σ.1 2 (112 + j)).toInt64) 3 (dgF (fun w => (cntI (σ.1 2) (σ.1 3 2) N w).toInt64) 10 2503))))), none, some (.int (nI i))]) (fun i => σ) (by simp [gl_le, dpF]) rfl (by omega) (fun i hi ih55 => ?_)
      refine g_iload_n X dX4_digest_55 rfl rfl ?_
      refine g_bipush (v := nI 8) X dX4_digest_56 (by decide) ?_
      refine g_icmpN_ge (tgt := 74) X dX4_digest_58 (by decide) (by omega) (by omega) (fun c_58 => ?_) (fun c_58 => ?_)
      · have e : i = 8 := by omega
        subst e
        refine g_iconstN X 0 dX4_digest_74 ?_
        refine g_istore_n3 X dX4_digest_75 rfl (by decide) rfl ?_
        refine g_wf (fun r ls τ => ∃ (i : Nat), i + r = N ∧ PQ σ τ ∧ ls = [some (.ref (ad γ 0)), some (.long ((dbF (σ.1 2) L ef th i (dpF (σ.1 2) N L 8 (dgF (fun j => (σ.1 2 (112 + j)).toInt64) 3 (dgF (fun w => (cntI (σ.1 2) (σ.1 3 2) N w).toInt64) 10 2503)))))), none, some (.int (nI i))]) N ⟨0, by omega, PQ.rf σ, rfl⟩ (fun r ls τ hI ih => ?_)
        obtain ⟨i, hi, hq, rfl⟩ := hI
        have hc := hq.c
        have ht := hq.t
        refine g_iload_n X dX4_digest_76 rfl rfl ?_
        refine g_aload_n X dX4_digest_77 rfl rfl ?_
        refine g_get_0_0 X hi4 (by decide +kernel) dX4_digest_78 ?_
        refine g_callVi (na := 0) X hj (k_X3_bondCount l γ _) gW_1 rfl gX4_digest_X3_bondCount rfl ⟨rfl, rfl⟩ (by decide +kernel) rfl ⟨by decide, by decide⟩ rfl (Nat.le_of_ble_eq_true rfl) dX4_digest_81 ⟨by decide, by decide⟩ ?_
        refine g_top (y := nI N) (by rw [hc]; exact hN) ?_
        refine g_icmpN_ge (tgt := 100) X dX4_digest_84 (by decide) (by omega) (by omega) (fun c_84 => ?_) (fun c_84 => ?_)
        · have e : N = i := by omega
          subst e
          refine g_lload_n X dX4_digest_100 rfl rfl ?_
          refine g_aload_n X dX4_digest_101 rfl rfl ?_
          refine g_callV (na := 0) X hj _ (k_X4_worst l γ τ N L prn su lo (by rw [hc]; exact hN) hN10 (by rw [hc]; exact hB) (fun b hb τ2 hq2 => (hD b hb τ2 (hq.tr hq2)).2.2)) gW_0 rfl gX4_digest_X4_worst rfl ⟨rfl, rfl⟩ (by decide +kernel) rfl ⟨by decide, by decide⟩ rfl (Nat.le_of_ble_eq_true rfl) dX4_digest_102 ⟨by decide, by decide⟩ ?_
          rintro v2 τ2 ⟨rfl, hq2⟩
          replace hq := hq.tr hq2
          replace hc := hq.c
          replace ht := hq.t
          refine g_i2l X dX4_digest_105 rfl ?_
          refine g_callSl (na := 2) X hj (k_X4_mix l γ _ _ _) gX4_digest_X4_mix rfl ⟨rfl, rfl⟩ (by decide +kernel) rfl ⟨by decide, by decide⟩ rfl (Nat.le_of_ble_eq_true rfl) dX4_digest_106 ⟨by decide, by decide⟩ ?_
          refine g_lstore_n1 X dX4_digest_109 rfl (by decide) rfl ?_
          refine g_lload_n X dX4_digest_110 rfl rfl ?_
          refine g_aload_n X dX4_digest_111 rfl rfl ?_
          refine g_callVd (na := 0) X hj (k_X4_paidShare l γ _ N (by rw [hc]; exact hN) hN10 (by rw [hc]; exact hnan)) gW_0 rfl gX4_digest_X4_paidShare rfl ⟨rfl, rfl⟩ (by decide +kernel) rfl ⟨by decide, by decide⟩ rfl (Nat.le_of_ble_eq_true rfl) dX4_digest_112 ⟨by decide, by decide⟩ ?_
          rw [hc]
          refine g_callSl (na := 1) X hj (k_X4_bitsOfShare l γ _ _ hu) gX4_digest_X4_bitsOfShare rfl ⟨rfl, rfl⟩ (by decide +kernel) rfl ⟨by decide, by decide⟩ rfl (Nat.le_of_ble_eq_true rfl) dX4_digest_115 ⟨by decide, by decide⟩ ?_
          refine g_callSl (na := 2) X hj (k_X4_mix l γ _ _ _) gX4_digest_X4_mix rfl ⟨rfl, rfl⟩ (by decide +kernel) rfl ⟨by decide, by decide⟩ rfl (Nat.le_of_ble_eq_true rfl) dX4_digest_118 ⟨by decide, by decide⟩ ?_
          refine g_lstore_n1 X dX4_digest_121 rfl (by decide) rfl ?_
          refine g_lload_n X dX4_digest_122 rfl rfl ?_
          refine g_aload_n X dX4_digest_123 rfl rfl ?_
          refine g_get_0_2 X hi4 (by decide +kernel) dX4_digest_124 ?_
          refine g_callVi (na := 0) X hj (k_X0_length l γ _) gW_11 rfl gX4_digest_X0_length rfl ⟨rfl, rfl⟩ (by decide +kernel) rfl ⟨by decide, by decide⟩ rfl (Nat.le_of_ble_eq_true rfl) dX4_digest_127 ⟨by decide, by decide⟩ ?_
          refine g_top (y := nI k) (by rw [ht.1]; exact hk) ?_
          refine g_i2l X dX4_digest_130 rfl ?_
          refine g_callSl (na := 2) X hj (k_X4_mix l γ _ _ _) gX4_digest_X4_mix rfl ⟨rfl, rfl⟩ (by decide +kernel) rfl ⟨by decide, by decide⟩ rfl (Nat.le_of_ble_eq_true rfl) dX4_digest_131 ⟨by decide, by decide⟩ ?_
          refine g_lstore_n1 X dX4_digest_134 rfl (by decide) rfl ?_
          refine g_iconstN X 0 dX4_digest_135 ?_
          refine g_istore_n3 X dX4_digest_136 rfl (by decide) rfl ?_
          refine g_wf (fun r ls τ => ∃ (i : Nat), i + r = k ∧ PQ σ τ ∧ ls = [some (.ref (ad γ 0)), some (.long ((dgF (fun j => (σ.1 12 j).toInt64) i (mixI (mixI (mixI (dbF (σ.1 2) L ef th N (dpF (σ.1 2) N L 8 (dgF (fun j => (σ.1 2 (112 + j)).toInt64) 3 (dgF (fun w => (cntI (σ.1 2) (σ.1 3 2) N w).toInt64) 10 2503)))) (woI lo N).1.toInt64) (bitsI (psD (bsum (σ.1 2) N 6) (bsum (σ.1 2) N 7)))) (nI k).toInt64)))), none, some (.int (nI i))]) k ⟨0, by omega, hq, rfl⟩ (fun r ls τ hI ih => ?_)
          obtain ⟨i, hi, hq, rfl⟩ := hI
          have hc := hq.c
          have ht := hq.t
          refine g_iload_n X dX4_digest_137 rfl rfl ?_
          refine g_aload_n X dX4_digest_138 rfl rfl ?_
          refine g_get_0_2 X hi4 (by decide +kernel) dX4_digest_139 ?_
          refine g_callVi (na := 0) X hj (k_X0_length l γ _) gW_11 rfl gX4_digest_X0_length rfl ⟨rfl, rfl⟩ (by decide +kernel) rfl ⟨by decide, by decide⟩ rfl (Nat.le_of_ble_eq_true rfl) dX4_digest_142 ⟨by decide, by decide⟩ ?_
          refine g_top (y := nI k) (by rw [ht.1]; exact hk) ?_
          refine g_icmpN_ge (tgt := 168) X dX4_digest_145 (by decide) (by omega) (by omega) (fun c_145 => ?_) (fun c_145 => ?_)
          · have e : k = i := by omega
            subst e
            refine g_lload_n X dX4_digest_168 rfl rfl ?_
            exact g_lret X hr hlk dX4_digest_169 ⟨rfl, hq⟩
          · refine g_lload_n X dX4_digest_148 rfl rfl ?_
            refine g_aload_n X dX4_digest_149 rfl rfl ?_
            refine g_get_0_2 X hi4 (by decide +kernel) dX4_digest_150 ?_
            refine g_iload_n X dX4_digest_153 rfl rfl ?_
            refine g_callVi (na := 1) X hj (k_X0_codeAt l γ _ _ (by omega)) gW_11 rfl gX4_digest_X0_codeAt rfl ⟨rfl, rfl⟩ (by decide +kernel) rfl ⟨by decide, by decide⟩ rfl (Nat.le_of_ble_eq_true rfl) dX4_digest_154 ⟨by decide, by decide⟩ ?_
            rw [ht.2]
            refine g_i2l X dX4_digest_157 rfl ?_
            refine g_callSl (na := 2) X hj (k_X4_mix l γ _ _ _) gX4_digest_X4_mix rfl ⟨rfl, rfl⟩ (by decide +kernel) rfl ⟨by decide, by decide⟩ rfl (Nat.le_of_ble_eq_true rfl) dX4_digest_158 ⟨by decide, by decide⟩ ?_
            refine g_lstore_n1 X dX4_digest_161 rfl (by decide) rfl ?_
            refine g_iincN3 (d := 1) X dX4_digest_162 (by decide) rfl ?_
            refine g_goto (tgt := 137) X dX4_digest_165 (by decide) ?_
            exact ih (r - 1) (by omega) _ _ ⟨i + 1, by omega, hq, rfl⟩
        · refine g_aload_n X dX4_digest_87 rfl rfl ?_
          refine g_lload_n X dX4_digest_88 rfl rfl ?_
          refine g_iload_n X dX4_digest_89 rfl rfl ?_
          refine g_callV (na := 2) X hj _ (k_X4_mixBond l γ τ σ hq _ i N (prn i) (L i) (su i) (ef i) (th i) (lo i) c_84 (by rw [hc]; exact hN) hN10 (by rw [hc]; exact hB i c_84) (hD i c_84)) gW_0 rfl gX4_digest_X4_mixBond rfl ⟨rfl, rfl⟩ (by decide +kernel) rfl ⟨by decide, by decide⟩ rfl (Nat.le_of_ble_eq_true rfl) dX4_digest_90 ⟨by decide, by decide⟩ ?_
          rintro v2 τ2 ⟨rfl, hq2⟩
          simp only [hc]
          replace hq := hq2
          refine g_lstore_n1 X dX4_digest_93 rfl (by decide) rfl ?_
          refine g_iincN3 (d := 1) X dX4_digest_94 (by decide) rfl ?_
          refine g_goto (tgt := 76) X dX4_digest_97 (by decide) ?_
          exact ih (r - 1) (by omega) _ _ ⟨i + 1, by omega, hq, rfl⟩
      · refine g_aload_n X dX4_digest_61 rfl rfl ?_
        refine g_lload_n X dX4_digest_62 rfl rfl ?_
        refine g_iload_n X dX4_digest_63 rfl rfl ?_
        refine g_callVl (na := 2) X hj (k_X4_mixPerson l γ _ _ _ (by omega) N L hS) gW_0 rfl gX4_digest_X4_mixPerson rfl ⟨rfl, rfl⟩ (by decide +kernel) rfl ⟨by decide, by decide⟩ rfl (Nat.le_of_ble_eq_true rfl) dX4_digest_64 ⟨by decide, by decide⟩ ?_
        refine g_lstore_n1 X dX4_digest_67 rfl (by decide) rfl ?_
        refine g_iincN3 (d := 1) X dX4_digest_68 (by decide) rfl ?_
        refine g_goto (tgt := 55) X dX4_digest_71 (by decide) ?_
        exact g_le (by simp [gl_le, dpF]) (ih55 (by omega))
    · refine g_lload_n X dX4_digest_36 rfl rfl ?_
      refine g_aload_n X dX4_digest_37 rfl rfl ?_
      refine g_iload_n X dX4_digest_38 rfl rfl ?_
      refine g_callVi (na := 1) X hj (k_X4_setting l γ _ _ (by omega)) gW_0 rfl gX4_digest_X4_setting rfl ⟨rfl, rfl⟩ (by decide +kernel) rfl ⟨by decide, by decide⟩ rfl (Nat.le_of_ble_eq_true rfl) dX4_digest_39 ⟨by decide, by decide⟩ ?_
      refine g_i2l X dX4_digest_42 rfl ?_
      refine g_callSl (na := 2) X hj (k_X4_mix l γ _ _ _) gX4_digest_X4_mix rfl ⟨rfl, rfl⟩ (by decide +kernel) rfl ⟨by decide, by decide⟩ rfl (Nat.le_of_ble_eq_true rfl) dX4_digest_43 ⟨by decide, by decide⟩ ?_
      refine g_lstore_n1 X dX4_digest_46 rfl (by decide) rfl ?_
      refine g_iincN3 (d := 1) X dX4_digest_47 (by decide) rfl ?_
      refine g_goto (tgt := 31) X dX4_digest_50 (by decide) ?_
      exact g_le (by simp [gl_le, dgF]) (ih31 (by omega))
  · refine g_lload_n X dX4_digest_12 rfl rfl ?_
    refine g_aload_n X dX4_digest_13 rfl rfl ?_
    refine g_iload_n X dX4_digest_14 rfl rfl ?_
    refine g_callVi (na := 1) X hj (k_X4_count l γ _ _ N (by omega) hN hN10) gW_0 rfl gX4_digest_X4_count rfl ⟨rfl, rfl⟩ (by decide +kernel) rfl ⟨by decide, by decide⟩ rfl (Nat.le_of_ble_eq_true rfl) dX4_digest_15 ⟨by decide, by decide⟩ ?_
    refine g_i2l X dX4_digest_18 rfl ?_
    refine g_callSl (na := 2) X hj (k_X4_mix l γ _ _ _) gX4_digest_X4_mix rfl ⟨rfl, rfl⟩ (by decide +kernel) rfl ⟨by decide, by decide⟩ rfl (Nat.le_of_ble_eq_true rfl) dX4_digest_19 ⟨by decide, by decide⟩ ?_
    refine g_lstore_n1 X dX4_digest_22 rfl (by decide) rfl ?_
    refine g_iincN3 (d := 1) X dX4_digest_23 (by decide) rfl ?_
    refine g_goto (tgt := 6) X dX4_digest_26 (by decide) ?_
    exact g_le (by simp [gl_le, dgF]) (ih6 (by omega))
