/-! THE WORST BOND, THE SHARE, THE HASH: pure words -/
theorem PQ.tr {σ σ1 σ2 : gS} (h1 : PQ σ σ1) (h2 : PQ σ1 σ2) : PQ σ σ2 := by
  obtain ⟨bo, pr, am, bp, pd, th, ca, ow, mg, du, bl, re, rfl⟩ := h1
  obtain ⟨bo2, pr2, am2, bp2, pd2, th2, ca2, ow2, mg2, du2, bl2, re2, rfl⟩ := h2
  rw [py_py]
  exact ⟨_, _, _, _, _, _, _, _, _, _, _, _, rfl⟩
theorem PQ.py (σ : gS) (bo pr am bp pd th : Int32) (ca ow mg du bl : Nat → Int32) (re : Nat → Int64) : PQ σ (pyS σ bo pr am bp pd th ca ow mg du bl re) := ⟨_, _, _, _, _, _, _, _, _, _, _, _, rfl⟩
/-- what a call of x would do -/
def drE (σ : gS) (b prn L : Nat) (x : Int32) (w : Nat) : Int32 := efI (σ.1 2) b L (drAm σ b x) (drBp σ b prn x) (drT σ b prn L x).1 (drT σ b prn L x).2.2.1.1 w
/-- what would be, whatever was worked out before -/
def DrOK (σ0 : gS) (b prn L : Nat) (ef : Nat → Int32) (th lo : Int32) : Prop := ∀ σ, PQ σ0 σ → (∀ w, w ≤ 10 → drE σ b prn L (nI 1000) w = ef w) ∧ (drT σ b prn L (leftOf (σ.1 2) b)).2.1 = th ∧ drAm σ b (leftOf (σ.1 2) b) - (drT σ b prn L (leftOf (σ.1 2) b)).1 = lo
def mixI (h x : Int64) : Int64 := 31 * h + x
def dgF (f : Nat → Int64) : Nat → Int64 → Int64
  | 0, h => h
  | i + 1, h => mixI (dgF f i h) (f i)
def woI (lo : Nat → Int32) : Nat → Int32 × Int32
  | 0 => (-1, nI 0)
  | i + 1 => if lo i ≤ (woI lo i).2 then woI lo i else (nI i, lo i)
def prI (v : Nat → Int32) (N : Nat) (L : Nat → Nat) (q : Nat) (h : Int64) : Int64 :=
  dgF (fun o => (v (48 + q * 8 + o)).toInt64) 8 (mixI (dgF (fun w => (perI v N L q w).toInt64) 11 h) (spareOf v N L q).toInt64)
def dlF (v : Nat → Int32) (b : Nat) : Nat → Int64 → Int64
  | 0, h => h
  | i + 1, h => dgF (fun w => (v (117 + b * 31 + 15 + i * 4 + w)).toInt64) 4 (dlF v b i h)
def boI (v : Nat → Int32) (b L : Nat) (ef : Nat → Int32) (th : Int32) (h : Int64) : Int64 :=
  mixI (dgF (fun w => (ef w).toInt64) 11 (dlF v b L (dgF (fun w => (bonI v b L w).toInt64) 12 h))) th.toInt64
def dpF (v : Nat → Int32) (N : Nat) (L : Nat → Nat) : Nat → Int64 → Int64
  | 0, h => h
  | q + 1, h => prI v N L q (dpF v N L q h)
def dbF (v : Nat → Int32) (L : Nat → Nat) (ef : Nat → Nat → Int32) (th : Nat → Int32) : Nat → Int64 → Int64
  | 0, h => h
  | b + 1, h => boI v b (L b) (ef b) (th b) (dbF v L ef th b h)
def psD (called paid : Int32) : UInt64 := if called = 0 then FP.dconst1 else FP.ddiv (FP.i2d paid) (FP.i2d called)
def bTwo : UInt64 := 4611686018427387904
def bMax : UInt64 := 4841369599423283200
def bsI : Nat → UInt64 → Int64 → UInt64 × Int64
  | 0, f, e => (f, e)
  | r + 1, f, e => if Op.cmpValue (FP.dcmp f FP.dconst1) .g ≥ 0 then (f, e) else bsI r (FP.dmul f bTwo) (e - 1)
def bsOK : Nat → UInt64 → Prop
  | 0, _ => True
  | r + 1, f => Op.cmpValue (FP.dcmp f FP.dconst1) .g ≥ 0 ∨ (vf_n64 (FP.dmul f bTwo) ∧ bsOK r (FP.dmul f bTwo))
def bitsI (d : UInt64) : Int64 := if Op.cmpValue (FP.dcmp d FP.dconst0) .l > 0 then ((bsI 60 d 1023).2 <<< ((nI 52).toInt64 &&& 63)) + FP.d2l (FP.dmul (FP.dsub (bsI 60 d 1023).1 FP.dconst1) bMax) else 0
def bitsOK (d : UInt64) : Prop := bsOK 60 d ∧ vf_n64 (FP.dsub (bsI 60 d 1023).1 FP.dconst1) ∧ vf_n64 (FP.dmul (FP.dsub (bsI 60 d 1023).1 FP.dconst1) bMax)
/-- the hash -/
def dgI (v : Nat → Int32) (hs : Int32) (N : Nat) (L : Nat → Nat) (ef : Nat → Nat → Int32) (th lo : Nat → Int32) (k : Nat) (co : Nat → Int32) : Int64 :=
  dgF (fun j => (co j).toInt64) k (mixI (mixI (mixI (dbF v L ef th N (dpF v N L 8 (dgF (fun j => (v (112 + j)).toInt64) 3 (dgF (fun w => (cntI v hs N w).toInt64) 10 2503)))) (woI lo N).1.toInt64) (bitsI (psD (bsum v N 6) (bsum v N 7)))) (nI k).toInt64)
/-- a bond as the working-out wants it -/
def BH (v : Nat → Int32) (b prn L : Nat) (su : Nat → Nat) : Prop := v (117 + b * 31 + 0) = nI prn ∧ prn < 8 ∧ v (117 + b * 31 + 3) = nI L ∧ L ≤ 4 ∧ ∀ i, i < L → v (117 + b * 31 + 15 + i * 4 + 0) = nI (su i) ∧ su i < 8

set_option maxRecDepth 20000 in
theorem k_X4_mix (l : Launch) (γ : gG) (σ : gS) (h x : Int64) : gM l γ yX4_mix wsX4_mix ({ frames := 0, cells := 0, slots := 0, locals := 0 } : Room) [.long h, .long x] σ (gis (some (.long (mixI h x))) σ) 0 0 := by
  refine g_enter (own := RX4) (cc := cX4_mix) (nL := 4) (ret := (some .long)) [some (.long h), none, some (.long x), none] (by decide) rfl rfl (by simp [lg_sl, Value.category]) (by simp [gl_le, glE, Value.category]) (fun hj p e s m args below meth c X hr hlk hnm => ?_)
  refine g_ldc2 (v := 31) X (by decide +kernel) dX4_mix_0 ?_
  refine g_lload_n X dX4_mix_3 rfl rfl ?_
  refine g_lmul X dX4_mix_4 ?_
  refine g_lload_n X dX4_mix_5 rfl rfl ?_
  refine g_ladd X dX4_mix_6 ?_
  exact g_lret X hr hlk dX4_mix_7 ⟨rfl, rfl⟩
set_option maxRecDepth 20000 in
theorem k_X4_mixPerson (l : Launch) (γ : gG) (σ : gS) (h : Int64) (q : Nat) (hq : q < 8) (N : Nat) (L : Nat → Nat) (hS : Sh (σ.1 2) N L) : gM l γ yX4_mixPerson wsX4_mixPerson ({ frames := 8, cells := 0, slots := 0, locals := 244 } : Room) [.ref (ad γ 0), .long h, .int (nI q)] σ (gis (some (.long (prI (σ.1 2) N L q h))) σ) 0 0 := by
  refine g_enter (own := RX4) (cc := cX4_mixPerson) (nL := 7) (ret := (some .long)) [some (.ref (ad γ 0)), some (.long h), none, some (.int (nI q)), none, none, none] (by decide) rfl rfl (by simp [lg_sl, Value.category]) (by simp [gl_le, glE, Value.category]) (fun hj p e s m args below meth c X hr hlk hnm => ?_)
  refine g_lload_n X dX4_mixPerson_0 rfl rfl ?_
  refine g_lstore_s4 X dX4_mixPerson_1 (by decide) rfl ?_
  refine g_iconstN X 0 dX4_mixPerson_3 ?_
  refine g_istore_s6 X dX4_mixPerson_4 (by decide) rfl ?_
  refine g_up (i0 := 0) (N := 11) (fun i => [some (.ref (ad γ 0)), some (.long h), none, some (.int (nI q)), some (.long (dgF (fun w => (perI (σ.1 2) N L q w).toInt64) i h)), none, some (.int (nI i))]) (fun i => σ) (by simp [gl_le, dgF]) rfl (by omega) (fun i hi ih6 => ?_)
  refine g_iload X dX4_mixPerson_6 rfl ?_
  refine g_bipush (v := nI 10) X dX4_mixPerson_8 (by decide) ?_
  refine g_icmpN_gt (tgt := 34) X dX4_mixPerson_10 (by decide) (by omega) (by omega) (fun c_10 => ?_) (fun c_10 => ?_)
  · have e : i = 11 := by omega
    subst e
    refine g_lload X dX4_mixPerson_34 rfl ?_
    refine g_aload_n X dX4_mixPerson_36 rfl rfl ?_
    refine g_iload_n X dX4_mixPerson_37 rfl rfl ?_
    refine g_callVi (na := 1) X hj (k_X4_spare l γ _ _ (by omega) N L hS) gW_0 rfl gX4_mixPerson_X4_spare rfl ⟨rfl, rfl⟩ (by decide +kernel) rfl ⟨by decide, by decide⟩ rfl (Nat.le_of_ble_eq_true rfl) dX4_mixPerson_38 ⟨by decide, by decide⟩ ?_
    refine g_i2l X dX4_mixPerson_41 rfl ?_
    refine g_callSl (na := 2) X hj (k_X4_mix l γ _ _ _) gX4_mixPerson_X4_mix rfl ⟨rfl, rfl⟩ (by decide +kernel) rfl ⟨by decide, by decide⟩ rfl (Nat.le_of_ble_eq_true rfl) dX4_mixPerson_42 ⟨by decide, by decide⟩ ?_
    refine g_lstore_s4 X dX4_mixPerson_45 (by decide) rfl ?_
    refine g_iconstN X 0 dX4_mixPerson_47 ?_
    refine g_istore_s6 X dX4_mixPerson_48 (by decide) rfl ?_
    refine g_up (i0 := 0) (N := 8) (fun i => [some (.ref (ad γ 0)), some (.long h), none, some (.int (nI q)), some (.long (dgF (fun o => (σ.1 2 (48 + q * 8 + o)).toInt64) i (mixI (dgF (fun w => (perI (σ.1 2) N L q w).toInt64) 11 h) (spareOf (σ.1 2) N L q).toInt64))), none, some (.int (nI i))]) (fun i => σ) (by simp [gl_le, dgF]) rfl (by omega) (fun i hi ih50 => ?_)
    refine g_iload X dX4_mixPerson_50 rfl ?_
    refine g_bipush (v := nI 8) X dX4_mixPerson_52 (by decide) ?_
    refine g_icmpN_ge (tgt := 78) X dX4_mixPerson_54 (by decide) (by omega) (by omega) (fun c_54 => ?_) (fun c_54 => ?_)
    · have e : i = 8 := by omega
      subst e
      refine g_lload X dX4_mixPerson_78 rfl ?_
      exact g_lret X hr hlk dX4_mixPerson_80 ⟨rfl, rfl⟩
    · refine g_lload X dX4_mixPerson_57 rfl ?_
      refine g_aload_n X dX4_mixPerson_59 rfl rfl ?_
      refine g_iload_n X dX4_mixPerson_60 rfl rfl ?_
      refine g_iload X dX4_mixPerson_61 rfl ?_
      refine g_callVi (na := 2) X hj (k_X4_debt l γ _ _ _ (by omega) (by omega)) gW_0 rfl gX4_mixPerson_X4_debt rfl ⟨rfl, rfl⟩ (by decide +kernel) rfl ⟨by decide, by decide⟩ rfl (Nat.le_of_ble_eq_true rfl) dX4_mixPerson_63 ⟨by decide, by decide⟩ ?_
      refine g_i2l X dX4_mixPerson_66 rfl ?_
      refine g_callSl (na := 2) X hj (k_X4_mix l γ _ _ _) gX4_mixPerson_X4_mix rfl ⟨rfl, rfl⟩ (by decide +kernel) rfl ⟨by decide, by decide⟩ rfl (Nat.le_of_ble_eq_true rfl) dX4_mixPerson_67 ⟨by decide, by decide⟩ ?_
      refine g_lstore_s4 X dX4_mixPerson_70 (by decide) rfl ?_
      refine g_iincN6 (d := 1) X dX4_mixPerson_72 (by decide) rfl ?_
      refine g_goto (tgt := 50) X dX4_mixPerson_75 (by decide) ?_
      exact g_le (by simp [gl_le, dgF]) (ih50 (by omega))
  · refine g_lload X dX4_mixPerson_13 rfl ?_
    refine g_aload_n X dX4_mixPerson_15 rfl rfl ?_
    refine g_iload_n X dX4_mixPerson_16 rfl rfl ?_
    refine g_iload X dX4_mixPerson_17 rfl ?_
    refine g_callVi (na := 2) X hj (k_X4_person l γ _ _ _ (by omega) (by omega) N L hS) gW_0 rfl gX4_mixPerson_X4_person rfl ⟨rfl, rfl⟩ (by decide +kernel) rfl ⟨by decide, by decide⟩ rfl (Nat.le_of_ble_eq_true rfl) dX4_mixPerson_19 ⟨by decide, by decide⟩ ?_
    refine g_i2l X dX4_mixPerson_22 rfl ?_
    refine g_callSl (na := 2) X hj (k_X4_mix l γ _ _ _) gX4_mixPerson_X4_mix rfl ⟨rfl, rfl⟩ (by decide +kernel) rfl ⟨by decide, by decide⟩ rfl (Nat.le_of_ble_eq_true rfl) dX4_mixPerson_23 ⟨by decide, by decide⟩ ?_
    refine g_lstore_s4 X dX4_mixPerson_26 (by decide) rfl ?_
    refine g_iincN6 (d := 1) X dX4_mixPerson_28 (by decide) rfl ?_
    refine g_goto (tgt := 6) X dX4_mixPerson_31 (by decide) ?_
    exact g_le (by simp [gl_le, dgF]) (ih6 (by omega))
set_option maxRecDepth 20000 in
theorem k_X4_worst (l : Launch) (γ : gG) (σ : gS) (N : Nat) (L prn : Nat → Nat) (su : Nat → Nat → Nat) (lo : Nat → Int32) (hN : σ.1 2 116 = nI N) (hN10 : N ≤ 10) (hB : ∀ b, b < N → BH (σ.1 2) b (prn b) (L b) (su b)) (hlo : ∀ b, b < N → ∀ τ, PQ σ τ → drAm τ b (leftOf (τ.1 2) b) - (drT τ b (prn b) (L b) (leftOf (τ.1 2) b)).1 = lo b) : gM l γ yX4_worst wsX4_worst ({ frames := 4, cells := 0, slots := 0, locals := 102 } : Room) [.ref (ad γ 0)] σ (fun v2 σ2 => v2 = some (.int (woI lo N).1) ∧ PQ σ σ2) 0 0 := by
  refine g_enter (own := RX4) (cc := cX4_worst) (nL := 4) (ret := (some .int)) [some (.ref (ad γ 0)), none, none, none] (by decide) rfl rfl (by simp [lg_sl, Value.category]) (by simp [gl_le, glE, Value.category]) (fun hj p e s m args below meth c X hr hlk hnm => ?_)
  have hi4 : ∀ w ∈ wsX40, w ∈ wsX4_worst := by decide +kernel
  refine g_iconst (v := -1) X dX4_worst_0 (by decide) ?_
  refine g_istore_n1 X dX4_worst_1 rfl (by decide) rfl ?_
  refine g_iconstN X 0 dX4_worst_2 ?_
  refine g_istore_n2 X dX4_worst_3 rfl (by decide) rfl ?_
  refine g_iconstN X 0 dX4_worst_4 ?_
  refine g_istore_n3 X dX4_worst_5 rfl (by decide) rfl ?_
  refine g_wf (fun r ls τ => ∃ (i : Nat), i + r = N ∧ PQ σ τ ∧ ls = [some (.ref (ad γ 0)), some (.int (woI lo i).1), some (.int (woI lo i).2), some (.int (nI i))]) N ⟨0, by omega, PQ.rf σ, rfl⟩ (fun r ls τ hI ih => ?_)
  obtain ⟨i, hi, hq, rfl⟩ := hI
  have hc := hq.c
  refine g_iload_n X dX4_worst_6 rfl rfl ?_
  refine g_aload_n X dX4_worst_7 rfl rfl ?_
  refine g_get_0_0 X hi4 (by decide +kernel) dX4_worst_8 ?_
  refine g_callVi (na := 0) X hj (k_X3_bondCount l γ _) gW_1 rfl gX4_worst_X3_bondCount rfl ⟨rfl, rfl⟩ (by decide +kernel) rfl ⟨by decide, by decide⟩ rfl (Nat.le_of_ble_eq_true rfl) dX4_worst_11 ⟨by decide, by decide⟩ ?_
  refine g_top (y := nI N) (by rw [hc]; exact hN) ?_
  refine g_icmpN_ge (tgt := 64) X dX4_worst_14 (by decide) (by omega) (by omega) (fun c_14 => ?_) (fun c_14 => ?_)
  · have e : i = N := by omega
    subst e
    refine g_iload_n X dX4_worst_64 rfl rfl ?_
    exact g_iret X hr hlk dX4_worst_65 ⟨rfl, hq⟩
  · obtain ⟨b0, b1, b2, b3, b4⟩ := hB i c_14
    rw [← hc] at b0 b2 b4
    have hl := hlo i c_14 τ hq
    refine g_aload_n X dX4_worst_17 rfl rfl ?_
    refine g_get_0_3 X hi4 (by decide +kernel) dX4_worst_18 ?_
    refine g_aload_n X dX4_worst_21 rfl rfl ?_
    refine g_get_0_0 X hi4 (by decide +kernel) dX4_worst_22 ?_
    refine g_iload_n X dX4_worst_25 rfl rfl ?_
    refine g_aload_n X dX4_worst_26 rfl rfl ?_
    refine g_get_0_0 X hi4 (by decide +kernel) dX4_worst_27 ?_
    refine g_iload_n X dX4_worst_30 rfl rfl ?_
    refine g_callVi (na := 1) X hj (k_X3_leftOfBond l γ _ _ (by omega)) gW_1 rfl gX4_worst_X3_leftOfBond rfl ⟨rfl, rfl⟩ (by decide +kernel) rfl ⟨by decide, by decide⟩ rfl (Nat.le_of_ble_eq_true rfl) dX4_worst_31 ⟨by decide, by decide⟩ ?_
    refine g_callVv (na := 3) X hj (k_X2_draw l γ τ _ (prn i) (L i) (su i) _ (by omega) b0 b1 b2 b3 b4) gW_16 rfl gX4_worst_X2_draw rfl ⟨rfl, rfl⟩ (by decide +kernel) rfl ⟨by decide, by decide⟩ rfl (Nat.le_of_ble_eq_true rfl) dX4_worst_34 ⟨by decide, by decide⟩ ?_
    unfold drS pyT
    refine g_aload_n X dX4_worst_37 rfl rfl ?_
    refine g_get_0_3 X hi4 (by decide +kernel) dX4_worst_38 ?_
    refine g_callVi (na := 0) X hj (k_X2_loss l γ _) gW_16 rfl gX4_worst_X2_loss rfl ⟨rfl, rfl⟩ (by decide +kernel) rfl ⟨by decide, by decide⟩ rfl (Nat.le_of_ble_eq_true rfl) dX4_worst_41 ⟨by decide, by decide⟩ ?_
    simp only [py_16_8, py_16_10]
    refine g_top hl ?_
    refine g_iload_n X dX4_worst_44 rfl rfl ?_
    refine g_icmp_le (tgt := 58) X dX4_worst_45 (by decide) (fun c_45 => ?_) (fun c_45 => ?_)
    · refine g_iincN3 (d := 1) X dX4_worst_58 (by decide) rfl ?_
      refine g_goto (tgt := 6) X dX4_worst_61 (by decide) ?_
      exact ih (r - 1) (by omega) _ _ ⟨i + 1, by omega, hq.dr _ _ _ _, by first | (simp only [woI, if_pos c_45]; done) | (simp only [woI, if_neg c_45]; done)⟩
    · refine g_aload_n X dX4_worst_48 rfl rfl ?_
      refine g_get_0_3 X hi4 (by decide +kernel) dX4_worst_49 ?_
      refine g_callVi (na := 0) X hj (k_X2_loss l γ _) gW_16 rfl gX4_worst_X2_loss rfl ⟨rfl, rfl⟩ (by decide +kernel) rfl ⟨by decide, by decide⟩ rfl (Nat.le_of_ble_eq_true rfl) dX4_worst_52 ⟨by decide, by decide⟩ ?_
      simp only [py_16_8, py_16_10]
      refine g_top hl ?_
      refine g_istore_n2 X dX4_worst_55 rfl (by decide) rfl ?_
      refine g_iload_n X dX4_worst_56 rfl rfl ?_
      refine g_istore_n1 X dX4_worst_57 rfl (by decide) rfl ?_
      refine g_iincN3 (d := 1) X dX4_worst_58 (by decide) rfl ?_
      refine g_goto (tgt := 6) X dX4_worst_61 (by decide) ?_
      exact ih (r - 1) (by omega) _ _ ⟨i + 1, by omega, hq.dr _ _ _ _, by first | (simp only [woI, if_pos c_45]; done) | (simp only [woI, if_neg c_45]; done)⟩
set_option maxRecDepth 20000 in
theorem k_X4_paidShare (l : Launch) (γ : gG) (σ : gS) (N : Nat) (hN : σ.1 2 116 = nI N) (hN10 : N ≤ 10) (hnan : bsum (σ.1 2) N 6 = 0 ∨ vf_n64 (FP.ddiv (FP.i2d (bsum (σ.1 2) N 7)) (FP.i2d (bsum (σ.1 2) N 6)))) : gM l γ yX4_paidShare wsX4_paidShare ({ frames := 2, cells := 0, slots := 0, locals := 45 } : Room) [.ref (ad γ 0)] σ (gis (some (.double (psD (bsum (σ.1 2) N 6) (bsum (σ.1 2) N 7)))) σ) 0 0 := by
  refine g_enter (own := RX4) (cc := cX4_paidShare) (nL := 2) (ret := (some .double)) [some (.ref (ad γ 0)), none] (by decide) rfl rfl (by simp [lg_sl, Value.category]) (by simp [gl_le, glE, Value.category]) (fun hj p e s m args below meth c X hr hlk hnm => ?_)
  have hi4 : ∀ w ∈ wsX40, w ∈ wsX4_paidShare := by decide +kernel
  refine g_aload_n X dX4_paidShare_0 rfl rfl ?_
  refine g_get_0_0 X hi4 (by decide +kernel) dX4_paidShare_1 ?_
  refine g_bipush (v := nI 6) X dX4_paidShare_4 (by decide) ?_
  refine g_callVi (na := 1) X hj (k_X3_sumOverBonds l γ _ N _ (by omega) hN hN10) gW_1 rfl gX4_paidShare_X3_sumOverBonds rfl ⟨rfl, rfl⟩ (by decide +kernel) rfl ⟨by decide, by decide⟩ rfl (Nat.le_of_ble_eq_true rfl) dX4_paidShare_6 ⟨by decide, by decide⟩ ?_
  refine g_istore_n1 X dX4_paidShare_9 rfl (by decide) rfl ?_
  refine g_iload_n X dX4_paidShare_10 rfl rfl ?_
  refine g_if_ne (tgt := 16) X dX4_paidShare_11 (by decide) (fun c_11 => ?_) (fun c_11 => ?_)
  · refine g_aload_n X dX4_paidShare_16 rfl rfl ?_
    refine g_get_0_0 X hi4 (by decide +kernel) dX4_paidShare_17 ?_
    refine g_bipush (v := nI 7) X dX4_paidShare_20 (by decide) ?_
    refine g_callVi (na := 1) X hj (k_X3_sumOverBonds l γ _ N _ (by omega) hN hN10) gW_1 rfl gX4_paidShare_X3_sumOverBonds rfl ⟨rfl, rfl⟩ (by decide +kernel) rfl ⟨by decide, by decide⟩ rfl (Nat.le_of_ble_eq_true rfl) dX4_paidShare_22 ⟨by decide, by decide⟩ ?_
    refine g_i2d X dX4_paidShare_25 ?_
    refine g_iload_n X dX4_paidShare_26 rfl rfl ?_
    refine g_i2d X dX4_paidShare_27 ?_
    refine g_ddiv X dX4_paidShare_28 (hnan.resolve_left c_11) ?_
    exact g_dret X hr hlk dX4_paidShare_29 ⟨by unfold psD; rw [if_neg c_11]; rfl, rfl⟩
  · refine g_dconst1 X dX4_paidShare_14 ?_
    exact g_dret X hr hlk dX4_paidShare_15 ⟨by unfold psD; rw [if_pos c_11], rfl⟩
set_option maxRecDepth 20000 in
theorem k_X4_bitsOfShare (l : Launch) (γ : gG) (σ : gS) (u : UInt64) (hu : bitsOK u) : gM l γ yX4_bitsOfShare wsX4_bitsOfShare ({ frames := 0, cells := 0, slots := 0, locals := 0 } : Room) [.double u] σ (gis (some (.long (bitsI u))) σ) 0 0 := by
  refine g_enter (own := RX4) (cc := cX4_bitsOfShare) (nL := 7) (ret := (some .long)) [some (.double u), none, none, none, none, none, none] (by decide) rfl rfl (by simp [lg_sl, Value.category]) (by simp [gl_le, glE, Value.category]) (fun hj p e s m args below meth c X hr hlk hnm => ?_)
  refine g_dload_n X dX4_bitsOfShare_0 rfl rfl ?_
  refine g_dconst0 X dX4_bitsOfShare_1 ?_
  refine g_dcmp X dX4_bitsOfShare_2 ?_
  refine g_if_gt (tgt := 8) X dX4_bitsOfShare_3 (by decide) (fun c_3 => ?_) (fun c_3 => ?_)
  · refine g_dload_n X dX4_bitsOfShare_8 rfl rfl ?_
    refine g_dstore_n2 X dX4_bitsOfShare_9 rfl (by decide) rfl ?_
    refine g_ldc2 (v := 1023) X (by decide +kernel) dX4_bitsOfShare_10 ?_
    refine g_lstore_s4 X dX4_bitsOfShare_13 (by decide) rfl ?_
    refine g_iconstN X 0 dX4_bitsOfShare_15 ?_
    refine g_istore_s6 X dX4_bitsOfShare_16 (by decide) rfl ?_
    refine g_wf (fun r ls τ => ∃ (i : Nat) (f : UInt64) (z : Int64), i + r = 60 ∧ τ = σ ∧ ls = [some (.double u), none, some (.double f), none, some (.long z), none, some (.int (nI i))] ∧ bsI 60 u 1023 = bsI r f z ∧ bsOK r f) 60 ⟨0, u, 1023, by omega, rfl, rfl, rfl, hu.1⟩ (fun r ls τ hI ih => ?_)
    obtain ⟨i, f, z, hi, rfl, rfl, hbs, hok⟩ := hI
    refine g_iload X dX4_bitsOfShare_18 rfl ?_
    refine g_bipush (v := nI 60) X dX4_bitsOfShare_20 (by decide) ?_
    refine g_icmpN_ge (tgt := 49) X dX4_bitsOfShare_22 (by decide) (by omega) (by omega) (fun c_22 => ?_) (fun c_22 => ?_)
    · have hf : bsI 60 u 1023 = (f, z) := by rw [hbs]; first | (have q9 := c_28; simp only [bsI, if_pos q9]; done) | (have e : r = 0 := (by omega); subst e; rfl)
      have hd1 := hu.2.1
      have hd2 := hu.2.2
      rw [hf] at hd1 hd2
      refine g_lload X dX4_bitsOfShare_49 rfl ?_
      refine g_bipush (v := nI 52) X dX4_bitsOfShare_51 (by decide) ?_
      refine g_lshl X dX4_bitsOfShare_53 rfl ?_
      refine g_dload_n X dX4_bitsOfShare_54 rfl rfl ?_
      refine g_dconst1 X dX4_bitsOfShare_55 ?_
      refine g_dsub X dX4_bitsOfShare_56 hd1 ?_
      refine g_ldc2d (v := 4841369599423283200) X (by decide +kernel) dX4_bitsOfShare_57 ?_
      refine g_dmul X dX4_bitsOfShare_60 hd2 ?_
      refine g_d2l X dX4_bitsOfShare_61 ?_
      refine g_ladd X dX4_bitsOfShare_62 ?_
      exact g_lret X hr hlk dX4_bitsOfShare_63 ⟨by unfold bitsI; rw [if_pos c_3, hf]; rfl, rfl⟩
    · obtain ⟨r, rfl⟩ : ∃ r2, r = r2 + 1 := ⟨r - 1, by omega⟩
      refine g_dload_n X dX4_bitsOfShare_25 rfl rfl ?_
      refine g_dconst1 X dX4_bitsOfShare_26 ?_
      refine g_dcmp X dX4_bitsOfShare_27 ?_
      refine g_if_ge (tgt := 49) X dX4_bitsOfShare_28 (by decide) (fun c_28 => ?_) (fun c_28 => ?_)
      · have hf : bsI 60 u 1023 = (f, z) := by rw [hbs]; first | (have q9 := c_28; simp only [bsI, if_pos q9]; done) | (have e : r = 0 := (by omega); subst e; rfl)
        have hd1 := hu.2.1
        have hd2 := hu.2.2
        rw [hf] at hd1 hd2
        refine g_lload X dX4_bitsOfShare_49 rfl ?_
        refine g_bipush (v := nI 52) X dX4_bitsOfShare_51 (by decide) ?_
        refine g_lshl X dX4_bitsOfShare_53 rfl ?_
        refine g_dload_n X dX4_bitsOfShare_54 rfl rfl ?_
        refine g_dconst1 X dX4_bitsOfShare_55 ?_
        refine g_dsub X dX4_bitsOfShare_56 hd1 ?_
        refine g_ldc2d (v := 4841369599423283200) X (by decide +kernel) dX4_bitsOfShare_57 ?_
        refine g_dmul X dX4_bitsOfShare_60 hd2 ?_
        refine g_d2l X dX4_bitsOfShare_61 ?_
        refine g_ladd X dX4_bitsOfShare_62 ?_
        exact g_lret X hr hlk dX4_bitsOfShare_63 ⟨by unfold bitsI; rw [if_pos c_3, hf]; rfl, rfl⟩
      · replace hok := hok.resolve_left c_28
        refine g_dload_n X dX4_bitsOfShare_31 rfl rfl ?_
        refine g_ldc2d (v := 4611686018427387904) X (by decide +kernel) dX4_bitsOfShare_32 ?_
        refine g_dmul X dX4_bitsOfShare_35 hok.1 ?_
        refine g_dstore_n2 X dX4_bitsOfShare_36 rfl (by decide) rfl ?_
        refine g_lload X dX4_bitsOfShare_37 rfl ?_
        refine g_lconst (v := 1) X dX4_bitsOfShare_39 (by decide) ?_
        refine g_lsub X dX4_bitsOfShare_40 ?_
        refine g_lstore_s4 X dX4_bitsOfShare_41 (by decide) rfl ?_
        refine g_iincN6 (d := 1) X dX4_bitsOfShare_43 (by decide) rfl ?_
        refine g_goto (tgt := 18) X dX4_bitsOfShare_46 (by decide) ?_
        exact ih r (by omega) _ _ ⟨i + 1, FP.dmul f bTwo, z - 1, by omega, rfl, rfl, by rw [hbs]; simp only [bsI, if_neg c_28], hok.2⟩
  · refine g_lconst (v := 0) X dX4_bitsOfShare_6 (by decide) ?_
    exact g_lret X hr hlk dX4_bitsOfShare_7 ⟨by unfold bitsI; rw [if_neg c_3], rfl⟩
