/-! THE REFERENCE: pure words over its row z -/
def sM (σ : gS) (f : Nat) (x : Int32) : gS := sA σ 23 (upd (σ.1 23) f x)
theorem add_0n (x : Int32) : nI 0 + x = x := Int32.zero_add x
def inB (x a b : Int32) : Bool := decide (a ≤ x) && decide (x ≤ b)
theorem inB_1 {x a b : Int32} (h1 : ¬ x < a) (h2 : ¬ b < x) : inB x a b = true := by
  unfold inB
  rw [decide_eq_true (Int32.not_lt.mp h1), decide_eq_true (Int32.not_lt.mp h2)]; rfl
theorem inB_0 {x a b : Int32} (h : x < a) : inB x a b = false := by
  unfold inB
  rw [decide_eq_false (Int32.not_le.mpr h)]; rfl
theorem inB_2 {x a b : Int32} (h : b < x) : inB x a b = false := by
  unfold inB
  rw [decide_eq_false (p := x ≤ b) (Int32.not_le.mpr h), Bool.and_false]
def lfZ (z : Nat → Int32) (b : Nat) : Int32 := z (121 + 31 * b + 1) - z (121 + 31 * b + 6) - z (121 + 31 * b + 8)
def lmZ (z : Nat → Int32) (b L : Nat) : Int32 := sumI (fun i => z (121 + 31 * b + 15 + 4 * i + 2)) L
def SZ (z : Nat → Int32) (N : Nat) (L : Nat → Nat) : Prop := z 0 = nI N ∧ N ≤ 10 ∧ ∀ b, b < 10 → z (121 + 31 * b + 3) = nI (L b) ∧ L b ≤ 4
def boZ (z : Nat → Int32) (N : Nat) (L : Nat → Nat) (q : Int32) : Int32 := sumI (fun b => sumI (fun i => if z (121 + 31 * b + 15 + 4 * i) = q then z (121 + 31 * b + 15 + 4 * i + 2) else nI 0) (L b)) N
def spZ (z : Nat → Int32) (N : Nat) (L : Nat → Nat) (q : Nat) : Int32 := if z (9 + q) - boZ z N L (nI q) * z 7 / nI 100 < 0 then nI 0 else z (9 + q) - boZ z N L (nI q) * z 7 / nI 100
def trI (z : Nat → Int32) (b : Nat) : Nat → Int32 → (Nat → Int32)
  | 0, _ => z
  | i + 1, ov => if ov ≤ 0 then z else trI (upd z (121 + 31 * b + 15 + 4 * i + 2) (z (121 + 31 * b + 15 + 4 * i + 2) - mn (z (121 + 31 * b + 15 + 4 * i + 2)) ov)) b i (ov - mn (z (121 + 31 * b + 15 + 4 * i + 2)) ov)
def trZ (z : Nat → Int32) (b L : Nat) : Nat → Int32 := trI z b L (lmZ z b L - lfZ z b)
/-- a chain that comes to its end -/
def chOK (z : Nat → Int32) : Nat → Int32 → Prop
  | 0, x => x = -1
  | f + 1, x => x = -1 ∨ ∃ y : Nat, y < 8 ∧ x = nI y ∧ chOK z f (z (17 + y))
def chN (z : Nat → Int32) : Nat → Int32 → Nat
  | 0, _ => 0
  | f + 1, x => if x = -1 then 0 else chN z f (z (17 + x.toNatClampNeg)) + 1
def inZ (z : Nat → Int32) (q : Int32) : Nat → Int32 → Bool → Bool
  | 0, _, is => is
  | f + 1, x, is => if x = -1 then is else inZ z q f (z (17 + x.toNatClampNeg)) (is || decide (x = q))
def maB (k x : Int32) : Bool := if k = 0 then inB x (nI 0) (nI 9) else if k = nI 1 then inB x (nI 0) (nI 100) else inB x (nI 1) (nI 9)
def ruB (z : Nat → Int32) (b : Nat) : Bool := decide (z (121 + 31 * b + 9) = nI 1)
def cp431 (f g : Nat → Int32) (i : Nat) : Nat → Int32 := fun k => if k < i then f k else g k
theorem cp_0 (f g : Nat → Int32) : cp431 f g 0 = g := by
  funext k
  unfold cp431
  rw [if_neg (by omega)]
theorem cp_s (f g : Nat → Int32) (i : Nat) : upd (cp431 f g i) i (f i) = cp431 f g (i + 1) := by
  funext k
  unfold cp431 upd
  by_cases h : k = i
  · subst h; rw [if_pos rfl, if_pos (by omega)]
  · rw [if_neg h]
    dsimp only
    by_cases h2 : k < i
    · rw [if_pos h2, if_pos (by omega)]
    · rw [if_neg h2, if_neg (by omega)]

set_option maxRecDepth 20000 in
theorem k_X5_in (l : Launch) (γ : gG) (σ : gS) (x a b : Int32) : gM l γ yX5_in wsX5_in ({ frames := 0, cells := 0, slots := 0, locals := 0 } : Room) [.int x, .int a, .int b] σ (gis (some (.int (bI (inB x a b)))) σ) 0 0 := by
  refine g_enter (own := RX5) (cc := cX5_in) (nL := 3) (ret := (some .boolean)) [some (.int x), some (.int a), some (.int b)] (by decide) rfl rfl (by simp [lg_sl, Value.category]) (by simp [gl_le, glE, Value.category]) (fun hj p e s m args below meth c X hr hlk hnm => ?_)
  refine g_iload_n X dX5_in_0 rfl rfl ?_
  refine g_iload_n X dX5_in_1 rfl rfl ?_
  refine g_icmp_lt (tgt := 14) X dX5_in_2 (by decide) (fun c_2 => ?_) (fun c_2 => ?_)
  · refine g_iconstN X 0 dX5_in_14 ?_
    exact g_zret X hr hlk rfl dX5_in_15 ⟨by first | (rw [inB_1 c_2 c_7]; done) | (rw [inB_1 c_2 c_7]; rfl) | (rw [inB_2 c_7]; rfl) | (rw [inB_0 c_2]; rfl), rfl⟩
  · refine g_iload_n X dX5_in_5 rfl rfl ?_
    refine g_iload_n X dX5_in_6 rfl rfl ?_
    refine g_icmp_gt (tgt := 14) X dX5_in_7 (by decide) (fun c_7 => ?_) (fun c_7 => ?_)
    · refine g_iconstN X 0 dX5_in_14 ?_
      exact g_zret X hr hlk rfl dX5_in_15 ⟨by first | (rw [inB_1 c_2 c_7]; done) | (rw [inB_1 c_2 c_7]; rfl) | (rw [inB_2 c_7]; rfl) | (rw [inB_0 c_2]; rfl), rfl⟩
    · refine g_iconstN X 1 dX5_in_10 ?_
      refine g_goto (tgt := 15) X dX5_in_11 (by decide) ?_
      exact g_zret X hr hlk rfl dX5_in_15 ⟨by first | (rw [inB_1 c_2 c_7]; done) | (rw [inB_1 c_2 c_7]; rfl) | (rw [inB_2 c_7]; rfl) | (rw [inB_0 c_2]; rfl), rfl⟩
set_option maxRecDepth 20000 in
theorem k_X5_least (l : Launch) (γ : gG) (σ : gS) (a b : Int32) : gM l γ yX5_least wsX5_least ({ frames := 0, cells := 0, slots := 0, locals := 0 } : Room) [.int a, .int b] σ (gis (some (.int (mn b a))) σ) 0 0 := by
  refine g_enter (own := RX5) (cc := cX5_least) (nL := 2) (ret := (some .int)) [some (.int a), some (.int b)] (by decide) rfl rfl (by simp [lg_sl, Value.category]) (by simp [gl_le, glE, Value.category]) (fun hj p e s m args below meth c X hr hlk hnm => ?_)
  refine g_iload_n X dX5_least_0 rfl rfl ?_
  refine g_iload_n X dX5_least_1 rfl rfl ?_
  refine g_icmp_ge (tgt := 9) X dX5_least_2 (by decide) (fun c_2 => ?_) (fun c_2 => ?_)
  · refine g_iload_n X dX5_least_9 rfl rfl ?_
    exact g_iret X hr hlk dX5_least_10 ⟨by unfold mn; first | (rw [if_neg (Int32.not_lt.mpr c_2)]; done) | (rw [if_pos (Int32.not_le.mp c_2)]; done), rfl⟩
  · refine g_iload_n X dX5_least_5 rfl rfl ?_
    refine g_goto (tgt := 10) X dX5_least_6 (by decide) ?_
    exact g_iret X hr hlk dX5_least_10 ⟨by unfold mn; first | (rw [if_neg (Int32.not_lt.mpr c_2)]; done) | (rw [if_pos (Int32.not_le.mp c_2)]; done), rfl⟩
set_option maxRecDepth 20000 in
theorem k_X5_thrown (l : Launch) (γ : gG) (σ : gS) : gM l γ yX5_thrown wsX5_thrown ({ frames := 0, cells := 0, slots := 0, locals := 0 } : Room) [.ref (ad γ 23)] σ (gis (some (.int (σ.1 23 6))) σ) 0 0 := by
  refine g_enter (own := RX5) (cc := cX5_thrown) (nL := 1) (ret := (some .int)) [some (.ref (ad γ 23))] (by decide) rfl rfl (by simp [lg_sl, Value.category]) (by simp [gl_le, glE, Value.category]) (fun hj p e s m args below meth c X hr hlk hnm => ?_)
  have hi5 : ∀ w ∈ wsX50, w ∈ wsX5_thrown := by decide +kernel
  refine g_aload_n X dX5_thrown_0 rfl rfl ?_
  refine g_get_23_6 X hi5 (by decide +kernel) dX5_thrown_1 ?_
  exact g_iret X hr hlk dX5_thrown_4 ⟨rfl, rfl⟩
set_option maxRecDepth 20000 in
theorem k_X5_fails (l : Launch) (γ : gG) (σ : gS) (x : Int32) : gM l γ yX5_fails wsX5_fails ({ frames := 0, cells := 0, slots := 0, locals := 0 } : Room) [.ref (ad γ 23), .int x] σ (gis (some (.int (nI 0))) (sM σ 6 x)) 0 0 := by
  refine g_enter (own := RX5) (cc := cX5_fails) (nL := 2) (ret := (some .int)) [some (.ref (ad γ 23)), some (.int x)] (by decide) rfl rfl (by simp [lg_sl, Value.category]) (by simp [gl_le, glE, Value.category]) (fun hj p e s m args below meth c X hr hlk hnm => ?_)
  have hi5 : ∀ w ∈ wsX50, w ∈ wsX5_fails := by decide +kernel
  refine g_aload_n X dX5_fails_0 rfl rfl ?_
  refine g_iload_n X dX5_fails_1 rfl rfl ?_
  refine g_put_23_6 X hi5 (by decide +kernel) dX5_fails_2 ?_
  refine g_iconstN X 0 dX5_fails_5 ?_
  exact g_iret X hr hlk dX5_fails_6 ⟨rfl, rfl⟩
set_option maxRecDepth 20000 in
theorem k_X5_isPerson (l : Launch) (γ : gG) (σ : gS) (x : Int32) : gM l γ yX5_isPerson wsX5_isPerson ({ frames := 1, cells := 0, slots := 0, locals := 22 } : Room) [.int x] σ (gis (some (.int (bI (inB x (nI 0) (nI 7))))) σ) 0 0 := by
  refine g_enter (own := RX5) (cc := cX5_isPerson) (nL := 1) (ret := (some .boolean)) [some (.int x)] (by decide) rfl rfl (by simp [lg_sl, Value.category]) (by simp [gl_le, glE, Value.category]) (fun hj p e s m args below meth c X hr hlk hnm => ?_)
  refine g_iload_n X dX5_isPerson_0 rfl rfl ?_
  refine g_iconstN X 0 dX5_isPerson_1 ?_
  refine g_bipush (v := nI 7) X dX5_isPerson_2 (by decide) ?_
  refine g_callSi (na := 3) X hj (k_X5_in l γ _ _ _ _) gX5_isPerson_X5_in rfl ⟨rfl, rfl⟩ (by decide +kernel) rfl ⟨by decide, by decide⟩ rfl (Nat.le_of_ble_eq_true rfl) dX5_isPerson_4 ⟨by decide, by decide⟩ ?_
  exact g_zret X hr hlk (bI_n _) dX5_isPerson_7 ⟨rfl, rfl⟩
set_option maxRecDepth 20000 in
theorem k_X5_isMoney (l : Launch) (γ : gG) (σ : gS) (x : Int32) : gM l γ yX5_isMoney wsX5_isMoney ({ frames := 1, cells := 0, slots := 0, locals := 22 } : Room) [.int x] σ (gis (some (.int (bI (inB x (nI 1) (nI 99999))))) σ) 0 0 := by
  refine g_enter (own := RX5) (cc := cX5_isMoney) (nL := 1) (ret := (some .boolean)) [some (.int x)] (by decide) rfl rfl (by simp [lg_sl, Value.category]) (by simp [gl_le, glE, Value.category]) (fun hj p e s m args below meth c X hr hlk hnm => ?_)
  refine g_iload_n X dX5_isMoney_0 rfl rfl ?_
  refine g_iconstN X 1 dX5_isMoney_1 ?_
  refine g_ldc (v := nI 99999) X (show Cond.constant RX5 39 99999 ∈ _ by decide +kernel) dX5_isMoney_2 ?_
  refine g_callSi (na := 3) X hj (k_X5_in l γ _ _ _ _) gX5_isMoney_X5_in rfl ⟨rfl, rfl⟩ (by decide +kernel) rfl ⟨by decide, by decide⟩ rfl (Nat.le_of_ble_eq_true rfl) dX5_isMoney_4 ⟨by decide, by decide⟩ ?_
  exact g_zret X hr hlk (bI_n _) dX5_isMoney_7 ⟨rfl, rfl⟩
set_option maxRecDepth 20000 in
theorem k_X5_isBond (l : Launch) (γ : gG) (σ : gS) (x : Int32) : gM l γ yX5_isBond wsX5_isBond ({ frames := 1, cells := 0, slots := 0, locals := 22 } : Room) [.ref (ad γ 23), .int x] σ (gis (some (.int (bI (inB x (nI 0) (σ.1 24 0 - nI 1))))) σ) 0 0 := by
  refine g_enter (own := RX5) (cc := cX5_isBond) (nL := 2) (ret := (some .boolean)) [some (.ref (ad γ 23)), some (.int x)] (by decide) rfl rfl (by simp [lg_sl, Value.category]) (by simp [gl_le, glE, Value.category]) (fun hj p e s m args below meth c X hr hlk hnm => ?_)
  have hi5 : ∀ w ∈ wsX50, w ∈ wsX5_isBond := by decide +kernel
  refine g_iload_n X dX5_isBond_0 rfl rfl ?_
  refine g_iconstN X 0 dX5_isBond_1 ?_
  refine g_aload_n X dX5_isBond_2 rfl rfl ?_
  refine g_get_23_0 X hi5 (by decide +kernel) dX5_isBond_3 ?_
  refine g_iconstN X 0 dX5_isBond_6 ?_
  refine g_ald_24 X rfl (by omega) dX5_isBond_7 ?_
  refine g_iconstN X 1 dX5_isBond_8 ?_
  refine g_isub X dX5_isBond_9 ?_
  refine g_callSi (na := 3) X hj (k_X5_in l γ _ _ _ _) gX5_isBond_X5_in rfl ⟨rfl, rfl⟩ (by decide +kernel) rfl ⟨by decide, by decide⟩ rfl (Nat.le_of_ble_eq_true rfl) dX5_isBond_10 ⟨by decide, by decide⟩ ?_
  exact g_zret X hr hlk (bI_n _) dX5_isBond_13 ⟨rfl, rfl⟩
set_option maxRecDepth 20000 in
theorem k_X5_at (l : Launch) (γ : gG) (σ : gS) (b : Nat) : gM l γ yX5_at wsX5_at ({ frames := 0, cells := 0, slots := 0, locals := 0 } : Room) [.int (nI b)] σ (gis (some (.int (nI (121 + 31 * b)))) σ) 0 0 := by
  refine g_enter (own := RX5) (cc := cX5_at) (nL := 1) (ret := (some .int)) [some (.int (nI b))] (by decide) rfl rfl (by simp [lg_sl, Value.category]) (by simp [gl_le, glE, Value.category]) (fun hj p e s m args below meth c X hr hlk hnm => ?_)
  refine g_bipush (v := nI 121) X dX5_at_0 (by decide) ?_
  refine g_bipush (v := nI 31) X dX5_at_2 (by decide) ?_
  refine g_iload_n X dX5_at_4 rfl rfl ?_
  refine g_imulN X dX5_at_5 ?_
  refine g_iaddN X dX5_at_6 ?_
  exact g_iret X hr hlk dX5_at_7 ⟨rfl, rfl⟩
set_option maxRecDepth 20000 in
theorem k_X5_layerAt (l : Launch) (γ : gG) (σ : gS) (b i : Nat) : gM l γ yX5_layerAt wsX5_layerAt ({ frames := 1, cells := 0, slots := 0, locals := 20 } : Room) [.int (nI b), .int (nI i)] σ (gis (some (.int (nI (121 + 31 * b + 15 + 4 * i)))) σ) 0 0 := by
  refine g_enter (own := RX5) (cc := cX5_layerAt) (nL := 2) (ret := (some .int)) [some (.int (nI b)), some (.int (nI i))] (by decide) rfl rfl (by simp [lg_sl, Value.category]) (by simp [gl_le, glE, Value.category]) (fun hj p e s m args below meth c X hr hlk hnm => ?_)
  refine g_iload_n X dX5_layerAt_0 rfl rfl ?_
  refine g_callSi (na := 1) X hj (k_X5_at l γ _ _) gX5_layerAt_X5_at rfl ⟨rfl, rfl⟩ (by decide +kernel) rfl ⟨by decide, by decide⟩ rfl (Nat.le_of_ble_eq_true rfl) dX5_layerAt_1 ⟨by decide, by decide⟩ ?_
  refine g_bipush (v := nI 15) X dX5_layerAt_4 (by decide) ?_
  refine g_iaddN X dX5_layerAt_6 ?_
  refine g_iconstN X 4 dX5_layerAt_7 ?_
  refine g_iload_n X dX5_layerAt_8 rfl rfl ?_
  refine g_imulN X dX5_layerAt_9 ?_
  refine g_iaddN X dX5_layerAt_10 ?_
  exact g_iret X hr hlk dX5_layerAt_11 ⟨rfl, rfl⟩
set_option maxRecDepth 20000 in
theorem k_X5_debtAt (l : Launch) (γ : gG) (σ : gS) (q o : Nat) : gM l γ yX5_debtAt wsX5_debtAt ({ frames := 0, cells := 0, slots := 0, locals := 0 } : Room) [.int (nI q), .int (nI o)] σ (gis (some (.int (nI (57 + 8 * q + o)))) σ) 0 0 := by
  refine g_enter (own := RX5) (cc := cX5_debtAt) (nL := 2) (ret := (some .int)) [some (.int (nI q)), some (.int (nI o))] (by decide) rfl rfl (by simp [lg_sl, Value.category]) (by simp [gl_le, glE, Value.category]) (fun hj p e s m args below meth c X hr hlk hnm => ?_)
  refine g_bipush (v := nI 57) X dX5_debtAt_0 (by decide) ?_
  refine g_bipush (v := nI 8) X dX5_debtAt_2 (by decide) ?_
  refine g_iload_n X dX5_debtAt_4 rfl rfl ?_
  refine g_imulN X dX5_debtAt_5 ?_
  refine g_iaddN X dX5_debtAt_6 ?_
  refine g_iload_n X dX5_debtAt_7 rfl rfl ?_
  refine g_iaddN X dX5_debtAt_8 ?_
  exact g_iret X hr hlk dX5_debtAt_9 ⟨rfl, rfl⟩
set_option maxRecDepth 20000 in
theorem k_X5_runs (l : Launch) (γ : gG) (σ : gS) (b : Nat) (hb : b < 10) : gM l γ yX5_runs wsX5_runs ({ frames := 1, cells := 0, slots := 0, locals := 20 } : Room) [.ref (ad γ 23), .int (nI b)] σ (gis (some (.int (bI (ruB (σ.1 24) b)))) σ) 0 0 := by
  refine g_enter (own := RX5) (cc := cX5_runs) (nL := 2) (ret := (some .boolean)) [some (.ref (ad γ 23)), some (.int (nI b))] (by decide) rfl rfl (by simp [lg_sl, Value.category]) (by simp [gl_le, glE, Value.category]) (fun hj p e s m args below meth c X hr hlk hnm => ?_)
  have hi5 : ∀ w ∈ wsX50, w ∈ wsX5_runs := by decide +kernel
  refine g_aload_n X dX5_runs_0 rfl rfl ?_
  refine g_get_23_0 X hi5 (by decide +kernel) dX5_runs_1 ?_
  refine g_iload_n X dX5_runs_4 rfl rfl ?_
  refine g_callSi (na := 1) X hj (k_X5_at l γ _ _) gX5_runs_X5_at rfl ⟨rfl, rfl⟩ (by decide +kernel) rfl ⟨by decide, by decide⟩ rfl (Nat.le_of_ble_eq_true rfl) dX5_runs_5 ⟨by decide, by decide⟩ ?_
  refine g_bipush (v := nI 9) X dX5_runs_8 (by decide) ?_
  refine g_iaddN X dX5_runs_10 ?_
  refine g_ald_24 X rfl (by omega) dX5_runs_11 ?_
  refine g_iconstN X 1 dX5_runs_12 ?_
  refine g_icmp_ne (tgt := 20) X dX5_runs_13 (by decide) (fun c_13 => ?_) (fun c_13 => ?_)
  · refine g_iconstN X 0 dX5_runs_20 ?_
    exact g_zret X hr hlk rfl dX5_runs_21 ⟨by unfold ruB; first | (rw [decide_eq_true c_13]; rfl) | (rw [decide_eq_false c_13]; rfl), rfl⟩
  · refine g_iconstN X 1 dX5_runs_16 ?_
    refine g_goto (tgt := 21) X dX5_runs_17 (by decide) ?_
    exact g_zret X hr hlk rfl dX5_runs_21 ⟨by unfold ruB; first | (rw [decide_eq_true c_13]; rfl) | (rw [decide_eq_false c_13]; rfl), rfl⟩
set_option maxRecDepth 20000 in
theorem k_X5_leftOf (l : Launch) (γ : gG) (σ : gS) (b : Nat) (hb : b < 10) : gM l γ yX5_leftOf wsX5_leftOf ({ frames := 1, cells := 0, slots := 0, locals := 20 } : Room) [.ref (ad γ 23), .int (nI b)] σ (gis (some (.int (lfZ (σ.1 24) b))) σ) 0 0 := by
  refine g_enter (own := RX5) (cc := cX5_leftOf) (nL := 2) (ret := (some .int)) [some (.ref (ad γ 23)), some (.int (nI b))] (by decide) rfl rfl (by simp [lg_sl, Value.category]) (by simp [gl_le, glE, Value.category]) (fun hj p e s m args below meth c X hr hlk hnm => ?_)
  have hi5 : ∀ w ∈ wsX50, w ∈ wsX5_leftOf := by decide +kernel
  refine g_aload_n X dX5_leftOf_0 rfl rfl ?_
  refine g_get_23_0 X hi5 (by decide +kernel) dX5_leftOf_1 ?_
  refine g_iload_n X dX5_leftOf_4 rfl rfl ?_
  refine g_callSi (na := 1) X hj (k_X5_at l γ _ _) gX5_leftOf_X5_at rfl ⟨rfl, rfl⟩ (by decide +kernel) rfl ⟨by decide, by decide⟩ rfl (Nat.le_of_ble_eq_true rfl) dX5_leftOf_5 ⟨by decide, by decide⟩ ?_
  refine g_iconstN X 1 dX5_leftOf_8 ?_
  refine g_iaddN X dX5_leftOf_9 ?_
  refine g_ald_24 X rfl (by omega) dX5_leftOf_10 ?_
  refine g_aload_n X dX5_leftOf_11 rfl rfl ?_
  refine g_get_23_0 X hi5 (by decide +kernel) dX5_leftOf_12 ?_
  refine g_iload_n X dX5_leftOf_15 rfl rfl ?_
  refine g_callSi (na := 1) X hj (k_X5_at l γ _ _) gX5_leftOf_X5_at rfl ⟨rfl, rfl⟩ (by decide +kernel) rfl ⟨by decide, by decide⟩ rfl (Nat.le_of_ble_eq_true rfl) dX5_leftOf_16 ⟨by decide, by decide⟩ ?_
  refine g_bipush (v := nI 6) X dX5_leftOf_19 (by decide) ?_
  refine g_iaddN X dX5_leftOf_21 ?_
  refine g_ald_24 X rfl (by omega) dX5_leftOf_22 ?_
  refine g_isub X dX5_leftOf_23 ?_
  refine g_aload_n X dX5_leftOf_24 rfl rfl ?_
  refine g_get_23_0 X hi5 (by decide +kernel) dX5_leftOf_25 ?_
  refine g_iload_n X dX5_leftOf_28 rfl rfl ?_
  refine g_callSi (na := 1) X hj (k_X5_at l γ _ _) gX5_leftOf_X5_at rfl ⟨rfl, rfl⟩ (by decide +kernel) rfl ⟨by decide, by decide⟩ rfl (Nat.le_of_ble_eq_true rfl) dX5_leftOf_29 ⟨by decide, by decide⟩ ?_
  refine g_bipush (v := nI 8) X dX5_leftOf_32 (by decide) ?_
  refine g_iaddN X dX5_leftOf_34 ?_
  refine g_ald_24 X rfl (by omega) dX5_leftOf_35 ?_
  refine g_isub X dX5_leftOf_36 ?_
  exact g_iret X hr hlk dX5_leftOf_37 ⟨rfl, rfl⟩
set_option maxRecDepth 20000 in
theorem k_X5_limitsOf (l : Launch) (γ : gG) (σ : gS) (b L : Nat) (hb : b < 10) (hL : σ.1 24 (121 + 31 * b + 3) = nI L) (hL4 : L ≤ 4) : gM l γ yX5_limitsOf wsX5_limitsOf ({ frames := 2, cells := 0, slots := 0, locals := 41 } : Room) [.ref (ad γ 23), .int (nI b)] σ (gis (some (.int (lmZ (σ.1 24) b L))) σ) 0 0 := by
  refine g_enter (own := RX5) (cc := cX5_limitsOf) (nL := 4) (ret := (some .int)) [some (.ref (ad γ 23)), some (.int (nI b)), none, none] (by decide) rfl rfl (by simp [lg_sl, Value.category]) (by simp [gl_le, glE, Value.category]) (fun hj p e s m args below meth c X hr hlk hnm => ?_)
  have hi5 : ∀ w ∈ wsX50, w ∈ wsX5_limitsOf := by decide +kernel
  refine g_iconstN X 0 dX5_limitsOf_0 ?_
  refine g_istore_n2 X dX5_limitsOf_1 rfl (by decide) rfl ?_
  refine g_iconstN X 0 dX5_limitsOf_2 ?_
  refine g_istore_n3 X dX5_limitsOf_3 rfl (by decide) rfl ?_
  refine g_up (i0 := 0) (N := L) (fun i => [some (.ref (ad γ 23)), some (.int (nI b)), some (.int (sumI (fun i => σ.1 24 (121 + 31 * b + 15 + 4 * i + 2)) i)), some (.int (nI i))]) (fun i => σ) (by simp [gl_le, sumI]) rfl (by omega) (fun i hi ih4 => ?_)
  refine g_iload_n X dX5_limitsOf_4 rfl rfl ?_
  refine g_aload_n X dX5_limitsOf_5 rfl rfl ?_
  refine g_get_23_0 X hi5 (by decide +kernel) dX5_limitsOf_6 ?_
  refine g_iload_n X dX5_limitsOf_9 rfl rfl ?_
  refine g_callSi (na := 1) X hj (k_X5_at l γ _ _) gX5_limitsOf_X5_at rfl ⟨rfl, rfl⟩ (by decide +kernel) rfl ⟨by decide, by decide⟩ rfl (Nat.le_of_ble_eq_true rfl) dX5_limitsOf_10 ⟨by decide, by decide⟩ ?_
  refine g_iconstN X 3 dX5_limitsOf_13 ?_
  refine g_iaddN X dX5_limitsOf_14 ?_
  refine g_ald_24 X rfl (by omega) dX5_limitsOf_15 ?_
  refine g_top hL ?_
  refine g_icmpN_ge (tgt := 40) X dX5_limitsOf_16 (by decide) (by omega) (by omega) (fun c_16 => ?_) (fun c_16 => ?_)
  · refine g_iload_n X dX5_limitsOf_40 rfl rfl ?_
    exact g_iret X hr hlk dX5_limitsOf_41 (by have hiL : i = L := (by omega); subst hiL; exact ⟨rfl, rfl⟩)
  · refine g_iload_n X dX5_limitsOf_19 rfl rfl ?_
    refine g_aload_n X dX5_limitsOf_20 rfl rfl ?_
    refine g_get_23_0 X hi5 (by decide +kernel) dX5_limitsOf_21 ?_
    refine g_iload_n X dX5_limitsOf_24 rfl rfl ?_
    refine g_iload_n X dX5_limitsOf_25 rfl rfl ?_
    refine g_callSi (na := 2) X hj (k_X5_layerAt l γ _ _ _) gX5_limitsOf_X5_layerAt rfl ⟨rfl, rfl⟩ (by decide +kernel) rfl ⟨by decide, by decide⟩ rfl (Nat.le_of_ble_eq_true rfl) dX5_limitsOf_26 ⟨by decide, by decide⟩ ?_
    refine g_iconstN X 2 dX5_limitsOf_29 ?_
    refine g_iaddN X dX5_limitsOf_30 ?_
    refine g_ald_24 X rfl (by omega) dX5_limitsOf_31 ?_
    refine g_iadd X dX5_limitsOf_32 ?_
    refine g_istore_n2 X dX5_limitsOf_33 rfl (by decide) rfl ?_
    refine g_iincN3 (d := 1) X dX5_limitsOf_34 (by decide) rfl ?_
    refine g_goto (tgt := 4) X dX5_limitsOf_37 (by decide) ?_
    exact g_le (by simp [gl_le, sumI]) (ih4 (by omega))
set_option maxRecDepth 20000 in
theorem k_X5_trim (l : Launch) (γ : gG) (σ : gS) (b L : Nat) (hb : b < 10) (hL : σ.1 24 (121 + 31 * b + 3) = nI L) (hL4 : L ≤ 4) : gM l γ yX5_trim wsX5_trim ({ frames := 3, cells := 0, slots := 0, locals := 64 } : Room) [.ref (ad γ 23), .int (nI b)] σ (gis none (sA σ 24 (trZ (σ.1 24) b L))) 0 0 := by
  refine g_enter (own := RX5) (cc := cX5_trim) (nL := 5) (ret := none) [some (.ref (ad γ 23)), some (.int (nI b)), none, none, none] (by decide) rfl rfl (by simp [lg_sl, Value.category]) (by simp [gl_le, glE, Value.category]) (fun hj p e s m args below meth c X hr hlk hnm => ?_)
  have hi5 : ∀ w ∈ wsX50, w ∈ wsX5_trim := by decide +kernel
  refine g_aload_n X dX5_trim_0 rfl rfl ?_
  refine g_iload_n X dX5_trim_1 rfl rfl ?_
  refine g_callVi (na := 1) X hj (k_X5_limitsOf l γ _ _ L (by omega) hL hL4) gW_23 rfl gX5_trim_X5_limitsOf rfl ⟨rfl, rfl⟩ (by decide +kernel) rfl ⟨by decide, by decide⟩ rfl (Nat.le_of_ble_eq_true rfl) dX5_trim_2 ⟨by decide, by decide⟩ ?_
  refine g_aload_n X dX5_trim_5 rfl rfl ?_
  refine g_iload_n X dX5_trim_6 rfl rfl ?_
  refine g_callVi (na := 1) X hj (k_X5_leftOf l γ _ _ (by omega)) gW_23 rfl gX5_trim_X5_leftOf rfl ⟨rfl, rfl⟩ (by decide +kernel) rfl ⟨by decide, by decide⟩ rfl (Nat.le_of_ble_eq_true rfl) dX5_trim_7 ⟨by decide, by decide⟩ ?_
  refine g_isub X dX5_trim_10 ?_
  refine g_istore_n2 X dX5_trim_11 rfl (by decide) rfl ?_
  refine g_aload_n X dX5_trim_12 rfl rfl ?_
  refine g_get_23_0 X hi5 (by decide +kernel) dX5_trim_13 ?_
  refine g_iload_n X dX5_trim_16 rfl rfl ?_
  refine g_callSi (na := 1) X hj (k_X5_at l γ _ _) gX5_trim_X5_at rfl ⟨rfl, rfl⟩ (by decide +kernel) rfl ⟨by decide, by decide⟩ rfl (Nat.le_of_ble_eq_true rfl) dX5_trim_17 ⟨by decide, by decide⟩ ?_
  refine g_iconstN X 3 dX5_trim_20 ?_
  refine g_iaddN X dX5_trim_21 ?_
  refine g_ald_24 X rfl (by omega) dX5_trim_22 ?_
  refine g_top hL ?_
  refine g_iconstN X 1 dX5_trim_23 ?_
  refine g_isub X dX5_trim_24 ?_
  refine g_top (y := prd L) (by cases L with | zero => rfl | succ j => exact nI_pred j) ?_
  refine g_istore_n3 X dX5_trim_25 rfl (by decide) rfl ?_
  refine g_wf (fun f ls σ2 => ∃ (v : Nat → Int32) (ex : Int32), σ2 = sA σ 24 v ∧ f ≤ 4 ∧ ls = [some (.ref (ad γ 23)), some (.int (nI b)), some (.int ex), some (.int (prd f)), none] ∧ trZ (σ.1 24) b L = trI v b f ex) L ⟨σ.1 24, _, (sA_self σ 24).symm, hL4, rfl, rfl⟩ (fun f ls2 σ2 hI ih => ?_)
  obtain ⟨v, ex, rfl, hf, rfl, htr⟩ := hI
  rcases f with _ | f
  · dsimp only [prd]
    refine g_iload_n X dX5_trim_26 rfl rfl ?_
    refine g_if_lt (tgt := 80) X dX5_trim_27 (by decide) (fun c_27 => ?_) (fun c_27 => absurd (by decide) c_27)
    exact g_vret X hr hlk dX5_trim_80 ⟨rfl, by rw [htr]; rfl⟩
  · dsimp only [prd]
    refine g_iload_n X dX5_trim_26 rfl rfl ?_
    refine g_if_lt (tgt := 80) X dX5_trim_27 (by decide) (fun c_27 => absurd c_27 (nI_pos (by omega))) (fun c_27 => ?_)
    refine g_iload_n X dX5_trim_30 rfl rfl ?_
    refine g_if_le (tgt := 80) X dX5_trim_31 (by decide) (fun c_31 => ?_) (fun c_31 => ?_)
    · exact g_vret X hr hlk dX5_trim_80 ⟨rfl, by rw [htr]; simp [trI, c_31]⟩
    · refine g_iload_n X dX5_trim_34 rfl rfl ?_
      refine g_aload_n X dX5_trim_35 rfl rfl ?_
      refine g_get_23_0 X hi5 (by decide +kernel) dX5_trim_36 ?_
      refine g_iload_n X dX5_trim_39 rfl rfl ?_
      refine g_iload_n X dX5_trim_40 rfl rfl ?_
      refine g_callSi (na := 2) X hj (k_X5_layerAt l γ _ _ _) gX5_trim_X5_layerAt rfl ⟨rfl, rfl⟩ (by decide +kernel) rfl ⟨by decide, by decide⟩ rfl (Nat.le_of_ble_eq_true rfl) dX5_trim_41 ⟨by decide, by decide⟩ ?_
      refine g_iconstN X 2 dX5_trim_44 ?_
      refine g_iaddN X dX5_trim_45 ?_
      refine g_ald_24 X rfl (by omega) dX5_trim_46 ?_
      rw [sA_eq]
      refine g_callSi (na := 2) X hj (k_X5_least l γ _ _ _) gX5_trim_X5_least rfl ⟨rfl, rfl⟩ (by decide +kernel) rfl ⟨by decide, by decide⟩ rfl (Nat.le_of_ble_eq_true rfl) dX5_trim_47 ⟨by decide, by decide⟩ ?_
      refine g_istore_s4 X dX5_trim_50 (by decide) rfl ?_
      refine g_aload_n X dX5_trim_52 rfl rfl ?_
      refine g_get_23_0 X hi5 (by decide +kernel) dX5_trim_53 ?_
      refine g_iload_n X dX5_trim_56 rfl rfl ?_
      refine g_iload_n X dX5_trim_57 rfl rfl ?_
      refine g_callSi (na := 2) X hj (k_X5_layerAt l γ _ _ _) gX5_trim_X5_layerAt rfl ⟨rfl, rfl⟩ (by decide +kernel) rfl ⟨by decide, by decide⟩ rfl (Nat.le_of_ble_eq_true rfl) dX5_trim_58 ⟨by decide, by decide⟩ ?_
      refine g_iconstN X 2 dX5_trim_61 ?_
      refine g_iaddN X dX5_trim_62 ?_
      refine g_dup2_11 X dX5_trim_63 rfl rfl ?_
      refine g_ald_24 X rfl (by omega) dX5_trim_64 ?_
      rw [sA_eq]
      refine g_iload X dX5_trim_65 rfl ?_
      refine g_isub X dX5_trim_67 ?_
      refine g_ast_24 X rfl (by omega) dX5_trim_68 ?_
      refine g_iload_n X dX5_trim_69 rfl rfl ?_
      refine g_iload X dX5_trim_70 rfl ?_
      refine g_isub X dX5_trim_72 ?_
      refine g_istore_n2 X dX5_trim_73 rfl (by decide) rfl ?_
      refine g_iinc3 X dX5_trim_74 (by decide) rfl ?_
      refine g_goto (tgt := 26) X dX5_trim_77 (by decide) ?_
      simp only [trI, if_neg c_31] at htr
      exact g_le (by simp [gl_le, prd_dec2]) (ih f (by omega) _ _ ⟨_, _, sA_sA _ _ _ _, by omega, rfl, htr⟩)
set_option maxRecDepth 20000 in
theorem k_X5_bound (l : Launch) (γ : gG) (σ : gS) (N : Nat) (L : Nat → Nat) (q : Int32) (hS : SZ (σ.1 24) N L) : gM l γ yX5_bound wsX5_bound ({ frames := 2, cells := 0, slots := 0, locals := 41 } : Room) [.ref (ad γ 23), .int q] σ (gis (some (.int (boZ (σ.1 24) N L q))) σ) 0 0 := by
  obtain ⟨hN, hN10, hL⟩ := hS
  refine g_enter (own := RX5) (cc := cX5_bound) (nL := 5) (ret := (some .int)) [some (.ref (ad γ 23)), some (.int q), none, none, none] (by decide) rfl rfl (by simp [lg_sl, Value.category]) (by simp [gl_le, glE, Value.category]) (fun hj p e s m args below meth c X hr hlk hnm => ?_)
  have hi5 : ∀ w ∈ wsX50, w ∈ wsX5_bound := by decide +kernel
  refine g_iconstN X 0 dX5_bound_0 ?_
  refine g_istore_n2 X dX5_bound_1 rfl (by decide) rfl ?_
  refine g_iconstN X 0 dX5_bound_2 ?_
  refine g_istore_n3 X dX5_bound_3 rfl (by decide) rfl ?_
  refine g_up (i0 := 0) (N := N) (fun b => [some (.ref (ad γ 23)), some (.int q), some (.int (sumI (fun b => sumI (fun i => if σ.1 24 (121 + 31 * b + 15 + 4 * i) = q then σ.1 24 (121 + 31 * b + 15 + 4 * i + 2) else nI 0) (L b)) b)), some (.int (nI b)), none]) (fun b => σ) (by simp [gl_le, sumI]) rfl (by omega) (fun b hb ih4 => ?_)
  refine g_iload_n X dX5_bound_4 rfl rfl ?_
  refine g_aload_n X dX5_bound_5 rfl rfl ?_
  refine g_get_23_0 X hi5 (by decide +kernel) dX5_bound_6 ?_
  refine g_iconstN X 0 dX5_bound_9 ?_
  refine g_ald_24 X rfl (by omega) dX5_bound_10 ?_
  refine g_top hN ?_
  refine g_icmpN_ge (tgt := 80) X dX5_bound_11 (by decide) (by omega) (by omega) (fun c_11 => ?_) (fun c_11 => ?_)
  · refine g_iload_n X dX5_bound_80 rfl rfl ?_
    exact g_iret X hr hlk dX5_bound_81 (by have e : b = N := (by omega); subst e; exact ⟨rfl, rfl⟩)
  · refine g_iconstN X 0 dX5_bound_14 ?_
    refine g_istore_s4 X dX5_bound_15 (by decide) rfl ?_
    refine g_up (i0 := 0) (N := (L b)) (fun i => [some (.ref (ad γ 23)), some (.int q), some (.int (sumI (fun b => sumI (fun i => if σ.1 24 (121 + 31 * b + 15 + 4 * i) = q then σ.1 24 (121 + 31 * b + 15 + 4 * i + 2) else nI 0) (L b)) b + sumI (fun i => if σ.1 24 (121 + 31 * b + 15 + 4 * i) = q then σ.1 24 (121 + 31 * b + 15 + 4 * i + 2) else nI 0) i)), some (.int (nI b)), some (.int (nI i))]) (fun i => σ) (by simp [gl_le, sumI, add_nI0]) rfl (by omega) (fun i hi ih17 => ?_)
    have hLb := (hL b (by omega)).2
    refine g_iload X dX5_bound_17 rfl ?_
    refine g_aload_n X dX5_bound_19 rfl rfl ?_
    refine g_get_23_0 X hi5 (by decide +kernel) dX5_bound_20 ?_
    refine g_iload_n X dX5_bound_23 rfl rfl ?_
    refine g_callSi (na := 1) X hj (k_X5_at l γ _ _) gX5_bound_X5_at rfl ⟨rfl, rfl⟩ (by decide +kernel) rfl ⟨by decide, by decide⟩ rfl (Nat.le_of_ble_eq_true rfl) dX5_bound_24 ⟨by decide, by decide⟩ ?_
    refine g_iconstN X 3 dX5_bound_27 ?_
    refine g_iaddN X dX5_bound_28 ?_
    refine g_ald_24 X rfl (by omega) dX5_bound_29 ?_
    refine g_top (hL b (by omega)).1 ?_
    refine g_icmpN_ge (tgt := 74) X dX5_bound_30 (by decide) (by omega) (by omega) (fun c_30 => ?_) (fun c_30 => ?_)
    · refine g_iincN3 (d := 1) X dX5_bound_74 (by decide) rfl ?_
      refine g_goto (tgt := 4) X dX5_bound_77 (by decide) ?_
      exact g_le (by have e : i = L b := (by omega); subst e; simp [gl_le, sumI]) (ih4 (by omega))
    · refine g_iload_n X dX5_bound_33 rfl rfl ?_
      refine g_aload_n X dX5_bound_34 rfl rfl ?_
      refine g_get_23_0 X hi5 (by decide +kernel) dX5_bound_35 ?_
      refine g_iload_n X dX5_bound_38 rfl rfl ?_
      refine g_iload X dX5_bound_39 rfl ?_
      refine g_callSi (na := 2) X hj (k_X5_layerAt l γ _ _ _) gX5_bound_X5_layerAt rfl ⟨rfl, rfl⟩ (by decide +kernel) rfl ⟨by decide, by decide⟩ rfl (Nat.le_of_ble_eq_true rfl) dX5_bound_41 ⟨by decide, by decide⟩ ?_
      refine g_ald_24 X rfl (by omega) dX5_bound_44 ?_
      refine g_iload_n X dX5_bound_45 rfl rfl ?_
      refine g_icmp_ne (tgt := 65) X dX5_bound_46 (by decide) (fun c_46 => ?_) (fun c_46 => ?_)
      · refine g_iconstN X 0 dX5_bound_65 ?_
        refine g_iadd X dX5_bound_66 ?_
        refine g_istore_n2 X dX5_bound_67 rfl (by decide) rfl ?_
        refine g_iincN4 (d := 1) X dX5_bound_68 (by decide) rfl ?_
        refine g_goto (tgt := 17) X dX5_bound_71 (by decide) ?_
        exact g_le (by simp [gl_le, sumI, c_46, add_nI0, Int32.add_assoc]) (ih17 (by omega))
      · refine g_aload_n X dX5_bound_49 rfl rfl ?_
        refine g_get_23_0 X hi5 (by decide +kernel) dX5_bound_50 ?_
        refine g_iload_n X dX5_bound_53 rfl rfl ?_
        refine g_iload X dX5_bound_54 rfl ?_
        refine g_callSi (na := 2) X hj (k_X5_layerAt l γ _ _ _) gX5_bound_X5_layerAt rfl ⟨rfl, rfl⟩ (by decide +kernel) rfl ⟨by decide, by decide⟩ rfl (Nat.le_of_ble_eq_true rfl) dX5_bound_56 ⟨by decide, by decide⟩ ?_
        refine g_iconstN X 2 dX5_bound_59 ?_
        refine g_iaddN X dX5_bound_60 ?_
        refine g_ald_24 X rfl (by omega) dX5_bound_61 ?_
        refine g_goto (tgt := 66) X dX5_bound_62 (by decide) ?_
        refine g_iadd X dX5_bound_66 ?_
        refine g_istore_n2 X dX5_bound_67 rfl (by decide) rfl ?_
        refine g_iincN4 (d := 1) X dX5_bound_68 (by decide) rfl ?_
        refine g_goto (tgt := 17) X dX5_bound_71 (by decide) ?_
        exact g_le (by simp [gl_le, sumI, c_46, add_nI0, Int32.add_assoc]) (ih17 (by omega))
set_option maxRecDepth 20000 in
theorem k_X5_spareOf (l : Launch) (γ : gG) (σ : gS) (N : Nat) (L : Nat → Nat) (q : Nat) (hS : SZ (σ.1 24) N L) (hq : q < 8) : gM l γ yX5_spareOf wsX5_spareOf ({ frames := 3, cells := 0, slots := 0, locals := 65 } : Room) [.ref (ad γ 23), .int (nI q)] σ (gis (some (.int (spZ (σ.1 24) N L q))) σ) 0 0 := by
  refine g_enter (own := RX5) (cc := cX5_spareOf) (nL := 3) (ret := (some .int)) [some (.ref (ad γ 23)), some (.int (nI q)), none] (by decide) rfl rfl (by simp [lg_sl, Value.category]) (by simp [gl_le, glE, Value.category]) (fun hj p e s m args below meth c X hr hlk hnm => ?_)
  have hi5 : ∀ w ∈ wsX50, w ∈ wsX5_spareOf := by decide +kernel
  refine g_aload_n X dX5_spareOf_0 rfl rfl ?_
  refine g_get_23_0 X hi5 (by decide +kernel) dX5_spareOf_1 ?_
  refine g_bipush (v := nI 9) X dX5_spareOf_4 (by decide) ?_
  refine g_iload_n X dX5_spareOf_6 rfl rfl ?_
  refine g_iaddN X dX5_spareOf_7 ?_
  refine g_ald_24 X rfl (by omega) dX5_spareOf_8 ?_
  refine g_aload_n X dX5_spareOf_9 rfl rfl ?_
  refine g_iload_n X dX5_spareOf_10 rfl rfl ?_
  refine g_callVi (na := 1) X hj (k_X5_bound l γ _ N L _ hS) gW_23 rfl gX5_spareOf_X5_bound rfl ⟨rfl, rfl⟩ (by decide +kernel) rfl ⟨by decide, by decide⟩ rfl (Nat.le_of_ble_eq_true rfl) dX5_spareOf_11 ⟨by decide, by decide⟩ ?_
  refine g_aload_n X dX5_spareOf_14 rfl rfl ?_
  refine g_get_23_0 X hi5 (by decide +kernel) dX5_spareOf_15 ?_
  refine g_bipush (v := nI 7) X dX5_spareOf_18 (by decide) ?_
  refine g_ald_24 X rfl (by omega) dX5_spareOf_20 ?_
  refine g_imul X dX5_spareOf_21 ?_
  refine g_bipush (v := nI 100) X dX5_spareOf_22 (by decide) ?_
  refine g_idiv X dX5_spareOf_24 (by decide) ?_
  refine g_isub X dX5_spareOf_25 ?_
  refine g_istore_n2 X dX5_spareOf_26 rfl (by decide) rfl ?_
  refine g_iload_n X dX5_spareOf_27 rfl rfl ?_
  refine g_if_ge (tgt := 35) X dX5_spareOf_28 (by decide) (fun c_28 => ?_) (fun c_28 => ?_)
  · refine g_iload_n X dX5_spareOf_35 rfl rfl ?_
    exact g_iret X hr hlk dX5_spareOf_36 ⟨by unfold spZ; first | (rw [if_neg (Int32.not_lt.mpr c_28)]; done) | (rw [if_pos (Int32.not_le.mp c_28)]; done), rfl⟩
  · refine g_iconstN X 0 dX5_spareOf_31 ?_
    refine g_goto (tgt := 36) X dX5_spareOf_32 (by decide) ?_
    exact g_iret X hr hlk dX5_spareOf_36 ⟨by unfold spZ; first | (rw [if_neg (Int32.not_lt.mpr c_28)]; done) | (rw [if_pos (Int32.not_le.mp c_28)]; done), rfl⟩
set_option maxRecDepth 20000 in
theorem k_X5_maySet (l : Launch) (γ : gG) (σ : gS) (k x : Int32) : gM l γ yX5_maySet wsX5_maySet ({ frames := 1, cells := 0, slots := 0, locals := 22 } : Room) [.int k, .int x] σ (gis (some (.int (bI (maB k x)))) σ) 0 0 := by
  refine g_enter (own := RX5) (cc := cX5_maySet) (nL := 2) (ret := (some .boolean)) [some (.int k), some (.int x)] (by decide) rfl rfl (by simp [lg_sl, Value.category]) (by simp [gl_le, glE, Value.category]) (fun hj p e s m args below meth c X hr hlk hnm => ?_)
  refine g_iload_n X dX5_maySet_0 rfl rfl ?_
  refine g_if_ne (tgt := 14) X dX5_maySet_1 (by decide) (fun c_1 => ?_) (fun c_1 => ?_)
  · refine g_iload_n X dX5_maySet_14 rfl rfl ?_
    refine g_iconstN X 1 dX5_maySet_15 ?_
    refine g_icmp_ne (tgt := 29) X dX5_maySet_16 (by decide) (fun c_16 => ?_) (fun c_16 => ?_)
    · refine g_iload_n X dX5_maySet_29 rfl rfl ?_
      refine g_iconstN X 1 dX5_maySet_30 ?_
      refine g_bipush (v := nI 9) X dX5_maySet_31 (by decide) ?_
      refine g_callSi (na := 3) X hj (k_X5_in l γ _ _ _ _) gX5_maySet_X5_in rfl ⟨rfl, rfl⟩ (by decide +kernel) rfl ⟨by decide, by decide⟩ rfl (Nat.le_of_ble_eq_true rfl) dX5_maySet_33 ⟨by decide, by decide⟩ ?_
      exact g_zret X hr hlk (bI_n _) dX5_maySet_36 ⟨by unfold maB; first | (rw [if_pos c_1]; done) | (rw [if_neg c_1, if_pos c_16]; done) | (rw [if_neg c_1, if_neg c_16]; done), rfl⟩
    · refine g_iload_n X dX5_maySet_19 rfl rfl ?_
      refine g_iconstN X 0 dX5_maySet_20 ?_
      refine g_bipush (v := nI 100) X dX5_maySet_21 (by decide) ?_
      refine g_callSi (na := 3) X hj (k_X5_in l γ _ _ _ _) gX5_maySet_X5_in rfl ⟨rfl, rfl⟩ (by decide +kernel) rfl ⟨by decide, by decide⟩ rfl (Nat.le_of_ble_eq_true rfl) dX5_maySet_23 ⟨by decide, by decide⟩ ?_
      refine g_goto (tgt := 36) X dX5_maySet_26 (by decide) ?_
      exact g_zret X hr hlk (bI_n _) dX5_maySet_36 ⟨by unfold maB; first | (rw [if_pos c_1]; done) | (rw [if_neg c_1, if_pos c_16]; done) | (rw [if_neg c_1, if_neg c_16]; done), rfl⟩
  · refine g_iload_n X dX5_maySet_4 rfl rfl ?_
    refine g_iconstN X 0 dX5_maySet_5 ?_
    refine g_bipush (v := nI 9) X dX5_maySet_6 (by decide) ?_
    refine g_callSi (na := 3) X hj (k_X5_in l γ _ _ _ _) gX5_maySet_X5_in rfl ⟨rfl, rfl⟩ (by decide +kernel) rfl ⟨by decide, by decide⟩ rfl (Nat.le_of_ble_eq_true rfl) dX5_maySet_8 ⟨by decide, by decide⟩ ?_
    refine g_goto (tgt := 36) X dX5_maySet_11 (by decide) ?_
    exact g_zret X hr hlk (bI_n _) dX5_maySet_36 ⟨by unfold maB; first | (rw [if_pos c_1]; done) | (rw [if_neg c_1, if_pos c_16]; done) | (rw [if_neg c_1, if_neg c_16]; done), rfl⟩
set_option maxRecDepth 20000 in
theorem k_X5_putAside (l : Launch) (γ : gG) (σ : gS) : gM l γ yX5_putAside wsX5_putAside ({ frames := 0, cells := 0, slots := 0, locals := 0 } : Room) [.ref (ad γ 23)] σ (gis none (sA σ 26 (cp431 (σ.1 24) (σ.1 26) 431))) 0 0 := by
  refine g_enter (own := RX5) (cc := cX5_putAside) (nL := 2) (ret := none) [some (.ref (ad γ 23)), none] (by decide) rfl rfl (by simp [lg_sl, Value.category]) (by simp [gl_le, glE, Value.category]) (fun hj p e s m args below meth c X hr hlk hnm => ?_)
  have hi5 : ∀ w ∈ wsX50, w ∈ wsX5_putAside := by decide +kernel
  refine g_iconstN X 0 dX5_putAside_0 ?_
  refine g_istore_n1 X dX5_putAside_1 rfl (by decide) rfl ?_
  refine g_up (i0 := 0) (N := 431) (fun i => [some (.ref (ad γ 23)), some (.int (nI i))]) (fun i => sA σ 26 (cp431 (σ.1 24) (σ.1 26) i)) (by simp [gl_le]) (by rw [cp_0, sA_self]) (by omega) (fun i hi ih2 => ?_)
  refine g_iload_n X dX5_putAside_2 rfl rfl ?_
  refine g_sipush (v := nI 431) X dX5_putAside_3 (by decide) ?_
  refine g_icmpN_ge (tgt := 27) X dX5_putAside_6 (by decide) (by omega) (by omega) (fun c_6 => ?_) (fun c_6 => ?_)
  · exact g_vret X hr hlk dX5_putAside_27 (by have e : i = 431 := (by omega); subst e; exact ⟨rfl, rfl⟩)
  · refine g_aload_n X dX5_putAside_9 rfl rfl ?_
    refine g_get_23_2 X hi5 (by decide +kernel) dX5_putAside_10 ?_
    refine g_iload_n X dX5_putAside_13 rfl rfl ?_
    refine g_aload_n X dX5_putAside_14 rfl rfl ?_
    refine g_get_23_0 X hi5 (by decide +kernel) dX5_putAside_15 ?_
    refine g_iload_n X dX5_putAside_18 rfl rfl ?_
    refine g_ald_24 X rfl (by omega) dX5_putAside_19 ?_
    refine g_ast_26 X rfl (by omega) dX5_putAside_20 ?_
    refine g_iincN1 (d := 1) X dX5_putAside_21 (by decide) rfl ?_
    refine g_goto (tgt := 2) X dX5_putAside_24 (by decide) ?_
    simp only [sA_sA, sA_eq, sA_ne _ _ (show (24 : Nat) ≠ 26 by decide), cp_s]
    exact g_le (by simp [gl_le]) (ih2 (by omega))
set_option maxRecDepth 20000 in
theorem k_X5_putBack (l : Launch) (γ : gG) (σ : gS) : gM l γ yX5_putBack wsX5_putBack ({ frames := 0, cells := 0, slots := 0, locals := 0 } : Room) [.ref (ad γ 23)] σ (gis none (sA σ 24 (cp431 (σ.1 26) (σ.1 24) 431))) 0 0 := by
  refine g_enter (own := RX5) (cc := cX5_putBack) (nL := 2) (ret := none) [some (.ref (ad γ 23)), none] (by decide) rfl rfl (by simp [lg_sl, Value.category]) (by simp [gl_le, glE, Value.category]) (fun hj p e s m args below meth c X hr hlk hnm => ?_)
  have hi5 : ∀ w ∈ wsX50, w ∈ wsX5_putBack := by decide +kernel
  refine g_iconstN X 0 dX5_putBack_0 ?_
  refine g_istore_n1 X dX5_putBack_1 rfl (by decide) rfl ?_
  refine g_up (i0 := 0) (N := 431) (fun i => [some (.ref (ad γ 23)), some (.int (nI i))]) (fun i => sA σ 24 (cp431 (σ.1 26) (σ.1 24) i)) (by simp [gl_le]) (by rw [cp_0, sA_self]) (by omega) (fun i hi ih2 => ?_)
  refine g_iload_n X dX5_putBack_2 rfl rfl ?_
  refine g_sipush (v := nI 431) X dX5_putBack_3 (by decide) ?_
  refine g_icmpN_ge (tgt := 27) X dX5_putBack_6 (by decide) (by omega) (by omega) (fun c_6 => ?_) (fun c_6 => ?_)
  · exact g_vret X hr hlk dX5_putBack_27 (by have e : i = 431 := (by omega); subst e; exact ⟨rfl, rfl⟩)
  · refine g_aload_n X dX5_putBack_9 rfl rfl ?_
    refine g_get_23_0 X hi5 (by decide +kernel) dX5_putBack_10 ?_
    refine g_iload_n X dX5_putBack_13 rfl rfl ?_
    refine g_aload_n X dX5_putBack_14 rfl rfl ?_
    refine g_get_23_2 X hi5 (by decide +kernel) dX5_putBack_15 ?_
    refine g_iload_n X dX5_putBack_18 rfl rfl ?_
    refine g_ald_26 X rfl (by omega) dX5_putBack_19 ?_
    refine g_ast_24 X rfl (by omega) dX5_putBack_20 ?_
    refine g_iincN1 (d := 1) X dX5_putBack_21 (by decide) rfl ?_
    refine g_goto (tgt := 2) X dX5_putBack_24 (by decide) ?_
    simp only [sA_sA, sA_eq, sA_ne _ _ (show (26 : Nat) ≠ 24 by decide), cp_s]
    exact g_le (by simp [gl_le]) (ih2 (by omega))
set_option maxRecDepth 20000 in
theorem k_X5_isIn (l : Launch) (γ : gG) (σ : gS) (q a : Int32) (hch : chOK (σ.1 24) 8 a) : gM l γ yX5_isIn wsX5_isIn ({ frames := 0, cells := 0, slots := 0, locals := 0 } : Room) [.ref (ad γ 23), .int q, .int a] σ (gis (some (.int (bI (inZ (σ.1 24) q 8 a false)))) σ) 0 0 := by
  refine g_enter (own := RX5) (cc := cX5_isIn) (nL := 6) (ret := (some .boolean)) [some (.ref (ad γ 23)), some (.int q), some (.int a), none, none, none] (by decide) rfl rfl (by simp [lg_sl, Value.category]) (by simp [gl_le, glE, Value.category]) (fun hj p e s m args below meth c X hr hlk hnm => ?_)
  have hi5 : ∀ w ∈ wsX50, w ∈ wsX5_isIn := by decide +kernel
  refine g_iload_n X dX5_isIn_0 rfl rfl ?_
  refine g_istore_n3 X dX5_isIn_1 rfl (by decide) rfl ?_
  refine g_iconstN X 0 dX5_isIn_2 ?_
  refine g_istore_s4 X dX5_isIn_3 (by decide) rfl ?_
  refine g_iconstN X 0 dX5_isIn_5 ?_
  refine g_istore_s5 X dX5_isIn_6 (by decide) rfl ?_
  refine g_wf (fun f ls σ2 => ∃ (i : Nat) (x : Int32) (is : Bool), σ = σ2 ∧ i + f = 8 ∧ ls = [some (.ref (ad γ 23)), some (.int q), some (.int a), some (.int x), some (.int (bI is)), some (.int (nI i))] ∧ inZ (σ.1 24) q 8 a false = inZ (σ.1 24) q f x is ∧ chOK (σ.1 24) f x) 8 ⟨0, a, false, rfl, rfl, rfl, rfl, hch⟩ (fun f ls2 σ2 hI ih => ?_)
  obtain ⟨i, x, is, rfl, hi, rfl, hz, hco⟩ := hI
  refine g_iload X dX5_isIn_8 rfl ?_
  refine g_bipush (v := nI 8) X dX5_isIn_10 (by decide) ?_
  refine g_icmpN_ge (tgt := 53) X dX5_isIn_12 (by decide) (by omega) (by omega) (fun c_12 => ?_) (fun c_12 => ?_)
  · refine g_iload X dX5_isIn_53 rfl ?_
    exact g_zret X hr hlk (bI_n _) dX5_isIn_55 (by first | (refine ⟨?_, rfl⟩; rw [hz]; first | (simp only [inZ, if_pos c_17]; done) | (have e : f = 0 := (by omega); subst e; rfl)))
  · obtain ⟨f, rfl⟩ : ∃ f2, f = f2 + 1 := ⟨f - 1, by omega⟩
    refine g_iload_n X dX5_isIn_15 rfl rfl ?_
    refine g_iconst (v := -1) X dX5_isIn_16 (by decide) ?_
    refine g_icmp_eq (tgt := 53) X dX5_isIn_17 (by decide) (fun c_17 => ?_) (fun c_17 => ?_)
    · refine g_iload X dX5_isIn_53 rfl ?_
      exact g_zret X hr hlk (bI_n _) dX5_isIn_55 (by first | (refine ⟨?_, rfl⟩; rw [hz]; first | (simp only [inZ, if_pos c_17]; done) | (have e : f = 0 := (by omega); subst e; rfl)))
    · obtain ⟨y, hy, rfl, hc2⟩ := hco.resolve_left c_17
      refine g_iload X dX5_isIn_20 rfl ?_
      refine g_if_ne (tgt := 30) X dX5_isIn_22 (by decide) (fun c_22 => ?_) (fun c_22 => ?_)
      · replace c_22 := bI_t c_22
        refine g_iconstN X 1 dX5_isIn_30 ?_
        refine g_goto (tgt := 35) X dX5_isIn_31 (by decide) ?_
        refine g_istore_s4 X dX5_isIn_35 (by decide) rfl ?_
        refine g_aload_n X dX5_isIn_37 rfl rfl ?_
        refine g_get_23_0 X hi5 (by decide +kernel) dX5_isIn_38 ?_
        refine g_bipush (v := nI 17) X dX5_isIn_41 (by decide) ?_
        refine g_iload_n X dX5_isIn_43 rfl rfl ?_
        refine g_iaddN X dX5_isIn_44 ?_
        refine g_ald_24 X rfl (by omega) dX5_isIn_45 ?_
        refine g_istore_n3 X dX5_isIn_46 rfl (by decide) rfl ?_
        refine g_iincN5 (d := 1) X dX5_isIn_47 (by decide) rfl ?_
        refine g_goto (tgt := 8) X dX5_isIn_50 (by decide) ?_
        have hstep : ∀ b2 : Bool, (is || decide (nI y = q)) = b2 → inZ (σ.1 24) q 8 a false = inZ (σ.1 24) q f (σ.1 24 (17 + y)) b2 := fun b2 hb2 => by rw [hz]; simp only [inZ, if_neg c_17, nI_clamp (show y < 2 ^ 31 by omega)]; rw [hb2]
        first | exact ih f (by omega) _ _ ⟨i + 1, _, true, rfl, by omega, rfl, hstep true (by rw [c_22]; rfl), hc2⟩ | exact ih f (by omega) _ _ ⟨i + 1, _, true, rfl, by omega, rfl, hstep true (by rw [c_22, decide_eq_true c_27]; rfl), hc2⟩ | exact ih f (by omega) _ _ ⟨i + 1, _, false, rfl, by omega, rfl, hstep false (by rw [c_22, decide_eq_false c_27]; rfl), hc2⟩
      · replace c_22 := bI_f c_22
        refine g_iload_n X dX5_isIn_25 rfl rfl ?_
        refine g_iload_n X dX5_isIn_26 rfl rfl ?_
        refine g_icmp_ne (tgt := 34) X dX5_isIn_27 (by decide) (fun c_27 => ?_) (fun c_27 => ?_)
        · refine g_iconstN X 0 dX5_isIn_34 ?_
          refine g_istore_s4 X dX5_isIn_35 (by decide) rfl ?_
          refine g_aload_n X dX5_isIn_37 rfl rfl ?_
          refine g_get_23_0 X hi5 (by decide +kernel) dX5_isIn_38 ?_
          refine g_bipush (v := nI 17) X dX5_isIn_41 (by decide) ?_
          refine g_iload_n X dX5_isIn_43 rfl rfl ?_
          refine g_iaddN X dX5_isIn_44 ?_
          refine g_ald_24 X rfl (by omega) dX5_isIn_45 ?_
          refine g_istore_n3 X dX5_isIn_46 rfl (by decide) rfl ?_
          refine g_iincN5 (d := 1) X dX5_isIn_47 (by decide) rfl ?_
          refine g_goto (tgt := 8) X dX5_isIn_50 (by decide) ?_
          have hstep : ∀ b2 : Bool, (is || decide (nI y = q)) = b2 → inZ (σ.1 24) q 8 a false = inZ (σ.1 24) q f (σ.1 24 (17 + y)) b2 := fun b2 hb2 => by rw [hz]; simp only [inZ, if_neg c_17, nI_clamp (show y < 2 ^ 31 by omega)]; rw [hb2]
          first | exact ih f (by omega) _ _ ⟨i + 1, _, true, rfl, by omega, rfl, hstep true (by rw [c_22]; rfl), hc2⟩ | exact ih f (by omega) _ _ ⟨i + 1, _, true, rfl, by omega, rfl, hstep true (by rw [c_22, decide_eq_true c_27]; rfl), hc2⟩ | exact ih f (by omega) _ _ ⟨i + 1, _, false, rfl, by omega, rfl, hstep false (by rw [c_22, decide_eq_false c_27]; rfl), hc2⟩
        · refine g_iconstN X 1 dX5_isIn_30 ?_
          refine g_goto (tgt := 35) X dX5_isIn_31 (by decide) ?_
          refine g_istore_s4 X dX5_isIn_35 (by decide) rfl ?_
          refine g_aload_n X dX5_isIn_37 rfl rfl ?_
          refine g_get_23_0 X hi5 (by decide +kernel) dX5_isIn_38 ?_
          refine g_bipush (v := nI 17) X dX5_isIn_41 (by decide) ?_
          refine g_iload_n X dX5_isIn_43 rfl rfl ?_
          refine g_iaddN X dX5_isIn_44 ?_
          refine g_ald_24 X rfl (by omega) dX5_isIn_45 ?_
          refine g_istore_n3 X dX5_isIn_46 rfl (by decide) rfl ?_
          refine g_iincN5 (d := 1) X dX5_isIn_47 (by decide) rfl ?_
          refine g_goto (tgt := 8) X dX5_isIn_50 (by decide) ?_
          have hstep : ∀ b2 : Bool, (is || decide (nI y = q)) = b2 → inZ (σ.1 24) q 8 a false = inZ (σ.1 24) q f (σ.1 24 (17 + y)) b2 := fun b2 hb2 => by rw [hz]; simp only [inZ, if_neg c_17, nI_clamp (show y < 2 ^ 31 by omega)]; rw [hb2]
          first | exact ih f (by omega) _ _ ⟨i + 1, _, true, rfl, by omega, rfl, hstep true (by rw [c_22]; rfl), hc2⟩ | exact ih f (by omega) _ _ ⟨i + 1, _, true, rfl, by omega, rfl, hstep true (by rw [c_22, decide_eq_true c_27]; rfl), hc2⟩ | exact ih f (by omega) _ _ ⟨i + 1, _, false, rfl, by omega, rfl, hstep false (by rw [c_22, decide_eq_false c_27]; rfl), hc2⟩
set_option maxRecDepth 20000 in
theorem k_X5_chainOf (l : Launch) (γ : gG) (σ : gS) (q : Nat) (hq : q < 8) (hch : chOK (σ.1 24) 8 (σ.1 24 (17 + q))) : gM l γ yX5_chainOf wsX5_chainOf ({ frames := 0, cells := 0, slots := 0, locals := 0 } : Room) [.ref (ad γ 23), .int (nI q)] σ (gis (some (.int (nI (chN (σ.1 24) 8 (σ.1 24 (17 + q)))))) σ) 0 0 := by
  refine g_enter (own := RX5) (cc := cX5_chainOf) (nL := 4) (ret := (some .int)) [some (.ref (ad γ 23)), some (.int (nI q)), none, none] (by decide) rfl rfl (by simp [lg_sl, Value.category]) (by simp [gl_le, glE, Value.category]) (fun hj p e s m args below meth c X hr hlk hnm => ?_)
  have hi5 : ∀ w ∈ wsX50, w ∈ wsX5_chainOf := by decide +kernel
  refine g_iconstN X 0 dX5_chainOf_0 ?_
  refine g_istore_n2 X dX5_chainOf_1 rfl (by decide) rfl ?_
  refine g_aload_n X dX5_chainOf_2 rfl rfl ?_
  refine g_get_23_0 X hi5 (by decide +kernel) dX5_chainOf_3 ?_
  refine g_bipush (v := nI 17) X dX5_chainOf_6 (by decide) ?_
  refine g_iload_n X dX5_chainOf_8 rfl rfl ?_
  refine g_iaddN X dX5_chainOf_9 ?_
  refine g_ald_24 X rfl (by omega) dX5_chainOf_10 ?_
  refine g_istore_n3 X dX5_chainOf_11 rfl (by decide) rfl ?_
  refine g_wf (fun f ls σ2 => ∃ (i : Nat) (x : Int32), σ = σ2 ∧ i + f = 8 ∧ ls = [some (.ref (ad γ 23)), some (.int (nI q)), some (.int (nI i)), some (.int x)] ∧ chN (σ.1 24) 8 (σ.1 24 (17 + q)) = i + chN (σ.1 24) f x ∧ chOK (σ.1 24) f x) 8 ⟨0, _, rfl, rfl, rfl, (Nat.zero_add _).symm, hch⟩ (fun f ls2 σ2 hI ih => ?_)
  obtain ⟨i, x, rfl, hi, rfl, hz, hco⟩ := hI
  refine g_iload_n X dX5_chainOf_12 rfl rfl ?_
  refine g_iconst (v := -1) X dX5_chainOf_13 (by decide) ?_
  refine g_icmp_eq (tgt := 33) X dX5_chainOf_14 (by decide) (fun c_14 => ?_) (fun c_14 => ?_)
  · refine g_iload_n X dX5_chainOf_33 rfl rfl ?_
    exact g_iret X hr hlk dX5_chainOf_34 (by refine ⟨?_, rfl⟩; rw [hz]; cases f <;> simp [chN, c_14])
  · obtain ⟨f, rfl⟩ : ∃ f2, f = f2 + 1 := by (cases f with | zero => exact absurd hco c_14 | succ f2 => exact ⟨f2, rfl⟩)
    obtain ⟨y, hy, rfl, hc2⟩ := hco.resolve_left c_14
    refine g_iincN2 (d := 1) X dX5_chainOf_17 (by decide) rfl ?_
    refine g_aload_n X dX5_chainOf_20 rfl rfl ?_
    refine g_get_23_0 X hi5 (by decide +kernel) dX5_chainOf_21 ?_
    refine g_bipush (v := nI 17) X dX5_chainOf_24 (by decide) ?_
    refine g_iload_n X dX5_chainOf_26 rfl rfl ?_
    refine g_iaddN X dX5_chainOf_27 ?_
    refine g_ald_24 X rfl (by omega) dX5_chainOf_28 ?_
    refine g_istore_n3 X dX5_chainOf_29 rfl (by decide) rfl ?_
    refine g_goto (tgt := 12) X dX5_chainOf_30 (by decide) ?_
    exact ih f (by omega) _ _ ⟨i + 1, _, rfl, by omega, rfl, by rw [hz]; simp only [chN, if_neg c_14, nI_clamp (show y < 2 ^ 31 by omega)]; omega, hc2⟩
set_option maxRecDepth 20000 in
theorem k_X5_debts_1 (l : Launch) (γ : gG) (σ : gS) (q : Nat) (hq : q < 8) : gM l γ yX5_debts wsX5_debts ({ frames := 1, cells := 0, slots := 0, locals := 21 } : Room) [.ref (ad γ 23), .int (nI q), .int (nI 1)] σ (gis (some (.int (sumI (fun k => σ.1 24 (57 + 8 * q + k)) 8))) σ) 0 0 := by
  refine g_enter (own := RX5) (cc := cX5_debts) (nL := 5) (ret := (some .int)) [some (.ref (ad γ 23)), some (.int (nI q)), some (.int (nI 1)), none, none] (by decide) rfl rfl (by simp [lg_sl, Value.category]) (by simp [gl_le, glE, Value.category]) (fun hj p e s m args below meth c X hr hlk hnm => ?_)
  have hi5 : ∀ w ∈ wsX50, w ∈ wsX5_debts := by decide +kernel
  refine g_iconstN X 0 dX5_debts_0 ?_
  refine g_istore_n3 X dX5_debts_1 rfl (by decide) rfl ?_
  refine g_iconstN X 0 dX5_debts_2 ?_
  refine g_istore_s4 X dX5_debts_3 (by decide) rfl ?_
  refine g_up (i0 := 0) (N := 8) (fun i => [some (.ref (ad γ 23)), some (.int (nI q)), some (.int (nI 1)), some (.int (sumI (fun k => σ.1 24 (57 + 8 * q + k)) i)), some (.int (nI i))]) (fun i => σ) (by simp [gl_le, sumI]) rfl (by omega) (fun i hi ih5 => ?_)
  refine g_iload X dX5_debts_5 rfl ?_
  refine g_bipush (v := nI 8) X dX5_debts_7 (by decide) ?_
  refine g_icmpN_ge (tgt := 50) X dX5_debts_9 (by decide) (by omega) (by omega) (fun c_9 => ?_) (fun c_9 => ?_)
  · refine g_iload_n X dX5_debts_50 rfl rfl ?_
    exact g_iret X hr hlk dX5_debts_51 (by have e : i = 8 := (by omega); subst e; exact ⟨rfl, rfl⟩)
  · refine g_iload_n X dX5_debts_12 rfl rfl ?_
    refine g_iload_n X dX5_debts_13 rfl rfl ?_
    refine g_if_eq (tgt := 31) X dX5_debts_14 (by decide) (fun c_14 => absurd c_14 (by decide)) (fun c_14 => ?_)
    refine g_aload_n X dX5_debts_17 rfl rfl ?_
    refine g_get_23_0 X hi5 (by decide +kernel) dX5_debts_18 ?_
    refine g_iload_n X dX5_debts_21 rfl rfl ?_
    refine g_iload X dX5_debts_22 rfl ?_
    refine g_callSi (na := 2) X hj (k_X5_debtAt l γ _ _ _) gX5_debts_X5_debtAt rfl ⟨rfl, rfl⟩ (by decide +kernel) rfl ⟨by decide, by decide⟩ rfl (Nat.le_of_ble_eq_true rfl) dX5_debts_24 ⟨by decide, by decide⟩ ?_
    refine g_ald_24 X rfl (by omega) dX5_debts_27 ?_
    refine g_goto (tgt := 42) X dX5_debts_28 (by decide) ?_
    refine g_iadd X dX5_debts_42 ?_
    refine g_istore_n3 X dX5_debts_43 rfl (by decide) rfl ?_
    refine g_iincN4 (d := 1) X dX5_debts_44 (by decide) rfl ?_
    refine g_goto (tgt := 5) X dX5_debts_47 (by decide) ?_
    exact g_le (by simp [gl_le, sumI]) (ih5 (by omega))
set_option maxRecDepth 20000 in
theorem k_X5_debts_0 (l : Launch) (γ : gG) (σ : gS) (q : Nat) (hq : q < 8) : gM l γ yX5_debts wsX5_debts ({ frames := 1, cells := 0, slots := 0, locals := 21 } : Room) [.ref (ad γ 23), .int (nI q), .int (nI 0)] σ (gis (some (.int (sumI (fun k => σ.1 24 (57 + 8 * k + q)) 8))) σ) 0 0 := by
  refine g_enter (own := RX5) (cc := cX5_debts) (nL := 5) (ret := (some .int)) [some (.ref (ad γ 23)), some (.int (nI q)), some (.int (nI 0)), none, none] (by decide) rfl rfl (by simp [lg_sl, Value.category]) (by simp [gl_le, glE, Value.category]) (fun hj p e s m args below meth c X hr hlk hnm => ?_)
  have hi5 : ∀ w ∈ wsX50, w ∈ wsX5_debts := by decide +kernel
  refine g_iconstN X 0 dX5_debts_0 ?_
  refine g_istore_n3 X dX5_debts_1 rfl (by decide) rfl ?_
  refine g_iconstN X 0 dX5_debts_2 ?_
  refine g_istore_s4 X dX5_debts_3 (by decide) rfl ?_
  refine g_up (i0 := 0) (N := 8) (fun i => [some (.ref (ad γ 23)), some (.int (nI q)), some (.int (nI 0)), some (.int (sumI (fun k => σ.1 24 (57 + 8 * k + q)) i)), some (.int (nI i))]) (fun i => σ) (by simp [gl_le, sumI]) rfl (by omega) (fun i hi ih5 => ?_)
  refine g_iload X dX5_debts_5 rfl ?_
  refine g_bipush (v := nI 8) X dX5_debts_7 (by decide) ?_
  refine g_icmpN_ge (tgt := 50) X dX5_debts_9 (by decide) (by omega) (by omega) (fun c_9 => ?_) (fun c_9 => ?_)
  · refine g_iload_n X dX5_debts_50 rfl rfl ?_
    exact g_iret X hr hlk dX5_debts_51 (by have e : i = 8 := (by omega); subst e; exact ⟨rfl, rfl⟩)
  · refine g_iload_n X dX5_debts_12 rfl rfl ?_
    refine g_iload_n X dX5_debts_13 rfl rfl ?_
    refine g_if_eq (tgt := 31) X dX5_debts_14 (by decide) (fun c_14 => ?_) (fun c_14 => absurd rfl c_14)
    refine g_aload_n X dX5_debts_31 rfl rfl ?_
    refine g_get_23_0 X hi5 (by decide +kernel) dX5_debts_32 ?_
    refine g_iload X dX5_debts_35 rfl ?_
    refine g_iload_n X dX5_debts_37 rfl rfl ?_
    refine g_callSi (na := 2) X hj (k_X5_debtAt l γ _ _ _) gX5_debts_X5_debtAt rfl ⟨rfl, rfl⟩ (by decide +kernel) rfl ⟨by decide, by decide⟩ rfl (Nat.le_of_ble_eq_true rfl) dX5_debts_38 ⟨by decide, by decide⟩ ?_
    refine g_ald_24 X rfl (by omega) dX5_debts_41 ?_
    refine g_iadd X dX5_debts_42 ?_
    refine g_istore_n3 X dX5_debts_43 rfl (by decide) rfl ?_
    refine g_iincN4 (d := 1) X dX5_debts_44 (by decide) rfl ?_
    refine g_goto (tgt := 5) X dX5_debts_47 (by decide) ?_
    exact g_le (by simp [gl_le, sumI]) (ih5 (by omega))
set_option maxRecDepth 20000 in
theorem k_X5_bondsOf (l : Launch) (γ : gG) (σ : gS) (q : Int32) (N : Nat) (hN : σ.1 24 0 = nI N) (hN10 : N ≤ 10) : gM l γ yX5_bondsOf wsX5_bondsOf ({ frames := 2, cells := 0, slots := 0, locals := 41 } : Room) [.ref (ad γ 23), .int q] σ (gis (some (.int (sumI (fun b => if ruB (σ.1 24) b && decide (σ.1 24 (121 + 31 * b) = q) then nI 1 else nI 0) N))) σ) 0 0 := by
  refine g_enter (own := RX5) (cc := cX5_bondsOf) (nL := 4) (ret := (some .int)) [some (.ref (ad γ 23)), some (.int q), none, none] (by decide) rfl rfl (by simp [lg_sl, Value.category]) (by simp [gl_le, glE, Value.category]) (fun hj p e s m args below meth c X hr hlk hnm => ?_)
  have hi5 : ∀ w ∈ wsX50, w ∈ wsX5_bondsOf := by decide +kernel
  refine g_iconstN X 0 dX5_bondsOf_0 ?_
  refine g_istore_n2 X dX5_bondsOf_1 rfl (by decide) rfl ?_
  refine g_iconstN X 0 dX5_bondsOf_2 ?_
  refine g_istore_n3 X dX5_bondsOf_3 rfl (by decide) rfl ?_
  refine g_up (i0 := 0) (N := N) (fun b => [some (.ref (ad γ 23)), some (.int q), some (.int (sumI (fun b => if ruB (σ.1 24) b && decide (σ.1 24 (121 + 31 * b) = q) then nI 1 else nI 0) b)), some (.int (nI b))]) (fun b => σ) (by simp [gl_le, sumI]) rfl (by omega) (fun b hb ih4 => ?_)
  refine g_iload_n X dX5_bondsOf_4 rfl rfl ?_
  refine g_aload_n X dX5_bondsOf_5 rfl rfl ?_
  refine g_get_23_0 X hi5 (by decide +kernel) dX5_bondsOf_6 ?_
  refine g_iconstN X 0 dX5_bondsOf_9 ?_
  refine g_ald_24 X rfl (by omega) dX5_bondsOf_10 ?_
  refine g_top hN ?_
  refine g_icmpN_ge (tgt := 49) X dX5_bondsOf_11 (by decide) (by omega) (by omega) (fun c_11 => ?_) (fun c_11 => ?_)
  · refine g_iload_n X dX5_bondsOf_49 rfl rfl ?_
    exact g_iret X hr hlk dX5_bondsOf_50 (by have e : b = N := (by omega); subst e; exact ⟨rfl, rfl⟩)
  · refine g_iload_n X dX5_bondsOf_14 rfl rfl ?_
    refine g_aload_n X dX5_bondsOf_15 rfl rfl ?_
    refine g_iload_n X dX5_bondsOf_16 rfl rfl ?_
    refine g_callVi (na := 1) X hj (k_X5_runs l γ _ _ (by omega)) gW_23 rfl gX5_bondsOf_X5_runs rfl ⟨rfl, rfl⟩ (by decide +kernel) rfl ⟨by decide, by decide⟩ rfl (Nat.le_of_ble_eq_true rfl) dX5_bondsOf_17 ⟨by decide, by decide⟩ ?_
    refine g_if_eq (tgt := 40) X dX5_bondsOf_20 (by decide) (fun c_20 => ?_) (fun c_20 => ?_)
    · replace c_20 := bI_f c_20
      refine g_iconstN X 0 dX5_bondsOf_40 ?_
      refine g_iadd X dX5_bondsOf_41 ?_
      refine g_istore_n2 X dX5_bondsOf_42 rfl (by decide) rfl ?_
      refine g_iincN3 (d := 1) X dX5_bondsOf_43 (by decide) rfl ?_
      refine g_goto (tgt := 4) X dX5_bondsOf_46 (by decide) ?_
      first | (have q9 := c_33; exact g_le (by simp [gl_le, sumI, c_20, q9]) (ih4 (by omega))) | exact g_le (by simp [gl_le, sumI, c_20]) (ih4 (by omega))
    · replace c_20 := bI_t c_20
      refine g_aload_n X dX5_bondsOf_23 rfl rfl ?_
      refine g_get_23_0 X hi5 (by decide +kernel) dX5_bondsOf_24 ?_
      refine g_iload_n X dX5_bondsOf_27 rfl rfl ?_
      refine g_callSi (na := 1) X hj (k_X5_at l γ _ _) gX5_bondsOf_X5_at rfl ⟨rfl, rfl⟩ (by decide +kernel) rfl ⟨by decide, by decide⟩ rfl (Nat.le_of_ble_eq_true rfl) dX5_bondsOf_28 ⟨by decide, by decide⟩ ?_
      refine g_ald_24 X rfl (by omega) dX5_bondsOf_31 ?_
      refine g_iload_n X dX5_bondsOf_32 rfl rfl ?_
      refine g_icmp_ne (tgt := 40) X dX5_bondsOf_33 (by decide) (fun c_33 => ?_) (fun c_33 => ?_)
      · refine g_iconstN X 0 dX5_bondsOf_40 ?_
        refine g_iadd X dX5_bondsOf_41 ?_
        refine g_istore_n2 X dX5_bondsOf_42 rfl (by decide) rfl ?_
        refine g_iincN3 (d := 1) X dX5_bondsOf_43 (by decide) rfl ?_
        refine g_goto (tgt := 4) X dX5_bondsOf_46 (by decide) ?_
        first | (have q9 := c_33; exact g_le (by simp [gl_le, sumI, c_20, q9]) (ih4 (by omega))) | exact g_le (by simp [gl_le, sumI, c_20]) (ih4 (by omega))
      · refine g_iconstN X 1 dX5_bondsOf_36 ?_
        refine g_goto (tgt := 41) X dX5_bondsOf_37 (by decide) ?_
        refine g_iadd X dX5_bondsOf_41 ?_
        refine g_istore_n2 X dX5_bondsOf_42 rfl (by decide) rfl ?_
        refine g_iincN3 (d := 1) X dX5_bondsOf_43 (by decide) rfl ?_
        refine g_goto (tgt := 4) X dX5_bondsOf_46 (by decide) ?_
        first | (have q9 := c_33; exact g_le (by simp [gl_le, sumI, c_20, q9]) (ih4 (by omega))) | exact g_le (by simp [gl_le, sumI, c_20]) (ih4 (by omega))
