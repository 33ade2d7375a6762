/-! THE STATE'S METHODS: pure words, then contracts -/
def sumI (f : Nat → Int32) : Nat → Int32
  | 0 => nI 0
  | n + 1 => sumI f n + f n
def prd : Nat → Int32
  | 0 => -1
  | j + 1 => nI j
/-- how many bonds, how many layers each -/
def Sh (v : Nat → Int32) (N : Nat) (L : Nat → Nat) : Prop := v 116 = nI N ∧ N ≤ 10 ∧ ∀ b, b < 10 → v (117 + b * 31 + 3) = nI (L b) ∧ L b ≤ 4
def leftOf (v : Nat → Int32) (b : Nat) : Int32 := v (117 + b * 31 + 1) - v (117 + b * 31 + 6) - v (117 + b * 31 + 8)
def limitsOf (v : Nat → Int32) (b L : Nat) : Int32 := sumI (fun i => v (117 + b * 31 + 15 + i * 4 + 2)) L
def boundFor (v : Nat → Int32) (N : Nat) (L : Nat → Nat) (q : Int32) : Int32 := sumI (fun b => sumI (fun i => if v (117 + b * 31 + 15 + i * 4 + 0) = q then v (117 + b * 31 + 15 + i * 4 + 2) else nI 0) (L b)) N
def spareOf (v : Nat → Int32) (N : Nat) (L : Nat → Nat) (q : Nat) : Int32 :=
  if nI 0 < v (q * 6 + 0) - boundFor v N L (nI q) * v (112 + 1) / nI 100 then v (q * 6 + 0) - boundFor v N L (nI q) * v (112 + 1) / nI 100 else nI 0
/-- the layers from the last one on, as far as there is an excess -/
def trimI (v : Nat → Int32) (b : Nat) : Nat → Int32 → (Nat → Int32)
  | 0, _ => v
  | i + 1, ex => if ex ≤ 0 then v else
      trimI (upd v (117 + b * 31 + 15 + i * 4 + 2) (v (117 + b * 31 + 15 + i * 4 + 2) + -(if v (117 + b * 31 + 15 + i * 4 + 2) < ex then v (117 + b * 31 + 15 + i * 4 + 2) else ex))) b i (ex - (if v (117 + b * 31 + 15 + i * 4 + 2) < ex then v (117 + b * 31 + 15 + i * 4 + 2) else ex))
def trimOf (v : Nat → Int32) (b L : Nat) : Nat → Int32 := trimI v b L (limitsOf v b L - leftOf v b)
def bI : Bool → Int32
  | true => nI 1
  | false => nI 0
theorem bI_t {b : Bool} (h : ¬ bI b = 0) : b = true := by
  cases b
  · exact absurd rfl h
  · rfl
theorem bI_f {b : Bool} (h : bI b = 0) : b = false := by
  cases b
  · rfl
  · exact absurd h (by decide)
theorem bI_n (b : Bool) : narrow .boolean (.int (bI b)) = .int (bI b) := by cases b <;> rfl
def isPb (x : Int32) : Bool := !decide (x < 0) && !decide (nI 8 ≤ x)
theorem isP_nat {x : Int32} (h : isPb x = true) : ∃ y : Nat, y < 8 ∧ x = nI y := by
  unfold isPb at h
  simp only [Bool.and_eq_true, Bool.not_eq_true', decide_eq_false_iff_not] at h
  obtain ⟨j, hj, rfl⟩ := nI_of h.1
  exact ⟨j, Nat.lt_of_not_le (fun q => h.2 ((nI_leI (by decide) hj).mpr q)), rfl⟩
theorem isP_of {y : Nat} (h : y < 8) : isPb (nI y) = true := by
  unfold isPb
  simp only [Bool.and_eq_true, Bool.not_eq_true', decide_eq_false_iff_not]
  exact ⟨nI_pos (by omega), fun q => by have := (nI_leI (by decide) (by omega)).mp q; omega⟩
def nxt (v : Nat → Int32) (x : Int32) : Int32 := v (x.toNatClampNeg * 6 + 1)
theorem nxt_nI (v : Nat → Int32) {y : Nat} (h : y < 8) : nxt v (nI y) = v (y * 6 + 1) := by unfold nxt; rw [nI_clamp (by omega)]
/-- how many persons from x on, fuel at most -/
def chainI (v : Nat → Int32) : Nat → Int32 → Nat
  | 0, _ => 0
  | f + 1, x => if isPb x then chainI v f (nxt v x) + 1 else 0
def holdsI (v : Nat → Int32) (sought : Int32) : Nat → Int32 → Bool
  | 0, _ => false
  | f + 1, x => if isPb x then (if x = sought then true else holdsI v sought f (nxt v x)) else false
theorem add_nI0 (x : Int32) : x + nI 0 = x := by
  show x + 0 = x
  exact Int32.add_zero x
theorem prd_dec (f : Nat) : nI f + Int32.ofInt (-1) = prd f := by
  cases f with
  | zero => rfl
  | succ j => exact pk_m1 j
theorem prd_dec2 (f : Nat) : nI f + -1 = prd f := prd_dec f

set_option maxRecDepth 20000 in
theorem k_X3_fact (l : Launch) (γ : gG) (σ : gS) (q f : Nat) (h : q * 6 + f < 427) : gM l γ yX3_fact wsX3_fact ({ frames := 0, cells := 0, slots := 0, locals := 0 } : Room) [.ref (ad γ 1), .int (nI q), .int (nI f)] σ (gis (some (.int (σ.1 2 (q * 6 + f)))) σ) 0 0 := by
  refine g_enter (own := RX3) (cc := cX3_fact) (nL := 3) (ret := (some .int)) [some (.ref (ad γ 1)), some (.int (nI q)), some (.int (nI f))] (by decide) rfl rfl (by simp [lg_sl, Value.category]) (by simp [gl_le, glE, Value.category]) (fun hj p e s m args below meth c X hr hlk hnm => ?_)
  have hi3 : ∀ w ∈ wsX30, w ∈ wsX3_fact := by decide +kernel
  refine g_aload_n X dX3_fact_0 rfl rfl ?_
  refine g_get_1_0 X hi3 (by decide +kernel) dX3_fact_1 ?_
  refine g_iload_n X dX3_fact_4 rfl rfl ?_
  refine g_bipush (v := nI 6) X dX3_fact_5 (by decide) ?_
  refine g_imulN X dX3_fact_7 ?_
  refine g_iload_n X dX3_fact_8 rfl rfl ?_
  refine g_iaddN X dX3_fact_9 ?_
  refine g_ald_2 X rfl (by omega) dX3_fact_10 ?_
  exact g_iret X hr hlk dX3_fact_11 ⟨rfl, rfl⟩
set_option maxRecDepth 20000 in
theorem k_X3_putFact (l : Launch) (γ : gG) (σ : gS) (q f : Nat) (x : Int32) (h : q * 6 + f < 427) : gM l γ yX3_putFact wsX3_putFact ({ frames := 0, cells := 0, slots := 0, locals := 0 } : Room) [.ref (ad γ 1), .int (nI q), .int (nI f), .int x] σ (gis none (sA σ 2 (upd (σ.1 2) (q * 6 + f) x))) 0 0 := by
  refine g_enter (own := RX3) (cc := cX3_putFact) (nL := 4) (ret := none) [some (.ref (ad γ 1)), some (.int (nI q)), some (.int (nI f)), some (.int x)] (by decide) rfl rfl (by simp [lg_sl, Value.category]) (by simp [gl_le, glE, Value.category]) (fun hj p e s m args below meth c X hr hlk hnm => ?_)
  have hi3 : ∀ w ∈ wsX30, w ∈ wsX3_putFact := by decide +kernel
  refine g_aload_n X dX3_putFact_0 rfl rfl ?_
  refine g_get_1_0 X hi3 (by decide +kernel) dX3_putFact_1 ?_
  refine g_iload_n X dX3_putFact_4 rfl rfl ?_
  refine g_bipush (v := nI 6) X dX3_putFact_5 (by decide) ?_
  refine g_imulN X dX3_putFact_7 ?_
  refine g_iload_n X dX3_putFact_8 rfl rfl ?_
  refine g_iaddN X dX3_putFact_9 ?_
  refine g_iload_n X dX3_putFact_10 rfl rfl ?_
  refine g_ast_2 X rfl (by omega) dX3_putFact_11 ?_
  exact g_vret X hr hlk dX3_putFact_12 ⟨rfl, rfl⟩
set_option maxRecDepth 20000 in
theorem k_X3_addFact (l : Launch) (γ : gG) (σ : gS) (q f : Nat) (x : Int32) (h : q * 6 + f < 427) : gM l γ yX3_addFact wsX3_addFact ({ frames := 0, cells := 0, slots := 0, locals := 0 } : Room) [.ref (ad γ 1), .int (nI q), .int (nI f), .int x] σ (gis none (sA σ 2 (upd (σ.1 2) (q * 6 + f) (σ.1 2 (q * 6 + f) + x)))) 0 0 := by
  refine g_enter (own := RX3) (cc := cX3_addFact) (nL := 4) (ret := none) [some (.ref (ad γ 1)), some (.int (nI q)), some (.int (nI f)), some (.int x)] (by decide) rfl rfl (by simp [lg_sl, Value.category]) (by simp [gl_le, glE, Value.category]) (fun hj p e s m args below meth c X hr hlk hnm => ?_)
  have hi3 : ∀ w ∈ wsX30, w ∈ wsX3_addFact := by decide +kernel
  refine g_aload_n X dX3_addFact_0 rfl rfl ?_
  refine g_get_1_0 X hi3 (by decide +kernel) dX3_addFact_1 ?_
  refine g_iload_n X dX3_addFact_4 rfl rfl ?_
  refine g_bipush (v := nI 6) X dX3_addFact_5 (by decide) ?_
  refine g_imulN X dX3_addFact_7 ?_
  refine g_iload_n X dX3_addFact_8 rfl rfl ?_
  refine g_iaddN X dX3_addFact_9 ?_
  refine g_dup2_11 X dX3_addFact_10 rfl rfl ?_
  refine g_ald_2 X rfl (by omega) dX3_addFact_11 ?_
  refine g_iload_n X dX3_addFact_12 rfl rfl ?_
  refine g_iadd X dX3_addFact_13 ?_
  refine g_ast_2 X rfl (by omega) dX3_addFact_14 ?_
  exact g_vret X hr hlk dX3_addFact_15 ⟨rfl, rfl⟩
set_option maxRecDepth 20000 in
theorem k_X3_addCash (l : Launch) (γ : gG) (σ : gS) (q : Nat) (x : Int32) (h : q < 8) : gM l γ yX3_addCash wsX3_addCash ({ frames := 1, cells := 0, slots := 0, locals := 23 } : Room) [.ref (ad γ 1), .int (nI q), .int x] σ (gis none (sA σ 2 (upd (σ.1 2) (q * 6 + 0) (σ.1 2 (q * 6 + 0) + x)))) 0 0 := by
  refine g_enter (own := RX3) (cc := cX3_addCash) (nL := 3) (ret := none) [some (.ref (ad γ 1)), some (.int (nI q)), some (.int x)] (by decide) rfl rfl (by simp [lg_sl, Value.category]) (by simp [gl_le, glE, Value.category]) (fun hj p e s m args below meth c X hr hlk hnm => ?_)
  refine g_aload_n X dX3_addCash_0 rfl rfl ?_
  refine g_iload_n X dX3_addCash_1 rfl rfl ?_
  refine g_iconstN X 0 dX3_addCash_2 ?_
  refine g_iload_n X dX3_addCash_3 rfl rfl ?_
  refine g_callVv (na := 3) X hj (k_X3_addFact l γ _ _ _ _ (by omega)) gW_1 rfl gX3_addCash_X3_addFact rfl ⟨rfl, rfl⟩ (by decide +kernel) rfl ⟨by decide, by decide⟩ rfl (Nat.le_of_ble_eq_true rfl) dX3_addCash_4 ⟨by decide, by decide⟩ ?_
  exact g_vret X hr hlk dX3_addCash_7 ⟨rfl, rfl⟩
set_option maxRecDepth 20000 in
theorem k_X3_owed (l : Launch) (γ : gG) (σ : gS) (q o : Nat) (h : q < 8) (h2 : o < 8) : gM l γ yX3_owed wsX3_owed ({ frames := 0, cells := 0, slots := 0, locals := 0 } : Room) [.ref (ad γ 1), .int (nI q), .int (nI o)] σ (gis (some (.int (σ.1 2 (48 + q * 8 + o)))) σ) 0 0 := by
  refine g_enter (own := RX3) (cc := cX3_owed) (nL := 3) (ret := (some .int)) [some (.ref (ad γ 1)), some (.int (nI q)), some (.int (nI o))] (by decide) rfl rfl (by simp [lg_sl, Value.category]) (by simp [gl_le, glE, Value.category]) (fun hj p e s m args below meth c X hr hlk hnm => ?_)
  have hi3 : ∀ w ∈ wsX30, w ∈ wsX3_owed := by decide +kernel
  refine g_aload_n X dX3_owed_0 rfl rfl ?_
  refine g_get_1_0 X hi3 (by decide +kernel) dX3_owed_1 ?_
  refine g_bipush (v := nI 48) X dX3_owed_4 (by decide) ?_
  refine g_iload_n X dX3_owed_6 rfl rfl ?_
  refine g_bipush (v := nI 8) X dX3_owed_7 (by decide) ?_
  refine g_imulN X dX3_owed_9 ?_
  refine g_iaddN X dX3_owed_10 ?_
  refine g_iload_n X dX3_owed_11 rfl rfl ?_
  refine g_iaddN X dX3_owed_12 ?_
  refine g_ald_2 X rfl (by omega) dX3_owed_13 ?_
  exact g_iret X hr hlk dX3_owed_14 ⟨rfl, rfl⟩
set_option maxRecDepth 20000 in
theorem k_X3_addOwed (l : Launch) (γ : gG) (σ : gS) (q o : Nat) (x : Int32) (h : q < 8) (h2 : o < 8) : gM l γ yX3_addOwed wsX3_addOwed ({ frames := 0, cells := 0, slots := 0, locals := 0 } : Room) [.ref (ad γ 1), .int (nI q), .int (nI o), .int x] σ (gis none (sA σ 2 (upd (σ.1 2) (48 + q * 8 + o) (σ.1 2 (48 + q * 8 + o) + x)))) 0 0 := by
  refine g_enter (own := RX3) (cc := cX3_addOwed) (nL := 4) (ret := none) [some (.ref (ad γ 1)), some (.int (nI q)), some (.int (nI o)), some (.int x)] (by decide) rfl rfl (by simp [lg_sl, Value.category]) (by simp [gl_le, glE, Value.category]) (fun hj p e s m args below meth c X hr hlk hnm => ?_)
  have hi3 : ∀ w ∈ wsX30, w ∈ wsX3_addOwed := by decide +kernel
  refine g_aload_n X dX3_addOwed_0 rfl rfl ?_
  refine g_get_1_0 X hi3 (by decide +kernel) dX3_addOwed_1 ?_
  refine g_bipush (v := nI 48) X dX3_addOwed_4 (by decide) ?_
  refine g_iload_n X dX3_addOwed_6 rfl rfl ?_
  refine g_bipush (v := nI 8) X dX3_addOwed_7 (by decide) ?_
  refine g_imulN X dX3_addOwed_9 ?_
  refine g_iaddN X dX3_addOwed_10 ?_
  refine g_iload_n X dX3_addOwed_11 rfl rfl ?_
  refine g_iaddN X dX3_addOwed_12 ?_
  refine g_dup2_11 X dX3_addOwed_13 rfl rfl ?_
  refine g_ald_2 X rfl (by omega) dX3_addOwed_14 ?_
  refine g_iload_n X dX3_addOwed_15 rfl rfl ?_
  refine g_iadd X dX3_addOwed_16 ?_
  refine g_ast_2 X rfl (by omega) dX3_addOwed_17 ?_
  exact g_vret X hr hlk dX3_addOwed_18 ⟨rfl, rfl⟩
set_option maxRecDepth 20000 in
theorem k_X3_settingValue (l : Launch) (γ : gG) (σ : gS) (k : Nat) (h : k < 3) : gM l γ yX3_settingValue wsX3_settingValue ({ frames := 0, cells := 0, slots := 0, locals := 0 } : Room) [.ref (ad γ 1), .int (nI k)] σ (gis (some (.int (σ.1 2 (112 + k)))) σ) 0 0 := by
  refine g_enter (own := RX3) (cc := cX3_settingValue) (nL := 2) (ret := (some .int)) [some (.ref (ad γ 1)), some (.int (nI k))] (by decide) rfl rfl (by simp [lg_sl, Value.category]) (by simp [gl_le, glE, Value.category]) (fun hj p e s m args below meth c X hr hlk hnm => ?_)
  have hi3 : ∀ w ∈ wsX30, w ∈ wsX3_settingValue := by decide +kernel
  refine g_aload_n X dX3_settingValue_0 rfl rfl ?_
  refine g_get_1_0 X hi3 (by decide +kernel) dX3_settingValue_1 ?_
  refine g_bipush (v := nI 112) X dX3_settingValue_4 (by decide) ?_
  refine g_iload_n X dX3_settingValue_6 rfl rfl ?_
  refine g_iaddN X dX3_settingValue_7 ?_
  refine g_ald_2 X rfl (by omega) dX3_settingValue_8 ?_
  exact g_iret X hr hlk dX3_settingValue_9 ⟨rfl, rfl⟩
set_option maxRecDepth 20000 in
theorem k_X3_putSetting (l : Launch) (γ : gG) (σ : gS) (k : Nat) (x : Int32) (h : k < 3) : gM l γ yX3_putSetting wsX3_putSetting ({ frames := 0, cells := 0, slots := 0, locals := 0 } : Room) [.ref (ad γ 1), .int (nI k), .int x] σ (gis none (sA σ 2 (upd (σ.1 2) (112 + k) x))) 0 0 := by
  refine g_enter (own := RX3) (cc := cX3_putSetting) (nL := 3) (ret := none) [some (.ref (ad γ 1)), some (.int (nI k)), some (.int x)] (by decide) rfl rfl (by simp [lg_sl, Value.category]) (by simp [gl_le, glE, Value.category]) (fun hj p e s m args below meth c X hr hlk hnm => ?_)
  have hi3 : ∀ w ∈ wsX30, w ∈ wsX3_putSetting := by decide +kernel
  refine g_aload_n X dX3_putSetting_0 rfl rfl ?_
  refine g_get_1_0 X hi3 (by decide +kernel) dX3_putSetting_1 ?_
  refine g_bipush (v := nI 112) X dX3_putSetting_4 (by decide) ?_
  refine g_iload_n X dX3_putSetting_6 rfl rfl ?_
  refine g_iaddN X dX3_putSetting_7 ?_
  refine g_iload_n X dX3_putSetting_8 rfl rfl ?_
  refine g_ast_2 X rfl (by omega) dX3_putSetting_9 ?_
  exact g_vret X hr hlk dX3_putSetting_10 ⟨rfl, rfl⟩
set_option maxRecDepth 20000 in
theorem k_X3_brought (l : Launch) (γ : gG) (σ : gS) : gM l γ yX3_brought wsX3_brought ({ frames := 0, cells := 0, slots := 0, locals := 0 } : Room) [.ref (ad γ 1)] σ (gis (some (.int (σ.1 2 115))) σ) 0 0 := by
  refine g_enter (own := RX3) (cc := cX3_brought) (nL := 1) (ret := (some .int)) [some (.ref (ad γ 1))] (by decide) rfl rfl (by simp [lg_sl, Value.category]) (by simp [gl_le, glE, Value.category]) (fun hj p e s m args below meth c X hr hlk hnm => ?_)
  have hi3 : ∀ w ∈ wsX30, w ∈ wsX3_brought := by decide +kernel
  refine g_aload_n X dX3_brought_0 rfl rfl ?_
  refine g_get_1_0 X hi3 (by decide +kernel) dX3_brought_1 ?_
  refine g_bipush (v := nI 115) X dX3_brought_4 (by decide) ?_
  refine g_ald_2 X rfl (by omega) dX3_brought_6 ?_
  exact g_iret X hr hlk dX3_brought_7 ⟨rfl, rfl⟩
set_option maxRecDepth 20000 in
theorem k_X3_addBrought (l : Launch) (γ : gG) (σ : gS) (x : Int32) : gM l γ yX3_addBrought wsX3_addBrought ({ frames := 0, cells := 0, slots := 0, locals := 0 } : Room) [.ref (ad γ 1), .int x] σ (gis none (sA σ 2 (upd (σ.1 2) 115 (σ.1 2 115 + x)))) 0 0 := by
  refine g_enter (own := RX3) (cc := cX3_addBrought) (nL := 2) (ret := none) [some (.ref (ad γ 1)), some (.int x)] (by decide) rfl rfl (by simp [lg_sl, Value.category]) (by simp [gl_le, glE, Value.category]) (fun hj p e s m args below meth c X hr hlk hnm => ?_)
  have hi3 : ∀ w ∈ wsX30, w ∈ wsX3_addBrought := by decide +kernel
  refine g_aload_n X dX3_addBrought_0 rfl rfl ?_
  refine g_get_1_0 X hi3 (by decide +kernel) dX3_addBrought_1 ?_
  refine g_bipush (v := nI 115) X dX3_addBrought_4 (by decide) ?_
  refine g_dup2_11 X dX3_addBrought_6 rfl rfl ?_
  refine g_ald_2 X rfl (by omega) dX3_addBrought_7 ?_
  refine g_iload_n X dX3_addBrought_8 rfl rfl ?_
  refine g_iadd X dX3_addBrought_9 ?_
  refine g_ast_2 X rfl (by omega) dX3_addBrought_10 ?_
  exact g_vret X hr hlk dX3_addBrought_11 ⟨rfl, rfl⟩
set_option maxRecDepth 20000 in
theorem k_X3_bondCount (l : Launch) (γ : gG) (σ : gS) : gM l γ yX3_bondCount wsX3_bondCount ({ frames := 0, cells := 0, slots := 0, locals := 0 } : Room) [.ref (ad γ 1)] σ (gis (some (.int (σ.1 2 116))) σ) 0 0 := by
  refine g_enter (own := RX3) (cc := cX3_bondCount) (nL := 1) (ret := (some .int)) [some (.ref (ad γ 1))] (by decide) rfl rfl (by simp [lg_sl, Value.category]) (by simp [gl_le, glE, Value.category]) (fun hj p e s m args below meth c X hr hlk hnm => ?_)
  have hi3 : ∀ w ∈ wsX30, w ∈ wsX3_bondCount := by decide +kernel
  refine g_aload_n X dX3_bondCount_0 rfl rfl ?_
  refine g_get_1_0 X hi3 (by decide +kernel) dX3_bondCount_1 ?_
  refine g_bipush (v := nI 116) X dX3_bondCount_4 (by decide) ?_
  refine g_ald_2 X rfl (by omega) dX3_bondCount_6 ?_
  exact g_iret X hr hlk dX3_bondCount_7 ⟨rfl, rfl⟩
set_option maxRecDepth 20000 in
theorem k_X3_bondFact (l : Launch) (γ : gG) (σ : gS) (b f : Nat) (h : b * 31 + f < 310) : gM l γ yX3_bondFact wsX3_bondFact ({ frames := 0, cells := 0, slots := 0, locals := 0 } : Room) [.ref (ad γ 1), .int (nI b), .int (nI f)] σ (gis (some (.int (σ.1 2 (117 + b * 31 + f)))) σ) 0 0 := by
  refine g_enter (own := RX3) (cc := cX3_bondFact) (nL := 3) (ret := (some .int)) [some (.ref (ad γ 1)), some (.int (nI b)), some (.int (nI f))] (by decide) rfl rfl (by simp [lg_sl, Value.category]) (by simp [gl_le, glE, Value.category]) (fun hj p e s m args below meth c X hr hlk hnm => ?_)
  have hi3 : ∀ w ∈ wsX30, w ∈ wsX3_bondFact := by decide +kernel
  refine g_aload_n X dX3_bondFact_0 rfl rfl ?_
  refine g_get_1_0 X hi3 (by decide +kernel) dX3_bondFact_1 ?_
  refine g_bipush (v := nI 117) X dX3_bondFact_4 (by decide) ?_
  refine g_iload_n X dX3_bondFact_6 rfl rfl ?_
  refine g_bipush (v := nI 31) X dX3_bondFact_7 (by decide) ?_
  refine g_imulN X dX3_bondFact_9 ?_
  refine g_iaddN X dX3_bondFact_10 ?_
  refine g_iload_n X dX3_bondFact_11 rfl rfl ?_
  refine g_iaddN X dX3_bondFact_12 ?_
  refine g_ald_2 X rfl (by omega) dX3_bondFact_13 ?_
  exact g_iret X hr hlk dX3_bondFact_14 ⟨rfl, rfl⟩
set_option maxRecDepth 20000 in
theorem k_X3_putBondFact (l : Launch) (γ : gG) (σ : gS) (b f : Nat) (x : Int32) (h : b * 31 + f < 310) : gM l γ yX3_putBondFact wsX3_putBondFact ({ frames := 0, cells := 0, slots := 0, locals := 0 } : Room) [.ref (ad γ 1), .int (nI b), .int (nI f), .int x] σ (gis none (sA σ 2 (upd (σ.1 2) (117 + b * 31 + f) x))) 0 0 := by
  refine g_enter (own := RX3) (cc := cX3_putBondFact) (nL := 4) (ret := none) [some (.ref (ad γ 1)), some (.int (nI b)), some (.int (nI f)), some (.int x)] (by decide) rfl rfl (by simp [lg_sl, Value.category]) (by simp [gl_le, glE, Value.category]) (fun hj p e s m args below meth c X hr hlk hnm => ?_)
  have hi3 : ∀ w ∈ wsX30, w ∈ wsX3_putBondFact := by decide +kernel
  refine g_aload_n X dX3_putBondFact_0 rfl rfl ?_
  refine g_get_1_0 X hi3 (by decide +kernel) dX3_putBondFact_1 ?_
  refine g_bipush (v := nI 117) X dX3_putBondFact_4 (by decide) ?_
  refine g_iload_n X dX3_putBondFact_6 rfl rfl ?_
  refine g_bipush (v := nI 31) X dX3_putBondFact_7 (by decide) ?_
  refine g_imulN X dX3_putBondFact_9 ?_
  refine g_iaddN X dX3_putBondFact_10 ?_
  refine g_iload_n X dX3_putBondFact_11 rfl rfl ?_
  refine g_iaddN X dX3_putBondFact_12 ?_
  refine g_iload_n X dX3_putBondFact_13 rfl rfl ?_
  refine g_ast_2 X rfl (by omega) dX3_putBondFact_14 ?_
  exact g_vret X hr hlk dX3_putBondFact_15 ⟨rfl, rfl⟩
set_option maxRecDepth 20000 in
theorem k_X3_addBondFact (l : Launch) (γ : gG) (σ : gS) (b f : Nat) (x : Int32) (h : b * 31 + f < 310) : gM l γ yX3_addBondFact wsX3_addBondFact ({ frames := 0, cells := 0, slots := 0, locals := 0 } : Room) [.ref (ad γ 1), .int (nI b), .int (nI f), .int x] σ (gis none (sA σ 2 (upd (σ.1 2) (117 + b * 31 + f) (σ.1 2 (117 + b * 31 + f) + x)))) 0 0 := by
  refine g_enter (own := RX3) (cc := cX3_addBondFact) (nL := 4) (ret := none) [some (.ref (ad γ 1)), some (.int (nI b)), some (.int (nI f)), some (.int x)] (by decide) rfl rfl (by simp [lg_sl, Value.category]) (by simp [gl_le, glE, Value.category]) (fun hj p e s m args below meth c X hr hlk hnm => ?_)
  have hi3 : ∀ w ∈ wsX30, w ∈ wsX3_addBondFact := by decide +kernel
  refine g_aload_n X dX3_addBondFact_0 rfl rfl ?_
  refine g_get_1_0 X hi3 (by decide +kernel) dX3_addBondFact_1 ?_
  refine g_bipush (v := nI 117) X dX3_addBondFact_4 (by decide) ?_
  refine g_iload_n X dX3_addBondFact_6 rfl rfl ?_
  refine g_bipush (v := nI 31) X dX3_addBondFact_7 (by decide) ?_
  refine g_imulN X dX3_addBondFact_9 ?_
  refine g_iaddN X dX3_addBondFact_10 ?_
  refine g_iload_n X dX3_addBondFact_11 rfl rfl ?_
  refine g_iaddN X dX3_addBondFact_12 ?_
  refine g_dup2_11 X dX3_addBondFact_13 rfl rfl ?_
  refine g_ald_2 X rfl (by omega) dX3_addBondFact_14 ?_
  refine g_iload_n X dX3_addBondFact_15 rfl rfl ?_
  refine g_iadd X dX3_addBondFact_16 ?_
  refine g_ast_2 X rfl (by omega) dX3_addBondFact_17 ?_
  exact g_vret X hr hlk dX3_addBondFact_18 ⟨rfl, rfl⟩
set_option maxRecDepth 20000 in
theorem k_X3_milestoneShare (l : Launch) (γ : gG) (σ : gS) (b k : Nat) (h : b < 10) (h2 : k < 5) : gM l γ yX3_milestoneShare wsX3_milestoneShare ({ frames := 1, cells := 0, slots := 0, locals := 22 } : Room) [.ref (ad γ 1), .int (nI b), .int (nI k)] σ (gis (some (.int (σ.1 2 (117 + b * 31 + (10 + k))))) σ) 0 0 := by
  refine g_enter (own := RX3) (cc := cX3_milestoneShare) (nL := 3) (ret := (some .int)) [some (.ref (ad γ 1)), some (.int (nI b)), some (.int (nI k))] (by decide) rfl rfl (by simp [lg_sl, Value.category]) (by simp [gl_le, glE, Value.category]) (fun hj p e s m args below meth c X hr hlk hnm => ?_)
  refine g_aload_n X dX3_milestoneShare_0 rfl rfl ?_
  refine g_iload_n X dX3_milestoneShare_1 rfl rfl ?_
  refine g_bipush (v := nI 10) X dX3_milestoneShare_2 (by decide) ?_
  refine g_iload_n X dX3_milestoneShare_4 rfl rfl ?_
  refine g_iaddN X dX3_milestoneShare_5 ?_
  refine g_callVi (na := 2) X hj (k_X3_bondFact l γ _ _ _ (by omega)) gW_1 rfl gX3_milestoneShare_X3_bondFact rfl ⟨rfl, rfl⟩ (by decide +kernel) rfl ⟨by decide, by decide⟩ rfl (Nat.le_of_ble_eq_true rfl) dX3_milestoneShare_6 ⟨by decide, by decide⟩ ?_
  exact g_iret X hr hlk dX3_milestoneShare_9 ⟨rfl, rfl⟩
set_option maxRecDepth 20000 in
theorem k_X3_layerFact (l : Launch) (γ : gG) (σ : gS) (b i f : Nat) (h : b < 10) (h2 : i < 4) (h3 : f < 4) : gM l γ yX3_layerFact wsX3_layerFact ({ frames := 0, cells := 0, slots := 0, locals := 0 } : Room) [.ref (ad γ 1), .int (nI b), .int (nI i), .int (nI f)] σ (gis (some (.int (σ.1 2 (117 + b * 31 + 15 + i * 4 + f)))) σ) 0 0 := by
  refine g_enter (own := RX3) (cc := cX3_layerFact) (nL := 4) (ret := (some .int)) [some (.ref (ad γ 1)), some (.int (nI b)), some (.int (nI i)), some (.int (nI f))] (by decide) rfl rfl (by simp [lg_sl, Value.category]) (by simp [gl_le, glE, Value.category]) (fun hj p e s m args below meth c X hr hlk hnm => ?_)
  have hi3 : ∀ w ∈ wsX30, w ∈ wsX3_layerFact := by decide +kernel
  refine g_aload_n X dX3_layerFact_0 rfl rfl ?_
  refine g_get_1_0 X hi3 (by decide +kernel) dX3_layerFact_1 ?_
  refine g_bipush (v := nI 117) X dX3_layerFact_4 (by decide) ?_
  refine g_iload_n X dX3_layerFact_6 rfl rfl ?_
  refine g_bipush (v := nI 31) X dX3_layerFact_7 (by decide) ?_
  refine g_imulN X dX3_layerFact_9 ?_
  refine g_iaddN X dX3_layerFact_10 ?_
  refine g_bipush (v := nI 15) X dX3_layerFact_11 (by decide) ?_
  refine g_iaddN X dX3_layerFact_13 ?_
  refine g_iload_n X dX3_layerFact_14 rfl rfl ?_
  refine g_iconstN X 4 dX3_layerFact_15 ?_
  refine g_imulN X dX3_layerFact_16 ?_
  refine g_iaddN X dX3_layerFact_17 ?_
  refine g_iload_n X dX3_layerFact_18 rfl rfl ?_
  refine g_iaddN X dX3_layerFact_19 ?_
  refine g_ald_2 X rfl (by omega) dX3_layerFact_20 ?_
  exact g_iret X hr hlk dX3_layerFact_21 ⟨rfl, rfl⟩
set_option maxRecDepth 20000 in
theorem k_X3_putLayerFact (l : Launch) (γ : gG) (σ : gS) (b i f : Nat) (x : Int32) (h : b < 10) (h2 : i < 4) (h3 : f < 4) : gM l γ yX3_putLayerFact wsX3_putLayerFact ({ frames := 0, cells := 0, slots := 0, locals := 0 } : Room) [.ref (ad γ 1), .int (nI b), .int (nI i), .int (nI f), .int x] σ (gis none (sA σ 2 (upd (σ.1 2) (117 + b * 31 + 15 + i * 4 + f) x))) 0 0 := by
  refine g_enter (own := RX3) (cc := cX3_putLayerFact) (nL := 5) (ret := none) [some (.ref (ad γ 1)), some (.int (nI b)), some (.int (nI i)), some (.int (nI f)), some (.int x)] (by decide) rfl rfl (by simp [lg_sl, Value.category]) (by simp [gl_le, glE, Value.category]) (fun hj p e s m args below meth c X hr hlk hnm => ?_)
  have hi3 : ∀ w ∈ wsX30, w ∈ wsX3_putLayerFact := by decide +kernel
  refine g_aload_n X dX3_putLayerFact_0 rfl rfl ?_
  refine g_get_1_0 X hi3 (by decide +kernel) dX3_putLayerFact_1 ?_
  refine g_bipush (v := nI 117) X dX3_putLayerFact_4 (by decide) ?_
  refine g_iload_n X dX3_putLayerFact_6 rfl rfl ?_
  refine g_bipush (v := nI 31) X dX3_putLayerFact_7 (by decide) ?_
  refine g_imulN X dX3_putLayerFact_9 ?_
  refine g_iaddN X dX3_putLayerFact_10 ?_
  refine g_bipush (v := nI 15) X dX3_putLayerFact_11 (by decide) ?_
  refine g_iaddN X dX3_putLayerFact_13 ?_
  refine g_iload_n X dX3_putLayerFact_14 rfl rfl ?_
  refine g_iconstN X 4 dX3_putLayerFact_15 ?_
  refine g_imulN X dX3_putLayerFact_16 ?_
  refine g_iaddN X dX3_putLayerFact_17 ?_
  refine g_iload_n X dX3_putLayerFact_18 rfl rfl ?_
  refine g_iaddN X dX3_putLayerFact_19 ?_
  refine g_iload X dX3_putLayerFact_20 rfl ?_
  refine g_ast_2 X rfl (by omega) dX3_putLayerFact_22 ?_
  exact g_vret X hr hlk dX3_putLayerFact_23 ⟨rfl, rfl⟩
set_option maxRecDepth 20000 in
theorem k_X3_addLayerFact (l : Launch) (γ : gG) (σ : gS) (b i f : Nat) (x : Int32) (h : b < 10) (h2 : i < 4) (h3 : f < 4) : gM l γ yX3_addLayerFact wsX3_addLayerFact ({ frames := 0, cells := 0, slots := 0, locals := 0 } : Room) [.ref (ad γ 1), .int (nI b), .int (nI i), .int (nI f), .int x] σ (gis none (sA σ 2 (upd (σ.1 2) (117 + b * 31 + 15 + i * 4 + f) (σ.1 2 (117 + b * 31 + 15 + i * 4 + f) + x)))) 0 0 := by
  refine g_enter (own := RX3) (cc := cX3_addLayerFact) (nL := 5) (ret := none) [some (.ref (ad γ 1)), some (.int (nI b)), some (.int (nI i)), some (.int (nI f)), some (.int x)] (by decide) rfl rfl (by simp [lg_sl, Value.category]) (by simp [gl_le, glE, Value.category]) (fun hj p e s m args below meth c X hr hlk hnm => ?_)
  have hi3 : ∀ w ∈ wsX30, w ∈ wsX3_addLayerFact := by decide +kernel
  refine g_aload_n X dX3_addLayerFact_0 rfl rfl ?_
  refine g_get_1_0 X hi3 (by decide +kernel) dX3_addLayerFact_1 ?_
  refine g_bipush (v := nI 117) X dX3_addLayerFact_4 (by decide) ?_
  refine g_iload_n X dX3_addLayerFact_6 rfl rfl ?_
  refine g_bipush (v := nI 31) X dX3_addLayerFact_7 (by decide) ?_
  refine g_imulN X dX3_addLayerFact_9 ?_
  refine g_iaddN X dX3_addLayerFact_10 ?_
  refine g_bipush (v := nI 15) X dX3_addLayerFact_11 (by decide) ?_
  refine g_iaddN X dX3_addLayerFact_13 ?_
  refine g_iload_n X dX3_addLayerFact_14 rfl rfl ?_
  refine g_iconstN X 4 dX3_addLayerFact_15 ?_
  refine g_imulN X dX3_addLayerFact_16 ?_
  refine g_iaddN X dX3_addLayerFact_17 ?_
  refine g_iload_n X dX3_addLayerFact_18 rfl rfl ?_
  refine g_iaddN X dX3_addLayerFact_19 ?_
  refine g_dup2_11 X dX3_addLayerFact_20 rfl rfl ?_
  refine g_ald_2 X rfl (by omega) dX3_addLayerFact_21 ?_
  refine g_iload X dX3_addLayerFact_22 rfl ?_
  refine g_iadd X dX3_addLayerFact_24 ?_
  refine g_ast_2 X rfl (by omega) dX3_addLayerFact_25 ?_
  exact g_vret X hr hlk dX3_addLayerFact_26 ⟨rfl, rfl⟩
set_option maxRecDepth 20000 in
theorem k_X3_cashOfAll (l : Launch) (γ : gG) (σ : gS) : gM l γ yX3_cashOfAll wsX3_cashOfAll ({ frames := 1, cells := 0, slots := 0, locals := 22 } : Room) [.ref (ad γ 1)] σ (gis (some (.int (sumI (fun q => σ.1 2 (q * 6 + 0)) 8))) σ) 0 0 := by
  refine g_enter (own := RX3) (cc := cX3_cashOfAll) (nL := 3) (ret := (some .int)) [some (.ref (ad γ 1)), none, none] (by decide) rfl rfl (by simp [lg_sl, Value.category]) (by simp [gl_le, glE, Value.category]) (fun hj p e s m args below meth c X hr hlk hnm => ?_)
  refine g_iconstN X 0 dX3_cashOfAll_0 ?_
  refine g_istore_n1 X dX3_cashOfAll_1 rfl (by decide) rfl ?_
  refine g_iconstN X 0 dX3_cashOfAll_2 ?_
  refine g_istore_n2 X dX3_cashOfAll_3 rfl (by decide) rfl ?_
  refine g_up (i0 := 0) (N := 8) (fun i => [some (.ref (ad γ 1)), some (.int (sumI (fun q => σ.1 2 (q * 6 + 0)) i)), some (.int (nI i))]) (fun i => σ) (by simp [gl_le, sumI]) rfl (by omega) (fun i hi ih4 => ?_)
  refine g_iload_n X dX3_cashOfAll_4 rfl rfl ?_
  refine g_bipush (v := nI 8) X dX3_cashOfAll_5 (by decide) ?_
  refine g_icmpN_ge (tgt := 25) X dX3_cashOfAll_7 (by decide) (by omega) (by omega) (fun c_7 => ?_) (fun c_7 => ?_)
  · refine g_iload_n X dX3_cashOfAll_25 rfl rfl ?_
    exact g_iret X hr hlk dX3_cashOfAll_26 (by have hi8 : i = 8 := (by omega); subst hi8; exact ⟨rfl, rfl⟩)
  · refine g_iload_n X dX3_cashOfAll_10 rfl rfl ?_
    refine g_aload_n X dX3_cashOfAll_11 rfl rfl ?_
    refine g_iload_n X dX3_cashOfAll_12 rfl rfl ?_
    refine g_iconstN X 0 dX3_cashOfAll_13 ?_
    refine g_callVi (na := 2) X hj (k_X3_fact l γ _ _ _ (by omega)) gW_1 rfl gX3_cashOfAll_X3_fact rfl ⟨rfl, rfl⟩ (by decide +kernel) rfl ⟨by decide, by decide⟩ rfl (Nat.le_of_ble_eq_true rfl) dX3_cashOfAll_14 ⟨by decide, by decide⟩ ?_
    refine g_iadd X dX3_cashOfAll_17 ?_
    refine g_istore_n1 X dX3_cashOfAll_18 rfl (by decide) rfl ?_
    refine g_iincN2 (d := 1) X dX3_cashOfAll_19 (by decide) rfl ?_
    refine g_goto (tgt := 4) X dX3_cashOfAll_22 (by decide) ?_
    exact g_le (by simp [gl_le, sumI]) (ih4 (by omega))
set_option maxRecDepth 20000 in
theorem k_X3_owedBy (l : Launch) (γ : gG) (σ : gS) (q : Nat) (hq : q < 8) : gM l γ yX3_owedBy wsX3_owedBy ({ frames := 1, cells := 0, slots := 0, locals := 22 } : Room) [.ref (ad γ 1), .int (nI q)] σ (gis (some (.int (sumI (fun o => σ.1 2 (48 + q * 8 + o)) 8))) σ) 0 0 := by
  refine g_enter (own := RX3) (cc := cX3_owedBy) (nL := 4) (ret := (some .int)) [some (.ref (ad γ 1)), some (.int (nI q)), none, none] (by decide) rfl rfl (by simp [lg_sl, Value.category]) (by simp [gl_le, glE, Value.category]) (fun hj p e s m args below meth c X hr hlk hnm => ?_)
  refine g_iconstN X 0 dX3_owedBy_0 ?_
  refine g_istore_n2 X dX3_owedBy_1 rfl (by decide) rfl ?_
  refine g_iconstN X 0 dX3_owedBy_2 ?_
  refine g_istore_n3 X dX3_owedBy_3 rfl (by decide) rfl ?_
  refine g_up (i0 := 0) (N := 8) (fun i => [some (.ref (ad γ 1)), some (.int (nI q)), some (.int (sumI (fun o => σ.1 2 (48 + q * 8 + o)) i)), some (.int (nI i))]) (fun i => σ) (by simp [gl_le, sumI]) rfl (by omega) (fun i hi ih4 => ?_)
  refine g_iload_n X dX3_owedBy_4 rfl rfl ?_
  refine g_bipush (v := nI 8) X dX3_owedBy_5 (by decide) ?_
  refine g_icmpN_ge (tgt := 25) X dX3_owedBy_7 (by decide) (by omega) (by omega) (fun c_7 => ?_) (fun c_7 => ?_)
  · refine g_iload_n X dX3_owedBy_25 rfl rfl ?_
    exact g_iret X hr hlk dX3_owedBy_26 (by have hi8 : i = 8 := (by omega); subst hi8; exact ⟨rfl, rfl⟩)
  · refine g_iload_n X dX3_owedBy_10 rfl rfl ?_
    refine g_aload_n X dX3_owedBy_11 rfl rfl ?_
    refine g_iload_n X dX3_owedBy_12 rfl rfl ?_
    refine g_iload_n X dX3_owedBy_13 rfl rfl ?_
    refine g_callVi (na := 2) X hj (k_X3_owed l γ _ _ _ (by omega) (by omega)) gW_1 rfl gX3_owedBy_X3_owed rfl ⟨rfl, rfl⟩ (by decide +kernel) rfl ⟨by decide, by decide⟩ rfl (Nat.le_of_ble_eq_true rfl) dX3_owedBy_14 ⟨by decide, by decide⟩ ?_
    refine g_iadd X dX3_owedBy_17 ?_
    refine g_istore_n2 X dX3_owedBy_18 rfl (by decide) rfl ?_
    refine g_iincN3 (d := 1) X dX3_owedBy_19 (by decide) rfl ?_
    refine g_goto (tgt := 4) X dX3_owedBy_22 (by decide) ?_
    exact g_le (by simp [gl_le, sumI]) (ih4 (by omega))
set_option maxRecDepth 20000 in
theorem k_X3_owedTo (l : Launch) (γ : gG) (σ : gS) (q : Nat) (hq : q < 8) : gM l γ yX3_owedTo wsX3_owedTo ({ frames := 1, cells := 0, slots := 0, locals := 22 } : Room) [.ref (ad γ 1), .int (nI q)] σ (gis (some (.int (sumI (fun o => σ.1 2 (48 + o * 8 + q)) 8))) σ) 0 0 := by
  refine g_enter (own := RX3) (cc := cX3_owedTo) (nL := 4) (ret := (some .int)) [some (.ref (ad γ 1)), some (.int (nI q)), none, none] (by decide) rfl rfl (by simp [lg_sl, Value.category]) (by simp [gl_le, glE, Value.category]) (fun hj p e s m args below meth c X hr hlk hnm => ?_)
  refine g_iconstN X 0 dX3_owedTo_0 ?_
  refine g_istore_n2 X dX3_owedTo_1 rfl (by decide) rfl ?_
  refine g_iconstN X 0 dX3_owedTo_2 ?_
  refine g_istore_n3 X dX3_owedTo_3 rfl (by decide) rfl ?_
  refine g_up (i0 := 0) (N := 8) (fun i => [some (.ref (ad γ 1)), some (.int (nI q)), some (.int (sumI (fun o => σ.1 2 (48 + o * 8 + q)) i)), some (.int (nI i))]) (fun i => σ) (by simp [gl_le, sumI]) rfl (by omega) (fun i hi ih4 => ?_)
  refine g_iload_n X dX3_owedTo_4 rfl rfl ?_
  refine g_bipush (v := nI 8) X dX3_owedTo_5 (by decide) ?_
  refine g_icmpN_ge (tgt := 25) X dX3_owedTo_7 (by decide) (by omega) (by omega) (fun c_7 => ?_) (fun c_7 => ?_)
  · refine g_iload_n X dX3_owedTo_25 rfl rfl ?_
    exact g_iret X hr hlk dX3_owedTo_26 (by have hi8 : i = 8 := (by omega); subst hi8; exact ⟨rfl, rfl⟩)
  · refine g_iload_n X dX3_owedTo_10 rfl rfl ?_
    refine g_aload_n X dX3_owedTo_11 rfl rfl ?_
    refine g_iload_n X dX3_owedTo_12 rfl rfl ?_
    refine g_iload_n X dX3_owedTo_13 rfl rfl ?_
    refine g_callVi (na := 2) X hj (k_X3_owed l γ _ _ _ (by omega) (by omega)) gW_1 rfl gX3_owedTo_X3_owed rfl ⟨rfl, rfl⟩ (by decide +kernel) rfl ⟨by decide, by decide⟩ rfl (Nat.le_of_ble_eq_true rfl) dX3_owedTo_14 ⟨by decide, by decide⟩ ?_
    refine g_iadd X dX3_owedTo_17 ?_
    refine g_istore_n2 X dX3_owedTo_18 rfl (by decide) rfl ?_
    refine g_iincN3 (d := 1) X dX3_owedTo_19 (by decide) rfl ?_
    refine g_goto (tgt := 4) X dX3_owedTo_22 (by decide) ?_
    exact g_le (by simp [gl_le, sumI]) (ih4 (by omega))
set_option maxRecDepth 20000 in
theorem k_X3_debtsOfAll (l : Launch) (γ : gG) (σ : gS) : gM l γ yX3_debtsOfAll wsX3_debtsOfAll ({ frames := 2, cells := 0, slots := 0, locals := 45 } : Room) [.ref (ad γ 1)] σ (gis (some (.int (sumI (fun q => sumI (fun o => σ.1 2 (48 + q * 8 + o)) 8) 8))) σ) 0 0 := by
  refine g_enter (own := RX3) (cc := cX3_debtsOfAll) (nL := 3) (ret := (some .int)) [some (.ref (ad γ 1)), none, none] (by decide) rfl rfl (by simp [lg_sl, Value.category]) (by simp [gl_le, glE, Value.category]) (fun hj p e s m args below meth c X hr hlk hnm => ?_)
  refine g_iconstN X 0 dX3_debtsOfAll_0 ?_
  refine g_istore_n1 X dX3_debtsOfAll_1 rfl (by decide) rfl ?_
  refine g_iconstN X 0 dX3_debtsOfAll_2 ?_
  refine g_istore_n2 X dX3_debtsOfAll_3 rfl (by decide) rfl ?_
  refine g_up (i0 := 0) (N := 8) (fun i => [some (.ref (ad γ 1)), some (.int (sumI (fun q => sumI (fun o => σ.1 2 (48 + q * 8 + o)) 8) i)), some (.int (nI i))]) (fun i => σ) (by simp [gl_le, sumI]) rfl (by omega) (fun i hi ih4 => ?_)
  refine g_iload_n X dX3_debtsOfAll_4 rfl rfl ?_
  refine g_bipush (v := nI 8) X dX3_debtsOfAll_5 (by decide) ?_
  refine g_icmpN_ge (tgt := 24) X dX3_debtsOfAll_7 (by decide) (by omega) (by omega) (fun c_7 => ?_) (fun c_7 => ?_)
  · refine g_iload_n X dX3_debtsOfAll_24 rfl rfl ?_
    exact g_iret X hr hlk dX3_debtsOfAll_25 (by have hi8 : i = 8 := (by omega); subst hi8; exact ⟨rfl, rfl⟩)
  · refine g_iload_n X dX3_debtsOfAll_10 rfl rfl ?_
    refine g_aload_n X dX3_debtsOfAll_11 rfl rfl ?_
    refine g_iload_n X dX3_debtsOfAll_12 rfl rfl ?_
    refine g_callVi (na := 1) X hj (k_X3_owedBy l γ _ _ (by omega)) gW_1 rfl gX3_debtsOfAll_X3_owedBy rfl ⟨rfl, rfl⟩ (by decide +kernel) rfl ⟨by decide, by decide⟩ rfl (Nat.le_of_ble_eq_true rfl) dX3_debtsOfAll_13 ⟨by decide, by decide⟩ ?_
    refine g_iadd X dX3_debtsOfAll_16 ?_
    refine g_istore_n1 X dX3_debtsOfAll_17 rfl (by decide) rfl ?_
    refine g_iincN2 (d := 1) X dX3_debtsOfAll_18 (by decide) rfl ?_
    refine g_goto (tgt := 4) X dX3_debtsOfAll_21 (by decide) ?_
    exact g_le (by simp only [gl_le, List.head?, List.tail, sumI]; simp) (ih4 (by omega))
set_option maxRecDepth 20000 in
theorem k_X3_leftOfBond (l : Launch) (γ : gG) (σ : gS) (b : Nat) (hb : b < 10) : gM l γ yX3_leftOfBond wsX3_leftOfBond ({ frames := 1, cells := 0, slots := 0, locals := 22 } : Room) [.ref (ad γ 1), .int (nI b)] σ (gis (some (.int (leftOf (σ.1 2) b))) σ) 0 0 := by
  refine g_enter (own := RX3) (cc := cX3_leftOfBond) (nL := 2) (ret := (some .int)) [some (.ref (ad γ 1)), some (.int (nI b))] (by decide) rfl rfl (by simp [lg_sl, Value.category]) (by simp [gl_le, glE, Value.category]) (fun hj p e s m args below meth c X hr hlk hnm => ?_)
  refine g_aload_n X dX3_leftOfBond_0 rfl rfl ?_
  refine g_iload_n X dX3_leftOfBond_1 rfl rfl ?_
  refine g_iconstN X 1 dX3_leftOfBond_2 ?_
  refine g_callVi (na := 2) X hj (k_X3_bondFact l γ _ _ _ (by omega)) gW_1 rfl gX3_leftOfBond_X3_bondFact rfl ⟨rfl, rfl⟩ (by decide +kernel) rfl ⟨by decide, by decide⟩ rfl (Nat.le_of_ble_eq_true rfl) dX3_leftOfBond_3 ⟨by decide, by decide⟩ ?_
  refine g_aload_n X dX3_leftOfBond_6 rfl rfl ?_
  refine g_iload_n X dX3_leftOfBond_7 rfl rfl ?_
  refine g_bipush (v := nI 6) X dX3_leftOfBond_8 (by decide) ?_
  refine g_callVi (na := 2) X hj (k_X3_bondFact l γ _ _ _ (by omega)) gW_1 rfl gX3_leftOfBond_X3_bondFact rfl ⟨rfl, rfl⟩ (by decide +kernel) rfl ⟨by decide, by decide⟩ rfl (Nat.le_of_ble_eq_true rfl) dX3_leftOfBond_10 ⟨by decide, by decide⟩ ?_
  refine g_isub X dX3_leftOfBond_13 ?_
  refine g_aload_n X dX3_leftOfBond_14 rfl rfl ?_
  refine g_iload_n X dX3_leftOfBond_15 rfl rfl ?_
  refine g_bipush (v := nI 8) X dX3_leftOfBond_16 (by decide) ?_
  refine g_callVi (na := 2) X hj (k_X3_bondFact l γ _ _ _ (by omega)) gW_1 rfl gX3_leftOfBond_X3_bondFact rfl ⟨rfl, rfl⟩ (by decide +kernel) rfl ⟨by decide, by decide⟩ rfl (Nat.le_of_ble_eq_true rfl) dX3_leftOfBond_18 ⟨by decide, by decide⟩ ?_
  refine g_isub X dX3_leftOfBond_21 ?_
  exact g_iret X hr hlk dX3_leftOfBond_22 ⟨rfl, rfl⟩
set_option maxRecDepth 20000 in
theorem k_X3_leftOfLimits (l : Launch) (γ : gG) (σ : gS) (b L : Nat) (hb : b < 10) (hL : σ.1 2 (117 + b * 31 + 3) = nI L) (hL4 : L ≤ 4) : gM l γ yX3_leftOfLimits wsX3_leftOfLimits ({ frames := 1, cells := 0, slots := 0, locals := 23 } : Room) [.ref (ad γ 1), .int (nI b)] σ (gis (some (.int (limitsOf (σ.1 2) b L))) σ) 0 0 := by
  refine g_enter (own := RX3) (cc := cX3_leftOfLimits) (nL := 4) (ret := (some .int)) [some (.ref (ad γ 1)), some (.int (nI b)), none, none] (by decide) rfl rfl (by simp [lg_sl, Value.category]) (by simp [gl_le, glE, Value.category]) (fun hj p e s m args below meth c X hr hlk hnm => ?_)
  refine g_iconstN X 0 dX3_leftOfLimits_0 ?_
  refine g_istore_n2 X dX3_leftOfLimits_1 rfl (by decide) rfl ?_
  refine g_iconstN X 0 dX3_leftOfLimits_2 ?_
  refine g_istore_n3 X dX3_leftOfLimits_3 rfl (by decide) rfl ?_
  refine g_up (i0 := 0) (N := L) (fun i => [some (.ref (ad γ 1)), some (.int (nI b)), some (.int (sumI (fun i => σ.1 2 (117 + b * 31 + 15 + i * 4 + 2)) i)), some (.int (nI i))]) (fun i => σ) (by simp [gl_le, sumI]) rfl (by omega) (fun i hi ih4 => ?_)
  refine g_iload_n X dX3_leftOfLimits_4 rfl rfl ?_
  refine g_aload_n X dX3_leftOfLimits_5 rfl rfl ?_
  refine g_iload_n X dX3_leftOfLimits_6 rfl rfl ?_
  refine g_iconstN X 3 dX3_leftOfLimits_7 ?_
  refine g_callVi (na := 2) X hj (k_X3_bondFact l γ _ _ _ (by omega)) gW_1 rfl gX3_leftOfLimits_X3_bondFact rfl ⟨rfl, rfl⟩ (by decide +kernel) rfl ⟨by decide, by decide⟩ rfl (Nat.le_of_ble_eq_true rfl) dX3_leftOfLimits_8 ⟨by decide, by decide⟩ ?_
  refine g_top hL ?_
  refine g_icmpN_ge (tgt := 30) X dX3_leftOfLimits_11 (by decide) (by omega) (by omega) (fun c_11 => ?_) (fun c_11 => ?_)
  · refine g_iload_n X dX3_leftOfLimits_30 rfl rfl ?_
    exact g_iret X hr hlk dX3_leftOfLimits_31 (by have hiL : i = L := (by omega); subst hiL; exact ⟨rfl, rfl⟩)
  · refine g_iload_n X dX3_leftOfLimits_14 rfl rfl ?_
    refine g_aload_n X dX3_leftOfLimits_15 rfl rfl ?_
    refine g_iload_n X dX3_leftOfLimits_16 rfl rfl ?_
    refine g_iload_n X dX3_leftOfLimits_17 rfl rfl ?_
    refine g_iconstN X 2 dX3_leftOfLimits_18 ?_
    refine g_callVi (na := 3) X hj (k_X3_layerFact l γ _ _ _ _ (by omega) (by omega) (by omega)) gW_1 rfl gX3_leftOfLimits_X3_layerFact rfl ⟨rfl, rfl⟩ (by decide +kernel) rfl ⟨by decide, by decide⟩ rfl (Nat.le_of_ble_eq_true rfl) dX3_leftOfLimits_19 ⟨by decide, by decide⟩ ?_
    refine g_iadd X dX3_leftOfLimits_22 ?_
    refine g_istore_n2 X dX3_leftOfLimits_23 rfl (by decide) rfl ?_
    refine g_iincN3 (d := 1) X dX3_leftOfLimits_24 (by decide) rfl ?_
    refine g_goto (tgt := 4) X dX3_leftOfLimits_27 (by decide) ?_
    exact g_le (by simp [gl_le, sumI]) (ih4 (by omega))
set_option maxRecDepth 20000 in
theorem k_X3_boundFor (l : Launch) (γ : gG) (σ : gS) (N : Nat) (L : Nat → Nat) (q : Int32) (hS : Sh (σ.1 2) N L) : gM l γ yX3_boundFor wsX3_boundFor ({ frames := 1, cells := 0, slots := 0, locals := 23 } : Room) [.ref (ad γ 1), .int q] σ (gis (some (.int (boundFor (σ.1 2) N L q))) σ) 0 0 := by
  obtain ⟨hN, hN10, hL⟩ := hS
  refine g_enter (own := RX3) (cc := cX3_boundFor) (nL := 5) (ret := (some .int)) [some (.ref (ad γ 1)), some (.int q), none, none, none] (by decide) rfl rfl (by simp [lg_sl, Value.category]) (by simp [gl_le, glE, Value.category]) (fun hj p e s m args below meth c X hr hlk hnm => ?_)
  refine g_iconstN X 0 dX3_boundFor_0 ?_
  refine g_istore_n2 X dX3_boundFor_1 rfl (by decide) rfl ?_
  refine g_iconstN X 0 dX3_boundFor_2 ?_
  refine g_istore_n3 X dX3_boundFor_3 rfl (by decide) rfl ?_
  refine g_up (i0 := 0) (N := N) (fun b => [some (.ref (ad γ 1)), some (.int q), some (.int (sumI (fun b => sumI (fun i => if σ.1 2 (117 + b * 31 + 15 + i * 4 + 0) = q then σ.1 2 (117 + b * 31 + 15 + i * 4 + 2) else nI 0) (L b)) b)), some (.int (nI b)), none]) (fun b => σ) (by simp [gl_le, sumI]) rfl (by omega) (fun b hb ih4 => ?_)
  refine g_iload_n X dX3_boundFor_4 rfl rfl ?_
  refine g_aload_n X dX3_boundFor_5 rfl rfl ?_
  refine g_callVi (na := 0) X hj (k_X3_bondCount l γ _) gW_1 rfl gX3_boundFor_X3_bondCount rfl ⟨rfl, rfl⟩ (by decide +kernel) rfl ⟨by decide, by decide⟩ rfl (Nat.le_of_ble_eq_true rfl) dX3_boundFor_6 ⟨by decide, by decide⟩ ?_
  refine g_top hN ?_
  refine g_icmpN_ge (tgt := 61) X dX3_boundFor_9 (by decide) (by omega) (by omega) (fun c_9 => ?_) (fun c_9 => ?_)
  · refine g_iload_n X dX3_boundFor_61 rfl rfl ?_
    exact g_iret X hr hlk dX3_boundFor_62 (by have e : b = N := (by omega); subst e; exact ⟨rfl, rfl⟩)
  · refine g_iconstN X 0 dX3_boundFor_12 ?_
    refine g_istore_s4 X dX3_boundFor_13 (by decide) rfl ?_
    refine g_up (i0 := 0) (N := (L b)) (fun i => [some (.ref (ad γ 1)), some (.int q), some (.int (sumI (fun b => sumI (fun i => if σ.1 2 (117 + b * 31 + 15 + i * 4 + 0) = q then σ.1 2 (117 + b * 31 + 15 + i * 4 + 2) else nI 0) (L b)) b + sumI (fun i => if σ.1 2 (117 + b * 31 + 15 + i * 4 + 0) = q then σ.1 2 (117 + b * 31 + 15 + i * 4 + 2) else nI 0) i)), some (.int (nI b)), some (.int (nI i))]) (fun i => σ) (by simp [gl_le, sumI, add_nI0]) rfl (by omega) (fun i hi ih15 => ?_)
    have hLb := (hL b (by omega)).2
    refine g_iload X dX3_boundFor_15 rfl ?_
    refine g_aload_n X dX3_boundFor_17 rfl rfl ?_
    refine g_iload_n X dX3_boundFor_18 rfl rfl ?_
    refine g_iconstN X 3 dX3_boundFor_19 ?_
    refine g_callVi (na := 2) X hj (k_X3_bondFact l γ _ _ _ (by omega)) gW_1 rfl gX3_boundFor_X3_bondFact rfl ⟨rfl, rfl⟩ (by decide +kernel) rfl ⟨by decide, by decide⟩ rfl (Nat.le_of_ble_eq_true rfl) dX3_boundFor_20 ⟨by decide, by decide⟩ ?_
    refine g_top (hL b (by omega)).1 ?_
    refine g_icmpN_ge (tgt := 55) X dX3_boundFor_23 (by decide) (by omega) (by omega) (fun c_23 => ?_) (fun c_23 => ?_)
    · refine g_iincN3 (d := 1) X dX3_boundFor_55 (by decide) rfl ?_
      refine g_goto (tgt := 4) X dX3_boundFor_58 (by decide) ?_
      exact g_le (by have e : i = L b := (by omega); subst e; simp [gl_le, sumI]) (ih4 (by omega))
    · refine g_aload_n X dX3_boundFor_26 rfl rfl ?_
      refine g_iload_n X dX3_boundFor_27 rfl rfl ?_
      refine g_iload X dX3_boundFor_28 rfl ?_
      refine g_iconstN X 0 dX3_boundFor_30 ?_
      refine g_callVi (na := 3) X hj (k_X3_layerFact l γ _ _ _ _ (by omega) (by omega) (by omega)) gW_1 rfl gX3_boundFor_X3_layerFact rfl ⟨rfl, rfl⟩ (by decide +kernel) rfl ⟨by decide, by decide⟩ rfl (Nat.le_of_ble_eq_true rfl) dX3_boundFor_31 ⟨by decide, by decide⟩ ?_
      refine g_iload_n X dX3_boundFor_34 rfl rfl ?_
      refine g_icmp_ne (tgt := 49) X dX3_boundFor_35 (by decide) (fun c_35 => ?_) (fun c_35 => ?_)
      · refine g_iincN4 (d := 1) X dX3_boundFor_49 (by decide) rfl ?_
        refine g_goto (tgt := 15) X dX3_boundFor_52 (by decide) ?_
        exact g_le (by simp only [Nat.add_zero] at c_35; simp [gl_le, sumI, c_35, add_nI0, Int32.add_assoc]) (ih15 (by omega))
      · refine g_iload_n X dX3_boundFor_38 rfl rfl ?_
        refine g_aload_n X dX3_boundFor_39 rfl rfl ?_
        refine g_iload_n X dX3_boundFor_40 rfl rfl ?_
        refine g_iload X dX3_boundFor_41 rfl ?_
        refine g_iconstN X 2 dX3_boundFor_43 ?_
        refine g_callVi (na := 3) X hj (k_X3_layerFact l γ _ _ _ _ (by omega) (by omega) (by omega)) gW_1 rfl gX3_boundFor_X3_layerFact rfl ⟨rfl, rfl⟩ (by decide +kernel) rfl ⟨by decide, by decide⟩ rfl (Nat.le_of_ble_eq_true rfl) dX3_boundFor_44 ⟨by decide, by decide⟩ ?_
        refine g_iadd X dX3_boundFor_47 ?_
        refine g_istore_n2 X dX3_boundFor_48 rfl (by decide) rfl ?_
        refine g_iincN4 (d := 1) X dX3_boundFor_49 (by decide) rfl ?_
        refine g_goto (tgt := 15) X dX3_boundFor_52 (by decide) ?_
        exact g_le (by simp only [Nat.add_zero] at c_35; simp [gl_le, sumI, c_35, add_nI0, Int32.add_assoc]) (ih15 (by omega))
set_option maxRecDepth 20000 in
theorem k_X3_spareCash (l : Launch) (γ : gG) (σ : gS) (N : Nat) (L : Nat → Nat) (q : Nat) (hS : Sh (σ.1 2) N L) (hq : q < 8) : gM l γ yX3_spareCash wsX3_spareCash ({ frames := 2, cells := 0, slots := 0, locals := 47 } : Room) [.ref (ad γ 1), .int (nI q)] σ (gis (some (.int (spareOf (σ.1 2) N L q))) σ) 0 0 := by
  refine g_enter (own := RX3) (cc := cX3_spareCash) (nL := 3) (ret := (some .int)) [some (.ref (ad γ 1)), some (.int (nI q)), none] (by decide) rfl rfl (by simp [lg_sl, Value.category]) (by simp [gl_le, glE, Value.category]) (fun hj p e s m args below meth c X hr hlk hnm => ?_)
  refine g_aload_n X dX3_spareCash_0 rfl rfl ?_
  refine g_iload_n X dX3_spareCash_1 rfl rfl ?_
  refine g_callVi (na := 1) X hj (k_X3_boundFor l γ _ N L _ hS) gW_1 rfl gX3_spareCash_X3_boundFor rfl ⟨rfl, rfl⟩ (by decide +kernel) rfl ⟨by decide, by decide⟩ rfl (Nat.le_of_ble_eq_true rfl) dX3_spareCash_2 ⟨by decide, by decide⟩ ?_
  refine g_aload_n X dX3_spareCash_5 rfl rfl ?_
  refine g_iconstN X 1 dX3_spareCash_6 ?_
  refine g_callVi (na := 1) X hj (k_X3_settingValue l γ _ _ (by omega)) gW_1 rfl gX3_spareCash_X3_settingValue rfl ⟨rfl, rfl⟩ (by decide +kernel) rfl ⟨by decide, by decide⟩ rfl (Nat.le_of_ble_eq_true rfl) dX3_spareCash_7 ⟨by decide, by decide⟩ ?_
  refine g_imul X dX3_spareCash_10 ?_
  refine g_bipush (v := nI 100) X dX3_spareCash_11 (by decide) ?_
  refine g_idiv X dX3_spareCash_13 (by decide) ?_
  refine g_istore_n2 X dX3_spareCash_14 rfl (by decide) rfl ?_
  refine g_iconstN X 0 dX3_spareCash_15 ?_
  refine g_aload_n X dX3_spareCash_16 rfl rfl ?_
  refine g_iload_n X dX3_spareCash_17 rfl rfl ?_
  refine g_iconstN X 0 dX3_spareCash_18 ?_
  refine g_callVi (na := 2) X hj (k_X3_fact l γ _ _ _ (by omega)) gW_1 rfl gX3_spareCash_X3_fact rfl ⟨rfl, rfl⟩ (by decide +kernel) rfl ⟨by decide, by decide⟩ rfl (Nat.le_of_ble_eq_true rfl) dX3_spareCash_19 ⟨by decide, by decide⟩ ?_
  refine g_iload_n X dX3_spareCash_22 rfl rfl ?_
  refine g_isub X dX3_spareCash_23 ?_
  refine g_max X (by decide +kernel) ⟨by decide, Nat.le_of_ble_eq_true rfl, by decide, by decide⟩ dX3_spareCash_24 ?_
  exact g_iret X hr hlk dX3_spareCash_27 ⟨rfl, rfl⟩
set_option maxRecDepth 20000 in
theorem k_X3_isPerson (l : Launch) (γ : gG) (σ : gS) (x : Int32) : gM l γ yX3_isPerson wsX3_isPerson ({ frames := 0, cells := 0, slots := 0, locals := 0 } : Room) [.int x] σ (gis (some (.int (bI (isPb x)))) σ) 0 0 := by
  refine g_enter (own := RX3) (cc := cX3_isPerson) (nL := 1) (ret := (some .boolean)) [some (.int x)] (by decide) rfl rfl (by simp [lg_sl, Value.category]) (by simp [gl_le, glE, Value.category]) (fun hj p e s m args below meth c X hr hlk hnm => ?_)
  refine g_iload_n X dX3_isPerson_0 rfl rfl ?_
  refine g_if_lt (tgt := 14) X dX3_isPerson_1 (by decide) (fun c_1 => ?_) (fun c_1 => ?_)
  · refine g_iconstN X 0 dX3_isPerson_14 ?_
    exact g_zret X hr hlk (by decide) dX3_isPerson_15 ⟨by simp [isPb, bI, *], rfl⟩
  · refine g_iload_n X dX3_isPerson_4 rfl rfl ?_
    refine g_bipush (v := nI 8) X dX3_isPerson_5 (by decide) ?_
    refine g_icmp_ge (tgt := 14) X dX3_isPerson_7 (by decide) (fun c_7 => ?_) (fun c_7 => ?_)
    · refine g_iconstN X 0 dX3_isPerson_14 ?_
      exact g_zret X hr hlk (by decide) dX3_isPerson_15 ⟨by simp [isPb, bI, *], rfl⟩
    · refine g_iconstN X 1 dX3_isPerson_10 ?_
      refine g_goto (tgt := 15) X dX3_isPerson_11 (by decide) ?_
      exact g_zret X hr hlk (by decide) dX3_isPerson_15 ⟨by simp [isPb, bI, *], rfl⟩
set_option maxRecDepth 20000 in
theorem k_X3_chainLength (l : Launch) (γ : gG) (σ : gS) (q : Nat) (hq : q < 8) : gM l γ yX3_chainLength wsX3_chainLength ({ frames := 1, cells := 0, slots := 0, locals := 22 } : Room) [.ref (ad γ 1), .int (nI q)] σ (gis (some (.int (nI (chainI (σ.1 2) 8 (σ.1 2 (q * 6 + 1)))))) σ) 0 0 := by
  refine g_enter (own := RX3) (cc := cX3_chainLength) (nL := 4) (ret := (some .int)) [some (.ref (ad γ 1)), some (.int (nI q)), none, none] (by decide) rfl rfl (by simp [lg_sl, Value.category]) (by simp [gl_le, glE, Value.category]) (fun hj p e s m args below meth c X hr hlk hnm => ?_)
  refine g_iconstN X 0 dX3_chainLength_0 ?_
  refine g_istore_n2 X dX3_chainLength_1 rfl (by decide) rfl ?_
  refine g_aload_n X dX3_chainLength_2 rfl rfl ?_
  refine g_iload_n X dX3_chainLength_3 rfl rfl ?_
  refine g_iconstN X 1 dX3_chainLength_4 ?_
  refine g_callVi (na := 2) X hj (k_X3_fact l γ _ _ _ (by omega)) gW_1 rfl gX3_chainLength_X3_fact rfl ⟨rfl, rfl⟩ (by decide +kernel) rfl ⟨by decide, by decide⟩ rfl (Nat.le_of_ble_eq_true rfl) dX3_chainLength_5 ⟨by decide, by decide⟩ ?_
  refine g_istore_n3 X dX3_chainLength_8 rfl (by decide) rfl ?_
  refine g_wf (fun f ls σ2 => ∃ (i : Nat) (x : Int32), σ2 = σ ∧ i + f = 8 ∧ ls = [some (.ref (ad γ 1)), some (.int (nI q)), some (.int (nI i)), some (.int x)] ∧ chainI (σ.1 2) 8 (σ.1 2 (q * 6 + 1)) = i + chainI (σ.1 2) f x) 8 ⟨0, _, rfl, rfl, rfl, (Nat.zero_add _).symm⟩ (fun f ls2 σ2 hI ih => ?_)
  obtain ⟨i, x, rfl, hi, rfl, hch⟩ := hI
  refine g_iload_n X dX3_chainLength_9 rfl rfl ?_
  refine g_callSi (na := 1) X hj (k_X3_isPerson l γ _ _) gX3_chainLength_X3_isPerson rfl ⟨rfl, rfl⟩ (by decide +kernel) rfl ⟨by decide, by decide⟩ rfl (Nat.le_of_ble_eq_true rfl) dX3_chainLength_10 ⟨by decide, by decide⟩ ?_
  refine g_if_eq (tgt := 35) X dX3_chainLength_13 (by decide) (fun c_13 => ?_) (fun c_13 => ?_)
  · replace c_13 := bI_f c_13
    refine g_iload_n X dX3_chainLength_35 rfl rfl ?_
    exact g_iret X hr hlk dX3_chainLength_36 (by first | (have hx := c_13; refine ⟨?_, rfl⟩; rw [hch]; cases f <;> simp [chainI, hx]; done) | (refine ⟨?_, rfl⟩; rw [hch]; have e : f = 0 := (by omega); subst e; simp [chainI]))
  · replace c_13 := bI_t c_13
    have hx := c_13
    refine g_iload_n X dX3_chainLength_16 rfl rfl ?_
    refine g_bipush (v := nI 8) X dX3_chainLength_17 (by decide) ?_
    refine g_icmpN_ge (tgt := 35) X dX3_chainLength_19 (by decide) (by omega) (by omega) (fun c_19 => ?_) (fun c_19 => ?_)
    · refine g_iload_n X dX3_chainLength_35 rfl rfl ?_
      exact g_iret X hr hlk dX3_chainLength_36 (by first | (have hx := c_13; refine ⟨?_, rfl⟩; rw [hch]; cases f <;> simp [chainI, hx]; done) | (refine ⟨?_, rfl⟩; rw [hch]; have e : f = 0 := (by omega); subst e; simp [chainI]))
    · obtain ⟨y, hy, rfl⟩ := isP_nat hx
      refine g_iincN2 (d := 1) X dX3_chainLength_22 (by decide) rfl ?_
      refine g_aload_n X dX3_chainLength_25 rfl rfl ?_
      refine g_iload_n X dX3_chainLength_26 rfl rfl ?_
      refine g_iconstN X 1 dX3_chainLength_27 ?_
      refine g_callVi (na := 2) X hj (k_X3_fact l γ _ _ _ (by omega)) gW_1 rfl gX3_chainLength_X3_fact rfl ⟨rfl, rfl⟩ (by decide +kernel) rfl ⟨by decide, by decide⟩ rfl (Nat.le_of_ble_eq_true rfl) dX3_chainLength_28 ⟨by decide, by decide⟩ ?_
      refine g_istore_n3 X dX3_chainLength_31 rfl (by decide) rfl ?_
      refine g_goto (tgt := 9) X dX3_chainLength_32 (by decide) ?_
      exact ih (f - 1) (by omega) _ _ ⟨i + 1, _, rfl, by omega, rfl, by rw [hch, show f = f - 1 + 1 by omega]; simp only [chainI, hx, if_true, nxt_nI _ hy, Nat.add_sub_cancel]; omega⟩
set_option maxRecDepth 20000 in
theorem k_X3_chainHolds (l : Launch) (γ : gG) (σ : gS) (a q : Int32) : gM l γ yX3_chainHolds wsX3_chainHolds ({ frames := 1, cells := 0, slots := 0, locals := 22 } : Room) [.ref (ad γ 1), .int a, .int q] σ (gis (some (.int (bI (holdsI (σ.1 2) q 8 a)))) σ) 0 0 := by
  refine g_enter (own := RX3) (cc := cX3_chainHolds) (nL := 5) (ret := (some .boolean)) [some (.ref (ad γ 1)), some (.int a), some (.int q), none, none] (by decide) rfl rfl (by simp [lg_sl, Value.category]) (by simp [gl_le, glE, Value.category]) (fun hj p e s m args below meth c X hr hlk hnm => ?_)
  refine g_iload_n X dX3_chainHolds_0 rfl rfl ?_
  refine g_istore_n3 X dX3_chainHolds_1 rfl (by decide) rfl ?_
  refine g_iconstN X 0 dX3_chainHolds_2 ?_
  refine g_istore_s4 X dX3_chainHolds_3 (by decide) rfl ?_
  refine g_wf (fun f ls σ2 => ∃ (i : Nat) (x : Int32), σ2 = σ ∧ i + f = 8 ∧ ls = [some (.ref (ad γ 1)), some (.int a), some (.int q), some (.int x), some (.int (nI i))] ∧ holdsI (σ.1 2) q 8 a = holdsI (σ.1 2) q f x) 8 ⟨0, _, rfl, rfl, rfl, rfl⟩ (fun f ls2 σ2 hI ih => ?_)
  obtain ⟨i, x, rfl, hi, rfl, hch⟩ := hI
  refine g_iload X dX3_chainHolds_5 rfl ?_
  refine g_bipush (v := nI 8) X dX3_chainHolds_7 (by decide) ?_
  refine g_icmpN_ge (tgt := 39) X dX3_chainHolds_9 (by decide) (by omega) (by omega) (fun c_9 => ?_) (fun c_9 => ?_)
  · refine g_iconstN X 0 dX3_chainHolds_39 ?_
    exact g_zret X hr hlk (by decide) dX3_chainHolds_40 (by first | (have hx := c_16; refine ⟨?_, rfl⟩; rw [hch]; cases f <;> simp [holdsI, hx, bI]; done) | (refine ⟨?_, rfl⟩; rw [hch]; have e : f = 0 := (by omega); subst e; simp [holdsI, bI]))
  · refine g_iload_n X dX3_chainHolds_12 rfl rfl ?_
    refine g_callSi (na := 1) X hj (k_X3_isPerson l γ _ _) gX3_chainHolds_X3_isPerson rfl ⟨rfl, rfl⟩ (by decide +kernel) rfl ⟨by decide, by decide⟩ rfl (Nat.le_of_ble_eq_true rfl) dX3_chainHolds_13 ⟨by decide, by decide⟩ ?_
    refine g_if_eq (tgt := 39) X dX3_chainHolds_16 (by decide) (fun c_16 => ?_) (fun c_16 => ?_)
    · replace c_16 := bI_f c_16
      refine g_iconstN X 0 dX3_chainHolds_39 ?_
      exact g_zret X hr hlk (by decide) dX3_chainHolds_40 (by first | (have hx := c_16; refine ⟨?_, rfl⟩; rw [hch]; cases f <;> simp [holdsI, hx, bI]; done) | (refine ⟨?_, rfl⟩; rw [hch]; have e : f = 0 := (by omega); subst e; simp [holdsI, bI]))
    · replace c_16 := bI_t c_16
      have hx := c_16
      refine g_iload_n X dX3_chainHolds_19 rfl rfl ?_
      refine g_iload_n X dX3_chainHolds_20 rfl rfl ?_
      refine g_icmp_ne (tgt := 26) X dX3_chainHolds_21 (by decide) (fun c_21 => ?_) (fun c_21 => ?_)
      · obtain ⟨y, hy, rfl⟩ := isP_nat hx
        refine g_aload_n X dX3_chainHolds_26 rfl rfl ?_
        refine g_iload_n X dX3_chainHolds_27 rfl rfl ?_
        refine g_iconstN X 1 dX3_chainHolds_28 ?_
        refine g_callVi (na := 2) X hj (k_X3_fact l γ _ _ _ (by omega)) gW_1 rfl gX3_chainHolds_X3_fact rfl ⟨rfl, rfl⟩ (by decide +kernel) rfl ⟨by decide, by decide⟩ rfl (Nat.le_of_ble_eq_true rfl) dX3_chainHolds_29 ⟨by decide, by decide⟩ ?_
        refine g_istore_n3 X dX3_chainHolds_32 rfl (by decide) rfl ?_
        refine g_iincN4 (d := 1) X dX3_chainHolds_33 (by decide) rfl ?_
        refine g_goto (tgt := 5) X dX3_chainHolds_36 (by decide) ?_
        exact ih (f - 1) (by omega) _ _ ⟨i + 1, _, rfl, by omega, rfl, by rw [hch, show f = f - 1 + 1 by omega]; simp only [holdsI, hx, if_true, c_21, if_false, nxt_nI _ hy, Nat.add_sub_cancel]⟩
      · refine g_iconstN X 1 dX3_chainHolds_24 ?_
        exact g_zret X hr hlk (by decide) dX3_chainHolds_25 (by refine ⟨?_, rfl⟩; rw [hch, show f = f - 1 + 1 by omega]; subst c_21; simp [holdsI, hx, bI])
set_option maxRecDepth 20000 in
theorem k_X3_runningBondsOf (l : Launch) (γ : gG) (σ : gS) (N : Nat) (q : Int32) (hN : σ.1 2 116 = nI N) (hN10 : N ≤ 10) : gM l γ yX3_runningBondsOf wsX3_runningBondsOf ({ frames := 1, cells := 0, slots := 0, locals := 22 } : Room) [.ref (ad γ 1), .int q] σ (gis (some (.int (sumI (fun b => if σ.1 2 (117 + b * 31 + 0) = q then σ.1 2 (117 + b * 31 + 9) else nI 0) N))) σ) 0 0 := by
  refine g_enter (own := RX3) (cc := cX3_runningBondsOf) (nL := 4) (ret := (some .int)) [some (.ref (ad γ 1)), some (.int q), none, none] (by decide) rfl rfl (by simp [lg_sl, Value.category]) (by simp [gl_le, glE, Value.category]) (fun hj p e s m args below meth c X hr hlk hnm => ?_)
  refine g_iconstN X 0 dX3_runningBondsOf_0 ?_
  refine g_istore_n2 X dX3_runningBondsOf_1 rfl (by decide) rfl ?_
  refine g_iconstN X 0 dX3_runningBondsOf_2 ?_
  refine g_istore_n3 X dX3_runningBondsOf_3 rfl (by decide) rfl ?_
  refine g_up (i0 := 0) (N := N) (fun b => [some (.ref (ad γ 1)), some (.int q), some (.int (sumI (fun b => if σ.1 2 (117 + b * 31 + 0) = q then σ.1 2 (117 + b * 31 + 9) else nI 0) b)), some (.int (nI b))]) (fun b => σ) (by simp [gl_le, sumI]) rfl (by omega) (fun b hb ih4 => ?_)
  refine g_iload_n X dX3_runningBondsOf_4 rfl rfl ?_
  refine g_aload_n X dX3_runningBondsOf_5 rfl rfl ?_
  refine g_callVi (na := 0) X hj (k_X3_bondCount l γ _) gW_1 rfl gX3_runningBondsOf_X3_bondCount rfl ⟨rfl, rfl⟩ (by decide +kernel) rfl ⟨by decide, by decide⟩ rfl (Nat.le_of_ble_eq_true rfl) dX3_runningBondsOf_6 ⟨by decide, by decide⟩ ?_
  refine g_top hN ?_
  refine g_icmpN_ge (tgt := 38) X dX3_runningBondsOf_9 (by decide) (by omega) (by omega) (fun c_9 => ?_) (fun c_9 => ?_)
  · refine g_iload_n X dX3_runningBondsOf_38 rfl rfl ?_
    exact g_iret X hr hlk dX3_runningBondsOf_39 (by have e : b = N := (by omega); subst e; exact ⟨rfl, rfl⟩)
  · refine g_aload_n X dX3_runningBondsOf_12 rfl rfl ?_
    refine g_iload_n X dX3_runningBondsOf_13 rfl rfl ?_
    refine g_iconstN X 0 dX3_runningBondsOf_14 ?_
    refine g_callVi (na := 2) X hj (k_X3_bondFact l γ _ _ _ (by omega)) gW_1 rfl gX3_runningBondsOf_X3_bondFact rfl ⟨rfl, rfl⟩ (by decide +kernel) rfl ⟨by decide, by decide⟩ rfl (Nat.le_of_ble_eq_true rfl) dX3_runningBondsOf_15 ⟨by decide, by decide⟩ ?_
    refine g_iload_n X dX3_runningBondsOf_18 rfl rfl ?_
    refine g_icmp_ne (tgt := 32) X dX3_runningBondsOf_19 (by decide) (fun c_19 => ?_) (fun c_19 => ?_)
    · refine g_iincN3 (d := 1) X dX3_runningBondsOf_32 (by decide) rfl ?_
      refine g_goto (tgt := 4) X dX3_runningBondsOf_35 (by decide) ?_
      exact g_le (by simp only [Nat.add_zero] at c_19; simp [gl_le, sumI, c_19, add_nI0]) (ih4 (by omega))
    · refine g_iload_n X dX3_runningBondsOf_22 rfl rfl ?_
      refine g_aload_n X dX3_runningBondsOf_23 rfl rfl ?_
      refine g_iload_n X dX3_runningBondsOf_24 rfl rfl ?_
      refine g_bipush (v := nI 9) X dX3_runningBondsOf_25 (by decide) ?_
      refine g_callVi (na := 2) X hj (k_X3_bondFact l γ _ _ _ (by omega)) gW_1 rfl gX3_runningBondsOf_X3_bondFact rfl ⟨rfl, rfl⟩ (by decide +kernel) rfl ⟨by decide, by decide⟩ rfl (Nat.le_of_ble_eq_true rfl) dX3_runningBondsOf_27 ⟨by decide, by decide⟩ ?_
      refine g_iadd X dX3_runningBondsOf_30 ?_
      refine g_istore_n2 X dX3_runningBondsOf_31 rfl (by decide) rfl ?_
      refine g_iincN3 (d := 1) X dX3_runningBondsOf_32 (by decide) rfl ?_
      refine g_goto (tgt := 4) X dX3_runningBondsOf_35 (by decide) ?_
      exact g_le (by simp only [Nat.add_zero] at c_19; simp [gl_le, sumI, c_19, add_nI0]) (ih4 (by omega))
set_option maxRecDepth 20000 in
theorem k_X3_sumOverBonds (l : Launch) (γ : gG) (σ : gS) (N : Nat) (k : Nat) (hk : k < 31) (hN : σ.1 2 116 = nI N) (hN10 : N ≤ 10) : gM l γ yX3_sumOverBonds wsX3_sumOverBonds ({ frames := 1, cells := 0, slots := 0, locals := 22 } : Room) [.ref (ad γ 1), .int (nI k)] σ (gis (some (.int (sumI (fun b => σ.1 2 (117 + b * 31 + k)) N))) σ) 0 0 := by
  refine g_enter (own := RX3) (cc := cX3_sumOverBonds) (nL := 4) (ret := (some .int)) [some (.ref (ad γ 1)), some (.int (nI k)), none, none] (by decide) rfl rfl (by simp [lg_sl, Value.category]) (by simp [gl_le, glE, Value.category]) (fun hj p e s m args below meth c X hr hlk hnm => ?_)
  refine g_iconstN X 0 dX3_sumOverBonds_0 ?_
  refine g_istore_n2 X dX3_sumOverBonds_1 rfl (by decide) rfl ?_
  refine g_iconstN X 0 dX3_sumOverBonds_2 ?_
  refine g_istore_n3 X dX3_sumOverBonds_3 rfl (by decide) rfl ?_
  refine g_up (i0 := 0) (N := N) (fun b => [some (.ref (ad γ 1)), some (.int (nI k)), some (.int (sumI (fun b => σ.1 2 (117 + b * 31 + k)) b)), some (.int (nI b))]) (fun b => σ) (by simp [gl_le, sumI]) rfl (by omega) (fun b hb ih4 => ?_)
  refine g_iload_n X dX3_sumOverBonds_4 rfl rfl ?_
  refine g_aload_n X dX3_sumOverBonds_5 rfl rfl ?_
  refine g_callVi (na := 0) X hj (k_X3_bondCount l γ _) gW_1 rfl gX3_sumOverBonds_X3_bondCount rfl ⟨rfl, rfl⟩ (by decide +kernel) rfl ⟨by decide, by decide⟩ rfl (Nat.le_of_ble_eq_true rfl) dX3_sumOverBonds_6 ⟨by decide, by decide⟩ ?_
  refine g_top hN ?_
  refine g_icmpN_ge (tgt := 27) X dX3_sumOverBonds_9 (by decide) (by omega) (by omega) (fun c_9 => ?_) (fun c_9 => ?_)
  · refine g_iload_n X dX3_sumOverBonds_27 rfl rfl ?_
    exact g_iret X hr hlk dX3_sumOverBonds_28 (by have e : b = N := (by omega); subst e; exact ⟨rfl, rfl⟩)
  · refine g_iload_n X dX3_sumOverBonds_12 rfl rfl ?_
    refine g_aload_n X dX3_sumOverBonds_13 rfl rfl ?_
    refine g_iload_n X dX3_sumOverBonds_14 rfl rfl ?_
    refine g_iload_n X dX3_sumOverBonds_15 rfl rfl ?_
    refine g_callVi (na := 2) X hj (k_X3_bondFact l γ _ _ _ (by omega)) gW_1 rfl gX3_sumOverBonds_X3_bondFact rfl ⟨rfl, rfl⟩ (by decide +kernel) rfl ⟨by decide, by decide⟩ rfl (Nat.le_of_ble_eq_true rfl) dX3_sumOverBonds_16 ⟨by decide, by decide⟩ ?_
    refine g_iadd X dX3_sumOverBonds_19 ?_
    refine g_istore_n2 X dX3_sumOverBonds_20 rfl (by decide) rfl ?_
    refine g_iincN3 (d := 1) X dX3_sumOverBonds_21 (by decide) rfl ?_
    refine g_goto (tgt := 4) X dX3_sumOverBonds_24 (by decide) ?_
    exact g_le (by simp [gl_le, sumI]) (ih4 (by omega))
set_option maxRecDepth 20000 in
theorem k_X3_trim (l : Launch) (γ : gG) (σ : gS) (b L : Nat) (hb : b < 10) (hL : σ.1 2 (117 + b * 31 + 3) = nI L) (hL4 : L ≤ 4) : gM l γ yX3_trim wsX3_trim ({ frames := 2, cells := 0, slots := 0, locals := 46 } : Room) [.ref (ad γ 1), .int (nI b)] σ (gis none (sA σ 2 (trimOf (σ.1 2) b L))) 0 0 := by
  refine g_enter (own := RX3) (cc := cX3_trim) (nL := 5) (ret := none) [some (.ref (ad γ 1)), some (.int (nI b)), none, none, none] (by decide) rfl rfl (by simp [lg_sl, Value.category]) (by simp [gl_le, glE, Value.category]) (fun hj p e s m args below meth c X hr hlk hnm => ?_)
  refine g_aload_n X dX3_trim_0 rfl rfl ?_
  refine g_iload_n X dX3_trim_1 rfl rfl ?_
  refine g_callVi (na := 1) X hj (k_X3_leftOfLimits l γ _ _ _ (by omega) hL hL4) gW_1 rfl gX3_trim_X3_leftOfLimits rfl ⟨rfl, rfl⟩ (by decide +kernel) rfl ⟨by decide, by decide⟩ rfl (Nat.le_of_ble_eq_true rfl) dX3_trim_2 ⟨by decide, by decide⟩ ?_
  refine g_aload_n X dX3_trim_5 rfl rfl ?_
  refine g_iload_n X dX3_trim_6 rfl rfl ?_
  refine g_callVi (na := 1) X hj (k_X3_leftOfBond l γ _ _ (by omega)) gW_1 rfl gX3_trim_X3_leftOfBond rfl ⟨rfl, rfl⟩ (by decide +kernel) rfl ⟨by decide, by decide⟩ rfl (Nat.le_of_ble_eq_true rfl) dX3_trim_7 ⟨by decide, by decide⟩ ?_
  refine g_isub X dX3_trim_10 ?_
  refine g_istore_n2 X dX3_trim_11 rfl (by decide) rfl ?_
  refine g_aload_n X dX3_trim_12 rfl rfl ?_
  refine g_iload_n X dX3_trim_13 rfl rfl ?_
  refine g_iconstN X 3 dX3_trim_14 ?_
  refine g_callVi (na := 2) X hj (k_X3_bondFact l γ _ _ _ (by omega)) gW_1 rfl gX3_trim_X3_bondFact rfl ⟨rfl, rfl⟩ (by decide +kernel) rfl ⟨by decide, by decide⟩ rfl (Nat.le_of_ble_eq_true rfl) dX3_trim_15 ⟨by decide, by decide⟩ ?_
  refine g_top hL ?_
  refine g_iconstN X 1 dX3_trim_18 ?_
  refine g_isub X dX3_trim_19 ?_
  refine g_top (y := prd L) (by cases L with | zero => rfl | succ j => exact nI_pred j) ?_
  refine g_istore_n3 X dX3_trim_20 rfl (by decide) rfl ?_
  refine g_wf (fun f ls σ2 => ∃ (v : Nat → Int32) (ex : Int32), σ2 = sA σ 2 v ∧ f ≤ 4 ∧ ls = [some (.ref (ad γ 1)), some (.int (nI b)), some (.int ex), some (.int (prd f)), none] ∧ trimOf (σ.1 2) b L = trimI v b f ex) L ⟨σ.1 2, _, (sA_self σ 2).symm, hL4, rfl, rfl⟩ (fun f ls2 σ2 hI ih => ?_)
  obtain ⟨v, ex, rfl, hf, rfl, htr⟩ := hI
  rcases f with _ | f
  · dsimp only [prd]
    refine g_iload_n X dX3_trim_21 rfl rfl ?_
    refine g_if_lt (tgt := 63) X dX3_trim_22 (by decide) (fun c_22 => ?_) (fun c_22 => absurd (by decide) c_22)
    exact g_vret X hr hlk dX3_trim_63 ⟨rfl, by rw [htr]; rfl⟩
  · dsimp only [prd]
    refine g_iload_n X dX3_trim_21 rfl rfl ?_
    refine g_if_lt (tgt := 63) X dX3_trim_22 (by decide) (fun c_22 => absurd c_22 (nI_pos (by omega))) (fun c_22 => ?_)
    refine g_iload_n X dX3_trim_25 rfl rfl ?_
    refine g_if_le (tgt := 63) X dX3_trim_26 (by decide) (fun c_26 => ?_) (fun c_26 => ?_)
    · exact g_vret X hr hlk dX3_trim_63 ⟨rfl, by rw [htr]; simp [trimI, c_26]⟩
    · refine g_iload_n X dX3_trim_29 rfl rfl ?_
      refine g_aload_n X dX3_trim_30 rfl rfl ?_
      refine g_iload_n X dX3_trim_31 rfl rfl ?_
      refine g_iload_n X dX3_trim_32 rfl rfl ?_
      refine g_iconstN X 2 dX3_trim_33 ?_
      refine g_callVi (na := 3) X hj (k_X3_layerFact l γ _ _ _ _ (by omega) (by omega) (by omega)) gW_1 rfl gX3_trim_X3_layerFact rfl ⟨rfl, rfl⟩ (by decide +kernel) rfl ⟨by decide, by decide⟩ rfl (Nat.le_of_ble_eq_true rfl) dX3_trim_34 ⟨by decide, by decide⟩ ?_
      rw [sA_eq]
      refine g_min X (by decide +kernel) ⟨by decide, Nat.le_of_ble_eq_true rfl, by decide, by decide⟩ dX3_trim_37 ?_
      refine g_istore_s4 X dX3_trim_40 (by decide) rfl ?_
      refine g_aload_n X dX3_trim_42 rfl rfl ?_
      refine g_iload_n X dX3_trim_43 rfl rfl ?_
      refine g_iload_n X dX3_trim_44 rfl rfl ?_
      refine g_iconstN X 2 dX3_trim_45 ?_
      refine g_iload X dX3_trim_46 rfl ?_
      refine g_ineg X dX3_trim_48 ?_
      refine g_callVv (na := 4) X hj (k_X3_addLayerFact l γ _ _ _ _ _ (by omega) (by omega) (by omega)) gW_1 rfl gX3_trim_X3_addLayerFact rfl ⟨rfl, rfl⟩ (by decide +kernel) rfl ⟨by decide, by decide⟩ rfl (Nat.le_of_ble_eq_true rfl) dX3_trim_49 ⟨by decide, by decide⟩ ?_
      refine g_iload_n X dX3_trim_52 rfl rfl ?_
      refine g_iload X dX3_trim_53 rfl ?_
      refine g_isub X dX3_trim_55 ?_
      refine g_istore_n2 X dX3_trim_56 rfl (by decide) rfl ?_
      refine g_iinc3 X dX3_trim_57 (by decide) rfl ?_
      refine g_goto (tgt := 21) X dX3_trim_60 (by decide) ?_
      simp only [trimI, if_neg c_26] at htr
      exact g_le (by simp [gl_le, prd_dec2]) (ih f (by omega) _ _ ⟨_, _, sA_sA _ _ _ _, by omega, rfl, htr⟩)
set_option maxRecDepth 20000 in
theorem k_X3_release (l : Launch) (γ : gG) (σ : gS) (b L : Nat) (x : Int32) (hb : b < 10) (hL : σ.1 2 (117 + b * 31 + 3) = nI L) (hL4 : L ≤ 4) : gM l γ yX3_release wsX3_release ({ frames := 3, cells := 0, slots := 0, locals := 70 } : Room) [.ref (ad γ 1), .int (nI b), .int x] σ (gis none (sA σ 2 (trimOf (upd (σ.1 2) (117 + b * 31 + 8) (σ.1 2 (117 + b * 31 + 8) + x)) b L))) 0 0 := by
  refine g_enter (own := RX3) (cc := cX3_release) (nL := 3) (ret := none) [some (.ref (ad γ 1)), some (.int (nI b)), some (.int x)] (by decide) rfl rfl (by simp [lg_sl, Value.category]) (by simp [gl_le, glE, Value.category]) (fun hj p e s m args below meth c X hr hlk hnm => ?_)
  refine g_aload_n X dX3_release_0 rfl rfl ?_
  refine g_iload_n X dX3_release_1 rfl rfl ?_
  refine g_bipush (v := nI 8) X dX3_release_2 (by decide) ?_
  refine g_iload_n X dX3_release_4 rfl rfl ?_
  refine g_callVv (na := 3) X hj (k_X3_addBondFact l γ _ _ _ _ (by omega)) gW_1 rfl gX3_release_X3_addBondFact rfl ⟨rfl, rfl⟩ (by decide +kernel) rfl ⟨by decide, by decide⟩ rfl (Nat.le_of_ble_eq_true rfl) dX3_release_5 ⟨by decide, by decide⟩ ?_
  refine g_aload_n X dX3_release_8 rfl rfl ?_
  refine g_iload_n X dX3_release_9 rfl rfl ?_
  refine g_callVv (na := 1) X hj (k_X3_trim l γ _ _ L (by omega) (by rw [sA_eq]; simp [upd, hL]) hL4) gW_1 rfl gX3_release_X3_trim rfl ⟨rfl, rfl⟩ (by decide +kernel) rfl ⟨by decide, by decide⟩ rfl (Nat.le_of_ble_eq_true rfl) dX3_release_10 ⟨by decide, by decide⟩ ?_
  exact g_vret X hr hlk dX3_release_13 ⟨rfl, by rw [sA_sA, sA_eq]⟩
