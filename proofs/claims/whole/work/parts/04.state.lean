/-! THE STATE'S METHODS: pure words, then contracts -/
def sumI (f : Nat → Int32) : Nat → Int32
  | 0 => nI 0
  | n + 1 => sumI f n + f n
def prd : Nat → Int32
  | 0 => -1
  | j + 1 => nI j
/-- how many bonds, how many layers each -/
def Sh (v : Nat → Int32) (N : Nat) (L : Nat → Nat) : Prop := v 116 = nI N ∧ N ≤ 10 ∧ ∀ b, b < 10 → v (117 + b * 31 + 3) = nI (L b) ∧ L b ≤ 4
def leftOf (v : Nat → Int32) (b : Nat) : Int32 := v (117 + b * 31 + 1) - v (117 + b * 31 + 6) - v (117 + b * 31 + 8)
def limitsOf (v : Nat → Int32) (b L : Nat) : Int32 := sumI (fun i => v (117 + b * 31 + 15 + i * 4 + 2)) L
def boundFor (v : Nat → Int32) (N : Nat) (L : Nat → Nat) (q : Int32) : Int32 := sumI (fun b => sumI (fun i => if v (117 + b * 31 + 15 + i * 4 + 0) = q then v (117 + b * 31 + 15 + i * 4 + 2) else nI 0) (L b)) N
def spareOf (v : Nat → Int32) (N : Nat) (L : Nat → Nat) (q : Nat) : Int32 :=
  if nI 0 < v (q * 6 + 0) - boundFor v N L (nI q) * v (112 + 1) / nI 100 then v (q * 6 + 0) - boundFor v N L (nI q) * v (112 + 1) / nI 100 else nI 0
/-- the layers from the last one on, as far as there is an excess -/
def trimI (v : Nat → Int32) (b : Nat) : Nat → Int32 → (Nat → Int32)
  | 0, _ => v
  | i + 1, ex => if ex ≤ 0 then v else
      trimI (upd v (117 + b * 31 + 15 + i * 4 + 2) (v (117 + b * 31 + 15 + i * 4 + 2) + -(if v (117 + b * 31 + 15 + i * 4 + 2) < ex then v (117 + b * 31 + 15 + i * 4 + 2) else ex))) b i (ex - (if v (117 + b * 31 + 15 + i * 4 + 2) < ex then v (117 + b * 31 + 15 + i * 4 + 2) else ex))
def trimOf (v : Nat → Int32) (b L : Nat) : Nat → Int32 := trimI v b L (limitsOf v b L - leftOf v b)
def isP (x : Int32) : Prop := ¬ x < 0 ∧ ¬ nI 8 ≤ x

set_option maxRecDepth 20000 in
theorem k_X3_fact (l : Launch) (γ : gG) (σ : gS) (q f : Nat) (h : q * 6 + f < 427) : gM l γ yX3_fact wsX3_fact ({ frames := 0, cells := 0, slots := 0, locals := 0 } : Room) [.ref (ad γ 1), .int (nI q), .int (nI f)] σ (gis (some (.int (σ.1 2 (q * 6 + f)))) σ) 0 0 := by
  refine g_enter (own := RX3) (cc := cX3_fact) (nL := 3) (ret := (some .int)) [some (.ref (ad γ 1)), some (.int (nI q)), some (.int (nI f))] (by decide) rfl rfl (by simp [lg_sl, Value.category]) (by simp [gl_le, glE, Value.category]) (fun hj p e s m args below meth c X hr hlk hnm => ?_)
  have hi3 : ∀ w ∈ wsX30, w ∈ wsX3_fact := by decide +kernel
  refine g_aload_n X dX3_fact_0 rfl rfl ?_
  refine g_get_1_0 X hi3 (by decide +kernel) dX3_fact_1 ?_
  refine g_iload_n X dX3_fact_4 rfl rfl ?_
  refine g_bipush (v := nI 6) X dX3_fact_5 (by decide) ?_
  refine g_imulN X dX3_fact_7 ?_
  refine g_iload_n X dX3_fact_8 rfl rfl ?_
  refine g_iaddN X dX3_fact_9 ?_
  refine g_ald_2 X rfl (by omega) dX3_fact_10 ?_
  exact g_iret X hr hlk dX3_fact_11 ⟨rfl, rfl⟩
set_option maxRecDepth 20000 in
theorem k_X3_putFact (l : Launch) (γ : gG) (σ : gS) (q f : Nat) (x : Int32) (h : q * 6 + f < 427) : gM l γ yX3_putFact wsX3_putFact ({ frames := 0, cells := 0, slots := 0, locals := 0 } : Room) [.ref (ad γ 1), .int (nI q), .int (nI f), .int x] σ (gis none (sA σ 2 (upd (σ.1 2) (q * 6 + f) x))) 0 0 := by
  refine g_enter (own := RX3) (cc := cX3_putFact) (nL := 4) (ret := none) [some (.ref (ad γ 1)), some (.int (nI q)), some (.int (nI f)), some (.int x)] (by decide) rfl rfl (by simp [lg_sl, Value.category]) (by simp [gl_le, glE, Value.category]) (fun hj p e s m args below meth c X hr hlk hnm => ?_)
  have hi3 : ∀ w ∈ wsX30, w ∈ wsX3_putFact := by decide +kernel
  refine g_aload_n X dX3_putFact_0 rfl rfl ?_
  refine g_get_1_0 X hi3 (by decide +kernel) dX3_putFact_1 ?_
  refine g_iload_n X dX3_putFact_4 rfl rfl ?_
  refine g_bipush (v := nI 6) X dX3_putFact_5 (by decide) ?_
  refine g_imulN X dX3_putFact_7 ?_
  refine g_iload_n X dX3_putFact_8 rfl rfl ?_
  refine g_iaddN X dX3_putFact_9 ?_
  refine g_iload_n X dX3_putFact_10 rfl rfl ?_
  refine g_ast_2 X rfl (by omega) dX3_putFact_11 ?_
  exact g_vret X hr hlk dX3_putFact_12 ⟨rfl, rfl⟩
set_option maxRecDepth 20000 in
theorem k_X3_addFact (l : Launch) (γ : gG) (σ : gS) (q f : Nat) (x : Int32) (h : q * 6 + f < 427) : gM l γ yX3_addFact wsX3_addFact ({ frames := 0, cells := 0, slots := 0, locals := 0 } : Room) [.ref (ad γ 1), .int (nI q), .int (nI f), .int x] σ (gis none (sA σ 2 (upd (σ.1 2) (q * 6 + f) (σ.1 2 (q * 6 + f) + x)))) 0 0 := by
  refine g_enter (own := RX3) (cc := cX3_addFact) (nL := 4) (ret := none) [some (.ref (ad γ 1)), some (.int (nI q)), some (.int (nI f)), some (.int x)] (by decide) rfl rfl (by simp [lg_sl, Value.category]) (by simp [gl_le, glE, Value.category]) (fun hj p e s m args below meth c X hr hlk hnm => ?_)
  have hi3 : ∀ w ∈ wsX30, w ∈ wsX3_addFact := by decide +kernel
  refine g_aload_n X dX3_addFact_0 rfl rfl ?_
  refine g_get_1_0 X hi3 (by decide +kernel) dX3_addFact_1 ?_
  refine g_iload_n X dX3_addFact_4 rfl rfl ?_
  refine g_bipush (v := nI 6) X dX3_addFact_5 (by decide) ?_
  refine g_imulN X dX3_addFact_7 ?_
  refine g_iload_n X dX3_addFact_8 rfl rfl ?_
  refine g_iaddN X dX3_addFact_9 ?_
  refine g_dup2_11 X dX3_addFact_10 rfl rfl ?_
  refine g_ald_2 X rfl (by omega) dX3_addFact_11 ?_
  refine g_iload_n X dX3_addFact_12 rfl rfl ?_
  refine g_iadd X dX3_addFact_13 ?_
  refine g_ast_2 X rfl (by omega) dX3_addFact_14 ?_
  exact g_vret X hr hlk dX3_addFact_15 ⟨rfl, rfl⟩
set_option maxRecDepth 20000 in
theorem k_X3_addCash (l : Launch) (γ : gG) (σ : gS) (q : Nat) (x : Int32) (h : q < 8) : gM l γ yX3_addCash wsX3_addCash ({ frames := 1, cells := 0, slots := 0, locals := 23 } : Room) [.ref (ad γ 1), .int (nI q), .int x] σ (gis none (sA σ 2 (upd (σ.1 2) (q * 6 + 0) (σ.1 2 (q * 6 + 0) + x)))) 0 0 := by
  refine g_enter (own := RX3) (cc := cX3_addCash) (nL := 3) (ret := none) [some (.ref (ad γ 1)), some (.int (nI q)), some (.int x)] (by decide) rfl rfl (by simp [lg_sl, Value.category]) (by simp [gl_le, glE, Value.category]) (fun hj p e s m args below meth c X hr hlk hnm => ?_)
  refine g_aload_n X dX3_addCash_0 rfl rfl ?_
  refine g_iload_n X dX3_addCash_1 rfl rfl ?_
  refine g_iconstN X 0 dX3_addCash_2 ?_
  refine g_iload_n X dX3_addCash_3 rfl rfl ?_
  refine g_callVv X hj (k_X3_addFact l γ _ _ _ _ (by omega)) gW_1 rfl gX3_addCash_X3_addFact rfl ⟨rfl, rfl⟩ (by decide +kernel) ⟨by decide, by decide⟩ rfl (by decide) dX3_addCash_4 ⟨by decide, by decide⟩ ?_
  exact g_vret X hr hlk dX3_addCash_7 ⟨rfl, rfl⟩
set_option maxRecDepth 20000 in
theorem k_X3_owed (l : Launch) (γ : gG) (σ : gS) (q o : Nat) (h : q < 8) (h2 : o < 8) : gM l γ yX3_owed wsX3_owed ({ frames := 0, cells := 0, slots := 0, locals := 0 } : Room) [.ref (ad γ 1), .int (nI q), .int (nI o)] σ (gis (some (.int (σ.1 2 (48 + q * 8 + o)))) σ) 0 0 := by
  refine g_enter (own := RX3) (cc := cX3_owed) (nL := 3) (ret := (some .int)) [some (.ref (ad γ 1)), some (.int (nI q)), some (.int (nI o))] (by decide) rfl rfl (by simp [lg_sl, Value.category]) (by simp [gl_le, glE, Value.category]) (fun hj p e s m args below meth c X hr hlk hnm => ?_)
  have hi3 : ∀ w ∈ wsX30, w ∈ wsX3_owed := by decide +kernel
  refine g_aload_n X dX3_owed_0 rfl rfl ?_
  refine g_get_1_0 X hi3 (by decide +kernel) dX3_owed_1 ?_
  refine g_bipush (v := nI 48) X dX3_owed_4 (by decide) ?_
  refine g_iload_n X dX3_owed_6 rfl rfl ?_
  refine g_bipush (v := nI 8) X dX3_owed_7 (by decide) ?_
  refine g_imulN X dX3_owed_9 ?_
  refine g_iaddN X dX3_owed_10 ?_
  refine g_iload_n X dX3_owed_11 rfl rfl ?_
  refine g_iaddN X dX3_owed_12 ?_
  refine g_ald_2 X rfl (by omega) dX3_owed_13 ?_
  exact g_iret X hr hlk dX3_owed_14 ⟨rfl, rfl⟩
set_option maxRecDepth 20000 in
theorem k_X3_addOwed (l : Launch) (γ : gG) (σ : gS) (q o : Nat) (x : Int32) (h : q < 8) (h2 : o < 8) : gM l γ yX3_addOwed wsX3_addOwed ({ frames := 0, cells := 0, slots := 0, locals := 0 } : Room) [.ref (ad γ 1), .int (nI q), .int (nI o), .int x] σ (gis none (sA σ 2 (upd (σ.1 2) (48 + q * 8 + o) (σ.1 2 (48 + q * 8 + o) + x)))) 0 0 := by
  refine g_enter (own := RX3) (cc := cX3_addOwed) (nL := 4) (ret := none) [some (.ref (ad γ 1)), some (.int (nI q)), some (.int (nI o)), some (.int x)] (by decide) rfl rfl (by simp [lg_sl, Value.category]) (by simp [gl_le, glE, Value.category]) (fun hj p e s m args below meth c X hr hlk hnm => ?_)
  have hi3 : ∀ w ∈ wsX30, w ∈ wsX3_addOwed := by decide +kernel
  refine g_aload_n X dX3_addOwed_0 rfl rfl ?_
  refine g_get_1_0 X hi3 (by decide +kernel) dX3_addOwed_1 ?_
  refine g_bipush (v := nI 48) X dX3_addOwed_4 (by decide) ?_
  refine g_iload_n X dX3_addOwed_6 rfl rfl ?_
  refine g_bipush (v := nI 8) X dX3_addOwed_7 (by decide) ?_
  refine g_imulN X dX3_addOwed_9 ?_
  refine g_iaddN X dX3_addOwed_10 ?_
  refine g_iload_n X dX3_addOwed_11 rfl rfl ?_
  refine g_iaddN X dX3_addOwed_12 ?_
  refine g_dup2_11 X dX3_addOwed_13 rfl rfl ?_
  refine g_ald_2 X rfl (by omega) dX3_addOwed_14 ?_
  refine g_iload_n X dX3_addOwed_15 rfl rfl ?_
  refine g_iadd X dX3_addOwed_16 ?_
  refine g_ast_2 X rfl (by omega) dX3_addOwed_17 ?_
  exact g_vret X hr hlk dX3_addOwed_18 ⟨rfl, rfl⟩
set_option maxRecDepth 20000 in
theorem k_X3_settingValue (l : Launch) (γ : gG) (σ : gS) (k : Nat) (h : k < 3) : gM l γ yX3_settingValue wsX3_settingValue ({ frames := 0, cells := 0, slots := 0, locals := 0 } : Room) [.ref (ad γ 1), .int (nI k)] σ (gis (some (.int (σ.1 2 (112 + k)))) σ) 0 0 := by
  refine g_enter (own := RX3) (cc := cX3_settingValue) (nL := 2) (ret := (some .int)) [some (.ref (ad γ 1)), some (.int (nI k))] (by decide) rfl rfl (by simp [lg_sl, Value.category]) (by simp [gl_le, glE, Value.category]) (fun hj p e s m args below meth c X hr hlk hnm => ?_)
  have hi3 : ∀ w ∈ wsX30, w ∈ wsX3_settingValue := by decide +kernel
  refine g_aload_n X dX3_settingValue_0 rfl rfl ?_
  refine g_get_1_0 X hi3 (by decide +kernel) dX3_settingValue_1 ?_
  refine g_bipush (v := nI 112) X dX3_settingValue_4 (by decide) ?_
  refine g_iload_n X dX3_settingValue_6 rfl rfl ?_
  refine g_iaddN X dX3_settingValue_7 ?_
  refine g_ald_2 X rfl (by omega) dX3_settingValue_8 ?_
  exact g_iret X hr hlk dX3_settingValue_9 ⟨rfl, rfl⟩
set_option maxRecDepth 20000 in
theorem k_X3_putSetting (l : Launch) (γ : gG) (σ : gS) (k : Nat) (x : Int32) (h : k < 3) : gM l γ yX3_putSetting wsX3_putSetting ({ frames := 0, cells := 0, slots := 0, locals := 0 } : Room) [.ref (ad γ 1), .int (nI k), .int x] σ (gis none (sA σ 2 (upd (σ.1 2) (112 + k) x))) 0 0 := by
  refine g_enter (own := RX3) (cc := cX3_putSetting) (nL := 3) (ret := none) [some (.ref (ad γ 1)), some (.int (nI k)), some (.int x)] (by decide) rfl rfl (by simp [lg_sl, Value.category]) (by simp [gl_le, glE, Value.category]) (fun hj p e s m args below meth c X hr hlk hnm => ?_)
  have hi3 : ∀ w ∈ wsX30, w ∈ wsX3_putSetting := by decide +kernel
  refine g_aload_n X dX3_putSetting_0 rfl rfl ?_
  refine g_get_1_0 X hi3 (by decide +kernel) dX3_putSetting_1 ?_
  refine g_bipush (v := nI 112) X dX3_putSetting_4 (by decide) ?_
  refine g_iload_n X dX3_putSetting_6 rfl rfl ?_
  refine g_iaddN X dX3_putSetting_7 ?_
  refine g_iload_n X dX3_putSetting_8 rfl rfl ?_
  refine g_ast_2 X rfl (by omega) dX3_putSetting_9 ?_
  exact g_vret X hr hlk dX3_putSetting_10 ⟨rfl, rfl⟩
set_option maxRecDepth 20000 in
theorem k_X3_brought (l : Launch) (γ : gG) (σ : gS) : gM l γ yX3_brought wsX3_brought ({ frames := 0, cells := 0, slots := 0, locals := 0 } : Room) [.ref (ad γ 1)] σ (gis (some (.int (σ.1 2 115))) σ) 0 0 := by
  refine g_enter (own := RX3) (cc := cX3_brought) (nL := 1) (ret := (some .int)) [some (.ref (ad γ 1))] (by decide) rfl rfl (by simp [lg_sl, Value.category]) (by simp [gl_le, glE, Value.category]) (fun hj p e s m args below meth c X hr hlk hnm => ?_)
  have hi3 : ∀ w ∈ wsX30, w ∈ wsX3_brought := by decide +kernel
  refine g_aload_n X dX3_brought_0 rfl rfl ?_
  refine g_get_1_0 X hi3 (by decide +kernel) dX3_brought_1 ?_
  refine g_bipush (v := nI 115) X dX3_brought_4 (by decide) ?_
  refine g_ald_2 X rfl (by omega) dX3_brought_6 ?_
  exact g_iret X hr hlk dX3_brought_7 ⟨rfl, rfl⟩
set_option maxRecDepth 20000 in
theorem k_X3_addBrought (l : Launch) (γ : gG) (σ : gS) (x : Int32) : gM l γ yX3_addBrought wsX3_addBrought ({ frames := 0, cells := 0, slots := 0, locals := 0 } : Room) [.ref (ad γ 1), .int x] σ (gis none (sA σ 2 (upd (σ.1 2) 115 (σ.1 2 115 + x)))) 0 0 := by
  refine g_enter (own := RX3) (cc := cX3_addBrought) (nL := 2) (ret := none) [some (.ref (ad γ 1)), some (.int x)] (by decide) rfl rfl (by simp [lg_sl, Value.category]) (by simp [gl_le, glE, Value.category]) (fun hj p e s m args below meth c X hr hlk hnm => ?_)
  have hi3 : ∀ w ∈ wsX30, w ∈ wsX3_addBrought := by decide +kernel
  refine g_aload_n X dX3_addBrought_0 rfl rfl ?_
  refine g_get_1_0 X hi3 (by decide +kernel) dX3_addBrought_1 ?_
  refine g_bipush (v := nI 115) X dX3_addBrought_4 (by decide) ?_
  refine g_dup2_11 X dX3_addBrought_6 rfl rfl ?_
  refine g_ald_2 X rfl (by omega) dX3_addBrought_7 ?_
  refine g_iload_n X dX3_addBrought_8 rfl rfl ?_
  refine g_iadd X dX3_addBrought_9 ?_
  refine g_ast_2 X rfl (by omega) dX3_addBrought_10 ?_
  exact g_vret X hr hlk dX3_addBrought_11 ⟨rfl, rfl⟩
set_option maxRecDepth 20000 in
theorem k_X3_bondCount (l : Launch) (γ : gG) (σ : gS) : gM l γ yX3_bondCount wsX3_bondCount ({ frames := 0, cells := 0, slots := 0, locals := 0 } : Room) [.ref (ad γ 1)] σ (gis (some (.int (σ.1 2 116))) σ) 0 0 := by
  refine g_enter (own := RX3) (cc := cX3_bondCount) (nL := 1) (ret := (some .int)) [some (.ref (ad γ 1))] (by decide) rfl rfl (by simp [lg_sl, Value.category]) (by simp [gl_le, glE, Value.category]) (fun hj p e s m args below meth c X hr hlk hnm => ?_)
  have hi3 : ∀ w ∈ wsX30, w ∈ wsX3_bondCount := by decide +kernel
  refine g_aload_n X dX3_bondCount_0 rfl rfl ?_
  refine g_get_1_0 X hi3 (by decide +kernel) dX3_bondCount_1 ?_
  refine g_bipush (v := nI 116) X dX3_bondCount_4 (by decide) ?_
  refine g_ald_2 X rfl (by omega) dX3_bondCount_6 ?_
  exact g_iret X hr hlk dX3_bondCount_7 ⟨rfl, rfl⟩
set_option maxRecDepth 20000 in
theorem k_X3_bondFact (l : Launch) (γ : gG) (σ : gS) (b f : Nat) (h : b * 31 + f < 310) : gM l γ yX3_bondFact wsX3_bondFact ({ frames := 0, cells := 0, slots := 0, locals := 0 } : Room) [.ref (ad γ 1), .int (nI b), .int (nI f)] σ (gis (some (.int (σ.1 2 (117 + b * 31 + f)))) σ) 0 0 := by
  refine g_enter (own := RX3) (cc := cX3_bondFact) (nL := 3) (ret := (some .int)) [some (.ref (ad γ 1)), some (.int (nI b)), some (.int (nI f))] (by decide) rfl rfl (by simp [lg_sl, Value.category]) (by simp [gl_le, glE, Value.category]) (fun hj p e s m args below meth c X hr hlk hnm => ?_)
  have hi3 : ∀ w ∈ wsX30, w ∈ wsX3_bondFact := by decide +kernel
  refine g_aload_n X dX3_bondFact_0 rfl rfl ?_
  refine g_get_1_0 X hi3 (by decide +kernel) dX3_bondFact_1 ?_
  refine g_bipush (v := nI 117) X dX3_bondFact_4 (by decide) ?_
  refine g_iload_n X dX3_bondFact_6 rfl rfl ?_
  refine g_bipush (v := nI 31) X dX3_bondFact_7 (by decide) ?_
  refine g_imulN X dX3_bondFact_9 ?_
  refine g_iaddN X dX3_bondFact_10 ?_
  refine g_iload_n X dX3_bondFact_11 rfl rfl ?_
  refine g_iaddN X dX3_bondFact_12 ?_
  refine g_ald_2 X rfl (by omega) dX3_bondFact_13 ?_
  exact g_iret X hr hlk dX3_bondFact_14 ⟨rfl, rfl⟩
set_option maxRecDepth 20000 in
theorem k_X3_putBondFact (l : Launch) (γ : gG) (σ : gS) (b f : Nat) (x : Int32) (h : b * 31 + f < 310) : gM l γ yX3_putBondFact wsX3_putBondFact ({ frames := 0, cells := 0, slots := 0, locals := 0 } : Room) [.ref (ad γ 1), .int (nI b), .int (nI f), .int x] σ (gis none (sA σ 2 (upd (σ.1 2) (117 + b * 31 + f) x))) 0 0 := by
  refine g_enter (own := RX3) (cc := cX3_putBondFact) (nL := 4) (ret := none) [some (.ref (ad γ 1)), some (.int (nI b)), some (.int (nI f)), some (.int x)] (by decide) rfl rfl (by simp [lg_sl, Value.category]) (by simp [gl_le, glE, Value.category]) (fun hj p e s m args below meth c X hr hlk hnm => ?_)
  have hi3 : ∀ w ∈ wsX30, w ∈ wsX3_putBondFact := by decide +kernel
  refine g_aload_n X dX3_putBondFact_0 rfl rfl ?_
  refine g_get_1_0 X hi3 (by decide +kernel) dX3_putBondFact_1 ?_
  refine g_bipush (v := nI 117) X dX3_putBondFact_4 (by decide) ?_
  refine g_iload_n X dX3_putBondFact_6 rfl rfl ?_
  refine g_bipush (v := nI 31) X dX3_putBondFact_7 (by decide) ?_
  refine g_imulN X dX3_putBondFact_9 ?_
  refine g_iaddN X dX3_putBondFact_10 ?_
  refine g_iload_n X dX3_putBondFact_11 rfl rfl ?_
  refine g_iaddN X dX3_putBondFact_12 ?_
  refine g_iload_n X dX3_putBondFact_13 rfl rfl ?_
  refine g_ast_2 X rfl (by omega) dX3_putBondFact_14 ?_
  exact g_vret X hr hlk dX3_putBondFact_15 ⟨rfl, rfl⟩
set_option maxRecDepth 20000 in
theorem k_X3_addBondFact (l : Launch) (γ : gG) (σ : gS) (b f : Nat) (x : Int32) (h : b * 31 + f < 310) : gM l γ yX3_addBondFact wsX3_addBondFact ({ frames := 0, cells := 0, slots := 0, locals := 0 } : Room) [.ref (ad γ 1), .int (nI b), .int (nI f), .int x] σ (gis none (sA σ 2 (upd (σ.1 2) (117 + b * 31 + f) (σ.1 2 (117 + b * 31 + f) + x)))) 0 0 := by
  refine g_enter (own := RX3) (cc := cX3_addBondFact) (nL := 4) (ret := none) [some (.ref (ad γ 1)), some (.int (nI b)), some (.int (nI f)), some (.int x)] (by decide) rfl rfl (by simp [lg_sl, Value.category]) (by simp [gl_le, glE, Value.category]) (fun hj p e s m args below meth c X hr hlk hnm => ?_)
  have hi3 : ∀ w ∈ wsX30, w ∈ wsX3_addBondFact := by decide +kernel
  refine g_aload_n X dX3_addBondFact_0 rfl rfl ?_
  refine g_get_1_0 X hi3 (by decide +kernel) dX3_addBondFact_1 ?_
  refine g_bipush (v := nI 117) X dX3_addBondFact_4 (by decide) ?_
  refine g_iload_n X dX3_addBondFact_6 rfl rfl ?_
  refine g_bipush (v := nI 31) X dX3_addBondFact_7 (by decide) ?_
  refine g_imulN X dX3_addBondFact_9 ?_
  refine g_iaddN X dX3_addBondFact_10 ?_
  refine g_iload_n X dX3_addBondFact_11 rfl rfl ?_
  refine g_iaddN X dX3_addBondFact_12 ?_
  refine g_dup2_11 X dX3_addBondFact_13 rfl rfl ?_
  refine g_ald_2 X rfl (by omega) dX3_addBondFact_14 ?_
  refine g_iload_n X dX3_addBondFact_15 rfl rfl ?_
  refine g_iadd X dX3_addBondFact_16 ?_
  refine g_ast_2 X rfl (by omega) dX3_addBondFact_17 ?_
  exact g_vret X hr hlk dX3_addBondFact_18 ⟨rfl, rfl⟩
set_option maxRecDepth 20000 in
theorem k_X3_milestoneShare (l : Launch) (γ : gG) (σ : gS) (b k : Nat) (h : b < 10) (h2 : k < 5) : gM l γ yX3_milestoneShare wsX3_milestoneShare ({ frames := 1, cells := 0, slots := 0, locals := 22 } : Room) [.ref (ad γ 1), .int (nI b), .int (nI k)] σ (gis (some (.int (σ.1 2 (117 + b * 31 + (10 + k))))) σ) 0 0 := by
  refine g_enter (own := RX3) (cc := cX3_milestoneShare) (nL := 3) (ret := (some .int)) [some (.ref (ad γ 1)), some (.int (nI b)), some (.int (nI k))] (by decide) rfl rfl (by simp [lg_sl, Value.category]) (by simp [gl_le, glE, Value.category]) (fun hj p e s m args below meth c X hr hlk hnm => ?_)
  refine g_aload_n X dX3_milestoneShare_0 rfl rfl ?_
  refine g_iload_n X dX3_milestoneShare_1 rfl rfl ?_
  refine g_bipush (v := nI 10) X dX3_milestoneShare_2 (by decide) ?_
  refine g_iload_n X dX3_milestoneShare_4 rfl rfl ?_
  refine g_iaddN X dX3_milestoneShare_5 ?_
  refine g_callVi X hj (k_X3_bondFact l γ _ _ _ (by omega)) gW_1 rfl gX3_milestoneShare_X3_bondFact rfl ⟨rfl, rfl⟩ (by decide +kernel) ⟨by decide, by decide⟩ rfl (by decide) dX3_milestoneShare_6 ⟨by decide, by decide⟩ ?_
  exact g_iret X hr hlk dX3_milestoneShare_9 ⟨rfl, rfl⟩
set_option maxRecDepth 20000 in
theorem k_X3_layerFact (l : Launch) (γ : gG) (σ : gS) (b i f : Nat) (h : b < 10) (h2 : i < 4) (h3 : f < 4) : gM l γ yX3_layerFact wsX3_layerFact ({ frames := 0, cells := 0, slots := 0, locals := 0 } : Room) [.ref (ad γ 1), .int (nI b), .int (nI i), .int (nI f)] σ (gis (some (.int (σ.1 2 (117 + b * 31 + 15 + i * 4 + f)))) σ) 0 0 := by
  refine g_enter (own := RX3) (cc := cX3_layerFact) (nL := 4) (ret := (some .int)) [some (.ref (ad γ 1)), some (.int (nI b)), some (.int (nI i)), some (.int (nI f))] (by decide) rfl rfl (by simp [lg_sl, Value.category]) (by simp [gl_le, glE, Value.category]) (fun hj p e s m args below meth c X hr hlk hnm => ?_)
  have hi3 : ∀ w ∈ wsX30, w ∈ wsX3_layerFact := by decide +kernel
  refine g_aload_n X dX3_layerFact_0 rfl rfl ?_
  refine g_get_1_0 X hi3 (by decide +kernel) dX3_layerFact_1 ?_
  refine g_bipush (v := nI 117) X dX3_layerFact_4 (by decide) ?_
  refine g_iload_n X dX3_layerFact_6 rfl rfl ?_
  refine g_bipush (v := nI 31) X dX3_layerFact_7 (by decide) ?_
  refine g_imulN X dX3_layerFact_9 ?_
  refine g_iaddN X dX3_layerFact_10 ?_
  refine g_bipush (v := nI 15) X dX3_layerFact_11 (by decide) ?_
  refine g_iaddN X dX3_layerFact_13 ?_
  refine g_iload_n X dX3_layerFact_14 rfl rfl ?_
  refine g_iconstN X 4 dX3_layerFact_15 ?_
  refine g_imulN X dX3_layerFact_16 ?_
  refine g_iaddN X dX3_layerFact_17 ?_
  refine g_iload_n X dX3_layerFact_18 rfl rfl ?_
  refine g_iaddN X dX3_layerFact_19 ?_
  refine g_ald_2 X rfl (by omega) dX3_layerFact_20 ?_
  exact g_iret X hr hlk dX3_layerFact_21 ⟨rfl, rfl⟩
set_option maxRecDepth 20000 in
theorem k_X3_putLayerFact (l : Launch) (γ : gG) (σ : gS) (b i f : Nat) (x : Int32) (h : b < 10) (h2 : i < 4) (h3 : f < 4) : gM l γ yX3_putLayerFact wsX3_putLayerFact ({ frames := 0, cells := 0, slots := 0, locals := 0 } : Room) [.ref (ad γ 1), .int (nI b), .int (nI i), .int (nI f), .int x] σ (gis none (sA σ 2 (upd (σ.1 2) (117 + b * 31 + 15 + i * 4 + f) x))) 0 0 := by
  refine g_enter (own := RX3) (cc := cX3_putLayerFact) (nL := 5) (ret := none) [some (.ref (ad γ 1)), some (.int (nI b)), some (.int (nI i)), some (.int (nI f)), some (.int x)] (by decide) rfl rfl (by simp [lg_sl, Value.category]) (by simp [gl_le, glE, Value.category]) (fun hj p e s m args below meth c X hr hlk hnm => ?_)
  have hi3 : ∀ w ∈ wsX30, w ∈ wsX3_putLayerFact := by decide +kernel
  refine g_aload_n X dX3_putLayerFact_0 rfl rfl ?_
  refine g_get_1_0 X hi3 (by decide +kernel) dX3_putLayerFact_1 ?_
  refine g_bipush (v := nI 117) X dX3_putLayerFact_4 (by decide) ?_
  refine g_iload_n X dX3_putLayerFact_6 rfl rfl ?_
  refine g_bipush (v := nI 31) X dX3_putLayerFact_7 (by decide) ?_
  refine g_imulN X dX3_putLayerFact_9 ?_
  refine g_iaddN X dX3_putLayerFact_10 ?_
  refine g_bipush (v := nI 15) X dX3_putLayerFact_11 (by decide) ?_
  refine g_iaddN X dX3_putLayerFact_13 ?_
  refine g_iload_n X dX3_putLayerFact_14 rfl rfl ?_
  refine g_iconstN X 4 dX3_putLayerFact_15 ?_
  refine g_imulN X dX3_putLayerFact_16 ?_
  refine g_iaddN X dX3_putLayerFact_17 ?_
  refine g_iload_n X dX3_putLayerFact_18 rfl rfl ?_
  refine g_iaddN X dX3_putLayerFact_19 ?_
  refine g_iload X dX3_putLayerFact_20 rfl ?_
  refine g_ast_2 X rfl (by omega) dX3_putLayerFact_22 ?_
  exact g_vret X hr hlk dX3_putLayerFact_23 ⟨rfl, rfl⟩
set_option maxRecDepth 20000 in
theorem k_X3_addLayerFact (l : Launch) (γ : gG) (σ : gS) (b i f : Nat) (x : Int32) (h : b < 10) (h2 : i < 4) (h3 : f < 4) : gM l γ yX3_addLayerFact wsX3_addLayerFact ({ frames := 0, cells := 0, slots := 0, locals := 0 } : Room) [.ref (ad γ 1), .int (nI b), .int (nI i), .int (nI f), .int x] σ (gis none (sA σ 2 (upd (σ.1 2) (117 + b * 31 + 15 + i * 4 + f) (σ.1 2 (117 + b * 31 + 15 + i * 4 + f) + x)))) 0 0 := by
  refine g_enter (own := RX3) (cc := cX3_addLayerFact) (nL := 5) (ret := none) [some (.ref (ad γ 1)), some (.int (nI b)), some (.int (nI i)), some (.int (nI f)), some (.int x)] (by decide) rfl rfl (by simp [lg_sl, Value.category]) (by simp [gl_le, glE, Value.category]) (fun hj p e s m args below meth c X hr hlk hnm => ?_)
  have hi3 : ∀ w ∈ wsX30, w ∈ wsX3_addLayerFact := by decide +kernel
  refine g_aload_n X dX3_addLayerFact_0 rfl rfl ?_
  refine g_get_1_0 X hi3 (by decide +kernel) dX3_addLayerFact_1 ?_
  refine g_bipush (v := nI 117) X dX3_addLayerFact_4 (by decide) ?_
  refine g_iload_n X dX3_addLayerFact_6 rfl rfl ?_
  refine g_bipush (v := nI 31) X dX3_addLayerFact_7 (by decide) ?_
  refine g_imulN X dX3_addLayerFact_9 ?_
  refine g_iaddN X dX3_addLayerFact_10 ?_
  refine g_bipush (v := nI 15) X dX3_addLayerFact_11 (by decide) ?_
  refine g_iaddN X dX3_addLayerFact_13 ?_
  refine g_iload_n X dX3_addLayerFact_14 rfl rfl ?_
  refine g_iconstN X 4 dX3_addLayerFact_15 ?_
  refine g_imulN X dX3_addLayerFact_16 ?_
  refine g_iaddN X dX3_addLayerFact_17 ?_
  refine g_iload_n X dX3_addLayerFact_18 rfl rfl ?_
  refine g_iaddN X dX3_addLayerFact_19 ?_
  refine g_dup2_11 X dX3_addLayerFact_20 rfl rfl ?_
  refine g_ald_2 X rfl (by omega) dX3_addLayerFact_21 ?_
  refine g_iload X dX3_addLayerFact_22 rfl ?_
  refine g_iadd X dX3_addLayerFact_24 ?_
  refine g_ast_2 X rfl (by omega) dX3_addLayerFact_25 ?_
  exact g_vret X hr hlk dX3_addLayerFact_26 ⟨rfl, rfl⟩
set_option maxRecDepth 20000 in
theorem k_X3_cashOfAll (l : Launch) (γ : gG) (σ : gS) : gM l γ yX3_cashOfAll wsX3_cashOfAll ({ frames := 1, cells := 0, slots := 0, locals := 22 } : Room) [.ref (ad γ 1)] σ (gis (some (.int (sumI (fun q => σ.1 2 (q * 6 + 0)) 8))) σ) 0 0 := by
  refine g_enter (own := RX3) (cc := cX3_cashOfAll) (nL := 3) (ret := (some .int)) [some (.ref (ad γ 1)), none, none] (by decide) rfl rfl (by simp [lg_sl, Value.category]) (by simp [gl_le, glE, Value.category]) (fun hj p e s m args below meth c X hr hlk hnm => ?_)
  refine g_iconstN X 0 dX3_cashOfAll_0 ?_
  refine g_istore_n1 X dX3_cashOfAll_1 rfl (by decide) rfl ?_
  refine g_iconstN X 0 dX3_cashOfAll_2 ?_
  refine g_istore_n2 X dX3_cashOfAll_3 rfl (by decide) rfl ?_
  refine g_up (i0 := 0) (N := 8) (fun i => [some (.ref (ad γ 1)), some (.int (sumI (fun q => σ.1 2 (q * 6 + 0)) i)), some (.int (nI i))]) (fun i => σ) (by simp [gl_le, sumI]) rfl (by omega) (fun i hi ih4 => ?_)
  dsimp only at ih4 ⊢
  refine g_iload_n X dX3_cashOfAll_4 rfl rfl ?_
  refine g_bipush (v := nI 8) X dX3_cashOfAll_5 (by decide) ?_
  refine g_icmpN_ge (tgt := 25) X dX3_cashOfAll_7 (by decide) (by omega) (by omega) (fun c_7 => ?_) (fun c_7 => ?_)
  · refine g_iload_n X dX3_cashOfAll_25 rfl rfl ?_
    exact g_iret X hr hlk dX3_cashOfAll_26 (by have hi8 : i = 8 := by omega
      subst hi8; exact ⟨rfl, rfl⟩)
  · refine g_iload_n X dX3_cashOfAll_10 rfl rfl ?_
    refine g_aload_n X dX3_cashOfAll_11 rfl rfl ?_
    refine g_iload_n X dX3_cashOfAll_12 rfl rfl ?_
    refine g_iconstN X 0 dX3_cashOfAll_13 ?_
    refine g_callVi X hj (k_X3_fact l γ _ _ _ (by omega)) gW_1 rfl gX3_cashOfAll_X3_fact rfl ⟨rfl, rfl⟩ (by decide +kernel) ⟨by decide, by decide⟩ rfl (by decide) dX3_cashOfAll_14 ⟨by decide, by decide⟩ ?_
    refine g_iadd X dX3_cashOfAll_17 ?_
    refine g_istore_n1 X dX3_cashOfAll_18 rfl (by decide) rfl ?_
    refine g_iincN2 (d := 1) X dX3_cashOfAll_19 (by decide) rfl ?_
    refine g_goto (tgt := 4) X dX3_cashOfAll_22 (by decide) ?_
    exact g_le (by simp [gl_le, sumI]) (ih4 (by omega))
set_option maxRecDepth 20000 in
theorem k_X3_owedBy (l : Launch) (γ : gG) (σ : gS) (q : Nat) (hq : q < 8) : gM l γ yX3_owedBy wsX3_owedBy ({ frames := 1, cells := 0, slots := 0, locals := 22 } : Room) [.ref (ad γ 1), .int (nI q)] σ (gis (some (.int (sumI (fun o => σ.1 2 (48 + q * 8 + o)) 8))) σ) 0 0 := by
  refine g_enter (own := RX3) (cc := cX3_owedBy) (nL := 4) (ret := (some .int)) [some (.ref (ad γ 1)), some (.int (nI q)), none, none] (by decide) rfl rfl (by simp [lg_sl, Value.category]) (by simp [gl_le, glE, Value.category]) (fun hj p e s m args below meth c X hr hlk hnm => ?_)
  refine g_iconstN X 0 dX3_owedBy_0 ?_
  refine g_istore_n2 X dX3_owedBy_1 rfl (by decide) rfl ?_
  refine g_iconstN X 0 dX3_owedBy_2 ?_
  refine g_istore_n3 X dX3_owedBy_3 rfl (by decide) rfl ?_
  refine g_up (i0 := 0) (N := 8) (fun i => [some (.ref (ad γ 1)), some (.int (nI q)), some (.int (sumI (fun o => σ.1 2 (48 + q * 8 + o)) i)), some (.int (nI i))]) (fun i => σ) (by simp [gl_le, sumI]) rfl (by omega) (fun i hi ih4 => ?_)
  dsimp only at ih4 ⊢
  refine g_iload_n X dX3_owedBy_4 rfl rfl ?_
  refine g_bipush (v := nI 8) X dX3_owedBy_5 (by decide) ?_
  refine g_icmpN_ge (tgt := 25) X dX3_owedBy_7 (by decide) (by omega) (by omega) (fun c_7 => ?_) (fun c_7 => ?_)
  · refine g_iload_n X dX3_owedBy_25 rfl rfl ?_
    exact g_iret X hr hlk dX3_owedBy_26 (by have hi8 : i = 8 := by omega
      subst hi8; exact ⟨rfl, rfl⟩)
  · refine g_iload_n X dX3_owedBy_10 rfl rfl ?_
    refine g_aload_n X dX3_owedBy_11 rfl rfl ?_
    refine g_iload_n X dX3_owedBy_12 rfl rfl ?_
    refine g_iload_n X dX3_owedBy_13 rfl rfl ?_
    refine g_callVi X hj (k_X3_owed l γ _ _ _ (by omega) (by omega)) gW_1 rfl gX3_owedBy_X3_owed rfl ⟨rfl, rfl⟩ (by decide +kernel) ⟨by decide, by decide⟩ rfl (by decide) dX3_owedBy_14 ⟨by decide, by decide⟩ ?_
    refine g_iadd X dX3_owedBy_17 ?_
    refine g_istore_n2 X dX3_owedBy_18 rfl (by decide) rfl ?_
    refine g_iincN3 (d := 1) X dX3_owedBy_19 (by decide) rfl ?_
    refine g_goto (tgt := 4) X dX3_owedBy_22 (by decide) ?_
    exact g_le (by simp [gl_le, sumI]) (ih4 (by omega))
set_option maxRecDepth 20000 in
theorem k_X3_owedTo (l : Launch) (γ : gG) (σ : gS) (q : Nat) (hq : q < 8) : gM l γ yX3_owedTo wsX3_owedTo ({ frames := 1, cells := 0, slots := 0, locals := 22 } : Room) [.ref (ad γ 1), .int (nI q)] σ (gis (some (.int (sumI (fun o => σ.1 2 (48 + o * 8 + q)) 8))) σ) 0 0 := by
  refine g_enter (own := RX3) (cc := cX3_owedTo) (nL := 4) (ret := (some .int)) [some (.ref (ad γ 1)), some (.int (nI q)), none, none] (by decide) rfl rfl (by simp [lg_sl, Value.category]) (by simp [gl_le, glE, Value.category]) (fun hj p e s m args below meth c X hr hlk hnm => ?_)
  refine g_iconstN X 0 dX3_owedTo_0 ?_
  refine g_istore_n2 X dX3_owedTo_1 rfl (by decide) rfl ?_
  refine g_iconstN X 0 dX3_owedTo_2 ?_
  refine g_istore_n3 X dX3_owedTo_3 rfl (by decide) rfl ?_
  refine g_up (i0 := 0) (N := 8) (fun i => [some (.ref (ad γ 1)), some (.int (nI q)), some (.int (sumI (fun o => σ.1 2 (48 + o * 8 + q)) i)), some (.int (nI i))]) (fun i => σ) (by simp [gl_le, sumI]) rfl (by omega) (fun i hi ih4 => ?_)
  dsimp only at ih4 ⊢
  refine g_iload_n X dX3_owedTo_4 rfl rfl ?_
  refine g_bipush (v := nI 8) X dX3_owedTo_5 (by decide) ?_
  refine g_icmpN_ge (tgt := 25) X dX3_owedTo_7 (by decide) (by omega) (by omega) (fun c_7 => ?_) (fun c_7 => ?_)
  · refine g_iload_n X dX3_owedTo_25 rfl rfl ?_
    exact g_iret X hr hlk dX3_owedTo_26 (by have hi8 : i = 8 := by omega
      subst hi8; exact ⟨rfl, rfl⟩)
  · refine g_iload_n X dX3_owedTo_10 rfl rfl ?_
    refine g_aload_n X dX3_owedTo_11 rfl rfl ?_
    refine g_iload_n X dX3_owedTo_12 rfl rfl ?_
    refine g_iload_n X dX3_owedTo_13 rfl rfl ?_
    refine g_callVi X hj (k_X3_owed l γ _ _ _ (by omega) (by omega)) gW_1 rfl gX3_owedTo_X3_owed rfl ⟨rfl, rfl⟩ (by decide +kernel) ⟨by decide, by decide⟩ rfl (by decide) dX3_owedTo_14 ⟨by decide, by decide⟩ ?_
    refine g_iadd X dX3_owedTo_17 ?_
    refine g_istore_n2 X dX3_owedTo_18 rfl (by decide) rfl ?_
    refine g_iincN3 (d := 1) X dX3_owedTo_19 (by decide) rfl ?_
    refine g_goto (tgt := 4) X dX3_owedTo_22 (by decide) ?_
    exact g_le (by simp [gl_le, sumI]) (ih4 (by omega))
set_option maxRecDepth 20000 in
theorem k_X3_debtsOfAll (l : Launch) (γ : gG) (σ : gS) : gM l γ yX3_debtsOfAll wsX3_debtsOfAll ({ frames := 2, cells := 0, slots := 0, locals := 45 } : Room) [.ref (ad γ 1)] σ (gis (some (.int (sumI (fun q => sumI (fun o => σ.1 2 (48 + q * 8 + o)) 8) 8))) σ) 0 0 := by
  refine g_enter (own := RX3) (cc := cX3_debtsOfAll) (nL := 3) (ret := (some .int)) [some (.ref (ad γ 1)), none, none] (by decide) rfl rfl (by simp [lg_sl, Value.category]) (by simp [gl_le, glE, Value.category]) (fun hj p e s m args below meth c X hr hlk hnm => ?_)
  refine g_iconstN X 0 dX3_debtsOfAll_0 ?_
  refine g_istore_n1 X dX3_debtsOfAll_1 rfl (by decide) rfl ?_
  refine g_iconstN X 0 dX3_debtsOfAll_2 ?_
  refine g_istore_n2 X dX3_debtsOfAll_3 rfl (by decide) rfl ?_
  refine g_up (i0 := 0) (N := 8) (fun i => [some (.ref (ad γ 1)), some (.int (sumI (fun q => sumI (fun o => σ.1 2 (48 + q * 8 + o)) 8) i)), some (.int (nI i))]) (fun i => σ) (by simp [gl_le, sumI]) rfl (by omega) (fun i hi ih4 => ?_)
  dsimp only at ih4 ⊢
  refine g_iload_n X dX3_debtsOfAll_4 rfl rfl ?_
  refine g_bipush (v := nI 8) X dX3_debtsOfAll_5 (by decide) ?_
  refine g_icmpN_ge (tgt := 24) X dX3_debtsOfAll_7 (by decide) (by omega) (by omega) (fun c_7 => ?_) (fun c_7 => ?_)
  · refine g_iload_n X dX3_debtsOfAll_24 rfl rfl ?_
    exact g_iret X hr hlk dX3_debtsOfAll_25 (by have hi8 : i = 8 := by omega
      subst hi8; exact ⟨rfl, rfl⟩)
  · refine g_iload_n X dX3_debtsOfAll_10 rfl rfl ?_
    refine g_aload_n X dX3_debtsOfAll_11 rfl rfl ?_
    refine g_iload_n X dX3_debtsOfAll_12 rfl rfl ?_
    refine g_callVi X hj (k_X3_owedBy l γ _ _ (by omega)) gW_1 rfl gX3_debtsOfAll_X3_owedBy rfl ⟨rfl, rfl⟩ (by decide +kernel) ⟨by decide, by decide⟩ rfl (by decide) dX3_debtsOfAll_13 ⟨by decide, by decide⟩ ?_
    refine g_iadd X dX3_debtsOfAll_16 ?_
    refine g_istore_n1 X dX3_debtsOfAll_17 rfl (by decide) rfl ?_
    refine g_iincN2 (d := 1) X dX3_debtsOfAll_18 (by decide) rfl ?_
    refine g_goto (tgt := 4) X dX3_debtsOfAll_21 (by decide) ?_
    exact g_le (by simp only [gl_le, List.head?, List.tail, sumI]; simp) (ih4 (by omega))
set_option maxRecDepth 20000 in
theorem k_X3_leftOfBond (l : Launch) (γ : gG) (σ : gS) (b : Nat) (hb : b < 10) : gM l γ yX3_leftOfBond wsX3_leftOfBond ({ frames := 1, cells := 0, slots := 0, locals := 22 } : Room) [.ref (ad γ 1), .int (nI b)] σ (gis (some (.int (leftOf (σ.1 2) b))) σ) 0 0 := by
  refine g_enter (own := RX3) (cc := cX3_leftOfBond) (nL := 2) (ret := (some .int)) [some (.ref (ad γ 1)), some (.int (nI b))] (by decide) rfl rfl (by simp [lg_sl, Value.category]) (by simp [gl_le, glE, Value.category]) (fun hj p e s m args below meth c X hr hlk hnm => ?_)
  refine g_aload_n X dX3_leftOfBond_0 rfl rfl ?_
  refine g_iload_n X dX3_leftOfBond_1 rfl rfl ?_
  refine g_iconstN X 1 dX3_leftOfBond_2 ?_
  refine g_callVi X hj (k_X3_bondFact l γ _ _ _ (by omega)) gW_1 rfl gX3_leftOfBond_X3_bondFact rfl ⟨rfl, rfl⟩ (by decide +kernel) ⟨by decide, by decide⟩ rfl (by decide) dX3_leftOfBond_3 ⟨by decide, by decide⟩ ?_
  refine g_aload_n X dX3_leftOfBond_6 rfl rfl ?_
  refine g_iload_n X dX3_leftOfBond_7 rfl rfl ?_
  refine g_bipush (v := nI 6) X dX3_leftOfBond_8 (by decide) ?_
  refine g_callVi X hj (k_X3_bondFact l γ _ _ _ (by omega)) gW_1 rfl gX3_leftOfBond_X3_bondFact rfl ⟨rfl, rfl⟩ (by decide +kernel) ⟨by decide, by decide⟩ rfl (by decide) dX3_leftOfBond_10 ⟨by decide, by decide⟩ ?_
  refine g_isub X dX3_leftOfBond_13 ?_
  refine g_aload_n X dX3_leftOfBond_14 rfl rfl ?_
  refine g_iload_n X dX3_leftOfBond_15 rfl rfl ?_
  refine g_bipush (v := nI 8) X dX3_leftOfBond_16 (by decide) ?_
  refine g_callVi X hj (k_X3_bondFact l γ _ _ _ (by omega)) gW_1 rfl gX3_leftOfBond_X3_bondFact rfl ⟨rfl, rfl⟩ (by decide +kernel) ⟨by decide, by decide⟩ rfl (by decide) dX3_leftOfBond_18 ⟨by decide, by decide⟩ ?_
  refine g_isub X dX3_leftOfBond_21 ?_
  exact g_iret X hr hlk dX3_leftOfBond_22 ⟨rfl, rfl⟩
set_option maxRecDepth 20000 in
theorem k_X3_leftOfLimits (l : Launch) (γ : gG) (σ : gS) (b L : Nat) (hb : b < 10) (hL : σ.1 2 (117 + b * 31 + 3) = nI L) (hL4 : L ≤ 4) : gM l γ yX3_leftOfLimits wsX3_leftOfLimits ({ frames := 1, cells := 0, slots := 0, locals := 23 } : Room) [.ref (ad γ 1), .int (nI b)] σ (gis (some (.int (limitsOf (σ.1 2) b L))) σ) 0 0 := by
  refine g_enter (own := RX3) (cc := cX3_leftOfLimits) (nL := 4) (ret := (some .int)) [some (.ref (ad γ 1)), some (.int (nI b)), none, none] (by decide) rfl rfl (by simp [lg_sl, Value.category]) (by simp [gl_le, glE, Value.category]) (fun hj p e s m args below meth c X hr hlk hnm => ?_)
  refine g_iconstN X 0 dX3_leftOfLimits_0 ?_
  refine g_istore_n2 X dX3_leftOfLimits_1 rfl (by decide) rfl ?_
  refine g_iconstN X 0 dX3_leftOfLimits_2 ?_
  refine g_istore_n3 X dX3_leftOfLimits_3 rfl (by decide) rfl ?_
  refine g_up (i0 := 0) (N := L) (fun i => [some (.ref (ad γ 1)), some (.int (nI b)), some (.int (sumI (fun i => σ.1 2 (117 + b * 31 + 15 + i * 4 + 2)) i)), some (.int (nI i))]) (fun i => σ) (by simp [gl_le, sumI]) rfl (by omega) (fun i hi ih4 => ?_)
  dsimp only at ih4 ⊢
  refine g_iload_n X dX3_leftOfLimits_4 rfl rfl ?_
  refine g_aload_n X dX3_leftOfLimits_5 rfl rfl ?_
  refine g_iload_n X dX3_leftOfLimits_6 rfl rfl ?_
  refine g_iconstN X 3 dX3_leftOfLimits_7 ?_
  refine g_callVi X hj (k_X3_bondFact l γ _ _ _ (by omega)) gW_1 rfl gX3_leftOfLimits_X3_bondFact rfl ⟨rfl, rfl⟩ (by decide +kernel) ⟨by decide, by decide⟩ rfl (by decide) dX3_leftOfLimits_8 ⟨by decide, by decide⟩ ?_
  refine g_top hL ?_
  refine g_icmpN_ge (tgt := 30) X dX3_leftOfLimits_11 (by decide) (by omega) (by omega) (fun c_11 => ?_) (fun c_11 => ?_)
  · refine g_iload_n X dX3_leftOfLimits_30 rfl rfl ?_
    exact g_iret X hr hlk dX3_leftOfLimits_31 (by have hiL : i = L := by omega
      subst hiL; exact ⟨rfl, rfl⟩)
  · refine g_iload_n X dX3_leftOfLimits_14 rfl rfl ?_
    refine g_aload_n X dX3_leftOfLimits_15 rfl rfl ?_
    refine g_iload_n X dX3_leftOfLimits_16 rfl rfl ?_
    refine g_iload_n X dX3_leftOfLimits_17 rfl rfl ?_
    refine g_iconstN X 2 dX3_leftOfLimits_18 ?_
    refine g_callVi X hj (k_X3_layerFact l γ _ _ _ _ (by omega) (by omega) (by omega)) gW_1 rfl gX3_leftOfLimits_X3_layerFact rfl ⟨rfl, rfl⟩ (by decide +kernel) ⟨by decide, by decide⟩ rfl (by decide) dX3_leftOfLimits_19 ⟨by decide, by decide⟩ ?_
    refine g_iadd X dX3_leftOfLimits_22 ?_
    refine g_istore_n2 X dX3_leftOfLimits_23 rfl (by decide) rfl ?_
    refine g_iincN3 (d := 1) X dX3_leftOfLimits_24 (by decide) rfl ?_
    refine g_goto (tgt := 4) X dX3_leftOfLimits_27 (by decide) ?_
    exact g_le (by simp [gl_le, sumI]) (ih4 (by omega))
