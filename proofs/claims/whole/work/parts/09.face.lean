/-! THE OBJECT'S OWN METHODS -/
theorem isPb_f {x : Int32} (h : isPb x = false) (h0 : ¬ x < 0) : ¬ x < nI 8 := by
  intro h8
  unfold isPb at h
  rw [decide_eq_false h0, decide_eq_false (Int32.not_le.mpr h8)] at h
  cases h
theorem isPb_t {x : Int32} (h0 : ¬ x < 0) (h8 : x < nI 8) : isPb x = true := by
  unfold isPb
  rw [decide_eq_false h0, decide_eq_false (Int32.not_le.mpr h8)]
  rfl
def stLo (k : Nat) : Nat := if k = 2 then 1 else 0
def stHi (k : Nat) : Nat := if k = 1 then 100 else 9
theorem sv_2 (σ : gS) (j z : Nat) : (svS σ j z).1 2 = σ.1 2 := by
  unfold svS
  rw [sA_ne _ _ (by decide), sA_ne _ _ (by omega)]
/-- cash comes in -/
def brV (v : Nat → Int32) (q : Nat) (x : Int32) : Nat → Int32 := upd (upd v (q * 6 + 0) (v (q * 6 + 0) + x)) 115 (upd v (q * 6 + 0) (v (q * 6 + 0) + x) 115 + x)
def guV (v : Nat → Int32) (q : Nat) (g x : Int32) : Nat → Int32 := upd (upd v (q * 6 + 1) g) (q * 6 + 2) x
def rpA (v : Nat → Int32) (q : Nat) (x : Int32) : Nat → Int32 := upd v (q * 6 + 0) (v (q * 6 + 0) + x)
def rpV (v : Nat → Int32) (q o : Nat) (x : Int32) : Nat → Int32 := upd (rpA (rpA v q (-x)) o x) (48 + q * 8 + o) (rpA (rpA v q (-x)) o x (48 + q * 8 + o) + -x)
theorem nI_m1 {y : Nat} (h : y < 2 ^ 31) : ¬ nI y = -1 := by
  intro q
  have := nI_pos h
  rw [q] at this
  exact this (by decide)
/-- a call carried out -/
def caS (σ : gS) (b prn L : Nat) (su : Nat → Nat) (x : Int32) : gS :=
  pyS (sA σ 2 (coV (σ.1 2) b prn L su (drAm σ b x) (drBp σ b prn x) (drT σ b prn L x).1 (drT σ b prn L x).2.2.1.1 (drT σ b prn L x).2.2.1.2.1 (drT σ b prn L x).2.2.1.2.2 (drT σ b prn L x).2.2.2.2)) (nI b) (nI prn) (drAm σ b x) (drBp σ b prn x) (drT σ b prn L x).1 (drT σ b prn L x).2.1 (drT σ b prn L x).2.2.1.1 (drT σ b prn L x).2.2.1.2.1 (drT σ b prn L x).2.2.1.2.2 (drT σ b prn L x).2.2.2.1 (drT σ b prn L x).2.2.2.2 (drSo σ b prn L x).2
def reR (v : Nat → Int32) (b k : Nat) : Int32 := mn (v (117 + b * 31 + 1) * v (117 + b * 31 + (10 + k)) / nI 1000) (leftOf v b)
def re1 (v : Nat → Int32) (b : Nat) : Nat → Int32 := upd v (117 + b * 31 + 5) (v (117 + b * 31 + 5) + nI 1)
def rlV (v : Nat → Int32) (b L : Nat) (x : Int32) : Nat → Int32 := trimOf (upd v (117 + b * 31 + 8) (v (117 + b * 31 + 8) + x)) b L
def reV (v : Nat → Int32) (b L k : Nat) : Nat → Int32 := rlV (re1 v b) b L (reR v b k)
def enV (v : Nat → Int32) (b L : Nat) : Nat → Int32 := upd (rlV v b L (leftOf v b)) (117 + b * 31 + 9) (nI 0)

set_option maxRecDepth 20000 in
theorem k_X4_requirePerson (l : Launch) (γ : gG) (σ : gS) (q : Nat) (hq : q < 8) : gM l γ yX4_requirePerson wsX4_requirePerson ({ frames := 6, cells := 0, slots := 0, locals := 200 } : Room) [.int (nI q)] σ (gis none σ) 0 0 := by
  refine g_enter (own := RX4) (cc := cX4_requirePerson) (nL := 1) (ret := none) [some (.int (nI q))] (by decide) rfl rfl (by simp [lg_sl, Value.category]) (by simp [gl_le, glE, Value.category]) (fun hj p e s m args below meth c X hr hlk hnm => ?_)
  refine g_iload_n X dX4_requirePerson_0 rfl rfl ?_
  refine g_if_lt (tgt := 10) X dX4_requirePerson_1 (by decide) (fun c_1 => absurd c_1 (nI_pos (by omega))) (fun c_1 => ?_)
  refine g_iload_n X dX4_requirePerson_4 rfl rfl ?_
  refine g_bipush (v := nI 8) X dX4_requirePerson_5 (by decide) ?_
  refine g_icmpN_lt (tgt := 21) X dX4_requirePerson_7 (by decide) (by omega) (by omega) (fun c_7 => ?_) (fun c_7 => absurd hq (by omega))
  exact g_vret X hr hlk dX4_requirePerson_21 ⟨rfl, rfl⟩
set_option maxRecDepth 20000 in
theorem t_X4_requirePerson (l : Launch) (γ : gG) (σ : gS) (x : Int32) (h : isPb x = false) : gMX l γ yX4_requirePerson wsX4_requirePerson ({ frames := 6, cells := 1, slots := 6, locals := 200 } : Room) [.int x] σ eB (σ) := by
  refine g_enterX (own := RX4) (cc := cX4_requirePerson) (nL := 1) (ret := none) [some (.int x)] (by decide) rfl rfl (by simp [lg_sl, Value.category]) (by simp [gl_le, glE, Value.category]) (fun hj p e s m args below meth c X C => ?_)
  have hin_B : ∀ w ∈ Cond.classLink RX4 214 eB :: Cond.initialized eB :: (vx_atS RX4 218 eB eN).filter goodWord, w ∈ wsX4_requirePerson := by decide +kernel
  refine g_iload_n X dX4_requirePerson_0 rfl rfl ?_
  refine g_if_lt (tgt := 10) X dX4_requirePerson_1 (by decide) (fun c_1 => ?_) (fun c_1 => ?_)
  · exact g_throwW (names := eN) (htx := g_tx313) X C fit_B ot_B hin_B ng_B dX4_requirePerson_10 dX4_requirePerson_13 dX4_requirePerson_14 dX4_requirePerson_17 dX4_requirePerson_20 ⟨by decide, by decide, by decide, by decide⟩ ⟨by decide, by decide⟩
  · refine g_iload_n X dX4_requirePerson_4 rfl rfl ?_
    refine g_bipush (v := nI 8) X dX4_requirePerson_5 (by decide) ?_
    refine g_icmp_lt (tgt := 21) X dX4_requirePerson_7 (by decide) (fun c_7 => absurd c_7 (isPb_f h c_1)) (fun c_7 => ?_)
    exact g_throwW (names := eN) (htx := g_tx313) X C fit_B ot_B hin_B ng_B dX4_requirePerson_10 dX4_requirePerson_13 dX4_requirePerson_14 dX4_requirePerson_17 dX4_requirePerson_20 ⟨by decide, by decide, by decide, by decide⟩ ⟨by decide, by decide⟩
set_option maxRecDepth 20000 in
theorem k_X4_requireBond (l : Launch) (γ : gG) (σ : gS) (b N : Nat) (hb : b < N) (hN : σ.1 2 116 = nI N) (hN10 : N ≤ 10) : gM l γ yX4_requireBond wsX4_requireBond ({ frames := 6, cells := 0, slots := 0, locals := 200 } : Room) [.ref (ad γ 0), .int (nI b)] σ (gis none σ) 0 0 := by
  refine g_enter (own := RX4) (cc := cX4_requireBond) (nL := 2) (ret := none) [some (.ref (ad γ 0)), some (.int (nI b))] (by decide) rfl rfl (by simp [lg_sl, Value.category]) (by simp [gl_le, glE, Value.category]) (fun hj p e s m args below meth c X hr hlk hnm => ?_)
  have hi4 : ∀ w ∈ wsX40, w ∈ wsX4_requireBond := by decide +kernel
  refine g_iload_n X dX4_requireBond_0 rfl rfl ?_
  refine g_if_lt (tgt := 15) X dX4_requireBond_1 (by decide) (fun c_1 => absurd c_1 (nI_pos (by omega))) (fun c_1 => ?_)
  refine g_iload_n X dX4_requireBond_4 rfl rfl ?_
  refine g_aload_n X dX4_requireBond_5 rfl rfl ?_
  refine g_get_0_0 X hi4 (by decide +kernel) dX4_requireBond_6 ?_
  refine g_callVi (na := 0) X hj (k_X3_bondCount l γ _) gW_1 rfl gX4_requireBond_X3_bondCount rfl ⟨rfl, rfl⟩ (by decide +kernel) rfl ⟨by decide, by decide⟩ rfl (Nat.le_of_ble_eq_true rfl) dX4_requireBond_9 ⟨by decide, by decide⟩ ?_
  refine g_top (y := nI N) hN ?_
  refine g_icmpN_lt (tgt := 26) X dX4_requireBond_12 (by decide) (by omega) (by omega) (fun c_12 => ?_) (fun c_12 => absurd hb (by omega))
  exact g_vret X hr hlk dX4_requireBond_26 ⟨rfl, rfl⟩
set_option maxRecDepth 20000 in
theorem t_X4_requireBond (l : Launch) (γ : gG) (σ : gS) (x : Int32) (h : x < 0 ∨ σ.1 2 116 ≤ x) : gMX l γ yX4_requireBond wsX4_requireBond ({ frames := 6, cells := 1, slots := 6, locals := 200 } : Room) [.ref (ad γ 0), .int x] σ eB (σ) := by
  refine g_enterX (own := RX4) (cc := cX4_requireBond) (nL := 2) (ret := none) [some (.ref (ad γ 0)), some (.int x)] (by decide) rfl rfl (by simp [lg_sl, Value.category]) (by simp [gl_le, glE, Value.category]) (fun hj p e s m args below meth c X C => ?_)
  have hin_B : ∀ w ∈ Cond.classLink RX4 214 eB :: Cond.initialized eB :: (vx_atS RX4 218 eB eN).filter goodWord, w ∈ wsX4_requireBond := by decide +kernel
  have hi4 : ∀ w ∈ wsX40, w ∈ wsX4_requireBond := by decide +kernel
  refine g_iload_n X dX4_requireBond_0 rfl rfl ?_
  refine g_if_lt (tgt := 15) X dX4_requireBond_1 (by decide) (fun c_1 => ?_) (fun c_1 => ?_)
  · exact g_throwW (names := eN) (htx := g_tx315) X C fit_B ot_B hin_B ng_B dX4_requireBond_15 dX4_requireBond_18 dX4_requireBond_19 dX4_requireBond_22 dX4_requireBond_25 ⟨by decide, by decide, by decide, by decide⟩ ⟨by decide, by decide⟩
  · refine g_iload_n X dX4_requireBond_4 rfl rfl ?_
    refine g_aload_n X dX4_requireBond_5 rfl rfl ?_
    refine g_get_0_0 X hi4 (by decide +kernel) dX4_requireBond_6 ?_
    refine g_callVi (na := 0) X hj (k_X3_bondCount l γ _) gW_1 rfl gX4_requireBond_X3_bondCount rfl ⟨rfl, rfl⟩ (by decide +kernel) rfl ⟨by decide, by decide⟩ rfl (Nat.le_of_ble_eq_true rfl) dX4_requireBond_9 ⟨by decide, by decide⟩ ?_
    refine g_icmp_lt (tgt := 26) X dX4_requireBond_12 (by decide) (fun c_12 => h.elim (fun q => absurd q c_1) (fun q => absurd c_12 (Int32.not_lt.mpr q))) (fun c_12 => ?_)
    exact g_throwW (names := eN) (htx := g_tx315) X C fit_B ot_B hin_B ng_B dX4_requireBond_15 dX4_requireBond_18 dX4_requireBond_19 dX4_requireBond_22 dX4_requireBond_25 ⟨by decide, by decide, by decide, by decide⟩ ⟨by decide, by decide⟩
set_option maxRecDepth 20000 in
theorem k_X4_requireSetting (l : Launch) (γ : gG) (σ : gS) (k : Nat) (hk : k < 3) : gM l γ yX4_requireSetting wsX4_requireSetting ({ frames := 6, cells := 0, slots := 0, locals := 200 } : Room) [.int (nI k)] σ (gis none σ) 0 0 := by
  refine g_enter (own := RX4) (cc := cX4_requireSetting) (nL := 1) (ret := none) [some (.int (nI k))] (by decide) rfl rfl (by simp [lg_sl, Value.category]) (by simp [gl_le, glE, Value.category]) (fun hj p e s m args below meth c X hr hlk hnm => ?_)
  refine g_iload_n X dX4_requireSetting_0 rfl rfl ?_
  refine g_if_lt (tgt := 9) X dX4_requireSetting_1 (by decide) (fun c_1 => absurd c_1 (nI_pos (by omega))) (fun c_1 => ?_)
  refine g_iload_n X dX4_requireSetting_4 rfl rfl ?_
  refine g_iconstN X 3 dX4_requireSetting_5 ?_
  refine g_icmpN_lt (tgt := 20) X dX4_requireSetting_6 (by decide) (by omega) (by omega) (fun c_6 => ?_) (fun c_6 => absurd hk (by omega))
  exact g_vret X hr hlk dX4_requireSetting_20 ⟨rfl, rfl⟩
set_option maxRecDepth 20000 in
theorem t_X4_requireSetting (l : Launch) (γ : gG) (σ : gS) (x : Int32) (h : x < 0 ∨ nI 3 ≤ x) : gMX l γ yX4_requireSetting wsX4_requireSetting ({ frames := 6, cells := 1, slots := 6, locals := 200 } : Room) [.int x] σ eB (σ) := by
  refine g_enterX (own := RX4) (cc := cX4_requireSetting) (nL := 1) (ret := none) [some (.int x)] (by decide) rfl rfl (by simp [lg_sl, Value.category]) (by simp [gl_le, glE, Value.category]) (fun hj p e s m args below meth c X C => ?_)
  have hin_B : ∀ w ∈ Cond.classLink RX4 214 eB :: Cond.initialized eB :: (vx_atS RX4 218 eB eN).filter goodWord, w ∈ wsX4_requireSetting := by decide +kernel
  refine g_iload_n X dX4_requireSetting_0 rfl rfl ?_
  refine g_if_lt (tgt := 9) X dX4_requireSetting_1 (by decide) (fun c_1 => ?_) (fun c_1 => ?_)
  · exact g_throwW (names := eN) (htx := g_tx317) X C fit_B ot_B hin_B ng_B dX4_requireSetting_9 dX4_requireSetting_12 dX4_requireSetting_13 dX4_requireSetting_16 dX4_requireSetting_19 ⟨by decide, by decide, by decide, by decide⟩ ⟨by decide, by decide⟩
  · refine g_iload_n X dX4_requireSetting_4 rfl rfl ?_
    refine g_iconstN X 3 dX4_requireSetting_5 ?_
    refine g_icmp_lt (tgt := 20) X dX4_requireSetting_6 (by decide) (fun c_6 => h.elim (fun q => absurd q c_1) (fun q => absurd c_6 (Int32.not_lt.mpr q))) (fun c_6 => ?_)
    exact g_throwW (names := eN) (htx := g_tx317) X C fit_B ot_B hin_B ng_B dX4_requireSetting_9 dX4_requireSetting_12 dX4_requireSetting_13 dX4_requireSetting_16 dX4_requireSetting_19 ⟨by decide, by decide, by decide, by decide⟩ ⟨by decide, by decide⟩
set_option maxRecDepth 20000 in
theorem k_X4_requireRange (l : Launch) (γ : gG) (σ : gS) (x a b : Int32) (h1 : a ≤ x) (h2 : x ≤ b) : gM l γ yX4_requireRange wsX4_requireRange ({ frames := 6, cells := 0, slots := 0, locals := 200 } : Room) [.int x, .int a, .int b] σ (gis none σ) 0 0 := by
  refine g_enter (own := RX4) (cc := cX4_requireRange) (nL := 3) (ret := none) [some (.int x), some (.int a), some (.int b)] (by decide) rfl rfl (by simp [lg_sl, Value.category]) (by simp [gl_le, glE, Value.category]) (fun hj p e s m args below meth c X hr hlk hnm => ?_)
  refine g_iload_n X dX4_requireRange_0 rfl rfl ?_
  refine g_iload_n X dX4_requireRange_1 rfl rfl ?_
  refine g_icmp_lt (tgt := 10) X dX4_requireRange_2 (by decide) (fun c_2 => absurd c_2 (Int32.not_lt.mpr h1)) (fun c_2 => ?_)
  refine g_iload_n X dX4_requireRange_5 rfl rfl ?_
  refine g_iload_n X dX4_requireRange_6 rfl rfl ?_
  refine g_icmp_le (tgt := 21) X dX4_requireRange_7 (by decide) (fun c_7 => ?_) (fun c_7 => absurd h2 c_7)
  exact g_vret X hr hlk dX4_requireRange_21 ⟨rfl, rfl⟩
set_option maxRecDepth 20000 in
theorem t_X4_requireRange (l : Launch) (γ : gG) (σ : gS) (x a b : Int32) (h : x < a ∨ b < x) : gMX l γ yX4_requireRange wsX4_requireRange ({ frames := 6, cells := 1, slots := 6, locals := 200 } : Room) [.int x, .int a, .int b] σ eA (σ) := by
  refine g_enterX (own := RX4) (cc := cX4_requireRange) (nL := 3) (ret := none) [some (.int x), some (.int a), some (.int b)] (by decide) rfl rfl (by simp [lg_sl, Value.category]) (by simp [gl_le, glE, Value.category]) (fun hj p e s m args below meth c X C => ?_)
  have hin_A : ∀ w ∈ Cond.classLink RX4 171 eA :: Cond.initialized eA :: (vx_atS RX4 175 eA eN).filter goodWord, w ∈ wsX4_requireRange := by decide +kernel
  refine g_iload_n X dX4_requireRange_0 rfl rfl ?_
  refine g_iload_n X dX4_requireRange_1 rfl rfl ?_
  refine g_icmp_lt (tgt := 10) X dX4_requireRange_2 (by decide) (fun c_2 => ?_) (fun c_2 => ?_)
  · exact g_throwW (names := eN) (htx := g_tx320) X C fit_A ot_A hin_A ng_A dX4_requireRange_10 dX4_requireRange_13 dX4_requireRange_14 dX4_requireRange_17 dX4_requireRange_20 ⟨by decide, by decide, by decide, by decide⟩ ⟨by decide, by decide⟩
  · refine g_iload_n X dX4_requireRange_5 rfl rfl ?_
    refine g_iload_n X dX4_requireRange_6 rfl rfl ?_
    refine g_icmp_le (tgt := 21) X dX4_requireRange_7 (by decide) (fun c_7 => h.elim (fun q => absurd q c_2) (fun q => absurd c_7 (Int32.not_le.mpr q))) (fun c_7 => ?_)
    exact g_throwW (names := eN) (htx := g_tx320) X C fit_A ot_A hin_A ng_A dX4_requireRange_10 dX4_requireRange_13 dX4_requireRange_14 dX4_requireRange_17 dX4_requireRange_20 ⟨by decide, by decide, by decide, by decide⟩ ⟨by decide, by decide⟩
set_option maxRecDepth 20000 in
theorem k_X4_requireAmount (l : Launch) (γ : gG) (σ : gS) (x : Int32) (h1 : nI 1 ≤ x) (h2 : x ≤ nI 99999) : gM l γ yX4_requireAmount wsX4_requireAmount ({ frames := 7, cells := 0, slots := 0, locals := 222 } : Room) [.int x] σ (gis none σ) 0 0 := by
  refine g_enter (own := RX4) (cc := cX4_requireAmount) (nL := 1) (ret := none) [some (.int x)] (by decide) rfl rfl (by simp [lg_sl, Value.category]) (by simp [gl_le, glE, Value.category]) (fun hj p e s m args below meth c X hr hlk hnm => ?_)
  refine g_iload_n X dX4_requireAmount_0 rfl rfl ?_
  refine g_iconstN X 1 dX4_requireAmount_1 ?_
  refine g_ldcw (v := nI 99999) X (show Cond.constant RX4 319 99999 ∈ _ by decide +kernel) dX4_requireAmount_2 ?_
  refine g_callSv (na := 3) X hj (k_X4_requireRange l γ _ _ _ _ (by assumption) (by assumption)) gX4_requireAmount_X4_requireRange rfl ⟨rfl, rfl⟩ (by decide +kernel) rfl ⟨by decide, by decide⟩ rfl (Nat.le_of_ble_eq_true rfl) dX4_requireAmount_5 ⟨by decide, by decide⟩ ?_
  exact g_vret X hr hlk dX4_requireAmount_8 ⟨rfl, rfl⟩
set_option maxRecDepth 20000 in
theorem t_X4_requireAmount (l : Launch) (γ : gG) (σ : gS) (x : Int32) (h : x < nI 1 ∨ nI 99999 < x) : gMX l γ yX4_requireAmount wsX4_requireAmount ({ frames := 7, cells := 1, slots := 6, locals := 222 } : Room) [.int x] σ eA (σ) := by
  refine g_enterX (own := RX4) (cc := cX4_requireAmount) (nL := 1) (ret := none) [some (.int x)] (by decide) rfl rfl (by simp [lg_sl, Value.category]) (by simp [gl_le, glE, Value.category]) (fun hj p e s m args below meth c X C => ?_)
  refine g_iload_n X dX4_requireAmount_0 rfl rfl ?_
  refine g_iconstN X 1 dX4_requireAmount_1 ?_
  refine g_ldcw (v := nI 99999) X (show Cond.constant RX4 319 99999 ∈ _ by decide +kernel) dX4_requireAmount_2 ?_
  exact g_callSX (na := 3) X C hj _ (t_X4_requireRange l γ _ _ _ _ h) gX4_requireAmount_X4_requireRange rfl ⟨rfl, rfl⟩ (by decide +kernel) rfl ⟨by decide, by decide⟩ rfl (Nat.le_of_ble_eq_true rfl) dX4_requireAmount_5 ⟨by decide, by decide⟩ ⟨by decide, by decide⟩
set_option maxRecDepth 20000 in
theorem k_X4_requireRunning (l : Launch) (γ : gG) (σ : gS) (b : Nat) (hb : b < 10) (hru : σ.1 2 (117 + b * 31 + 9) = nI 1) : gM l γ yX4_requireRunning wsX4_requireRunning ({ frames := 6, cells := 0, slots := 0, locals := 200 } : Room) [.ref (ad γ 0), .int (nI b)] σ (gis none σ) 0 0 := by
  refine g_enter (own := RX4) (cc := cX4_requireRunning) (nL := 2) (ret := none) [some (.ref (ad γ 0)), some (.int (nI b))] (by decide) rfl rfl (by simp [lg_sl, Value.category]) (by simp [gl_le, glE, Value.category]) (fun hj p e s m args below meth c X hr hlk hnm => ?_)
  have hi4 : ∀ w ∈ wsX40, w ∈ wsX4_requireRunning := by decide +kernel
  refine g_aload_n X dX4_requireRunning_0 rfl rfl ?_
  refine g_get_0_0 X hi4 (by decide +kernel) dX4_requireRunning_1 ?_
  refine g_iload_n X dX4_requireRunning_4 rfl rfl ?_
  refine g_bipush (v := nI 9) X dX4_requireRunning_5 (by decide) ?_
  refine g_callVi (na := 2) X hj (k_X3_bondFact l γ _ _ _ (by omega)) gW_1 rfl gX4_requireRunning_X3_bondFact rfl ⟨rfl, rfl⟩ (by decide +kernel) rfl ⟨by decide, by decide⟩ rfl (Nat.le_of_ble_eq_true rfl) dX4_requireRunning_7 ⟨by decide, by decide⟩ ?_
  refine g_if_ne (tgt := 24) X dX4_requireRunning_10 (by decide) (fun c_10 => ?_) (fun c_10 => absurd c_10 (by rw [hru]; decide))
  exact g_vret X hr hlk dX4_requireRunning_24 ⟨rfl, rfl⟩
set_option maxRecDepth 20000 in
theorem t_X4_requireRunning (l : Launch) (γ : gG) (σ : gS) (b : Nat) (hb : b < 10) (hru : σ.1 2 (117 + b * 31 + 9) = nI 0) : gMX l γ yX4_requireRunning wsX4_requireRunning ({ frames := 6, cells := 1, slots := 6, locals := 200 } : Room) [.ref (ad γ 0), .int (nI b)] σ eT (σ) := by
  refine g_enterX (own := RX4) (cc := cX4_requireRunning) (nL := 2) (ret := none) [some (.ref (ad γ 0)), some (.int (nI b))] (by decide) rfl rfl (by simp [lg_sl, Value.category]) (by simp [gl_le, glE, Value.category]) (fun hj p e s m args below meth c X C => ?_)
  have hin_T : ∀ w ∈ Cond.classLink RX4 63 eT :: Cond.initialized eT :: (vx_atS RX4 67 eT eN).filter goodWord, w ∈ wsX4_requireRunning := by decide +kernel
  have hi4 : ∀ w ∈ wsX40, w ∈ wsX4_requireRunning := by decide +kernel
  refine g_aload_n X dX4_requireRunning_0 rfl rfl ?_
  refine g_get_0_0 X hi4 (by decide +kernel) dX4_requireRunning_1 ?_
  refine g_iload_n X dX4_requireRunning_4 rfl rfl ?_
  refine g_bipush (v := nI 9) X dX4_requireRunning_5 (by decide) ?_
  refine g_callVi (na := 2) X hj (k_X3_bondFact l γ _ _ _ (by omega)) gW_1 rfl gX4_requireRunning_X3_bondFact rfl ⟨rfl, rfl⟩ (by decide +kernel) rfl ⟨by decide, by decide⟩ rfl (Nat.le_of_ble_eq_true rfl) dX4_requireRunning_7 ⟨by decide, by decide⟩ ?_
  refine g_if_ne (tgt := 24) X dX4_requireRunning_10 (by decide) (fun c_10 => absurd hru c_10) (fun c_10 => ?_)
  exact g_throwW (names := eN) (htx := g_tx322) X C fit_T ot_T hin_T ng_T dX4_requireRunning_13 dX4_requireRunning_16 dX4_requireRunning_17 dX4_requireRunning_20 dX4_requireRunning_23 ⟨by decide, by decide, by decide, by decide⟩ ⟨by decide, by decide⟩
set_option maxRecDepth 20000 in
theorem k_X4_leastOfSetting (l : Launch) (γ : gG) (σ : gS) (k : Nat) (hk : k < 3) : gM l γ yX4_leastOfSetting wsX4_leastOfSetting ({ frames := 0, cells := 0, slots := 0, locals := 0 } : Room) [.int (nI k)] σ (gis (some (.int (nI (stLo k)))) σ) 0 0 := by
  refine g_enter (own := RX4) (cc := cX4_leastOfSetting) (nL := 1) (ret := (some .int)) [some (.int (nI k))] (by decide) rfl rfl (by simp [lg_sl, Value.category]) (by simp [gl_le, glE, Value.category]) (fun hj p e s m args below meth c X hr hlk hnm => ?_)
  refine g_iload_n X dX4_leastOfSetting_0 rfl rfl ?_
  refine g_iconstN X 2 dX4_leastOfSetting_1 ?_
  refine g_icmpN_ne (tgt := 9) X dX4_leastOfSetting_2 (by decide) (by omega) (by omega) (fun c_2 => ?_) (fun c_2 => ?_)
  · refine g_iconstN X 0 dX4_leastOfSetting_9 ?_
    exact g_iret X hr hlk dX4_leastOfSetting_10 ⟨by unfold stLo; first | (rw [if_pos c_2]; done) | (rw [if_neg c_2]; done), rfl⟩
  · refine g_iconstN X 1 dX4_leastOfSetting_5 ?_
    refine g_goto (tgt := 10) X dX4_leastOfSetting_6 (by decide) ?_
    exact g_iret X hr hlk dX4_leastOfSetting_10 ⟨by unfold stLo; first | (rw [if_pos c_2]; done) | (rw [if_neg c_2]; done), rfl⟩
set_option maxRecDepth 20000 in
theorem k_X4_mostOfSetting (l : Launch) (γ : gG) (σ : gS) (k : Nat) (hk : k < 3) : gM l γ yX4_mostOfSetting wsX4_mostOfSetting ({ frames := 0, cells := 0, slots := 0, locals := 0 } : Room) [.int (nI k)] σ (gis (some (.int (nI (stHi k)))) σ) 0 0 := by
  refine g_enter (own := RX4) (cc := cX4_mostOfSetting) (nL := 1) (ret := (some .int)) [some (.int (nI k))] (by decide) rfl rfl (by simp [lg_sl, Value.category]) (by simp [gl_le, glE, Value.category]) (fun hj p e s m args below meth c X hr hlk hnm => ?_)
  refine g_iload_n X dX4_mostOfSetting_0 rfl rfl ?_
  refine g_iconstN X 1 dX4_mostOfSetting_1 ?_
  refine g_icmpN_ne (tgt := 10) X dX4_mostOfSetting_2 (by decide) (by omega) (by omega) (fun c_2 => ?_) (fun c_2 => ?_)
  · refine g_bipush (v := nI 9) X dX4_mostOfSetting_10 (by decide) ?_
    exact g_iret X hr hlk dX4_mostOfSetting_12 ⟨by unfold stHi; first | (rw [if_pos c_2]; done) | (rw [if_neg c_2]; done), rfl⟩
  · refine g_bipush (v := nI 100) X dX4_mostOfSetting_5 (by decide) ?_
    refine g_goto (tgt := 12) X dX4_mostOfSetting_7 (by decide) ?_
    exact g_iret X hr hlk dX4_mostOfSetting_12 ⟨by unfold stHi; first | (rw [if_pos c_2]; done) | (rw [if_neg c_2]; done), rfl⟩
set_option maxRecDepth 20000 in
theorem k_X4_bring (l : Launch) (γ : gG) (σ : gS) (q : Nat) (x : Int32) (hq : q < 8) (h1 : nI 1 ≤ x) (h2 : x ≤ nI 99999) (j z : Nat) (hj6 : j < 6) (hn : σ.1 3 1 = nI j) (hz : σ.1 3 2 = nI z) (hz6 : z ≤ 6) : gM l γ yX4_bring wsX4_bring ({ frames := 8, cells := 0, slots := 0, locals := 242 } : Room) [.ref (ad γ 0), .int (nI q), .int x] σ (gis (some (.int (brV (σ.1 2) q x (q * 6 + 0)))) (sA (svS σ j z) 2 (brV (σ.1 2) q x))) 0 0 := by
  refine g_enter (own := RX4) (cc := cX4_bring) (nL := 3) (ret := (some .int)) [some (.ref (ad γ 0)), some (.int (nI q)), some (.int x)] (by decide) rfl rfl (by simp [lg_sl, Value.category]) (by simp [gl_le, glE, Value.category]) (fun hj p e s m args below meth c X hr hlk hnm => ?_)
  have hi4 : ∀ w ∈ wsX40, w ∈ wsX4_bring := by decide +kernel
  refine g_iload_n X dX4_bring_0 rfl rfl ?_
  refine g_callSv (na := 1) X hj (k_X4_requirePerson l γ _ _ (by omega)) gX4_bring_X4_requirePerson rfl ⟨rfl, rfl⟩ (by decide +kernel) rfl ⟨by decide, by decide⟩ rfl (Nat.le_of_ble_eq_true rfl) dX4_bring_1 ⟨by decide, by decide⟩ ?_
  refine g_iload_n X dX4_bring_4 rfl rfl ?_
  refine g_callSv (na := 1) X hj (k_X4_requireAmount l γ _ _ h1 h2) gX4_bring_X4_requireAmount rfl ⟨rfl, rfl⟩ (by decide +kernel) rfl ⟨by decide, by decide⟩ rfl (Nat.le_of_ble_eq_true rfl) dX4_bring_5 ⟨by decide, by decide⟩ ?_
  refine g_aload_n X dX4_bring_8 rfl rfl ?_
  refine g_get_0_1 X hi4 (by decide +kernel) dX4_bring_9 ?_
  refine g_aload_n X dX4_bring_12 rfl rfl ?_
  refine g_get_0_0 X hi4 (by decide +kernel) dX4_bring_13 ?_
  refine g_callVv (na := 1) X hj (k_X1_save l γ _ j z hj6 hn hz hz6) gW_3 rfl gX4_bring_X1_save rfl ⟨rfl, rfl⟩ (by decide +kernel) rfl ⟨by decide, by decide⟩ rfl (Nat.le_of_ble_eq_true rfl) dX4_bring_16 ⟨by decide, by decide⟩ ?_
  refine g_aload_n X dX4_bring_19 rfl rfl ?_
  refine g_get_0_0 X hi4 (by decide +kernel) dX4_bring_20 ?_
  refine g_iload_n X dX4_bring_23 rfl rfl ?_
  refine g_iload_n X dX4_bring_24 rfl rfl ?_
  refine g_callVv (na := 2) X hj (k_X3_addCash l γ _ _ _ (by omega)) gW_1 rfl gX4_bring_X3_addCash rfl ⟨rfl, rfl⟩ (by decide +kernel) rfl ⟨by decide, by decide⟩ rfl (Nat.le_of_ble_eq_true rfl) dX4_bring_25 ⟨by decide, by decide⟩ ?_
  simp only [sv_2]
  refine g_aload_n X dX4_bring_28 rfl rfl ?_
  refine g_get_0_0 X hi4 (by decide +kernel) dX4_bring_29 ?_
  refine g_iload_n X dX4_bring_32 rfl rfl ?_
  refine g_callVv (na := 1) X hj (k_X3_addBrought l γ _ _) gW_1 rfl gX4_bring_X3_addBrought rfl ⟨rfl, rfl⟩ (by decide +kernel) rfl ⟨by decide, by decide⟩ rfl (Nat.le_of_ble_eq_true rfl) dX4_bring_33 ⟨by decide, by decide⟩ ?_
  simp only [sA_sA, sA_eq]
  refine g_aload_n X dX4_bring_36 rfl rfl ?_
  refine g_get_0_0 X hi4 (by decide +kernel) dX4_bring_37 ?_
  refine g_iload_n X dX4_bring_40 rfl rfl ?_
  refine g_iconstN X 0 dX4_bring_41 ?_
  refine g_callVi (na := 2) X hj (k_X3_fact l γ _ _ _ (by omega)) gW_1 rfl gX4_bring_X3_fact rfl ⟨rfl, rfl⟩ (by decide +kernel) rfl ⟨by decide, by decide⟩ rfl (Nat.le_of_ble_eq_true rfl) dX4_bring_42 ⟨by decide, by decide⟩ ?_
  exact g_iret X hr hlk dX4_bring_45 ⟨rfl, rfl⟩
set_option maxRecDepth 20000 in
theorem t_X4_bring_p (l : Launch) (γ : gG) (σ : gS) (y x : Int32) (h : isPb y = false) : gMX l γ yX4_bring wsX4_bring ({ frames := 8, cells := 1, slots := 6, locals := 242 } : Room) [.ref (ad γ 0), .int y, .int x] σ eB (σ) := by
  refine g_enterX (own := RX4) (cc := cX4_bring) (nL := 3) (ret := (some .int)) [some (.ref (ad γ 0)), some (.int y), some (.int x)] (by decide) rfl rfl (by simp [lg_sl, Value.category]) (by simp [gl_le, glE, Value.category]) (fun hj p e s m args below meth c X C => ?_)
  refine g_iload_n X dX4_bring_0 rfl rfl ?_
  exact g_callSX (na := 1) X C hj _ (t_X4_requirePerson l γ _ _ h) gX4_bring_X4_requirePerson rfl ⟨rfl, rfl⟩ (by decide +kernel) rfl ⟨by decide, by decide⟩ rfl (Nat.le_of_ble_eq_true rfl) dX4_bring_1 ⟨by decide, by decide⟩ ⟨by decide, by decide⟩
set_option maxRecDepth 20000 in
theorem t_X4_bring_a (l : Launch) (γ : gG) (σ : gS) (q : Nat) (x : Int32) (hq : q < 8) (h : x < nI 1 ∨ nI 99999 < x) : gMX l γ yX4_bring wsX4_bring ({ frames := 8, cells := 1, slots := 6, locals := 242 } : Room) [.ref (ad γ 0), .int (nI q), .int x] σ eA (σ) := by
  refine g_enterX (own := RX4) (cc := cX4_bring) (nL := 3) (ret := (some .int)) [some (.ref (ad γ 0)), some (.int (nI q)), some (.int x)] (by decide) rfl rfl (by simp [lg_sl, Value.category]) (by simp [gl_le, glE, Value.category]) (fun hj p e s m args below meth c X C => ?_)
  refine g_iload_n X dX4_bring_0 rfl rfl ?_
  refine g_callSv (na := 1) X hj (k_X4_requirePerson l γ _ _ (by omega)) gX4_bring_X4_requirePerson rfl ⟨rfl, rfl⟩ (by decide +kernel) rfl ⟨by decide, by decide⟩ rfl (Nat.le_of_ble_eq_true rfl) dX4_bring_1 ⟨by decide, by decide⟩ ?_
  refine g_iload_n X dX4_bring_4 rfl rfl ?_
  exact g_callSX (na := 1) X C hj _ (t_X4_requireAmount l γ _ _ h) gX4_bring_X4_requireAmount rfl ⟨rfl, rfl⟩ (by decide +kernel) rfl ⟨by decide, by decide⟩ rfl (Nat.le_of_ble_eq_true rfl) dX4_bring_5 ⟨by decide, by decide⟩ ⟨by decide, by decide⟩
set_option maxRecDepth 20000 in
theorem k_X4_takeOut (l : Launch) (γ : gG) (σ : gS) (q : Nat) (x : Int32) (N : Nat) (L : Nat → Nat) (hS : Sh (σ.1 2) N L) (hq : q < 8) (h1 : nI 1 ≤ x) (h2 : x ≤ nI 99999) (h3 : x ≤ spareOf (σ.1 2) N L q) (j z : Nat) (hj6 : j < 6) (hn : σ.1 3 1 = nI j) (hz : σ.1 3 2 = nI z) (hz6 : z ≤ 6) : gM l γ yX4_takeOut wsX4_takeOut ({ frames := 8, cells := 0, slots := 0, locals := 242 } : Room) [.ref (ad γ 0), .int (nI q), .int x] σ (gis (some (.int (brV (σ.1 2) q (-x) (q * 6 + 0)))) (sA (svS σ j z) 2 (brV (σ.1 2) q (-x)))) 0 0 := by
  refine g_enter (own := RX4) (cc := cX4_takeOut) (nL := 3) (ret := (some .int)) [some (.ref (ad γ 0)), some (.int (nI q)), some (.int x)] (by decide) rfl rfl (by simp [lg_sl, Value.category]) (by simp [gl_le, glE, Value.category]) (fun hj p e s m args below meth c X hr hlk hnm => ?_)
  have hi4 : ∀ w ∈ wsX40, w ∈ wsX4_takeOut := by decide +kernel
  refine g_iload_n X dX4_takeOut_0 rfl rfl ?_
  refine g_callSv (na := 1) X hj (k_X4_requirePerson l γ _ _ (by omega)) gX4_takeOut_X4_requirePerson rfl ⟨rfl, rfl⟩ (by decide +kernel) rfl ⟨by decide, by decide⟩ rfl (Nat.le_of_ble_eq_true rfl) dX4_takeOut_1 ⟨by decide, by decide⟩ ?_
  refine g_iload_n X dX4_takeOut_4 rfl rfl ?_
  refine g_callSv (na := 1) X hj (k_X4_requireAmount l γ _ _ h1 h2) gX4_takeOut_X4_requireAmount rfl ⟨rfl, rfl⟩ (by decide +kernel) rfl ⟨by decide, by decide⟩ rfl (Nat.le_of_ble_eq_true rfl) dX4_takeOut_5 ⟨by decide, by decide⟩ ?_
  refine g_iload_n X dX4_takeOut_8 rfl rfl ?_
  refine g_aload_n X dX4_takeOut_9 rfl rfl ?_
  refine g_get_0_0 X hi4 (by decide +kernel) dX4_takeOut_10 ?_
  refine g_iload_n X dX4_takeOut_13 rfl rfl ?_
  refine g_callVi (na := 1) X hj (k_X3_spareCash l γ _ N L _ hS (by omega)) gW_1 rfl gX4_takeOut_X3_spareCash rfl ⟨rfl, rfl⟩ (by decide +kernel) rfl ⟨by decide, by decide⟩ rfl (Nat.le_of_ble_eq_true rfl) dX4_takeOut_14 ⟨by decide, by decide⟩ ?_
  refine g_icmp_le (tgt := 30) X dX4_takeOut_17 (by decide) (fun c_17 => ?_) (fun c_17 => absurd h3 c_17)
  refine g_aload_n X dX4_takeOut_30 rfl rfl ?_
  refine g_get_0_1 X hi4 (by decide +kernel) dX4_takeOut_31 ?_
  refine g_aload_n X dX4_takeOut_34 rfl rfl ?_
  refine g_get_0_0 X hi4 (by decide +kernel) dX4_takeOut_35 ?_
  refine g_callVv (na := 1) X hj (k_X1_save l γ _ j z hj6 hn hz hz6) gW_3 rfl gX4_takeOut_X1_save rfl ⟨rfl, rfl⟩ (by decide +kernel) rfl ⟨by decide, by decide⟩ rfl (Nat.le_of_ble_eq_true rfl) dX4_takeOut_38 ⟨by decide, by decide⟩ ?_
  refine g_aload_n X dX4_takeOut_41 rfl rfl ?_
  refine g_get_0_0 X hi4 (by decide +kernel) dX4_takeOut_42 ?_
  refine g_iload_n X dX4_takeOut_45 rfl rfl ?_
  refine g_iload_n X dX4_takeOut_46 rfl rfl ?_
  refine g_ineg X dX4_takeOut_47 ?_
  refine g_callVv (na := 2) X hj (k_X3_addCash l γ _ _ _ (by omega)) gW_1 rfl gX4_takeOut_X3_addCash rfl ⟨rfl, rfl⟩ (by decide +kernel) rfl ⟨by decide, by decide⟩ rfl (Nat.le_of_ble_eq_true rfl) dX4_takeOut_48 ⟨by decide, by decide⟩ ?_
  simp only [sv_2]
  refine g_aload_n X dX4_takeOut_51 rfl rfl ?_
  refine g_get_0_0 X hi4 (by decide +kernel) dX4_takeOut_52 ?_
  refine g_iload_n X dX4_takeOut_55 rfl rfl ?_
  refine g_ineg X dX4_takeOut_56 ?_
  refine g_callVv (na := 1) X hj (k_X3_addBrought l γ _ _) gW_1 rfl gX4_takeOut_X3_addBrought rfl ⟨rfl, rfl⟩ (by decide +kernel) rfl ⟨by decide, by decide⟩ rfl (Nat.le_of_ble_eq_true rfl) dX4_takeOut_57 ⟨by decide, by decide⟩ ?_
  simp only [sA_sA, sA_eq]
  refine g_aload_n X dX4_takeOut_60 rfl rfl ?_
  refine g_get_0_0 X hi4 (by decide +kernel) dX4_takeOut_61 ?_
  refine g_iload_n X dX4_takeOut_64 rfl rfl ?_
  refine g_iconstN X 0 dX4_takeOut_65 ?_
  refine g_callVi (na := 2) X hj (k_X3_fact l γ _ _ _ (by omega)) gW_1 rfl gX4_takeOut_X3_fact rfl ⟨rfl, rfl⟩ (by decide +kernel) rfl ⟨by decide, by decide⟩ rfl (Nat.le_of_ble_eq_true rfl) dX4_takeOut_66 ⟨by decide, by decide⟩ ?_
  exact g_iret X hr hlk dX4_takeOut_69 ⟨rfl, rfl⟩
set_option maxRecDepth 20000 in
theorem t_X4_takeOut_p (l : Launch) (γ : gG) (σ : gS) (y x : Int32) (h : isPb y = false) : gMX l γ yX4_takeOut wsX4_takeOut ({ frames := 8, cells := 1, slots := 6, locals := 242 } : Room) [.ref (ad γ 0), .int y, .int x] σ eB (σ) := by
  refine g_enterX (own := RX4) (cc := cX4_takeOut) (nL := 3) (ret := (some .int)) [some (.ref (ad γ 0)), some (.int y), some (.int x)] (by decide) rfl rfl (by simp [lg_sl, Value.category]) (by simp [gl_le, glE, Value.category]) (fun hj p e s m args below meth c X C => ?_)
  refine g_iload_n X dX4_takeOut_0 rfl rfl ?_
  exact g_callSX (na := 1) X C hj _ (t_X4_requirePerson l γ _ _ h) gX4_takeOut_X4_requirePerson rfl ⟨rfl, rfl⟩ (by decide +kernel) rfl ⟨by decide, by decide⟩ rfl (Nat.le_of_ble_eq_true rfl) dX4_takeOut_1 ⟨by decide, by decide⟩ ⟨by decide, by decide⟩
set_option maxRecDepth 20000 in
theorem t_X4_takeOut_a (l : Launch) (γ : gG) (σ : gS) (q : Nat) (x : Int32) (hq : q < 8) (h : x < nI 1 ∨ nI 99999 < x) : gMX l γ yX4_takeOut wsX4_takeOut ({ frames := 8, cells := 1, slots := 6, locals := 242 } : Room) [.ref (ad γ 0), .int (nI q), .int x] σ eA (σ) := by
  refine g_enterX (own := RX4) (cc := cX4_takeOut) (nL := 3) (ret := (some .int)) [some (.ref (ad γ 0)), some (.int (nI q)), some (.int x)] (by decide) rfl rfl (by simp [lg_sl, Value.category]) (by simp [gl_le, glE, Value.category]) (fun hj p e s m args below meth c X C => ?_)
  refine g_iload_n X dX4_takeOut_0 rfl rfl ?_
  refine g_callSv (na := 1) X hj (k_X4_requirePerson l γ _ _ (by omega)) gX4_takeOut_X4_requirePerson rfl ⟨rfl, rfl⟩ (by decide +kernel) rfl ⟨by decide, by decide⟩ rfl (Nat.le_of_ble_eq_true rfl) dX4_takeOut_1 ⟨by decide, by decide⟩ ?_
  refine g_iload_n X dX4_takeOut_4 rfl rfl ?_
  exact g_callSX (na := 1) X C hj _ (t_X4_requireAmount l γ _ _ h) gX4_takeOut_X4_requireAmount rfl ⟨rfl, rfl⟩ (by decide +kernel) rfl ⟨by decide, by decide⟩ rfl (Nat.le_of_ble_eq_true rfl) dX4_takeOut_5 ⟨by decide, by decide⟩ ⟨by decide, by decide⟩
set_option maxRecDepth 20000 in
theorem t_X4_takeOut_s (l : Launch) (γ : gG) (σ : gS) (q : Nat) (x : Int32) (N : Nat) (L : Nat → Nat) (hS : Sh (σ.1 2) N L) (hq : q < 8) (h1 : nI 1 ≤ x) (h2 : x ≤ nI 99999) (h3 : spareOf (σ.1 2) N L q < x) : gMX l γ yX4_takeOut wsX4_takeOut ({ frames := 8, cells := 1, slots := 6, locals := 242 } : Room) [.ref (ad γ 0), .int (nI q), .int x] σ eT (σ) := by
  refine g_enterX (own := RX4) (cc := cX4_takeOut) (nL := 3) (ret := (some .int)) [some (.ref (ad γ 0)), some (.int (nI q)), some (.int x)] (by decide) rfl rfl (by simp [lg_sl, Value.category]) (by simp [gl_le, glE, Value.category]) (fun hj p e s m args below meth c X C => ?_)
  have hin_T : ∀ w ∈ Cond.classLink RX4 63 eT :: Cond.initialized eT :: (vx_atS RX4 67 eT eN).filter goodWord, w ∈ wsX4_takeOut := by decide +kernel
  have hi4 : ∀ w ∈ wsX40, w ∈ wsX4_takeOut := by decide +kernel
  refine g_iload_n X dX4_takeOut_0 rfl rfl ?_
  refine g_callSv (na := 1) X hj (k_X4_requirePerson l γ _ _ (by omega)) gX4_takeOut_X4_requirePerson rfl ⟨rfl, rfl⟩ (by decide +kernel) rfl ⟨by decide, by decide⟩ rfl (Nat.le_of_ble_eq_true rfl) dX4_takeOut_1 ⟨by decide, by decide⟩ ?_
  refine g_iload_n X dX4_takeOut_4 rfl rfl ?_
  refine g_callSv (na := 1) X hj (k_X4_requireAmount l γ _ _ h1 h2) gX4_takeOut_X4_requireAmount rfl ⟨rfl, rfl⟩ (by decide +kernel) rfl ⟨by decide, by decide⟩ rfl (Nat.le_of_ble_eq_true rfl) dX4_takeOut_5 ⟨by decide, by decide⟩ ?_
  refine g_iload_n X dX4_takeOut_8 rfl rfl ?_
  refine g_aload_n X dX4_takeOut_9 rfl rfl ?_
  refine g_get_0_0 X hi4 (by decide +kernel) dX4_takeOut_10 ?_
  refine g_iload_n X dX4_takeOut_13 rfl rfl ?_
  refine g_callVi (na := 1) X hj (k_X3_spareCash l γ _ N L _ hS (by omega)) gW_1 rfl gX4_takeOut_X3_spareCash rfl ⟨rfl, rfl⟩ (by decide +kernel) rfl ⟨by decide, by decide⟩ rfl (Nat.le_of_ble_eq_true rfl) dX4_takeOut_14 ⟨by decide, by decide⟩ ?_
  refine g_icmp_le (tgt := 30) X dX4_takeOut_17 (by decide) (fun c_17 => absurd c_17 (Int32.not_le.mpr h3)) (fun c_17 => ?_)
  exact g_throw (names := eN) (htx := g_tx65) X C fit_T ot_T hin_T ng_T dX4_takeOut_20 dX4_takeOut_23 dX4_takeOut_24 dX4_takeOut_26 dX4_takeOut_29 ⟨by decide, by decide, by decide, by decide⟩ ⟨by decide, by decide⟩
set_option maxRecDepth 20000 in
theorem k_X4_guarantee_0 (l : Launch) (γ : gG) (σ : gS) (q : Nat) (x : Int32) (hq : q < 8) (j z : Nat) (hj6 : j < 6) (hn : σ.1 3 1 = nI j) (hz : σ.1 3 2 = nI z) (hz6 : z ≤ 6) : gM l γ yX4_guarantee wsX4_guarantee ({ frames := 7, cells := 0, slots := 0, locals := 222 } : Room) [.ref (ad γ 0), .int (nI q), .int (-1), .int x] σ (gis (some (.int (σ.1 2 (q * 6 + 1)))) (sA (svS σ j z) 2 (guV (σ.1 2) q (-1) (nI 0)))) 0 0 := by
  refine g_enter (own := RX4) (cc := cX4_guarantee) (nL := 5) (ret := (some .int)) [some (.ref (ad γ 0)), some (.int (nI q)), some (.int (-1)), some (.int x), none] (by decide) rfl rfl (by simp [lg_sl, Value.category]) (by simp [gl_le, glE, Value.category]) (fun hj p e s m args below meth c X hr hlk hnm => ?_)
  have hi4 : ∀ w ∈ wsX40, w ∈ wsX4_guarantee := by decide +kernel
  refine g_iload_n X dX4_guarantee_0 rfl rfl ?_
  refine g_callSv (na := 1) X hj (k_X4_requirePerson l γ _ _ (by omega)) gX4_guarantee_X4_requirePerson rfl ⟨rfl, rfl⟩ (by decide +kernel) rfl ⟨by decide, by decide⟩ rfl (Nat.le_of_ble_eq_true rfl) dX4_guarantee_1 ⟨by decide, by decide⟩ ?_
  refine g_iload_n X dX4_guarantee_4 rfl rfl ?_
  refine g_iconst (v := -1) X dX4_guarantee_5 (by decide) ?_
  refine g_icmp_eq (tgt := 42) X dX4_guarantee_6 (by decide) (fun c_6 => ?_) (fun c_6 => absurd rfl c_6)
  refine g_aload_n X dX4_guarantee_42 rfl rfl ?_
  refine g_get_0_1 X hi4 (by decide +kernel) dX4_guarantee_43 ?_
  refine g_aload_n X dX4_guarantee_46 rfl rfl ?_
  refine g_get_0_0 X hi4 (by decide +kernel) dX4_guarantee_47 ?_
  refine g_callVv (na := 1) X hj (k_X1_save l γ _ j z hj6 hn hz hz6) gW_3 rfl gX4_guarantee_X1_save rfl ⟨rfl, rfl⟩ (by decide +kernel) rfl ⟨by decide, by decide⟩ rfl (Nat.le_of_ble_eq_true rfl) dX4_guarantee_50 ⟨by decide, by decide⟩ ?_
  refine g_aload_n X dX4_guarantee_53 rfl rfl ?_
  refine g_get_0_0 X hi4 (by decide +kernel) dX4_guarantee_54 ?_
  refine g_iload_n X dX4_guarantee_57 rfl rfl ?_
  refine g_iconstN X 1 dX4_guarantee_58 ?_
  refine g_callVi (na := 2) X hj (k_X3_fact l γ _ _ _ (by omega)) gW_1 rfl gX4_guarantee_X3_fact rfl ⟨rfl, rfl⟩ (by decide +kernel) rfl ⟨by decide, by decide⟩ rfl (Nat.le_of_ble_eq_true rfl) dX4_guarantee_59 ⟨by decide, by decide⟩ ?_
  simp only [sv_2]
  refine g_istore_s4 X dX4_guarantee_62 (by decide) rfl ?_
  refine g_aload_n X dX4_guarantee_64 rfl rfl ?_
  refine g_get_0_0 X hi4 (by decide +kernel) dX4_guarantee_65 ?_
  refine g_iload_n X dX4_guarantee_68 rfl rfl ?_
  refine g_iconstN X 1 dX4_guarantee_69 ?_
  refine g_iload_n X dX4_guarantee_70 rfl rfl ?_
  refine g_callVv (na := 3) X hj (k_X3_putFact l γ _ _ _ _ (by omega)) gW_1 rfl gX4_guarantee_X3_putFact rfl ⟨rfl, rfl⟩ (by decide +kernel) rfl ⟨by decide, by decide⟩ rfl (Nat.le_of_ble_eq_true rfl) dX4_guarantee_71 ⟨by decide, by decide⟩ ?_
  simp only [sv_2]
  refine g_aload_n X dX4_guarantee_74 rfl rfl ?_
  refine g_get_0_0 X hi4 (by decide +kernel) dX4_guarantee_75 ?_
  refine g_iload_n X dX4_guarantee_78 rfl rfl ?_
  refine g_iconstN X 2 dX4_guarantee_79 ?_
  refine g_iload_n X dX4_guarantee_80 rfl rfl ?_
  refine g_iconst (v := -1) X dX4_guarantee_81 (by decide) ?_
  refine g_icmp_ne (tgt := 89) X dX4_guarantee_82 (by decide) (fun c_82 => absurd rfl c_82) (fun c_82 => ?_)
  refine g_iconstN X 0 dX4_guarantee_85 ?_
  refine g_goto (tgt := 90) X dX4_guarantee_86 (by decide) ?_
  refine g_callVv (na := 3) X hj (k_X3_putFact l γ _ _ _ _ (by omega)) gW_1 rfl gX4_guarantee_X3_putFact rfl ⟨rfl, rfl⟩ (by decide +kernel) rfl ⟨by decide, by decide⟩ rfl (Nat.le_of_ble_eq_true rfl) dX4_guarantee_90 ⟨by decide, by decide⟩ ?_
  simp only [sA_sA, sA_eq]
  refine g_iload X dX4_guarantee_93 rfl ?_
  exact g_iret X hr hlk dX4_guarantee_95 ⟨rfl, rfl⟩
set_option maxRecDepth 20000 in
theorem k_X4_guarantee_1 (l : Launch) (γ : gG) (σ : gS) (q g : Nat) (x : Int32) (hq : q < 8) (hg : g < 8) (h1 : nI 1 ≤ x) (h2 : x ≤ nI 100) (hh : holdsI (σ.1 2) (nI q) 8 (nI g) = false) (j z : Nat) (hj6 : j < 6) (hn : σ.1 3 1 = nI j) (hz : σ.1 3 2 = nI z) (hz6 : z ≤ 6) : gM l γ yX4_guarantee wsX4_guarantee ({ frames := 7, cells := 0, slots := 0, locals := 222 } : Room) [.ref (ad γ 0), .int (nI q), .int (nI g), .int x] σ (gis (some (.int (σ.1 2 (q * 6 + 1)))) (sA (svS σ j z) 2 (guV (σ.1 2) q (nI g) x))) 0 0 := by
  refine g_enter (own := RX4) (cc := cX4_guarantee) (nL := 5) (ret := (some .int)) [some (.ref (ad γ 0)), some (.int (nI q)), some (.int (nI g)), some (.int x), none] (by decide) rfl rfl (by simp [lg_sl, Value.category]) (by simp [gl_le, glE, Value.category]) (fun hj p e s m args below meth c X hr hlk hnm => ?_)
  have hi4 : ∀ w ∈ wsX40, w ∈ wsX4_guarantee := by decide +kernel
  refine g_iload_n X dX4_guarantee_0 rfl rfl ?_
  refine g_callSv (na := 1) X hj (k_X4_requirePerson l γ _ _ (by omega)) gX4_guarantee_X4_requirePerson rfl ⟨rfl, rfl⟩ (by decide +kernel) rfl ⟨by decide, by decide⟩ rfl (Nat.le_of_ble_eq_true rfl) dX4_guarantee_1 ⟨by decide, by decide⟩ ?_
  refine g_iload_n X dX4_guarantee_4 rfl rfl ?_
  refine g_iconst (v := -1) X dX4_guarantee_5 (by decide) ?_
  refine g_icmp_eq (tgt := 42) X dX4_guarantee_6 (by decide) (fun c_6 => absurd c_6 (nI_m1 (by omega))) (fun c_6 => ?_)
  refine g_iload_n X dX4_guarantee_9 rfl rfl ?_
  refine g_callSv (na := 1) X hj (k_X4_requirePerson l γ _ _ (by omega)) gX4_guarantee_X4_requirePerson rfl ⟨rfl, rfl⟩ (by decide +kernel) rfl ⟨by decide, by decide⟩ rfl (Nat.le_of_ble_eq_true rfl) dX4_guarantee_10 ⟨by decide, by decide⟩ ?_
  refine g_iload_n X dX4_guarantee_13 rfl rfl ?_
  refine g_iconstN X 1 dX4_guarantee_14 ?_
  refine g_bipush (v := nI 100) X dX4_guarantee_15 (by decide) ?_
  refine g_callSv (na := 3) X hj (k_X4_requireRange l γ _ _ _ _ (by assumption) (by assumption)) gX4_guarantee_X4_requireRange rfl ⟨rfl, rfl⟩ (by decide +kernel) rfl ⟨by decide, by decide⟩ rfl (Nat.le_of_ble_eq_true rfl) dX4_guarantee_17 ⟨by decide, by decide⟩ ?_
  refine g_aload_n X dX4_guarantee_20 rfl rfl ?_
  refine g_get_0_0 X hi4 (by decide +kernel) dX4_guarantee_21 ?_
  refine g_iload_n X dX4_guarantee_24 rfl rfl ?_
  refine g_iload_n X dX4_guarantee_25 rfl rfl ?_
  refine g_callVi (na := 2) X hj (k_X3_chainHolds l γ _ _ _) gW_1 rfl gX4_guarantee_X3_chainHolds rfl ⟨rfl, rfl⟩ (by decide +kernel) rfl ⟨by decide, by decide⟩ rfl (Nat.le_of_ble_eq_true rfl) dX4_guarantee_26 ⟨by decide, by decide⟩ ?_
  refine g_if_eq (tgt := 42) X dX4_guarantee_29 (by decide) (fun c_29 => ?_) (fun c_29 => absurd (by rw [hh]; rfl) c_29)
  refine g_aload_n X dX4_guarantee_42 rfl rfl ?_
  refine g_get_0_1 X hi4 (by decide +kernel) dX4_guarantee_43 ?_
  refine g_aload_n X dX4_guarantee_46 rfl rfl ?_
  refine g_get_0_0 X hi4 (by decide +kernel) dX4_guarantee_47 ?_
  refine g_callVv (na := 1) X hj (k_X1_save l γ _ j z hj6 hn hz hz6) gW_3 rfl gX4_guarantee_X1_save rfl ⟨rfl, rfl⟩ (by decide +kernel) rfl ⟨by decide, by decide⟩ rfl (Nat.le_of_ble_eq_true rfl) dX4_guarantee_50 ⟨by decide, by decide⟩ ?_
  refine g_aload_n X dX4_guarantee_53 rfl rfl ?_
  refine g_get_0_0 X hi4 (by decide +kernel) dX4_guarantee_54 ?_
  refine g_iload_n X dX4_guarantee_57 rfl rfl ?_
  refine g_iconstN X 1 dX4_guarantee_58 ?_
  refine g_callVi (na := 2) X hj (k_X3_fact l γ _ _ _ (by omega)) gW_1 rfl gX4_guarantee_X3_fact rfl ⟨rfl, rfl⟩ (by decide +kernel) rfl ⟨by decide, by decide⟩ rfl (Nat.le_of_ble_eq_true rfl) dX4_guarantee_59 ⟨by decide, by decide⟩ ?_
  simp only [sv_2]
  refine g_istore_s4 X dX4_guarantee_62 (by decide) rfl ?_
  refine g_aload_n X dX4_guarantee_64 rfl rfl ?_
  refine g_get_0_0 X hi4 (by decide +kernel) dX4_guarantee_65 ?_
  refine g_iload_n X dX4_guarantee_68 rfl rfl ?_
  refine g_iconstN X 1 dX4_guarantee_69 ?_
  refine g_iload_n X dX4_guarantee_70 rfl rfl ?_
  refine g_callVv (na := 3) X hj (k_X3_putFact l γ _ _ _ _ (by omega)) gW_1 rfl gX4_guarantee_X3_putFact rfl ⟨rfl, rfl⟩ (by decide +kernel) rfl ⟨by decide, by decide⟩ rfl (Nat.le_of_ble_eq_true rfl) dX4_guarantee_71 ⟨by decide, by decide⟩ ?_
  simp only [sv_2]
  refine g_aload_n X dX4_guarantee_74 rfl rfl ?_
  refine g_get_0_0 X hi4 (by decide +kernel) dX4_guarantee_75 ?_
  refine g_iload_n X dX4_guarantee_78 rfl rfl ?_
  refine g_iconstN X 2 dX4_guarantee_79 ?_
  refine g_iload_n X dX4_guarantee_80 rfl rfl ?_
  refine g_iconst (v := -1) X dX4_guarantee_81 (by decide) ?_
  refine g_icmp_ne (tgt := 89) X dX4_guarantee_82 (by decide) (fun c_82 => ?_) (fun c_82 => absurd c_82 (nI_m1 (by omega)))
  refine g_iload_n X dX4_guarantee_89 rfl rfl ?_
  refine g_callVv (na := 3) X hj (k_X3_putFact l γ _ _ _ _ (by omega)) gW_1 rfl gX4_guarantee_X3_putFact rfl ⟨rfl, rfl⟩ (by decide +kernel) rfl ⟨by decide, by decide⟩ rfl (Nat.le_of_ble_eq_true rfl) dX4_guarantee_90 ⟨by decide, by decide⟩ ?_
  simp only [sA_sA, sA_eq]
  refine g_iload X dX4_guarantee_93 rfl ?_
  exact g_iret X hr hlk dX4_guarantee_95 ⟨rfl, rfl⟩
set_option maxRecDepth 20000 in
theorem t_X4_guarantee_p (l : Launch) (γ : gG) (σ : gS) (y g x : Int32) (h : isPb y = false) : gMX l γ yX4_guarantee wsX4_guarantee ({ frames := 7, cells := 1, slots := 6, locals := 222 } : Room) [.ref (ad γ 0), .int y, .int g, .int x] σ eB (σ) := by
  refine g_enterX (own := RX4) (cc := cX4_guarantee) (nL := 5) (ret := (some .int)) [some (.ref (ad γ 0)), some (.int y), some (.int g), some (.int x), none] (by decide) rfl rfl (by simp [lg_sl, Value.category]) (by simp [gl_le, glE, Value.category]) (fun hj p e s m args below meth c X C => ?_)
  refine g_iload_n X dX4_guarantee_0 rfl rfl ?_
  exact g_callSX (na := 1) X C hj _ (t_X4_requirePerson l γ _ _ h) gX4_guarantee_X4_requirePerson rfl ⟨rfl, rfl⟩ (by decide +kernel) rfl ⟨by decide, by decide⟩ rfl (Nat.le_of_ble_eq_true rfl) dX4_guarantee_1 ⟨by decide, by decide⟩ ⟨by decide, by decide⟩
set_option maxRecDepth 20000 in
theorem t_X4_guarantee_g (l : Launch) (γ : gG) (σ : gS) (q : Nat) (g x : Int32) (hq : q < 8) (hg : ¬ g = -1) (h : isPb g = false) : gMX l γ yX4_guarantee wsX4_guarantee ({ frames := 7, cells := 1, slots := 6, locals := 222 } : Room) [.ref (ad γ 0), .int (nI q), .int g, .int x] σ eB (σ) := by
  refine g_enterX (own := RX4) (cc := cX4_guarantee) (nL := 5) (ret := (some .int)) [some (.ref (ad γ 0)), some (.int (nI q)), some (.int g), some (.int x), none] (by decide) rfl rfl (by simp [lg_sl, Value.category]) (by simp [gl_le, glE, Value.category]) (fun hj p e s m args below meth c X C => ?_)
  refine g_iload_n X dX4_guarantee_0 rfl rfl ?_
  refine g_callSv (na := 1) X hj (k_X4_requirePerson l γ _ _ (by omega)) gX4_guarantee_X4_requirePerson rfl ⟨rfl, rfl⟩ (by decide +kernel) rfl ⟨by decide, by decide⟩ rfl (Nat.le_of_ble_eq_true rfl) dX4_guarantee_1 ⟨by decide, by decide⟩ ?_
  refine g_iload_n X dX4_guarantee_4 rfl rfl ?_
  refine g_iconst (v := -1) X dX4_guarantee_5 (by decide) ?_
  refine g_icmp_eq (tgt := 42) X dX4_guarantee_6 (by decide) (fun c_6 => absurd c_6 hg) (fun c_6 => ?_)
  refine g_iload_n X dX4_guarantee_9 rfl rfl ?_
  exact g_callSX (na := 1) X C hj _ (t_X4_requirePerson l γ _ _ h) gX4_guarantee_X4_requirePerson rfl ⟨rfl, rfl⟩ (by decide +kernel) rfl ⟨by decide, by decide⟩ rfl (Nat.le_of_ble_eq_true rfl) dX4_guarantee_10 ⟨by decide, by decide⟩ ⟨by decide, by decide⟩
set_option maxRecDepth 20000 in
theorem t_X4_guarantee_a (l : Launch) (γ : gG) (σ : gS) (q g : Nat) (x : Int32) (hq : q < 8) (hg : g < 8) (h : x < nI 1 ∨ nI 100 < x) : gMX l γ yX4_guarantee wsX4_guarantee ({ frames := 7, cells := 1, slots := 6, locals := 222 } : Room) [.ref (ad γ 0), .int (nI q), .int (nI g), .int x] σ eA (σ) := by
  refine g_enterX (own := RX4) (cc := cX4_guarantee) (nL := 5) (ret := (some .int)) [some (.ref (ad γ 0)), some (.int (nI q)), some (.int (nI g)), some (.int x), none] (by decide) rfl rfl (by simp [lg_sl, Value.category]) (by simp [gl_le, glE, Value.category]) (fun hj p e s m args below meth c X C => ?_)
  refine g_iload_n X dX4_guarantee_0 rfl rfl ?_
  refine g_callSv (na := 1) X hj (k_X4_requirePerson l γ _ _ (by omega)) gX4_guarantee_X4_requirePerson rfl ⟨rfl, rfl⟩ (by decide +kernel) rfl ⟨by decide, by decide⟩ rfl (Nat.le_of_ble_eq_true rfl) dX4_guarantee_1 ⟨by decide, by decide⟩ ?_
  refine g_iload_n X dX4_guarantee_4 rfl rfl ?_
  refine g_iconst (v := -1) X dX4_guarantee_5 (by decide) ?_
  refine g_icmp_eq (tgt := 42) X dX4_guarantee_6 (by decide) (fun c_6 => absurd c_6 (nI_m1 (by omega))) (fun c_6 => ?_)
  refine g_iload_n X dX4_guarantee_9 rfl rfl ?_
  refine g_callSv (na := 1) X hj (k_X4_requirePerson l γ _ _ (by omega)) gX4_guarantee_X4_requirePerson rfl ⟨rfl, rfl⟩ (by decide +kernel) rfl ⟨by decide, by decide⟩ rfl (Nat.le_of_ble_eq_true rfl) dX4_guarantee_10 ⟨by decide, by decide⟩ ?_
  refine g_iload_n X dX4_guarantee_13 rfl rfl ?_
  refine g_iconstN X 1 dX4_guarantee_14 ?_
  refine g_bipush (v := nI 100) X dX4_guarantee_15 (by decide) ?_
  exact g_callSX (na := 3) X C hj _ (t_X4_requireRange l γ _ _ _ _ h) gX4_guarantee_X4_requireRange rfl ⟨rfl, rfl⟩ (by decide +kernel) rfl ⟨by decide, by decide⟩ rfl (Nat.le_of_ble_eq_true rfl) dX4_guarantee_17 ⟨by decide, by decide⟩ ⟨by decide, by decide⟩
set_option maxRecDepth 20000 in
theorem t_X4_guarantee_s (l : Launch) (γ : gG) (σ : gS) (q g : Nat) (x : Int32) (hq : q < 8) (hg : g < 8) (h1 : nI 1 ≤ x) (h2 : x ≤ nI 100) (hh : holdsI (σ.1 2) (nI q) 8 (nI g) = true) : gMX l γ yX4_guarantee wsX4_guarantee ({ frames := 7, cells := 1, slots := 6, locals := 222 } : Room) [.ref (ad γ 0), .int (nI q), .int (nI g), .int x] σ eT (σ) := by
  refine g_enterX (own := RX4) (cc := cX4_guarantee) (nL := 5) (ret := (some .int)) [some (.ref (ad γ 0)), some (.int (nI q)), some (.int (nI g)), some (.int x), none] (by decide) rfl rfl (by simp [lg_sl, Value.category]) (by simp [gl_le, glE, Value.category]) (fun hj p e s m args below meth c X C => ?_)
  have hin_T : ∀ w ∈ Cond.classLink RX4 63 eT :: Cond.initialized eT :: (vx_atS RX4 67 eT eN).filter goodWord, w ∈ wsX4_guarantee := by decide +kernel
  have hi4 : ∀ w ∈ wsX40, w ∈ wsX4_guarantee := by decide +kernel
  refine g_iload_n X dX4_guarantee_0 rfl rfl ?_
  refine g_callSv (na := 1) X hj (k_X4_requirePerson l γ _ _ (by omega)) gX4_guarantee_X4_requirePerson rfl ⟨rfl, rfl⟩ (by decide +kernel) rfl ⟨by decide, by decide⟩ rfl (Nat.le_of_ble_eq_true rfl) dX4_guarantee_1 ⟨by decide, by decide⟩ ?_
  refine g_iload_n X dX4_guarantee_4 rfl rfl ?_
  refine g_iconst (v := -1) X dX4_guarantee_5 (by decide) ?_
  refine g_icmp_eq (tgt := 42) X dX4_guarantee_6 (by decide) (fun c_6 => absurd c_6 (nI_m1 (by omega))) (fun c_6 => ?_)
  refine g_iload_n X dX4_guarantee_9 rfl rfl ?_
  refine g_callSv (na := 1) X hj (k_X4_requirePerson l γ _ _ (by omega)) gX4_guarantee_X4_requirePerson rfl ⟨rfl, rfl⟩ (by decide +kernel) rfl ⟨by decide, by decide⟩ rfl (Nat.le_of_ble_eq_true rfl) dX4_guarantee_10 ⟨by decide, by decide⟩ ?_
  refine g_iload_n X dX4_guarantee_13 rfl rfl ?_
  refine g_iconstN X 1 dX4_guarantee_14 ?_
  refine g_bipush (v := nI 100) X dX4_guarantee_15 (by decide) ?_
  refine g_callSv (na := 3) X hj (k_X4_requireRange l γ _ _ _ _ (by assumption) (by assumption)) gX4_guarantee_X4_requireRange rfl ⟨rfl, rfl⟩ (by decide +kernel) rfl ⟨by decide, by decide⟩ rfl (Nat.le_of_ble_eq_true rfl) dX4_guarantee_17 ⟨by decide, by decide⟩ ?_
  refine g_aload_n X dX4_guarantee_20 rfl rfl ?_
  refine g_get_0_0 X hi4 (by decide +kernel) dX4_guarantee_21 ?_
  refine g_iload_n X dX4_guarantee_24 rfl rfl ?_
  refine g_iload_n X dX4_guarantee_25 rfl rfl ?_
  refine g_callVi (na := 2) X hj (k_X3_chainHolds l γ _ _ _) gW_1 rfl gX4_guarantee_X3_chainHolds rfl ⟨rfl, rfl⟩ (by decide +kernel) rfl ⟨by decide, by decide⟩ rfl (Nat.le_of_ble_eq_true rfl) dX4_guarantee_26 ⟨by decide, by decide⟩ ?_
  refine g_if_eq (tgt := 42) X dX4_guarantee_29 (by decide) (fun c_29 => absurd c_29 (by rw [hh]; decide)) (fun c_29 => ?_)
  exact g_throw (names := eN) (htx := g_tx78) X C fit_T ot_T hin_T ng_T dX4_guarantee_32 dX4_guarantee_35 dX4_guarantee_36 dX4_guarantee_38 dX4_guarantee_41 ⟨by decide, by decide, by decide, by decide⟩ ⟨by decide, by decide⟩
set_option maxRecDepth 20000 in
theorem k_X4_repay (l : Launch) (γ : gG) (σ : gS) (q o : Nat) (x : Int32) (hq : q < 8) (ho : o < 8) (h1 : nI 1 ≤ x) (h2 : x ≤ nI 99999) (h3 : x ≤ σ.1 2 (48 + q * 8 + o)) (h4 : x ≤ σ.1 2 (q * 6 + 0)) (j z : Nat) (hj6 : j < 6) (hn : σ.1 3 1 = nI j) (hz : σ.1 3 2 = nI z) (hz6 : z ≤ 6) : gM l γ yX4_repay wsX4_repay ({ frames := 8, cells := 0, slots := 0, locals := 242 } : Room) [.ref (ad γ 0), .int (nI q), .int (nI o), .int x] σ (gis (some (.int (rpV (σ.1 2) q o x (48 + q * 8 + o)))) (sA (svS σ j z) 2 (rpV (σ.1 2) q o x))) 0 0 := by
  refine g_enter (own := RX4) (cc := cX4_repay) (nL := 4) (ret := (some .int)) [some (.ref (ad γ 0)), some (.int (nI q)), some (.int (nI o)), some (.int x)] (by decide) rfl rfl (by simp [lg_sl, Value.category]) (by simp [gl_le, glE, Value.category]) (fun hj p e s m args below meth c X hr hlk hnm => ?_)
  have hi4 : ∀ w ∈ wsX40, w ∈ wsX4_repay := by decide +kernel
  refine g_iload_n X dX4_repay_0 rfl rfl ?_
  refine g_callSv (na := 1) X hj (k_X4_requirePerson l γ _ _ (by omega)) gX4_repay_X4_requirePerson rfl ⟨rfl, rfl⟩ (by decide +kernel) rfl ⟨by decide, by decide⟩ rfl (Nat.le_of_ble_eq_true rfl) dX4_repay_1 ⟨by decide, by decide⟩ ?_
  refine g_iload_n X dX4_repay_4 rfl rfl ?_
  refine g_callSv (na := 1) X hj (k_X4_requirePerson l γ _ _ (by omega)) gX4_repay_X4_requirePerson rfl ⟨rfl, rfl⟩ (by decide +kernel) rfl ⟨by decide, by decide⟩ rfl (Nat.le_of_ble_eq_true rfl) dX4_repay_5 ⟨by decide, by decide⟩ ?_
  refine g_iload_n X dX4_repay_8 rfl rfl ?_
  refine g_callSv (na := 1) X hj (k_X4_requireAmount l γ _ _ h1 h2) gX4_repay_X4_requireAmount rfl ⟨rfl, rfl⟩ (by decide +kernel) rfl ⟨by decide, by decide⟩ rfl (Nat.le_of_ble_eq_true rfl) dX4_repay_9 ⟨by decide, by decide⟩ ?_
  refine g_aload_n X dX4_repay_12 rfl rfl ?_
  refine g_get_0_0 X hi4 (by decide +kernel) dX4_repay_13 ?_
  refine g_iload_n X dX4_repay_16 rfl rfl ?_
  refine g_iload_n X dX4_repay_17 rfl rfl ?_
  refine g_callVi (na := 2) X hj (k_X3_owed l γ _ _ _ (by omega) (by omega)) gW_1 rfl gX4_repay_X3_owed rfl ⟨rfl, rfl⟩ (by decide +kernel) rfl ⟨by decide, by decide⟩ rfl (Nat.le_of_ble_eq_true rfl) dX4_repay_18 ⟨by decide, by decide⟩ ?_
  refine g_iload_n X dX4_repay_21 rfl rfl ?_
  refine g_icmp_lt (tgt := 38) X dX4_repay_22 (by decide) (fun c_22 => absurd c_22 (Int32.not_lt.mpr h3)) (fun c_22 => ?_)
  refine g_aload_n X dX4_repay_25 rfl rfl ?_
  refine g_get_0_0 X hi4 (by decide +kernel) dX4_repay_26 ?_
  refine g_iload_n X dX4_repay_29 rfl rfl ?_
  refine g_iconstN X 0 dX4_repay_30 ?_
  refine g_callVi (na := 2) X hj (k_X3_fact l γ _ _ _ (by omega)) gW_1 rfl gX4_repay_X3_fact rfl ⟨rfl, rfl⟩ (by decide +kernel) rfl ⟨by decide, by decide⟩ rfl (Nat.le_of_ble_eq_true rfl) dX4_repay_31 ⟨by decide, by decide⟩ ?_
  refine g_iload_n X dX4_repay_34 rfl rfl ?_
  refine g_icmp_ge (tgt := 48) X dX4_repay_35 (by decide) (fun c_35 => ?_) (fun c_35 => absurd h4 c_35)
  refine g_aload_n X dX4_repay_48 rfl rfl ?_
  refine g_get_0_1 X hi4 (by decide +kernel) dX4_repay_49 ?_
  refine g_aload_n X dX4_repay_52 rfl rfl ?_
  refine g_get_0_0 X hi4 (by decide +kernel) dX4_repay_53 ?_
  refine g_callVv (na := 1) X hj (k_X1_save l γ _ j z hj6 hn hz hz6) gW_3 rfl gX4_repay_X1_save rfl ⟨rfl, rfl⟩ (by decide +kernel) rfl ⟨by decide, by decide⟩ rfl (Nat.le_of_ble_eq_true rfl) dX4_repay_56 ⟨by decide, by decide⟩ ?_
  refine g_aload_n X dX4_repay_59 rfl rfl ?_
  refine g_get_0_0 X hi4 (by decide +kernel) dX4_repay_60 ?_
  refine g_iload_n X dX4_repay_63 rfl rfl ?_
  refine g_iload_n X dX4_repay_64 rfl rfl ?_
  refine g_ineg X dX4_repay_65 ?_
  refine g_callVv (na := 2) X hj (k_X3_addCash l γ _ _ _ (by omega)) gW_1 rfl gX4_repay_X3_addCash rfl ⟨rfl, rfl⟩ (by decide +kernel) rfl ⟨by decide, by decide⟩ rfl (Nat.le_of_ble_eq_true rfl) dX4_repay_66 ⟨by decide, by decide⟩ ?_
  simp only [sv_2]
  refine g_aload_n X dX4_repay_69 rfl rfl ?_
  refine g_get_0_0 X hi4 (by decide +kernel) dX4_repay_70 ?_
  refine g_iload_n X dX4_repay_73 rfl rfl ?_
  refine g_iload_n X dX4_repay_74 rfl rfl ?_
  refine g_callVv (na := 2) X hj (k_X3_addCash l γ _ _ _ (by omega)) gW_1 rfl gX4_repay_X3_addCash rfl ⟨rfl, rfl⟩ (by decide +kernel) rfl ⟨by decide, by decide⟩ rfl (Nat.le_of_ble_eq_true rfl) dX4_repay_75 ⟨by decide, by decide⟩ ?_
  simp only [sA_sA, sA_eq]
  refine g_aload_n X dX4_repay_78 rfl rfl ?_
  refine g_get_0_0 X hi4 (by decide +kernel) dX4_repay_79 ?_
  refine g_iload_n X dX4_repay_82 rfl rfl ?_
  refine g_iload_n X dX4_repay_83 rfl rfl ?_
  refine g_iload_n X dX4_repay_84 rfl rfl ?_
  refine g_ineg X dX4_repay_85 ?_
  refine g_callVv (na := 3) X hj (k_X3_addOwed l γ _ _ _ _ (by omega) (by omega)) gW_1 rfl gX4_repay_X3_addOwed rfl ⟨rfl, rfl⟩ (by decide +kernel) rfl ⟨by decide, by decide⟩ rfl (Nat.le_of_ble_eq_true rfl) dX4_repay_86 ⟨by decide, by decide⟩ ?_
  simp only [sA_sA, sA_eq]
  refine g_aload_n X dX4_repay_89 rfl rfl ?_
  refine g_get_0_0 X hi4 (by decide +kernel) dX4_repay_90 ?_
  refine g_iload_n X dX4_repay_93 rfl rfl ?_
  refine g_iload_n X dX4_repay_94 rfl rfl ?_
  refine g_callVi (na := 2) X hj (k_X3_owed l γ _ _ _ (by omega) (by omega)) gW_1 rfl gX4_repay_X3_owed rfl ⟨rfl, rfl⟩ (by decide +kernel) rfl ⟨by decide, by decide⟩ rfl (Nat.le_of_ble_eq_true rfl) dX4_repay_95 ⟨by decide, by decide⟩ ?_
  exact g_iret X hr hlk dX4_repay_98 ⟨rfl, rfl⟩
set_option maxRecDepth 20000 in
theorem t_X4_repay_p (l : Launch) (γ : gG) (σ : gS) (y o x : Int32) (h : isPb y = false) : gMX l γ yX4_repay wsX4_repay ({ frames := 8, cells := 1, slots := 6, locals := 242 } : Room) [.ref (ad γ 0), .int y, .int o, .int x] σ eB (σ) := by
  refine g_enterX (own := RX4) (cc := cX4_repay) (nL := 4) (ret := (some .int)) [some (.ref (ad γ 0)), some (.int y), some (.int o), some (.int x)] (by decide) rfl rfl (by simp [lg_sl, Value.category]) (by simp [gl_le, glE, Value.category]) (fun hj p e s m args below meth c X C => ?_)
  refine g_iload_n X dX4_repay_0 rfl rfl ?_
  exact g_callSX (na := 1) X C hj _ (t_X4_requirePerson l γ _ _ h) gX4_repay_X4_requirePerson rfl ⟨rfl, rfl⟩ (by decide +kernel) rfl ⟨by decide, by decide⟩ rfl (Nat.le_of_ble_eq_true rfl) dX4_repay_1 ⟨by decide, by decide⟩ ⟨by decide, by decide⟩
set_option maxRecDepth 20000 in
theorem t_X4_repay_o (l : Launch) (γ : gG) (σ : gS) (q : Nat) (o x : Int32) (hq : q < 8) (h : isPb o = false) : gMX l γ yX4_repay wsX4_repay ({ frames := 8, cells := 1, slots := 6, locals := 242 } : Room) [.ref (ad γ 0), .int (nI q), .int o, .int x] σ eB (σ) := by
  refine g_enterX (own := RX4) (cc := cX4_repay) (nL := 4) (ret := (some .int)) [some (.ref (ad γ 0)), some (.int (nI q)), some (.int o), some (.int x)] (by decide) rfl rfl (by simp [lg_sl, Value.category]) (by simp [gl_le, glE, Value.category]) (fun hj p e s m args below meth c X C => ?_)
  refine g_iload_n X dX4_repay_0 rfl rfl ?_
  refine g_callSv (na := 1) X hj (k_X4_requirePerson l γ _ _ (by omega)) gX4_repay_X4_requirePerson rfl ⟨rfl, rfl⟩ (by decide +kernel) rfl ⟨by decide, by decide⟩ rfl (Nat.le_of_ble_eq_true rfl) dX4_repay_1 ⟨by decide, by decide⟩ ?_
  refine g_iload_n X dX4_repay_4 rfl rfl ?_
  exact g_callSX (na := 1) X C hj _ (t_X4_requirePerson l γ _ _ h) gX4_repay_X4_requirePerson rfl ⟨rfl, rfl⟩ (by decide +kernel) rfl ⟨by decide, by decide⟩ rfl (Nat.le_of_ble_eq_true rfl) dX4_repay_5 ⟨by decide, by decide⟩ ⟨by decide, by decide⟩
set_option maxRecDepth 20000 in
theorem t_X4_repay_a (l : Launch) (γ : gG) (σ : gS) (q o : Nat) (x : Int32) (hq : q < 8) (ho : o < 8) (h : x < nI 1 ∨ nI 99999 < x) : gMX l γ yX4_repay wsX4_repay ({ frames := 8, cells := 1, slots := 6, locals := 242 } : Room) [.ref (ad γ 0), .int (nI q), .int (nI o), .int x] σ eA (σ) := by
  refine g_enterX (own := RX4) (cc := cX4_repay) (nL := 4) (ret := (some .int)) [some (.ref (ad γ 0)), some (.int (nI q)), some (.int (nI o)), some (.int x)] (by decide) rfl rfl (by simp [lg_sl, Value.category]) (by simp [gl_le, glE, Value.category]) (fun hj p e s m args below meth c X C => ?_)
  refine g_iload_n X dX4_repay_0 rfl rfl ?_
  refine g_callSv (na := 1) X hj (k_X4_requirePerson l γ _ _ (by omega)) gX4_repay_X4_requirePerson rfl ⟨rfl, rfl⟩ (by decide +kernel) rfl ⟨by decide, by decide⟩ rfl (Nat.le_of_ble_eq_true rfl) dX4_repay_1 ⟨by decide, by decide⟩ ?_
  refine g_iload_n X dX4_repay_4 rfl rfl ?_
  refine g_callSv (na := 1) X hj (k_X4_requirePerson l γ _ _ (by omega)) gX4_repay_X4_requirePerson rfl ⟨rfl, rfl⟩ (by decide +kernel) rfl ⟨by decide, by decide⟩ rfl (Nat.le_of_ble_eq_true rfl) dX4_repay_5 ⟨by decide, by decide⟩ ?_
  refine g_iload_n X dX4_repay_8 rfl rfl ?_
  exact g_callSX (na := 1) X C hj _ (t_X4_requireAmount l γ _ _ h) gX4_repay_X4_requireAmount rfl ⟨rfl, rfl⟩ (by decide +kernel) rfl ⟨by decide, by decide⟩ rfl (Nat.le_of_ble_eq_true rfl) dX4_repay_9 ⟨by decide, by decide⟩ ⟨by decide, by decide⟩
set_option maxRecDepth 20000 in
theorem t_X4_repay_s (l : Launch) (γ : gG) (σ : gS) (q o : Nat) (x : Int32) (hq : q < 8) (ho : o < 8) (h1 : nI 1 ≤ x) (h2 : x ≤ nI 99999) (h : σ.1 2 (48 + q * 8 + o) < x ∨ σ.1 2 (q * 6 + 0) < x) : gMX l γ yX4_repay wsX4_repay ({ frames := 8, cells := 1, slots := 6, locals := 242 } : Room) [.ref (ad γ 0), .int (nI q), .int (nI o), .int x] σ eT (σ) := by
  refine g_enterX (own := RX4) (cc := cX4_repay) (nL := 4) (ret := (some .int)) [some (.ref (ad γ 0)), some (.int (nI q)), some (.int (nI o)), some (.int x)] (by decide) rfl rfl (by simp [lg_sl, Value.category]) (by simp [gl_le, glE, Value.category]) (fun hj p e s m args below meth c X C => ?_)
  have hin_T : ∀ w ∈ Cond.classLink RX4 63 eT :: Cond.initialized eT :: (vx_atS RX4 67 eT eN).filter goodWord, w ∈ wsX4_repay := by decide +kernel
  have hi4 : ∀ w ∈ wsX40, w ∈ wsX4_repay := by decide +kernel
  refine g_iload_n X dX4_repay_0 rfl rfl ?_
  refine g_callSv (na := 1) X hj (k_X4_requirePerson l γ _ _ (by omega)) gX4_repay_X4_requirePerson rfl ⟨rfl, rfl⟩ (by decide +kernel) rfl ⟨by decide, by decide⟩ rfl (Nat.le_of_ble_eq_true rfl) dX4_repay_1 ⟨by decide, by decide⟩ ?_
  refine g_iload_n X dX4_repay_4 rfl rfl ?_
  refine g_callSv (na := 1) X hj (k_X4_requirePerson l γ _ _ (by omega)) gX4_repay_X4_requirePerson rfl ⟨rfl, rfl⟩ (by decide +kernel) rfl ⟨by decide, by decide⟩ rfl (Nat.le_of_ble_eq_true rfl) dX4_repay_5 ⟨by decide, by decide⟩ ?_
  refine g_iload_n X dX4_repay_8 rfl rfl ?_
  refine g_callSv (na := 1) X hj (k_X4_requireAmount l γ _ _ h1 h2) gX4_repay_X4_requireAmount rfl ⟨rfl, rfl⟩ (by decide +kernel) rfl ⟨by decide, by decide⟩ rfl (Nat.le_of_ble_eq_true rfl) dX4_repay_9 ⟨by decide, by decide⟩ ?_
  refine g_aload_n X dX4_repay_12 rfl rfl ?_
  refine g_get_0_0 X hi4 (by decide +kernel) dX4_repay_13 ?_
  refine g_iload_n X dX4_repay_16 rfl rfl ?_
  refine g_iload_n X dX4_repay_17 rfl rfl ?_
  refine g_callVi (na := 2) X hj (k_X3_owed l γ _ _ _ (by omega) (by omega)) gW_1 rfl gX4_repay_X3_owed rfl ⟨rfl, rfl⟩ (by decide +kernel) rfl ⟨by decide, by decide⟩ rfl (Nat.le_of_ble_eq_true rfl) dX4_repay_18 ⟨by decide, by decide⟩ ?_
  refine g_iload_n X dX4_repay_21 rfl rfl ?_
  refine g_icmp_lt (tgt := 38) X dX4_repay_22 (by decide) (fun c_22 => ?_) (fun c_22 => ?_)
  · exact g_throw (names := eN) (htx := g_tx86) X C fit_T ot_T hin_T ng_T dX4_repay_38 dX4_repay_41 dX4_repay_42 dX4_repay_44 dX4_repay_47 ⟨by decide, by decide, by decide, by decide⟩ ⟨by decide, by decide⟩
  · refine g_aload_n X dX4_repay_25 rfl rfl ?_
    refine g_get_0_0 X hi4 (by decide +kernel) dX4_repay_26 ?_
    refine g_iload_n X dX4_repay_29 rfl rfl ?_
    refine g_iconstN X 0 dX4_repay_30 ?_
    refine g_callVi (na := 2) X hj (k_X3_fact l γ _ _ _ (by omega)) gW_1 rfl gX4_repay_X3_fact rfl ⟨rfl, rfl⟩ (by decide +kernel) rfl ⟨by decide, by decide⟩ rfl (Nat.le_of_ble_eq_true rfl) dX4_repay_31 ⟨by decide, by decide⟩ ?_
    refine g_iload_n X dX4_repay_34 rfl rfl ?_
    refine g_icmp_ge (tgt := 48) X dX4_repay_35 (by decide) (fun c_35 => h.elim (fun q => absurd q c_22) (fun q => absurd c_35 (Int32.not_le.mpr q))) (fun c_35 => ?_)
    exact g_throw (names := eN) (htx := g_tx86) X C fit_T ot_T hin_T ng_T dX4_repay_38 dX4_repay_41 dX4_repay_42 dX4_repay_44 dX4_repay_47 ⟨by decide, by decide, by decide, by decide⟩ ⟨by decide, by decide⟩
set_option maxRecDepth 20000 in
theorem k_X4_set (l : Launch) (γ : gG) (σ : gS) (k : Nat) (x : Int32) (hk : k < 3) (h1 : nI (stLo k) ≤ x) (h2 : x ≤ nI (stHi k)) (j z : Nat) (hj6 : j < 6) (hn : σ.1 3 1 = nI j) (hz : σ.1 3 2 = nI z) (hz6 : z ≤ 6) : gM l γ yX4_set wsX4_set ({ frames := 7, cells := 0, slots := 0, locals := 222 } : Room) [.ref (ad γ 0), .int (nI k), .int x] σ (gis (some (.int (σ.1 2 (112 + k)))) (sA (svS σ j z) 2 (upd (σ.1 2) (112 + k) x))) 0 0 := by
  refine g_enter (own := RX4) (cc := cX4_set) (nL := 4) (ret := (some .int)) [some (.ref (ad γ 0)), some (.int (nI k)), some (.int x), none] (by decide) rfl rfl (by simp [lg_sl, Value.category]) (by simp [gl_le, glE, Value.category]) (fun hj p e s m args below meth c X hr hlk hnm => ?_)
  have hi4 : ∀ w ∈ wsX40, w ∈ wsX4_set := by decide +kernel
  refine g_iload_n X dX4_set_0 rfl rfl ?_
  refine g_callSv (na := 1) X hj (k_X4_requireSetting l γ _ _ (by omega)) gX4_set_X4_requireSetting rfl ⟨rfl, rfl⟩ (by decide +kernel) rfl ⟨by decide, by decide⟩ rfl (Nat.le_of_ble_eq_true rfl) dX4_set_1 ⟨by decide, by decide⟩ ?_
  refine g_iload_n X dX4_set_4 rfl rfl ?_
  refine g_iload_n X dX4_set_5 rfl rfl ?_
  refine g_callSi (na := 1) X hj (k_X4_leastOfSetting l γ _ _ (by omega)) gX4_set_X4_leastOfSetting rfl ⟨rfl, rfl⟩ (by decide +kernel) rfl ⟨by decide, by decide⟩ rfl (Nat.le_of_ble_eq_true rfl) dX4_set_6 ⟨by decide, by decide⟩ ?_
  refine g_iload_n X dX4_set_9 rfl rfl ?_
  refine g_callSi (na := 1) X hj (k_X4_mostOfSetting l γ _ _ (by omega)) gX4_set_X4_mostOfSetting rfl ⟨rfl, rfl⟩ (by decide +kernel) rfl ⟨by decide, by decide⟩ rfl (Nat.le_of_ble_eq_true rfl) dX4_set_10 ⟨by decide, by decide⟩ ?_
  refine g_callSv (na := 3) X hj (k_X4_requireRange l γ _ _ _ _ (by assumption) (by assumption)) gX4_set_X4_requireRange rfl ⟨rfl, rfl⟩ (by decide +kernel) rfl ⟨by decide, by decide⟩ rfl (Nat.le_of_ble_eq_true rfl) dX4_set_13 ⟨by decide, by decide⟩ ?_
  refine g_aload_n X dX4_set_16 rfl rfl ?_
  refine g_get_0_1 X hi4 (by decide +kernel) dX4_set_17 ?_
  refine g_aload_n X dX4_set_20 rfl rfl ?_
  refine g_get_0_0 X hi4 (by decide +kernel) dX4_set_21 ?_
  refine g_callVv (na := 1) X hj (k_X1_save l γ _ j z hj6 hn hz hz6) gW_3 rfl gX4_set_X1_save rfl ⟨rfl, rfl⟩ (by decide +kernel) rfl ⟨by decide, by decide⟩ rfl (Nat.le_of_ble_eq_true rfl) dX4_set_24 ⟨by decide, by decide⟩ ?_
  refine g_aload_n X dX4_set_27 rfl rfl ?_
  refine g_get_0_0 X hi4 (by decide +kernel) dX4_set_28 ?_
  refine g_iload_n X dX4_set_31 rfl rfl ?_
  refine g_callVi (na := 1) X hj (k_X3_settingValue l γ _ _ (by omega)) gW_1 rfl gX4_set_X3_settingValue rfl ⟨rfl, rfl⟩ (by decide +kernel) rfl ⟨by decide, by decide⟩ rfl (Nat.le_of_ble_eq_true rfl) dX4_set_32 ⟨by decide, by decide⟩ ?_
  simp only [sv_2]
  refine g_istore_n3 X dX4_set_35 rfl (by decide) rfl ?_
  refine g_aload_n X dX4_set_36 rfl rfl ?_
  refine g_get_0_0 X hi4 (by decide +kernel) dX4_set_37 ?_
  refine g_iload_n X dX4_set_40 rfl rfl ?_
  refine g_iload_n X dX4_set_41 rfl rfl ?_
  refine g_callVv (na := 2) X hj (k_X3_putSetting l γ _ _ _ (by omega)) gW_1 rfl gX4_set_X3_putSetting rfl ⟨rfl, rfl⟩ (by decide +kernel) rfl ⟨by decide, by decide⟩ rfl (Nat.le_of_ble_eq_true rfl) dX4_set_42 ⟨by decide, by decide⟩ ?_
  simp only [sv_2]
  refine g_iload_n X dX4_set_45 rfl rfl ?_
  exact g_iret X hr hlk dX4_set_46 ⟨rfl, rfl⟩
set_option maxRecDepth 20000 in
theorem t_X4_set_p (l : Launch) (γ : gG) (σ : gS) (y x : Int32) (h : y < 0 ∨ nI 3 ≤ y) : gMX l γ yX4_set wsX4_set ({ frames := 7, cells := 1, slots := 6, locals := 222 } : Room) [.ref (ad γ 0), .int y, .int x] σ eB (σ) := by
  refine g_enterX (own := RX4) (cc := cX4_set) (nL := 4) (ret := (some .int)) [some (.ref (ad γ 0)), some (.int y), some (.int x), none] (by decide) rfl rfl (by simp [lg_sl, Value.category]) (by simp [gl_le, glE, Value.category]) (fun hj p e s m args below meth c X C => ?_)
  refine g_iload_n X dX4_set_0 rfl rfl ?_
  exact g_callSX (na := 1) X C hj _ (t_X4_requireSetting l γ _ _ h) gX4_set_X4_requireSetting rfl ⟨rfl, rfl⟩ (by decide +kernel) rfl ⟨by decide, by decide⟩ rfl (Nat.le_of_ble_eq_true rfl) dX4_set_1 ⟨by decide, by decide⟩ ⟨by decide, by decide⟩
set_option maxRecDepth 20000 in
theorem t_X4_set_a (l : Launch) (γ : gG) (σ : gS) (k : Nat) (x : Int32) (hk : k < 3) (h : x < nI (stLo k) ∨ nI (stHi k) < x) : gMX l γ yX4_set wsX4_set ({ frames := 7, cells := 1, slots := 6, locals := 222 } : Room) [.ref (ad γ 0), .int (nI k), .int x] σ eA (σ) := by
  refine g_enterX (own := RX4) (cc := cX4_set) (nL := 4) (ret := (some .int)) [some (.ref (ad γ 0)), some (.int (nI k)), some (.int x), none] (by decide) rfl rfl (by simp [lg_sl, Value.category]) (by simp [gl_le, glE, Value.category]) (fun hj p e s m args below meth c X C => ?_)
  refine g_iload_n X dX4_set_0 rfl rfl ?_
  refine g_callSv (na := 1) X hj (k_X4_requireSetting l γ _ _ (by omega)) gX4_set_X4_requireSetting rfl ⟨rfl, rfl⟩ (by decide +kernel) rfl ⟨by decide, by decide⟩ rfl (Nat.le_of_ble_eq_true rfl) dX4_set_1 ⟨by decide, by decide⟩ ?_
  refine g_iload_n X dX4_set_4 rfl rfl ?_
  refine g_iload_n X dX4_set_5 rfl rfl ?_
  refine g_callSi (na := 1) X hj (k_X4_leastOfSetting l γ _ _ (by omega)) gX4_set_X4_leastOfSetting rfl ⟨rfl, rfl⟩ (by decide +kernel) rfl ⟨by decide, by decide⟩ rfl (Nat.le_of_ble_eq_true rfl) dX4_set_6 ⟨by decide, by decide⟩ ?_
  refine g_iload_n X dX4_set_9 rfl rfl ?_
  refine g_callSi (na := 1) X hj (k_X4_mostOfSetting l γ _ _ (by omega)) gX4_set_X4_mostOfSetting rfl ⟨rfl, rfl⟩ (by decide +kernel) rfl ⟨by decide, by decide⟩ rfl (Nat.le_of_ble_eq_true rfl) dX4_set_10 ⟨by decide, by decide⟩ ?_
  exact g_callSX (na := 3) X C hj _ (t_X4_requireRange l γ _ _ _ _ h) gX4_set_X4_requireRange rfl ⟨rfl, rfl⟩ (by decide +kernel) rfl ⟨by decide, by decide⟩ rfl (Nat.le_of_ble_eq_true rfl) dX4_set_13 ⟨by decide, by decide⟩ ⟨by decide, by decide⟩
set_option maxRecDepth 20000 in
theorem k_X4_call (l : Launch) (γ : gG) (σ : gS) (x y : Int32) (N b prn L : Nat) (su : Nat → Nat) (hprn : σ.1 2 (117 + b * 31 + 0) = nI prn) (hpn : prn < 8) (hL : σ.1 2 (117 + b * 31 + 3) = nI L) (hL4 : L ≤ 4) (hsu : ∀ i, i < L → σ.1 2 (117 + b * 31 + 15 + i * 4 + 0) = nI (su i) ∧ su i < 8) (hb : b < N) (hN : σ.1 2 116 = nI N) (hN10 : N ≤ 10) (hru : σ.1 2 (117 + b * 31 + 9) = nI 1) (h1 : nI 1 ≤ x) (h2 : x ≤ nI 99999) (h3 : nI 0 ≤ y) (h4 : y ≤ nI 9) (h5 : σ.1 2 (112 + 0) ≤ y) (j z : Nat) (hj6 : j < 6) (hn : σ.1 3 1 = nI j) (hz : σ.1 3 2 = nI z) (hz6 : z ≤ 6) : gM l γ yX4_call wsX4_call ({ frames := 8, cells := 0, slots := 0, locals := 242 } : Room) [.ref (ad γ 0), .int (nI b), .int x, .int y] σ (gis (some (.int (drT (svS σ j z) b prn L x).1)) (caS (svS σ j z) b prn L su x)) 0 0 := by
  refine g_enter (own := RX4) (cc := cX4_call) (nL := 4) (ret := (some .int)) [some (.ref (ad γ 0)), some (.int (nI b)), some (.int x), some (.int y)] (by decide) rfl rfl (by simp [lg_sl, Value.category]) (by simp [gl_le, glE, Value.category]) (fun hj p e s m args below meth c X hr hlk hnm => ?_)
  have hi4 : ∀ w ∈ wsX40, w ∈ wsX4_call := by decide +kernel
  refine g_aload_n X dX4_call_0 rfl rfl ?_
  refine g_iload_n X dX4_call_1 rfl rfl ?_
  refine g_callVv (na := 1) X hj (k_X4_requireBond l γ _ _ N (by omega) hN hN10) gW_0 rfl gX4_call_X4_requireBond rfl ⟨rfl, rfl⟩ (by decide +kernel) rfl ⟨by decide, by decide⟩ rfl (Nat.le_of_ble_eq_true rfl) dX4_call_2 ⟨by decide, by decide⟩ ?_
  refine g_iload_n X dX4_call_5 rfl rfl ?_
  refine g_callSv (na := 1) X hj (k_X4_requireAmount l γ _ _ h1 h2) gX4_call_X4_requireAmount rfl ⟨rfl, rfl⟩ (by decide +kernel) rfl ⟨by decide, by decide⟩ rfl (Nat.le_of_ble_eq_true rfl) dX4_call_6 ⟨by decide, by decide⟩ ?_
  refine g_iload_n X dX4_call_9 rfl rfl ?_
  refine g_iconstN X 0 dX4_call_10 ?_
  refine g_bipush (v := nI 9) X dX4_call_11 (by decide) ?_
  refine g_callSv (na := 3) X hj (k_X4_requireRange l γ _ _ _ _ (by assumption) (by assumption)) gX4_call_X4_requireRange rfl ⟨rfl, rfl⟩ (by decide +kernel) rfl ⟨by decide, by decide⟩ rfl (Nat.le_of_ble_eq_true rfl) dX4_call_13 ⟨by decide, by decide⟩ ?_
  refine g_aload_n X dX4_call_16 rfl rfl ?_
  refine g_iload_n X dX4_call_17 rfl rfl ?_
  refine g_callVv (na := 1) X hj (k_X4_requireRunning l γ _ _ (by omega) hru) gW_0 rfl gX4_call_X4_requireRunning rfl ⟨rfl, rfl⟩ (by decide +kernel) rfl ⟨by decide, by decide⟩ rfl (Nat.le_of_ble_eq_true rfl) dX4_call_18 ⟨by decide, by decide⟩ ?_
  refine g_iload_n X dX4_call_21 rfl rfl ?_
  refine g_aload_n X dX4_call_22 rfl rfl ?_
  refine g_get_0_0 X hi4 (by decide +kernel) dX4_call_23 ?_
  refine g_iconstN X 0 dX4_call_26 ?_
  refine g_callVi (na := 1) X hj (k_X3_settingValue l γ _ _ (by omega)) gW_1 rfl gX4_call_X3_settingValue rfl ⟨rfl, rfl⟩ (by decide +kernel) rfl ⟨by decide, by decide⟩ rfl (Nat.le_of_ble_eq_true rfl) dX4_call_27 ⟨by decide, by decide⟩ ?_
  refine g_icmp_ge (tgt := 43) X dX4_call_30 (by decide) (fun c_30 => ?_) (fun c_30 => absurd h5 c_30)
  refine g_aload_n X dX4_call_43 rfl rfl ?_
  refine g_get_0_1 X hi4 (by decide +kernel) dX4_call_44 ?_
  refine g_aload_n X dX4_call_47 rfl rfl ?_
  refine g_get_0_0 X hi4 (by decide +kernel) dX4_call_48 ?_
  refine g_callVv (na := 1) X hj (k_X1_save l γ _ j z hj6 hn hz hz6) gW_3 rfl gX4_call_X1_save rfl ⟨rfl, rfl⟩ (by decide +kernel) rfl ⟨by decide, by decide⟩ rfl (Nat.le_of_ble_eq_true rfl) dX4_call_51 ⟨by decide, by decide⟩ ?_
  refine g_aload_n X dX4_call_54 rfl rfl ?_
  refine g_get_0_3 X hi4 (by decide +kernel) dX4_call_55 ?_
  refine g_aload_n X dX4_call_58 rfl rfl ?_
  refine g_get_0_0 X hi4 (by decide +kernel) dX4_call_59 ?_
  refine g_iload_n X dX4_call_62 rfl rfl ?_
  refine g_iload_n X dX4_call_63 rfl rfl ?_
  refine g_callVv (na := 3) X hj (k_X2_draw l γ (svS σ j z) _ prn L su _ (by omega) (by rw [sv_2]; exact hprn) hpn (by rw [sv_2]; exact hL) hL4 (by rw [sv_2]; exact hsu)) gW_16 rfl gX4_call_X2_draw rfl ⟨rfl, rfl⟩ (by decide +kernel) rfl ⟨by decide, by decide⟩ rfl (Nat.le_of_ble_eq_true rfl) dX4_call_64 ⟨by decide, by decide⟩ ?_
  unfold drS pyT
  refine g_aload_n X dX4_call_67 rfl rfl ?_
  refine g_get_0_3 X hi4 (by decide +kernel) dX4_call_68 ?_
  refine g_aload_n X dX4_call_71 rfl rfl ?_
  refine g_get_0_0 X hi4 (by decide +kernel) dX4_call_72 ?_
  refine g_callVv (na := 1) X hj (k_X2_carryOut l γ (svS σ j z) _ _ _ _ _ _ _ _ _ _ _ _ b prn L su rfl rfl (by omega) hpn (by rw [sv_2]; exact hL) hL4 (by rw [sv_2]; exact hsu)) gW_16 rfl gX4_call_X2_carryOut rfl ⟨rfl, rfl⟩ (by decide +kernel) rfl ⟨by decide, by decide⟩ rfl (Nat.le_of_ble_eq_true rfl) dX4_call_75 ⟨by decide, by decide⟩ ?_
  refine g_aload_n X dX4_call_78 rfl rfl ?_
  refine g_get_0_3 X hi4 (by decide +kernel) dX4_call_79 ?_
  refine g_callVi (na := 0) X hj (k_X2_paid l γ _) gW_16 rfl gX4_call_X2_paid rfl ⟨rfl, rfl⟩ (by decide +kernel) rfl ⟨by decide, by decide⟩ rfl (Nat.le_of_ble_eq_true rfl) dX4_call_82 ⟨by decide, by decide⟩ ?_
  exact g_iret X hr hlk dX4_call_85 ⟨rfl, rfl⟩
set_option maxRecDepth 20000 in
theorem t_X4_call_b (l : Launch) (γ : gG) (σ : gS) (y x w : Int32) (h : y < 0 ∨ σ.1 2 116 ≤ y) : gMX l γ yX4_call wsX4_call ({ frames := 8, cells := 1, slots := 6, locals := 242 } : Room) [.ref (ad γ 0), .int y, .int x, .int w] σ eB (σ) := by
  refine g_enterX (own := RX4) (cc := cX4_call) (nL := 4) (ret := (some .int)) [some (.ref (ad γ 0)), some (.int y), some (.int x), some (.int w)] (by decide) rfl rfl (by simp [lg_sl, Value.category]) (by simp [gl_le, glE, Value.category]) (fun hj p e s m args below meth c X C => ?_)
  refine g_aload_n X dX4_call_0 rfl rfl ?_
  refine g_iload_n X dX4_call_1 rfl rfl ?_
  exact g_callVX (na := 1) X C hj _ (t_X4_requireBond l γ _ _ h) gW_0 rfl gX4_call_X4_requireBond rfl ⟨rfl, rfl⟩ (by decide +kernel) rfl ⟨by decide, by decide⟩ rfl (Nat.le_of_ble_eq_true rfl) dX4_call_2 ⟨by decide, by decide⟩ ⟨by decide, by decide⟩
set_option maxRecDepth 20000 in
theorem t_X4_call_a (l : Launch) (γ : gG) (σ : gS) (x w : Int32) (b N : Nat) (hb : b < N) (hN : σ.1 2 116 = nI N) (hN10 : N ≤ 10) (h : x < nI 1 ∨ nI 99999 < x) : gMX l γ yX4_call wsX4_call ({ frames := 8, cells := 1, slots := 6, locals := 242 } : Room) [.ref (ad γ 0), .int (nI b), .int x, .int w] σ eA (σ) := by
  refine g_enterX (own := RX4) (cc := cX4_call) (nL := 4) (ret := (some .int)) [some (.ref (ad γ 0)), some (.int (nI b)), some (.int x), some (.int w)] (by decide) rfl rfl (by simp [lg_sl, Value.category]) (by simp [gl_le, glE, Value.category]) (fun hj p e s m args below meth c X C => ?_)
  refine g_aload_n X dX4_call_0 rfl rfl ?_
  refine g_iload_n X dX4_call_1 rfl rfl ?_
  refine g_callVv (na := 1) X hj (k_X4_requireBond l γ _ _ N (by omega) hN hN10) gW_0 rfl gX4_call_X4_requireBond rfl ⟨rfl, rfl⟩ (by decide +kernel) rfl ⟨by decide, by decide⟩ rfl (Nat.le_of_ble_eq_true rfl) dX4_call_2 ⟨by decide, by decide⟩ ?_
  refine g_iload_n X dX4_call_5 rfl rfl ?_
  exact g_callSX (na := 1) X C hj _ (t_X4_requireAmount l γ _ _ h) gX4_call_X4_requireAmount rfl ⟨rfl, rfl⟩ (by decide +kernel) rfl ⟨by decide, by decide⟩ rfl (Nat.le_of_ble_eq_true rfl) dX4_call_6 ⟨by decide, by decide⟩ ⟨by decide, by decide⟩
set_option maxRecDepth 20000 in
theorem t_X4_call_w (l : Launch) (γ : gG) (σ : gS) (x w : Int32) (b N : Nat) (hb : b < N) (hN : σ.1 2 116 = nI N) (hN10 : N ≤ 10) (h1 : nI 1 ≤ x) (h2 : x ≤ nI 99999) (h : w < nI 0 ∨ nI 9 < w) : gMX l γ yX4_call wsX4_call ({ frames := 8, cells := 1, slots := 6, locals := 242 } : Room) [.ref (ad γ 0), .int (nI b), .int x, .int w] σ eA (σ) := by
  refine g_enterX (own := RX4) (cc := cX4_call) (nL := 4) (ret := (some .int)) [some (.ref (ad γ 0)), some (.int (nI b)), some (.int x), some (.int w)] (by decide) rfl rfl (by simp [lg_sl, Value.category]) (by simp [gl_le, glE, Value.category]) (fun hj p e s m args below meth c X C => ?_)
  refine g_aload_n X dX4_call_0 rfl rfl ?_
  refine g_iload_n X dX4_call_1 rfl rfl ?_
  refine g_callVv (na := 1) X hj (k_X4_requireBond l γ _ _ N (by omega) hN hN10) gW_0 rfl gX4_call_X4_requireBond rfl ⟨rfl, rfl⟩ (by decide +kernel) rfl ⟨by decide, by decide⟩ rfl (Nat.le_of_ble_eq_true rfl) dX4_call_2 ⟨by decide, by decide⟩ ?_
  refine g_iload_n X dX4_call_5 rfl rfl ?_
  refine g_callSv (na := 1) X hj (k_X4_requireAmount l γ _ _ h1 h2) gX4_call_X4_requireAmount rfl ⟨rfl, rfl⟩ (by decide +kernel) rfl ⟨by decide, by decide⟩ rfl (Nat.le_of_ble_eq_true rfl) dX4_call_6 ⟨by decide, by decide⟩ ?_
  refine g_iload_n X dX4_call_9 rfl rfl ?_
  refine g_iconstN X 0 dX4_call_10 ?_
  refine g_bipush (v := nI 9) X dX4_call_11 (by decide) ?_
  exact g_callSX (na := 3) X C hj _ (t_X4_requireRange l γ _ _ _ _ h) gX4_call_X4_requireRange rfl ⟨rfl, rfl⟩ (by decide +kernel) rfl ⟨by decide, by decide⟩ rfl (Nat.le_of_ble_eq_true rfl) dX4_call_13 ⟨by decide, by decide⟩ ⟨by decide, by decide⟩
set_option maxRecDepth 20000 in
theorem t_X4_call_r (l : Launch) (γ : gG) (σ : gS) (x w : Int32) (b N : Nat) (hb : b < N) (hN : σ.1 2 116 = nI N) (hN10 : N ≤ 10) (h1 : nI 1 ≤ x) (h2 : x ≤ nI 99999) (h3 : nI 0 ≤ w) (h4 : w ≤ nI 9) (hru : σ.1 2 (117 + b * 31 + 9) = nI 0) : gMX l γ yX4_call wsX4_call ({ frames := 8, cells := 1, slots := 6, locals := 242 } : Room) [.ref (ad γ 0), .int (nI b), .int x, .int w] σ eT (σ) := by
  refine g_enterX (own := RX4) (cc := cX4_call) (nL := 4) (ret := (some .int)) [some (.ref (ad γ 0)), some (.int (nI b)), some (.int x), some (.int w)] (by decide) rfl rfl (by simp [lg_sl, Value.category]) (by simp [gl_le, glE, Value.category]) (fun hj p e s m args below meth c X C => ?_)
  refine g_aload_n X dX4_call_0 rfl rfl ?_
  refine g_iload_n X dX4_call_1 rfl rfl ?_
  refine g_callVv (na := 1) X hj (k_X4_requireBond l γ _ _ N (by omega) hN hN10) gW_0 rfl gX4_call_X4_requireBond rfl ⟨rfl, rfl⟩ (by decide +kernel) rfl ⟨by decide, by decide⟩ rfl (Nat.le_of_ble_eq_true rfl) dX4_call_2 ⟨by decide, by decide⟩ ?_
  refine g_iload_n X dX4_call_5 rfl rfl ?_
  refine g_callSv (na := 1) X hj (k_X4_requireAmount l γ _ _ h1 h2) gX4_call_X4_requireAmount rfl ⟨rfl, rfl⟩ (by decide +kernel) rfl ⟨by decide, by decide⟩ rfl (Nat.le_of_ble_eq_true rfl) dX4_call_6 ⟨by decide, by decide⟩ ?_
  refine g_iload_n X dX4_call_9 rfl rfl ?_
  refine g_iconstN X 0 dX4_call_10 ?_
  refine g_bipush (v := nI 9) X dX4_call_11 (by decide) ?_
  refine g_callSv (na := 3) X hj (k_X4_requireRange l γ _ _ _ _ (by assumption) (by assumption)) gX4_call_X4_requireRange rfl ⟨rfl, rfl⟩ (by decide +kernel) rfl ⟨by decide, by decide⟩ rfl (Nat.le_of_ble_eq_true rfl) dX4_call_13 ⟨by decide, by decide⟩ ?_
  refine g_aload_n X dX4_call_16 rfl rfl ?_
  refine g_iload_n X dX4_call_17 rfl rfl ?_
  exact g_callVX (na := 1) X C hj _ (t_X4_requireRunning l γ _ _ (by omega) hru) gW_0 rfl gX4_call_X4_requireRunning rfl ⟨rfl, rfl⟩ (by decide +kernel) rfl ⟨by decide, by decide⟩ rfl (Nat.le_of_ble_eq_true rfl) dX4_call_18 ⟨by decide, by decide⟩ ⟨by decide, by decide⟩
set_option maxRecDepth 20000 in
theorem t_X4_call_s (l : Launch) (γ : gG) (σ : gS) (x w : Int32) (b N : Nat) (hb : b < N) (hN : σ.1 2 116 = nI N) (hN10 : N ≤ 10) (h1 : nI 1 ≤ x) (h2 : x ≤ nI 99999) (h3 : nI 0 ≤ w) (h4 : w ≤ nI 9) (hru : σ.1 2 (117 + b * 31 + 9) = nI 1) (h5 : w < σ.1 2 (112 + 0)) : gMX l γ yX4_call wsX4_call ({ frames := 8, cells := 1, slots := 6, locals := 242 } : Room) [.ref (ad γ 0), .int (nI b), .int x, .int w] σ eT (σ) := by
  refine g_enterX (own := RX4) (cc := cX4_call) (nL := 4) (ret := (some .int)) [some (.ref (ad γ 0)), some (.int (nI b)), some (.int x), some (.int w)] (by decide) rfl rfl (by simp [lg_sl, Value.category]) (by simp [gl_le, glE, Value.category]) (fun hj p e s m args below meth c X C => ?_)
  have hin_T : ∀ w ∈ Cond.classLink RX4 63 eT :: Cond.initialized eT :: (vx_atS RX4 67 eT eN).filter goodWord, w ∈ wsX4_call := by decide +kernel
  have hi4 : ∀ w ∈ wsX40, w ∈ wsX4_call := by decide +kernel
  refine g_aload_n X dX4_call_0 rfl rfl ?_
  refine g_iload_n X dX4_call_1 rfl rfl ?_
  refine g_callVv (na := 1) X hj (k_X4_requireBond l γ _ _ N (by omega) hN hN10) gW_0 rfl gX4_call_X4_requireBond rfl ⟨rfl, rfl⟩ (by decide +kernel) rfl ⟨by decide, by decide⟩ rfl (Nat.le_of_ble_eq_true rfl) dX4_call_2 ⟨by decide, by decide⟩ ?_
  refine g_iload_n X dX4_call_5 rfl rfl ?_
  refine g_callSv (na := 1) X hj (k_X4_requireAmount l γ _ _ h1 h2) gX4_call_X4_requireAmount rfl ⟨rfl, rfl⟩ (by decide +kernel) rfl ⟨by decide, by decide⟩ rfl (Nat.le_of_ble_eq_true rfl) dX4_call_6 ⟨by decide, by decide⟩ ?_
  refine g_iload_n X dX4_call_9 rfl rfl ?_
  refine g_iconstN X 0 dX4_call_10 ?_
  refine g_bipush (v := nI 9) X dX4_call_11 (by decide) ?_
  refine g_callSv (na := 3) X hj (k_X4_requireRange l γ _ _ _ _ (by assumption) (by assumption)) gX4_call_X4_requireRange rfl ⟨rfl, rfl⟩ (by decide +kernel) rfl ⟨by decide, by decide⟩ rfl (Nat.le_of_ble_eq_true rfl) dX4_call_13 ⟨by decide, by decide⟩ ?_
  refine g_aload_n X dX4_call_16 rfl rfl ?_
  refine g_iload_n X dX4_call_17 rfl rfl ?_
  refine g_callVv (na := 1) X hj (k_X4_requireRunning l γ _ _ (by omega) hru) gW_0 rfl gX4_call_X4_requireRunning rfl ⟨rfl, rfl⟩ (by decide +kernel) rfl ⟨by decide, by decide⟩ rfl (Nat.le_of_ble_eq_true rfl) dX4_call_18 ⟨by decide, by decide⟩ ?_
  refine g_iload_n X dX4_call_21 rfl rfl ?_
  refine g_aload_n X dX4_call_22 rfl rfl ?_
  refine g_get_0_0 X hi4 (by decide +kernel) dX4_call_23 ?_
  refine g_iconstN X 0 dX4_call_26 ?_
  refine g_callVi (na := 1) X hj (k_X3_settingValue l γ _ _ (by omega)) gW_1 rfl gX4_call_X3_settingValue rfl ⟨rfl, rfl⟩ (by decide +kernel) rfl ⟨by decide, by decide⟩ rfl (Nat.le_of_ble_eq_true rfl) dX4_call_27 ⟨by decide, by decide⟩ ?_
  refine g_icmp_ge (tgt := 43) X dX4_call_30 (by decide) (fun c_30 => absurd c_30 (Int32.not_le.mpr h5)) (fun c_30 => ?_)
  exact g_throw (names := eN) (htx := g_tx112) X C fit_T ot_T hin_T ng_T dX4_call_33 dX4_call_36 dX4_call_37 dX4_call_39 dX4_call_42 ⟨by decide, by decide, by decide, by decide⟩ ⟨by decide, by decide⟩
set_option maxRecDepth 20000 in
theorem k_X4_reach (l : Launch) (γ : gG) (σ : gS) (b N : Nat) (hb : b < N) (hN : σ.1 2 116 = nI N) (hN10 : N ≤ 10) (L k w : Nat) (hru : σ.1 2 (117 + b * 31 + 9) = nI 1) (hL : σ.1 2 (117 + b * 31 + 3) = nI L) (hL4 : L ≤ 4) (hk : σ.1 2 (117 + b * 31 + 5) = nI k) (hw : σ.1 2 (117 + b * 31 + 4) = nI w) (hw5 : w ≤ 5) (hkw : k < w) (j z : Nat) (hj6 : j < 6) (hn : σ.1 3 1 = nI j) (hz : σ.1 3 2 = nI z) (hz6 : z ≤ 6) : gM l γ yX4_reach wsX4_reach ({ frames := 7, cells := 0, slots := 0, locals := 221 } : Room) [.ref (ad γ 0), .int (nI b)] σ (gis (some (.int (reR (σ.1 2) b k))) (sA (svS σ j z) 2 (reV (σ.1 2) b L k))) 0 0 := by
  refine g_enter (own := RX4) (cc := cX4_reach) (nL := 5) (ret := (some .int)) [some (.ref (ad γ 0)), some (.int (nI b)), none, none, none] (by decide) rfl rfl (by simp [lg_sl, Value.category]) (by simp [gl_le, glE, Value.category]) (fun hj p e s m args below meth c X hr hlk hnm => ?_)
  have hi4 : ∀ w ∈ wsX40, w ∈ wsX4_reach := by decide +kernel
  refine g_aload_n X dX4_reach_0 rfl rfl ?_
  refine g_iload_n X dX4_reach_1 rfl rfl ?_
  refine g_callVv (na := 1) X hj (k_X4_requireBond l γ _ _ N (by omega) hN hN10) gW_0 rfl gX4_reach_X4_requireBond rfl ⟨rfl, rfl⟩ (by decide +kernel) rfl ⟨by decide, by decide⟩ rfl (Nat.le_of_ble_eq_true rfl) dX4_reach_2 ⟨by decide, by decide⟩ ?_
  refine g_aload_n X dX4_reach_5 rfl rfl ?_
  refine g_iload_n X dX4_reach_6 rfl rfl ?_
  refine g_callVv (na := 1) X hj (k_X4_requireRunning l γ _ _ (by omega) hru) gW_0 rfl gX4_reach_X4_requireRunning rfl ⟨rfl, rfl⟩ (by decide +kernel) rfl ⟨by decide, by decide⟩ rfl (Nat.le_of_ble_eq_true rfl) dX4_reach_7 ⟨by decide, by decide⟩ ?_
  refine g_aload_n X dX4_reach_10 rfl rfl ?_
  refine g_get_0_0 X hi4 (by decide +kernel) dX4_reach_11 ?_
  refine g_iload_n X dX4_reach_14 rfl rfl ?_
  refine g_iconstN X 5 dX4_reach_15 ?_
  refine g_callVi (na := 2) X hj (k_X3_bondFact l γ _ _ _ (by omega)) gW_1 rfl gX4_reach_X3_bondFact rfl ⟨rfl, rfl⟩ (by decide +kernel) rfl ⟨by decide, by decide⟩ rfl (Nat.le_of_ble_eq_true rfl) dX4_reach_16 ⟨by decide, by decide⟩ ?_
  refine g_top (y := nI k) hk ?_
  refine g_istore_n2 X dX4_reach_19 rfl (by decide) rfl ?_
  refine g_iload_n X dX4_reach_20 rfl rfl ?_
  refine g_aload_n X dX4_reach_21 rfl rfl ?_
  refine g_get_0_0 X hi4 (by decide +kernel) dX4_reach_22 ?_
  refine g_iload_n X dX4_reach_25 rfl rfl ?_
  refine g_iconstN X 4 dX4_reach_26 ?_
  refine g_callVi (na := 2) X hj (k_X3_bondFact l γ _ _ _ (by omega)) gW_1 rfl gX4_reach_X3_bondFact rfl ⟨rfl, rfl⟩ (by decide +kernel) rfl ⟨by decide, by decide⟩ rfl (Nat.le_of_ble_eq_true rfl) dX4_reach_27 ⟨by decide, by decide⟩ ?_
  refine g_top (y := nI w) hw ?_
  refine g_icmpN_lt (tgt := 43) X dX4_reach_30 (by decide) (by omega) (by omega) (fun c_30 => ?_) (fun c_30 => absurd hkw (by omega))
  refine g_aload_n X dX4_reach_43 rfl rfl ?_
  refine g_get_0_1 X hi4 (by decide +kernel) dX4_reach_44 ?_
  refine g_aload_n X dX4_reach_47 rfl rfl ?_
  refine g_get_0_0 X hi4 (by decide +kernel) dX4_reach_48 ?_
  refine g_callVv (na := 1) X hj (k_X1_save l γ _ j z hj6 hn hz hz6) gW_3 rfl gX4_reach_X1_save rfl ⟨rfl, rfl⟩ (by decide +kernel) rfl ⟨by decide, by decide⟩ rfl (Nat.le_of_ble_eq_true rfl) dX4_reach_51 ⟨by decide, by decide⟩ ?_
  refine g_aload_n X dX4_reach_54 rfl rfl ?_
  refine g_get_0_0 X hi4 (by decide +kernel) dX4_reach_55 ?_
  refine g_iload_n X dX4_reach_58 rfl rfl ?_
  refine g_iconstN X 1 dX4_reach_59 ?_
  refine g_callVi (na := 2) X hj (k_X3_bondFact l γ _ _ _ (by omega)) gW_1 rfl gX4_reach_X3_bondFact rfl ⟨rfl, rfl⟩ (by decide +kernel) rfl ⟨by decide, by decide⟩ rfl (Nat.le_of_ble_eq_true rfl) dX4_reach_60 ⟨by decide, by decide⟩ ?_
  simp only [sv_2]
  refine g_aload_n X dX4_reach_63 rfl rfl ?_
  refine g_get_0_0 X hi4 (by decide +kernel) dX4_reach_64 ?_
  refine g_iload_n X dX4_reach_67 rfl rfl ?_
  refine g_iload_n X dX4_reach_68 rfl rfl ?_
  refine g_callVi (na := 2) X hj (k_X3_milestoneShare l γ _ _ _ (by omega) (by omega)) gW_1 rfl gX4_reach_X3_milestoneShare rfl ⟨rfl, rfl⟩ (by decide +kernel) rfl ⟨by decide, by decide⟩ rfl (Nat.le_of_ble_eq_true rfl) dX4_reach_69 ⟨by decide, by decide⟩ ?_
  simp only [sv_2]
  refine g_imul X dX4_reach_72 ?_
  refine g_sipush (v := nI 1000) X dX4_reach_73 (by decide) ?_
  refine g_idiv X dX4_reach_76 (by decide) ?_
  refine g_istore_n3 X dX4_reach_77 rfl (by decide) rfl ?_
  refine g_iload_n X dX4_reach_78 rfl rfl ?_
  refine g_aload_n X dX4_reach_79 rfl rfl ?_
  refine g_get_0_0 X hi4 (by decide +kernel) dX4_reach_80 ?_
  refine g_iload_n X dX4_reach_83 rfl rfl ?_
  refine g_callVi (na := 1) X hj (k_X3_leftOfBond l γ _ _ (by omega)) gW_1 rfl gX4_reach_X3_leftOfBond rfl ⟨rfl, rfl⟩ (by decide +kernel) rfl ⟨by decide, by decide⟩ rfl (Nat.le_of_ble_eq_true rfl) dX4_reach_84 ⟨by decide, by decide⟩ ?_
  simp only [sv_2]
  refine g_min X (by decide +kernel) ⟨by decide, Nat.le_of_ble_eq_true rfl, by decide, by decide⟩ dX4_reach_87 ?_
  refine g_istore_s4 X dX4_reach_90 (by decide) rfl ?_
  refine g_aload_n X dX4_reach_92 rfl rfl ?_
  refine g_get_0_0 X hi4 (by decide +kernel) dX4_reach_93 ?_
  refine g_iload_n X dX4_reach_96 rfl rfl ?_
  refine g_iconstN X 5 dX4_reach_97 ?_
  refine g_iconstN X 1 dX4_reach_98 ?_
  refine g_callVv (na := 3) X hj (k_X3_addBondFact l γ _ _ _ _ (by omega)) gW_1 rfl gX4_reach_X3_addBondFact rfl ⟨rfl, rfl⟩ (by decide +kernel) rfl ⟨by decide, by decide⟩ rfl (Nat.le_of_ble_eq_true rfl) dX4_reach_99 ⟨by decide, by decide⟩ ?_
  simp only [sv_2]
  refine g_aload_n X dX4_reach_102 rfl rfl ?_
  refine g_get_0_0 X hi4 (by decide +kernel) dX4_reach_103 ?_
  refine g_iload_n X dX4_reach_106 rfl rfl ?_
  refine g_iload X dX4_reach_107 rfl ?_
  refine g_callVv (na := 2) X hj (k_X3_release l γ _ _ L _ (by omega) (by rw [sA_eq, upd, if_neg (by omega)]; exact hL) hL4) gW_1 rfl gX4_reach_X3_release rfl ⟨rfl, rfl⟩ (by decide +kernel) rfl ⟨by decide, by decide⟩ rfl (Nat.le_of_ble_eq_true rfl) dX4_reach_109 ⟨by decide, by decide⟩ ?_
  simp only [sA_sA, sA_eq]
  refine g_iload X dX4_reach_112 rfl ?_
  exact g_iret X hr hlk dX4_reach_114 ⟨rfl, rfl⟩
set_option maxRecDepth 20000 in
theorem t_X4_reach_b (l : Launch) (γ : gG) (σ : gS) (y : Int32) (h : y < 0 ∨ σ.1 2 116 ≤ y) : gMX l γ yX4_reach wsX4_reach ({ frames := 7, cells := 1, slots := 6, locals := 221 } : Room) [.ref (ad γ 0), .int y] σ eB (σ) := by
  refine g_enterX (own := RX4) (cc := cX4_reach) (nL := 5) (ret := (some .int)) [some (.ref (ad γ 0)), some (.int y), none, none, none] (by decide) rfl rfl (by simp [lg_sl, Value.category]) (by simp [gl_le, glE, Value.category]) (fun hj p e s m args below meth c X C => ?_)
  refine g_aload_n X dX4_reach_0 rfl rfl ?_
  refine g_iload_n X dX4_reach_1 rfl rfl ?_
  exact g_callVX (na := 1) X C hj _ (t_X4_requireBond l γ _ _ h) gW_0 rfl gX4_reach_X4_requireBond rfl ⟨rfl, rfl⟩ (by decide +kernel) rfl ⟨by decide, by decide⟩ rfl (Nat.le_of_ble_eq_true rfl) dX4_reach_2 ⟨by decide, by decide⟩ ⟨by decide, by decide⟩
set_option maxRecDepth 20000 in
theorem t_X4_reach_r (l : Launch) (γ : gG) (σ : gS) (b N : Nat) (hb : b < N) (hN : σ.1 2 116 = nI N) (hN10 : N ≤ 10) (hru : σ.1 2 (117 + b * 31 + 9) = nI 0) : gMX l γ yX4_reach wsX4_reach ({ frames := 7, cells := 1, slots := 6, locals := 221 } : Room) [.ref (ad γ 0), .int (nI b)] σ eT (σ) := by
  refine g_enterX (own := RX4) (cc := cX4_reach) (nL := 5) (ret := (some .int)) [some (.ref (ad γ 0)), some (.int (nI b)), none, none, none] (by decide) rfl rfl (by simp [lg_sl, Value.category]) (by simp [gl_le, glE, Value.category]) (fun hj p e s m args below meth c X C => ?_)
  refine g_aload_n X dX4_reach_0 rfl rfl ?_
  refine g_iload_n X dX4_reach_1 rfl rfl ?_
  refine g_callVv (na := 1) X hj (k_X4_requireBond l γ _ _ N (by omega) hN hN10) gW_0 rfl gX4_reach_X4_requireBond rfl ⟨rfl, rfl⟩ (by decide +kernel) rfl ⟨by decide, by decide⟩ rfl (Nat.le_of_ble_eq_true rfl) dX4_reach_2 ⟨by decide, by decide⟩ ?_
  refine g_aload_n X dX4_reach_5 rfl rfl ?_
  refine g_iload_n X dX4_reach_6 rfl rfl ?_
  exact g_callVX (na := 1) X C hj _ (t_X4_requireRunning l γ _ _ (by omega) hru) gW_0 rfl gX4_reach_X4_requireRunning rfl ⟨rfl, rfl⟩ (by decide +kernel) rfl ⟨by decide, by decide⟩ rfl (Nat.le_of_ble_eq_true rfl) dX4_reach_7 ⟨by decide, by decide⟩ ⟨by decide, by decide⟩
set_option maxRecDepth 20000 in
theorem t_X4_reach_s (l : Launch) (γ : gG) (σ : gS) (b N : Nat) (hb : b < N) (hN : σ.1 2 116 = nI N) (hN10 : N ≤ 10) (hru : σ.1 2 (117 + b * 31 + 9) = nI 1) (h : σ.1 2 (117 + b * 31 + 4) ≤ σ.1 2 (117 + b * 31 + 5)) : gMX l γ yX4_reach wsX4_reach ({ frames := 7, cells := 1, slots := 6, locals := 221 } : Room) [.ref (ad γ 0), .int (nI b)] σ eT (σ) := by
  refine g_enterX (own := RX4) (cc := cX4_reach) (nL := 5) (ret := (some .int)) [some (.ref (ad γ 0)), some (.int (nI b)), none, none, none] (by decide) rfl rfl (by simp [lg_sl, Value.category]) (by simp [gl_le, glE, Value.category]) (fun hj p e s m args below meth c X C => ?_)
  have hin_T : ∀ w ∈ Cond.classLink RX4 63 eT :: Cond.initialized eT :: (vx_atS RX4 67 eT eN).filter goodWord, w ∈ wsX4_reach := by decide +kernel
  have hi4 : ∀ w ∈ wsX40, w ∈ wsX4_reach := by decide +kernel
  refine g_aload_n X dX4_reach_0 rfl rfl ?_
  refine g_iload_n X dX4_reach_1 rfl rfl ?_
  refine g_callVv (na := 1) X hj (k_X4_requireBond l γ _ _ N (by omega) hN hN10) gW_0 rfl gX4_reach_X4_requireBond rfl ⟨rfl, rfl⟩ (by decide +kernel) rfl ⟨by decide, by decide⟩ rfl (Nat.le_of_ble_eq_true rfl) dX4_reach_2 ⟨by decide, by decide⟩ ?_
  refine g_aload_n X dX4_reach_5 rfl rfl ?_
  refine g_iload_n X dX4_reach_6 rfl rfl ?_
  refine g_callVv (na := 1) X hj (k_X4_requireRunning l γ _ _ (by omega) hru) gW_0 rfl gX4_reach_X4_requireRunning rfl ⟨rfl, rfl⟩ (by decide +kernel) rfl ⟨by decide, by decide⟩ rfl (Nat.le_of_ble_eq_true rfl) dX4_reach_7 ⟨by decide, by decide⟩ ?_
  refine g_aload_n X dX4_reach_10 rfl rfl ?_
  refine g_get_0_0 X hi4 (by decide +kernel) dX4_reach_11 ?_
  refine g_iload_n X dX4_reach_14 rfl rfl ?_
  refine g_iconstN X 5 dX4_reach_15 ?_
  refine g_callVi (na := 2) X hj (k_X3_bondFact l γ _ _ _ (by omega)) gW_1 rfl gX4_reach_X3_bondFact rfl ⟨rfl, rfl⟩ (by decide +kernel) rfl ⟨by decide, by decide⟩ rfl (Nat.le_of_ble_eq_true rfl) dX4_reach_16 ⟨by decide, by decide⟩ ?_
  refine g_istore_n2 X dX4_reach_19 rfl (by decide) rfl ?_
  refine g_iload_n X dX4_reach_20 rfl rfl ?_
  refine g_aload_n X dX4_reach_21 rfl rfl ?_
  refine g_get_0_0 X hi4 (by decide +kernel) dX4_reach_22 ?_
  refine g_iload_n X dX4_reach_25 rfl rfl ?_
  refine g_iconstN X 4 dX4_reach_26 ?_
  refine g_callVi (na := 2) X hj (k_X3_bondFact l γ _ _ _ (by omega)) gW_1 rfl gX4_reach_X3_bondFact rfl ⟨rfl, rfl⟩ (by decide +kernel) rfl ⟨by decide, by decide⟩ rfl (Nat.le_of_ble_eq_true rfl) dX4_reach_27 ⟨by decide, by decide⟩ ?_
  refine g_icmp_lt (tgt := 43) X dX4_reach_30 (by decide) (fun c_30 => absurd c_30 (Int32.not_lt.mpr h)) (fun c_30 => ?_)
  exact g_throw (names := eN) (htx := g_tx128) X C fit_T ot_T hin_T ng_T dX4_reach_33 dX4_reach_36 dX4_reach_37 dX4_reach_39 dX4_reach_42 ⟨by decide, by decide, by decide, by decide⟩ ⟨by decide, by decide⟩
set_option maxRecDepth 20000 in
theorem k_X4_end (l : Launch) (γ : gG) (σ : gS) (b N : Nat) (hb : b < N) (hN : σ.1 2 116 = nI N) (hN10 : N ≤ 10) (L : Nat) (hru : σ.1 2 (117 + b * 31 + 9) = nI 1) (hL : σ.1 2 (117 + b * 31 + 3) = nI L) (hL4 : L ≤ 4) (j z : Nat) (hj6 : j < 6) (hn : σ.1 3 1 = nI j) (hz : σ.1 3 2 = nI z) (hz6 : z ≤ 6) : gM l γ yX4_end wsX4_end ({ frames := 7, cells := 0, slots := 0, locals := 221 } : Room) [.ref (ad γ 0), .int (nI b)] σ (gis (some (.int (leftOf (σ.1 2) b))) (sA (svS σ j z) 2 (enV (σ.1 2) b L))) 0 0 := by
  refine g_enter (own := RX4) (cc := cX4_end) (nL := 3) (ret := (some .int)) [some (.ref (ad γ 0)), some (.int (nI b)), none] (by decide) rfl rfl (by simp [lg_sl, Value.category]) (by simp [gl_le, glE, Value.category]) (fun hj p e s m args below meth c X hr hlk hnm => ?_)
  have hi4 : ∀ w ∈ wsX40, w ∈ wsX4_end := by decide +kernel
  refine g_aload_n X dX4_end_0 rfl rfl ?_
  refine g_iload_n X dX4_end_1 rfl rfl ?_
  refine g_callVv (na := 1) X hj (k_X4_requireBond l γ _ _ N (by omega) hN hN10) gW_0 rfl gX4_end_X4_requireBond rfl ⟨rfl, rfl⟩ (by decide +kernel) rfl ⟨by decide, by decide⟩ rfl (Nat.le_of_ble_eq_true rfl) dX4_end_2 ⟨by decide, by decide⟩ ?_
  refine g_aload_n X dX4_end_5 rfl rfl ?_
  refine g_iload_n X dX4_end_6 rfl rfl ?_
  refine g_callVv (na := 1) X hj (k_X4_requireRunning l γ _ _ (by omega) hru) gW_0 rfl gX4_end_X4_requireRunning rfl ⟨rfl, rfl⟩ (by decide +kernel) rfl ⟨by decide, by decide⟩ rfl (Nat.le_of_ble_eq_true rfl) dX4_end_7 ⟨by decide, by decide⟩ ?_
  refine g_aload_n X dX4_end_10 rfl rfl ?_
  refine g_get_0_1 X hi4 (by decide +kernel) dX4_end_11 ?_
  refine g_aload_n X dX4_end_14 rfl rfl ?_
  refine g_get_0_0 X hi4 (by decide +kernel) dX4_end_15 ?_
  refine g_callVv (na := 1) X hj (k_X1_save l γ _ j z hj6 hn hz hz6) gW_3 rfl gX4_end_X1_save rfl ⟨rfl, rfl⟩ (by decide +kernel) rfl ⟨by decide, by decide⟩ rfl (Nat.le_of_ble_eq_true rfl) dX4_end_18 ⟨by decide, by decide⟩ ?_
  refine g_aload_n X dX4_end_21 rfl rfl ?_
  refine g_get_0_0 X hi4 (by decide +kernel) dX4_end_22 ?_
  refine g_iload_n X dX4_end_25 rfl rfl ?_
  refine g_callVi (na := 1) X hj (k_X3_leftOfBond l γ _ _ (by omega)) gW_1 rfl gX4_end_X3_leftOfBond rfl ⟨rfl, rfl⟩ (by decide +kernel) rfl ⟨by decide, by decide⟩ rfl (Nat.le_of_ble_eq_true rfl) dX4_end_26 ⟨by decide, by decide⟩ ?_
  simp only [sv_2]
  refine g_istore_n2 X dX4_end_29 rfl (by decide) rfl ?_
  refine g_aload_n X dX4_end_30 rfl rfl ?_
  refine g_get_0_0 X hi4 (by decide +kernel) dX4_end_31 ?_
  refine g_iload_n X dX4_end_34 rfl rfl ?_
  refine g_iload_n X dX4_end_35 rfl rfl ?_
  refine g_callVv (na := 2) X hj (k_X3_release l γ _ _ L _ (by omega) (by rw [sv_2]; exact hL) hL4) gW_1 rfl gX4_end_X3_release rfl ⟨rfl, rfl⟩ (by decide +kernel) rfl ⟨by decide, by decide⟩ rfl (Nat.le_of_ble_eq_true rfl) dX4_end_36 ⟨by decide, by decide⟩ ?_
  simp only [sv_2]
  refine g_aload_n X dX4_end_39 rfl rfl ?_
  refine g_get_0_0 X hi4 (by decide +kernel) dX4_end_40 ?_
  refine g_iload_n X dX4_end_43 rfl rfl ?_
  refine g_bipush (v := nI 9) X dX4_end_44 (by decide) ?_
  refine g_iconstN X 0 dX4_end_46 ?_
  refine g_callVv (na := 3) X hj (k_X3_putBondFact l γ _ _ _ _ (by omega)) gW_1 rfl gX4_end_X3_putBondFact rfl ⟨rfl, rfl⟩ (by decide +kernel) rfl ⟨by decide, by decide⟩ rfl (Nat.le_of_ble_eq_true rfl) dX4_end_47 ⟨by decide, by decide⟩ ?_
  simp only [sA_sA, sA_eq]
  refine g_iload_n X dX4_end_50 rfl rfl ?_
  exact g_iret X hr hlk dX4_end_51 ⟨rfl, rfl⟩
set_option maxRecDepth 20000 in
theorem t_X4_end_b (l : Launch) (γ : gG) (σ : gS) (y : Int32) (h : y < 0 ∨ σ.1 2 116 ≤ y) : gMX l γ yX4_end wsX4_end ({ frames := 7, cells := 1, slots := 6, locals := 221 } : Room) [.ref (ad γ 0), .int y] σ eB (σ) := by
  refine g_enterX (own := RX4) (cc := cX4_end) (nL := 3) (ret := (some .int)) [some (.ref (ad γ 0)), some (.int y), none] (by decide) rfl rfl (by simp [lg_sl, Value.category]) (by simp [gl_le, glE, Value.category]) (fun hj p e s m args below meth c X C => ?_)
  refine g_aload_n X dX4_end_0 rfl rfl ?_
  refine g_iload_n X dX4_end_1 rfl rfl ?_
  exact g_callVX (na := 1) X C hj _ (t_X4_requireBond l γ _ _ h) gW_0 rfl gX4_end_X4_requireBond rfl ⟨rfl, rfl⟩ (by decide +kernel) rfl ⟨by decide, by decide⟩ rfl (Nat.le_of_ble_eq_true rfl) dX4_end_2 ⟨by decide, by decide⟩ ⟨by decide, by decide⟩
set_option maxRecDepth 20000 in
theorem t_X4_end_r (l : Launch) (γ : gG) (σ : gS) (b N : Nat) (hb : b < N) (hN : σ.1 2 116 = nI N) (hN10 : N ≤ 10) (hru : σ.1 2 (117 + b * 31 + 9) = nI 0) : gMX l γ yX4_end wsX4_end ({ frames := 7, cells := 1, slots := 6, locals := 221 } : Room) [.ref (ad γ 0), .int (nI b)] σ eT (σ) := by
  refine g_enterX (own := RX4) (cc := cX4_end) (nL := 3) (ret := (some .int)) [some (.ref (ad γ 0)), some (.int (nI b)), none] (by decide) rfl rfl (by simp [lg_sl, Value.category]) (by simp [gl_le, glE, Value.category]) (fun hj p e s m args below meth c X C => ?_)
  refine g_aload_n X dX4_end_0 rfl rfl ?_
  refine g_iload_n X dX4_end_1 rfl rfl ?_
  refine g_callVv (na := 1) X hj (k_X4_requireBond l γ _ _ N (by omega) hN hN10) gW_0 rfl gX4_end_X4_requireBond rfl ⟨rfl, rfl⟩ (by decide +kernel) rfl ⟨by decide, by decide⟩ rfl (Nat.le_of_ble_eq_true rfl) dX4_end_2 ⟨by decide, by decide⟩ ?_
  refine g_aload_n X dX4_end_5 rfl rfl ?_
  refine g_iload_n X dX4_end_6 rfl rfl ?_
  exact g_callVX (na := 1) X C hj _ (t_X4_requireRunning l γ _ _ (by omega) hru) gW_0 rfl gX4_end_X4_requireRunning rfl ⟨rfl, rfl⟩ (by decide +kernel) rfl ⟨by decide, by decide⟩ rfl (Nat.le_of_ble_eq_true rfl) dX4_end_7 ⟨by decide, by decide⟩ ⟨by decide, by decide⟩
