/-! LOOKS: pure words -/
/-- nothing but the working-out of a call is another -/
def PQ (σ σ' : gS) : Prop := ∃ (bo pr am bp pd th : Int32) (ca ow mg du bl : Nat → Int32) (re : Nat → Int64), σ' = pyS σ bo pr am bp pd th ca ow mg du bl re
theorem PQ.rf (σ : gS) : PQ σ σ := ⟨_, _, _, _, _, _, _, _, _, _, _, _, (pyS_id σ).symm⟩
theorem py_py (σ : gS) (bo pr am bp pd th : Int32) (ca ow mg du bl : Nat → Int32) (re : Nat → Int64) (bo' pr' am' bp' pd' th' : Int32) (ca' ow' mg' du' bl' : Nat → Int32) (re' : Nat → Int64) :
    pyS (pyS σ bo' pr' am' bp' pd' th' ca' ow' mg' du' bl' re') bo pr am bp pd th ca ow mg du bl re = pyS σ bo pr am bp pd th ca ow mg du bl re := by
  unfold pyS
  refine Prod.ext (funext fun o => ?_) (funext fun o => ?_)
  · dsimp only
    by_cases h16 : o = 16
    · subst h16
      simp only [if_true]
      funext f
      repeat' split
      all_goals rfl
    · simp only [if_neg h16]
      repeat' split
      all_goals rfl
  · dsimp only
    repeat' split
    all_goals rfl
theorem PQ.dr {σ σ' : gS} (h : PQ σ σ') (b prn L : Nat) (x : Int32) : PQ σ (drS σ' b prn L x) := by
  obtain ⟨bo, pr, am, bp, pd, th, ca, ow, mg, du, bl, re, rfl⟩ := h
  unfold drS pyT
  rw [py_py]
  exact ⟨_, _, _, _, _, _, _, _, _, _, _, _, rfl⟩
theorem PQ.c {σ σ' : gS} (h : PQ σ σ') : σ'.1 2 = σ.1 2 := by
  obtain ⟨bo, pr, am, bp, pd, th, ca, ow, mg, du, bl, re, rfl⟩ := h
  rfl
theorem PQ.h {σ σ' : gS} (h : PQ σ σ') : σ'.1 3 = σ.1 3 := by
  obtain ⟨bo, pr, am, bp, pd, th, ca, ow, mg, du, bl, re, rfl⟩ := h
  rfl
theorem PQ.t {σ σ' : gS} (h : PQ σ σ') : σ'.1 11 = σ.1 11 ∧ σ'.1 12 = σ.1 12 := by
  obtain ⟨bo, pr, am, bp, pd, th, ca, ow, mg, du, bl, re, rfl⟩ := h
  exact ⟨rfl, rfl⟩
def perI (v : Nat → Int32) (N : Nat) (L : Nat → Nat) (q w : Nat) : Int32 :=
  if w = 0 then v (q * 6 + 0) else if w = 1 then sumI (fun o => v (48 + q * 8 + o)) 8 else if w = 2 then sumI (fun o => v (48 + o * 8 + q)) 8
  else if w = 3 then boundFor v N L (nI q) else if w = 4 then v (q * 6 + 1) else if w = 5 then v (q * 6 + 2) else if w = 6 then nI (chainI v 8 (v (q * 6 + 1)))
  else if w = 7 then v (q * 6 + 3) else if w = 8 then v (q * 6 + 4) else if w = 9 then v (q * 6 + 5)
  else sumI (fun b => if v (117 + b * 31 + 0) = nI q then v (117 + b * 31 + 9) else nI 0) N
def bonI (v : Nat → Int32) (b L w : Nat) : Int32 := if w = 9 then leftOf v b else if w = 10 then limitsOf v b L else if w = 11 then v (117 + b * 31 + 9) else v (117 + b * 31 + w)
def bsum (v : Nat → Int32) (N k : Nat) : Int32 := sumI (fun b => v (117 + b * 31 + k)) N
def cntI (v : Nat → Int32) (hs : Int32) (N w : Nat) : Int32 :=
  if w = 0 then v 116 else if w = 1 then bsum v N 9 else if w = 2 then sumI (fun q => v (q * 6 + 0)) 8 else if w = 3 then v 115 else if w = 4 then bsum v N 6 else if w = 5 then bsum v N 7
  else if w = 6 then bsum v N 6 - bsum v N 7 else if w = 7 then sumI (fun q => sumI (fun o => v (48 + q * 8 + o)) 8) 8 else if w = 8 then bsum v N 8 else hs

set_option maxRecDepth 20000 in
theorem k_X4_person (l : Launch) (γ : gG) (σ : gS) (q w : Nat) (hq : q < 8) (hw : w ≤ 10) (N : Nat) (L : Nat → Nat) (hS : Sh (σ.1 2) N L) : gM l γ yX4_person wsX4_person ({ frames := 7, cells := 0, slots := 0, locals := 222 } : Room) [.ref (ad γ 0), .int (nI q), .int (nI w)] σ (gis (some (.int (perI (σ.1 2) N L q w))) σ) 0 0 := by
  refine g_enter (own := RX4) (cc := cX4_person) (nL := 3) (ret := (some .int)) [some (.ref (ad γ 0)), some (.int (nI q)), some (.int (nI w))] (by decide) rfl rfl (by simp [lg_sl, Value.category]) (by simp [gl_le, glE, Value.category]) (fun hj p e s m args below meth c X hr hlk hnm => ?_)
  have hi4 : ∀ w ∈ wsX40, w ∈ wsX4_person := by decide +kernel
  refine g_iload_n X dX4_person_0 rfl rfl ?_
  refine g_callSv (na := 1) X hj (k_X4_requirePerson l γ _ _ (by omega)) gX4_person_X4_requirePerson rfl ⟨rfl, rfl⟩ (by decide +kernel) rfl ⟨by decide, by decide⟩ rfl (Nat.le_of_ble_eq_true rfl) dX4_person_1 ⟨by decide, by decide⟩ ?_
  refine g_iload_n X dX4_person_4 rfl rfl ?_
  refine g_iconstN X 0 dX4_person_5 ?_
  refine g_bipush (v := nI 10) X dX4_person_6 (by decide) ?_
  refine g_callSv (na := 3) X hj (k_X4_requireRange l γ _ _ _ _ (nI_le (Nat.zero_le _) (by omega)) (nI_le (by omega) (by decide))) gX4_person_X4_requireRange rfl ⟨rfl, rfl⟩ (by decide +kernel) rfl ⟨by decide, by decide⟩ rfl (Nat.le_of_ble_eq_true rfl) dX4_person_8 ⟨by decide, by decide⟩ ?_
  refine g_iload_n X dX4_person_11 rfl rfl ?_
  rcases (show w = 0 ∨ w = 1 ∨ w = 2 ∨ w = 3 ∨ w = 4 ∨ w = 5 ∨ w = 6 ∨ w = 7 ∨ w = 8 ∨ w = 9 ∨ w = 10 by omega) with rfl | rfl | rfl | rfl | rfl | rfl | rfl | rfl | rfl | rfl | rfl
  · refine g_tableIn (tgt := 68) (off := 56) X dX4_person_12 (by decide) (by decide) rfl (by decide) ?_
    refine g_aload_n X dX4_person_68 rfl rfl ?_
    refine g_get_0_0 X hi4 (by decide +kernel) dX4_person_69 ?_
    refine g_iload_n X dX4_person_72 rfl rfl ?_
    refine g_iconstN X 0 dX4_person_73 ?_
    refine g_callVi (na := 2) X hj (k_X3_fact l γ _ _ _ (by omega)) gW_1 rfl gX4_person_X3_fact rfl ⟨rfl, rfl⟩ (by decide +kernel) rfl ⟨by decide, by decide⟩ rfl (Nat.le_of_ble_eq_true rfl) dX4_person_74 ⟨by decide, by decide⟩ ?_
    exact g_iret X hr hlk dX4_person_77 ⟨rfl, rfl⟩
  · refine g_tableIn (tgt := 78) (off := 66) X dX4_person_12 (by decide) (by decide) rfl (by decide) ?_
    refine g_aload_n X dX4_person_78 rfl rfl ?_
    refine g_get_0_0 X hi4 (by decide +kernel) dX4_person_79 ?_
    refine g_iload_n X dX4_person_82 rfl rfl ?_
    refine g_callVi (na := 1) X hj (k_X3_owedBy l γ _ _ (by omega)) gW_1 rfl gX4_person_X3_owedBy rfl ⟨rfl, rfl⟩ (by decide +kernel) rfl ⟨by decide, by decide⟩ rfl (Nat.le_of_ble_eq_true rfl) dX4_person_83 ⟨by decide, by decide⟩ ?_
    exact g_iret X hr hlk dX4_person_86 ⟨rfl, rfl⟩
  · refine g_tableIn (tgt := 87) (off := 75) X dX4_person_12 (by decide) (by decide) rfl (by decide) ?_
    refine g_aload_n X dX4_person_87 rfl rfl ?_
    refine g_get_0_0 X hi4 (by decide +kernel) dX4_person_88 ?_
    refine g_iload_n X dX4_person_91 rfl rfl ?_
    refine g_callVi (na := 1) X hj (k_X3_owedTo l γ _ _ (by omega)) gW_1 rfl gX4_person_X3_owedTo rfl ⟨rfl, rfl⟩ (by decide +kernel) rfl ⟨by decide, by decide⟩ rfl (Nat.le_of_ble_eq_true rfl) dX4_person_92 ⟨by decide, by decide⟩ ?_
    exact g_iret X hr hlk dX4_person_95 ⟨rfl, rfl⟩
  · refine g_tableIn (tgt := 96) (off := 84) X dX4_person_12 (by decide) (by decide) rfl (by decide) ?_
    refine g_aload_n X dX4_person_96 rfl rfl ?_
    refine g_get_0_0 X hi4 (by decide +kernel) dX4_person_97 ?_
    refine g_iload_n X dX4_person_100 rfl rfl ?_
    refine g_callVi (na := 1) X hj (k_X3_boundFor l γ _ N L _ hS) gW_1 rfl gX4_person_X3_boundFor rfl ⟨rfl, rfl⟩ (by decide +kernel) rfl ⟨by decide, by decide⟩ rfl (Nat.le_of_ble_eq_true rfl) dX4_person_101 ⟨by decide, by decide⟩ ?_
    exact g_iret X hr hlk dX4_person_104 ⟨rfl, rfl⟩
  · refine g_tableIn (tgt := 105) (off := 93) X dX4_person_12 (by decide) (by decide) rfl (by decide) ?_
    refine g_aload_n X dX4_person_105 rfl rfl ?_
    refine g_get_0_0 X hi4 (by decide +kernel) dX4_person_106 ?_
    refine g_iload_n X dX4_person_109 rfl rfl ?_
    refine g_iconstN X 1 dX4_person_110 ?_
    refine g_callVi (na := 2) X hj (k_X3_fact l γ _ _ _ (by omega)) gW_1 rfl gX4_person_X3_fact rfl ⟨rfl, rfl⟩ (by decide +kernel) rfl ⟨by decide, by decide⟩ rfl (Nat.le_of_ble_eq_true rfl) dX4_person_111 ⟨by decide, by decide⟩ ?_
    exact g_iret X hr hlk dX4_person_114 ⟨rfl, rfl⟩
  · refine g_tableIn (tgt := 115) (off := 103) X dX4_person_12 (by decide) (by decide) rfl (by decide) ?_
    refine g_aload_n X dX4_person_115 rfl rfl ?_
    refine g_get_0_0 X hi4 (by decide +kernel) dX4_person_116 ?_
    refine g_iload_n X dX4_person_119 rfl rfl ?_
    refine g_iconstN X 2 dX4_person_120 ?_
    refine g_callVi (na := 2) X hj (k_X3_fact l γ _ _ _ (by omega)) gW_1 rfl gX4_person_X3_fact rfl ⟨rfl, rfl⟩ (by decide +kernel) rfl ⟨by decide, by decide⟩ rfl (Nat.le_of_ble_eq_true rfl) dX4_person_121 ⟨by decide, by decide⟩ ?_
    exact g_iret X hr hlk dX4_person_124 ⟨rfl, rfl⟩
  · refine g_tableIn (tgt := 125) (off := 113) X dX4_person_12 (by decide) (by decide) rfl (by decide) ?_
    refine g_aload_n X dX4_person_125 rfl rfl ?_
    refine g_get_0_0 X hi4 (by decide +kernel) dX4_person_126 ?_
    refine g_iload_n X dX4_person_129 rfl rfl ?_
    refine g_callVi (na := 1) X hj (k_X3_chainLength l γ _ _ (by omega)) gW_1 rfl gX4_person_X3_chainLength rfl ⟨rfl, rfl⟩ (by decide +kernel) rfl ⟨by decide, by decide⟩ rfl (Nat.le_of_ble_eq_true rfl) dX4_person_130 ⟨by decide, by decide⟩ ?_
    exact g_iret X hr hlk dX4_person_133 ⟨rfl, rfl⟩
  · refine g_tableIn (tgt := 134) (off := 122) X dX4_person_12 (by decide) (by decide) rfl (by decide) ?_
    refine g_aload_n X dX4_person_134 rfl rfl ?_
    refine g_get_0_0 X hi4 (by decide +kernel) dX4_person_135 ?_
    refine g_iload_n X dX4_person_138 rfl rfl ?_
    refine g_iconstN X 3 dX4_person_139 ?_
    refine g_callVi (na := 2) X hj (k_X3_fact l γ _ _ _ (by omega)) gW_1 rfl gX4_person_X3_fact rfl ⟨rfl, rfl⟩ (by decide +kernel) rfl ⟨by decide, by decide⟩ rfl (Nat.le_of_ble_eq_true rfl) dX4_person_140 ⟨by decide, by decide⟩ ?_
    exact g_iret X hr hlk dX4_person_143 ⟨rfl, rfl⟩
  · refine g_tableIn (tgt := 144) (off := 132) X dX4_person_12 (by decide) (by decide) rfl (by decide) ?_
    refine g_aload_n X dX4_person_144 rfl rfl ?_
    refine g_get_0_0 X hi4 (by decide +kernel) dX4_person_145 ?_
    refine g_iload_n X dX4_person_148 rfl rfl ?_
    refine g_iconstN X 4 dX4_person_149 ?_
    refine g_callVi (na := 2) X hj (k_X3_fact l γ _ _ _ (by omega)) gW_1 rfl gX4_person_X3_fact rfl ⟨rfl, rfl⟩ (by decide +kernel) rfl ⟨by decide, by decide⟩ rfl (Nat.le_of_ble_eq_true rfl) dX4_person_150 ⟨by decide, by decide⟩ ?_
    exact g_iret X hr hlk dX4_person_153 ⟨rfl, rfl⟩
  · refine g_tableIn (tgt := 154) (off := 142) X dX4_person_12 (by decide) (by decide) rfl (by decide) ?_
    refine g_aload_n X dX4_person_154 rfl rfl ?_
    refine g_get_0_0 X hi4 (by decide +kernel) dX4_person_155 ?_
    refine g_iload_n X dX4_person_158 rfl rfl ?_
    refine g_iconstN X 5 dX4_person_159 ?_
    refine g_callVi (na := 2) X hj (k_X3_fact l γ _ _ _ (by omega)) gW_1 rfl gX4_person_X3_fact rfl ⟨rfl, rfl⟩ (by decide +kernel) rfl ⟨by decide, by decide⟩ rfl (Nat.le_of_ble_eq_true rfl) dX4_person_160 ⟨by decide, by decide⟩ ?_
    exact g_iret X hr hlk dX4_person_163 ⟨rfl, rfl⟩
  · refine g_tableOut (tgt := 164) X dX4_person_12 (by decide) (by decide) ?_
    refine g_aload_n X dX4_person_164 rfl rfl ?_
    refine g_get_0_0 X hi4 (by decide +kernel) dX4_person_165 ?_
    refine g_iload_n X dX4_person_168 rfl rfl ?_
    refine g_callVi (na := 1) X hj (k_X3_runningBondsOf l γ _ N _ hS.1 hS.2.1) gW_1 rfl gX4_person_X3_runningBondsOf rfl ⟨rfl, rfl⟩ (by decide +kernel) rfl ⟨by decide, by decide⟩ rfl (Nat.le_of_ble_eq_true rfl) dX4_person_169 ⟨by decide, by decide⟩ ?_
    exact g_iret X hr hlk dX4_person_172 ⟨rfl, rfl⟩
set_option maxRecDepth 20000 in
theorem t_X4_person_p (l : Launch) (γ : gG) (σ : gS) (y w : Int32) (h : isPb y = false) : gMX l γ yX4_person wsX4_person ({ frames := 7, cells := 1, slots := 6, locals := 222 } : Room) [.ref (ad γ 0), .int y, .int w] σ eB (σ) := by
  refine g_enterX (own := RX4) (cc := cX4_person) (nL := 3) (ret := (some .int)) [some (.ref (ad γ 0)), some (.int y), some (.int w)] (by decide) rfl rfl (by simp [lg_sl, Value.category]) (by simp [gl_le, glE, Value.category]) (fun hj p e s m args below meth c X C => ?_)
  refine g_iload_n X dX4_person_0 rfl rfl ?_
  exact g_callSX (na := 1) X C hj _ (t_X4_requirePerson l γ _ _ h) gX4_person_X4_requirePerson rfl ⟨rfl, rfl⟩ (by decide +kernel) rfl ⟨by decide, by decide⟩ rfl (Nat.le_of_ble_eq_true rfl) dX4_person_1 ⟨by decide, by decide⟩ ⟨by decide, by decide⟩
set_option maxRecDepth 20000 in
theorem t_X4_person_w (l : Launch) (γ : gG) (σ : gS) (q : Nat) (w : Int32) (hq : q < 8) (h : w < nI 0 ∨ nI 10 < w) : gMX l γ yX4_person wsX4_person ({ frames := 7, cells := 1, slots := 6, locals := 222 } : Room) [.ref (ad γ 0), .int (nI q), .int w] σ eA (σ) := by
  refine g_enterX (own := RX4) (cc := cX4_person) (nL := 3) (ret := (some .int)) [some (.ref (ad γ 0)), some (.int (nI q)), some (.int w)] (by decide) rfl rfl (by simp [lg_sl, Value.category]) (by simp [gl_le, glE, Value.category]) (fun hj p e s m args below meth c X C => ?_)
  refine g_iload_n X dX4_person_0 rfl rfl ?_
  refine g_callSv (na := 1) X hj (k_X4_requirePerson l γ _ _ (by omega)) gX4_person_X4_requirePerson rfl ⟨rfl, rfl⟩ (by decide +kernel) rfl ⟨by decide, by decide⟩ rfl (Nat.le_of_ble_eq_true rfl) dX4_person_1 ⟨by decide, by decide⟩ ?_
  refine g_iload_n X dX4_person_4 rfl rfl ?_
  refine g_iconstN X 0 dX4_person_5 ?_
  refine g_bipush (v := nI 10) X dX4_person_6 (by decide) ?_
  exact g_callSX (na := 3) X C hj _ (t_X4_requireRange l γ _ _ _ _ h) gX4_person_X4_requireRange rfl ⟨rfl, rfl⟩ (by decide +kernel) rfl ⟨by decide, by decide⟩ rfl (Nat.le_of_ble_eq_true rfl) dX4_person_8 ⟨by decide, by decide⟩ ⟨by decide, by decide⟩
set_option maxRecDepth 20000 in
theorem k_X4_bond (l : Launch) (γ : gG) (σ : gS) (b w N L : Nat) (hb : b < N) (hN : σ.1 2 116 = nI N) (hN10 : N ≤ 10) (hw : w ≤ 11) (hL : σ.1 2 (117 + b * 31 + 3) = nI L) (hL4 : L ≤ 4) : gM l γ yX4_bond wsX4_bond ({ frames := 7, cells := 0, slots := 0, locals := 222 } : Room) [.ref (ad γ 0), .int (nI b), .int (nI w)] σ (gis (some (.int (bonI (σ.1 2) b L w))) σ) 0 0 := by
  refine g_enter (own := RX4) (cc := cX4_bond) (nL := 3) (ret := (some .int)) [some (.ref (ad γ 0)), some (.int (nI b)), some (.int (nI w))] (by decide) rfl rfl (by simp [lg_sl, Value.category]) (by simp [gl_le, glE, Value.category]) (fun hj p e s m args below meth c X hr hlk hnm => ?_)
  have hi4 : ∀ w ∈ wsX40, w ∈ wsX4_bond := by decide +kernel
  refine g_aload_n X dX4_bond_0 rfl rfl ?_
  refine g_iload_n X dX4_bond_1 rfl rfl ?_
  refine g_callVv (na := 1) X hj (k_X4_requireBond l γ _ _ N (by omega) hN hN10) gW_0 rfl gX4_bond_X4_requireBond rfl ⟨rfl, rfl⟩ (by decide +kernel) rfl ⟨by decide, by decide⟩ rfl (Nat.le_of_ble_eq_true rfl) dX4_bond_2 ⟨by decide, by decide⟩ ?_
  refine g_iload_n X dX4_bond_5 rfl rfl ?_
  refine g_iconstN X 0 dX4_bond_6 ?_
  refine g_bipush (v := nI 11) X dX4_bond_7 (by decide) ?_
  refine g_callSv (na := 3) X hj (k_X4_requireRange l γ _ _ _ _ (nI_le (Nat.zero_le _) (by omega)) (nI_le (by omega) (by decide))) gX4_bond_X4_requireRange rfl ⟨rfl, rfl⟩ (by decide +kernel) rfl ⟨by decide, by decide⟩ rfl (Nat.le_of_ble_eq_true rfl) dX4_bond_9 ⟨by decide, by decide⟩ ?_
  refine g_iload_n X dX4_bond_12 rfl rfl ?_
  rcases (show w = 0 ∨ w = 1 ∨ w = 2 ∨ w = 3 ∨ w = 4 ∨ w = 5 ∨ w = 6 ∨ w = 7 ∨ w = 8 ∨ w = 9 ∨ w = 10 ∨ w = 11 by omega) with rfl | rfl | rfl | rfl | rfl | rfl | rfl | rfl | rfl | rfl | rfl | rfl
  · refine g_tableOut (tgt := 69) X dX4_bond_13 (by decide) (by decide) ?_
    refine g_aload_n X dX4_bond_69 rfl rfl ?_
    refine g_get_0_0 X hi4 (by decide +kernel) dX4_bond_70 ?_
    refine g_iload_n X dX4_bond_73 rfl rfl ?_
    refine g_iload_n X dX4_bond_74 rfl rfl ?_
    refine g_callVi (na := 2) X hj (k_X3_bondFact l γ _ _ _ (by omega)) gW_1 rfl gX4_bond_X3_bondFact rfl ⟨rfl, rfl⟩ (by decide +kernel) rfl ⟨by decide, by decide⟩ rfl (Nat.le_of_ble_eq_true rfl) dX4_bond_75 ⟨by decide, by decide⟩ ?_
    exact g_iret X hr hlk dX4_bond_78 ⟨rfl, rfl⟩
  · refine g_tableOut (tgt := 69) X dX4_bond_13 (by decide) (by decide) ?_
    refine g_aload_n X dX4_bond_69 rfl rfl ?_
    refine g_get_0_0 X hi4 (by decide +kernel) dX4_bond_70 ?_
    refine g_iload_n X dX4_bond_73 rfl rfl ?_
    refine g_iload_n X dX4_bond_74 rfl rfl ?_
    refine g_callVi (na := 2) X hj (k_X3_bondFact l γ _ _ _ (by omega)) gW_1 rfl gX4_bond_X3_bondFact rfl ⟨rfl, rfl⟩ (by decide +kernel) rfl ⟨by decide, by decide⟩ rfl (Nat.le_of_ble_eq_true rfl) dX4_bond_75 ⟨by decide, by decide⟩ ?_
    exact g_iret X hr hlk dX4_bond_78 ⟨rfl, rfl⟩
  · refine g_tableOut (tgt := 69) X dX4_bond_13 (by decide) (by decide) ?_
    refine g_aload_n X dX4_bond_69 rfl rfl ?_
    refine g_get_0_0 X hi4 (by decide +kernel) dX4_bond_70 ?_
    refine g_iload_n X dX4_bond_73 rfl rfl ?_
    refine g_iload_n X dX4_bond_74 rfl rfl ?_
    refine g_callVi (na := 2) X hj (k_X3_bondFact l γ _ _ _ (by omega)) gW_1 rfl gX4_bond_X3_bondFact rfl ⟨rfl, rfl⟩ (by decide +kernel) rfl ⟨by decide, by decide⟩ rfl (Nat.le_of_ble_eq_true rfl) dX4_bond_75 ⟨by decide, by decide⟩ ?_
    exact g_iret X hr hlk dX4_bond_78 ⟨rfl, rfl⟩
  · refine g_tableOut (tgt := 69) X dX4_bond_13 (by decide) (by decide) ?_
    refine g_aload_n X dX4_bond_69 rfl rfl ?_
    refine g_get_0_0 X hi4 (by decide +kernel) dX4_bond_70 ?_
    refine g_iload_n X dX4_bond_73 rfl rfl ?_
    refine g_iload_n X dX4_bond_74 rfl rfl ?_
    refine g_callVi (na := 2) X hj (k_X3_bondFact l γ _ _ _ (by omega)) gW_1 rfl gX4_bond_X3_bondFact rfl ⟨rfl, rfl⟩ (by decide +kernel) rfl ⟨by decide, by decide⟩ rfl (Nat.le_of_ble_eq_true rfl) dX4_bond_75 ⟨by decide, by decide⟩ ?_
    exact g_iret X hr hlk dX4_bond_78 ⟨rfl, rfl⟩
  · refine g_tableOut (tgt := 69) X dX4_bond_13 (by decide) (by decide) ?_
    refine g_aload_n X dX4_bond_69 rfl rfl ?_
    refine g_get_0_0 X hi4 (by decide +kernel) dX4_bond_70 ?_
    refine g_iload_n X dX4_bond_73 rfl rfl ?_
    refine g_iload_n X dX4_bond_74 rfl rfl ?_
    refine g_callVi (na := 2) X hj (k_X3_bondFact l γ _ _ _ (by omega)) gW_1 rfl gX4_bond_X3_bondFact rfl ⟨rfl, rfl⟩ (by decide +kernel) rfl ⟨by decide, by decide⟩ rfl (Nat.le_of_ble_eq_true rfl) dX4_bond_75 ⟨by decide, by decide⟩ ?_
    exact g_iret X hr hlk dX4_bond_78 ⟨rfl, rfl⟩
  · refine g_tableOut (tgt := 69) X dX4_bond_13 (by decide) (by decide) ?_
    refine g_aload_n X dX4_bond_69 rfl rfl ?_
    refine g_get_0_0 X hi4 (by decide +kernel) dX4_bond_70 ?_
    refine g_iload_n X dX4_bond_73 rfl rfl ?_
    refine g_iload_n X dX4_bond_74 rfl rfl ?_
    refine g_callVi (na := 2) X hj (k_X3_bondFact l γ _ _ _ (by omega)) gW_1 rfl gX4_bond_X3_bondFact rfl ⟨rfl, rfl⟩ (by decide +kernel) rfl ⟨by decide, by decide⟩ rfl (Nat.le_of_ble_eq_true rfl) dX4_bond_75 ⟨by decide, by decide⟩ ?_
    exact g_iret X hr hlk dX4_bond_78 ⟨rfl, rfl⟩
  · refine g_tableOut (tgt := 69) X dX4_bond_13 (by decide) (by decide) ?_
    refine g_aload_n X dX4_bond_69 rfl rfl ?_
    refine g_get_0_0 X hi4 (by decide +kernel) dX4_bond_70 ?_
    refine g_iload_n X dX4_bond_73 rfl rfl ?_
    refine g_iload_n X dX4_bond_74 rfl rfl ?_
    refine g_callVi (na := 2) X hj (k_X3_bondFact l γ _ _ _ (by omega)) gW_1 rfl gX4_bond_X3_bondFact rfl ⟨rfl, rfl⟩ (by decide +kernel) rfl ⟨by decide, by decide⟩ rfl (Nat.le_of_ble_eq_true rfl) dX4_bond_75 ⟨by decide, by decide⟩ ?_
    exact g_iret X hr hlk dX4_bond_78 ⟨rfl, rfl⟩
  · refine g_tableOut (tgt := 69) X dX4_bond_13 (by decide) (by decide) ?_
    refine g_aload_n X dX4_bond_69 rfl rfl ?_
    refine g_get_0_0 X hi4 (by decide +kernel) dX4_bond_70 ?_
    refine g_iload_n X dX4_bond_73 rfl rfl ?_
    refine g_iload_n X dX4_bond_74 rfl rfl ?_
    refine g_callVi (na := 2) X hj (k_X3_bondFact l γ _ _ _ (by omega)) gW_1 rfl gX4_bond_X3_bondFact rfl ⟨rfl, rfl⟩ (by decide +kernel) rfl ⟨by decide, by decide⟩ rfl (Nat.le_of_ble_eq_true rfl) dX4_bond_75 ⟨by decide, by decide⟩ ?_
    exact g_iret X hr hlk dX4_bond_78 ⟨rfl, rfl⟩
  · refine g_tableOut (tgt := 69) X dX4_bond_13 (by decide) (by decide) ?_
    refine g_aload_n X dX4_bond_69 rfl rfl ?_
    refine g_get_0_0 X hi4 (by decide +kernel) dX4_bond_70 ?_
    refine g_iload_n X dX4_bond_73 rfl rfl ?_
    refine g_iload_n X dX4_bond_74 rfl rfl ?_
    refine g_callVi (na := 2) X hj (k_X3_bondFact l γ _ _ _ (by omega)) gW_1 rfl gX4_bond_X3_bondFact rfl ⟨rfl, rfl⟩ (by decide +kernel) rfl ⟨by decide, by decide⟩ rfl (Nat.le_of_ble_eq_true rfl) dX4_bond_75 ⟨by decide, by decide⟩ ?_
    exact g_iret X hr hlk dX4_bond_78 ⟨rfl, rfl⟩
  · refine g_tableIn (tgt := 40) (off := 27) X dX4_bond_13 (by decide) (by decide) rfl (by decide) ?_
    refine g_aload_n X dX4_bond_40 rfl rfl ?_
    refine g_get_0_0 X hi4 (by decide +kernel) dX4_bond_41 ?_
    refine g_iload_n X dX4_bond_44 rfl rfl ?_
    refine g_callVi (na := 1) X hj (k_X3_leftOfBond l γ _ _ (by omega)) gW_1 rfl gX4_bond_X3_leftOfBond rfl ⟨rfl, rfl⟩ (by decide +kernel) rfl ⟨by decide, by decide⟩ rfl (Nat.le_of_ble_eq_true rfl) dX4_bond_45 ⟨by decide, by decide⟩ ?_
    exact g_iret X hr hlk dX4_bond_48 ⟨rfl, rfl⟩
  · refine g_tableIn (tgt := 49) (off := 36) X dX4_bond_13 (by decide) (by decide) rfl (by decide) ?_
    refine g_aload_n X dX4_bond_49 rfl rfl ?_
    refine g_get_0_0 X hi4 (by decide +kernel) dX4_bond_50 ?_
    refine g_iload_n X dX4_bond_53 rfl rfl ?_
    refine g_callVi (na := 1) X hj (k_X3_leftOfLimits l γ _ _ L (by omega) hL hL4) gW_1 rfl gX4_bond_X3_leftOfLimits rfl ⟨rfl, rfl⟩ (by decide +kernel) rfl ⟨by decide, by decide⟩ rfl (Nat.le_of_ble_eq_true rfl) dX4_bond_54 ⟨by decide, by decide⟩ ?_
    exact g_iret X hr hlk dX4_bond_57 ⟨rfl, rfl⟩
  · refine g_tableIn (tgt := 58) (off := 45) X dX4_bond_13 (by decide) (by decide) rfl (by decide) ?_
    refine g_aload_n X dX4_bond_58 rfl rfl ?_
    refine g_get_0_0 X hi4 (by decide +kernel) dX4_bond_59 ?_
    refine g_iload_n X dX4_bond_62 rfl rfl ?_
    refine g_bipush (v := nI 9) X dX4_bond_63 (by decide) ?_
    refine g_callVi (na := 2) X hj (k_X3_bondFact l γ _ _ _ (by omega)) gW_1 rfl gX4_bond_X3_bondFact rfl ⟨rfl, rfl⟩ (by decide +kernel) rfl ⟨by decide, by decide⟩ rfl (Nat.le_of_ble_eq_true rfl) dX4_bond_65 ⟨by decide, by decide⟩ ?_
    exact g_iret X hr hlk dX4_bond_68 ⟨rfl, rfl⟩
set_option maxRecDepth 20000 in
theorem t_X4_bond_b (l : Launch) (γ : gG) (σ : gS) (y w : Int32) (h : y < 0 ∨ σ.1 2 116 ≤ y) : gMX l γ yX4_bond wsX4_bond ({ frames := 7, cells := 1, slots := 6, locals := 222 } : Room) [.ref (ad γ 0), .int y, .int w] σ eB (σ) := by
  refine g_enterX (own := RX4) (cc := cX4_bond) (nL := 3) (ret := (some .int)) [some (.ref (ad γ 0)), some (.int y), some (.int w)] (by decide) rfl rfl (by simp [lg_sl, Value.category]) (by simp [gl_le, glE, Value.category]) (fun hj p e s m args below meth c X C => ?_)
  refine g_aload_n X dX4_bond_0 rfl rfl ?_
  refine g_iload_n X dX4_bond_1 rfl rfl ?_
  exact g_callVX (na := 1) X C hj _ (t_X4_requireBond l γ _ _ h) gW_0 rfl gX4_bond_X4_requireBond rfl ⟨rfl, rfl⟩ (by decide +kernel) rfl ⟨by decide, by decide⟩ rfl (Nat.le_of_ble_eq_true rfl) dX4_bond_2 ⟨by decide, by decide⟩ ⟨by decide, by decide⟩
set_option maxRecDepth 20000 in
theorem t_X4_bond_w (l : Launch) (γ : gG) (σ : gS) (w : Int32) (b N : Nat) (hb : b < N) (hN : σ.1 2 116 = nI N) (hN10 : N ≤ 10) (h : w < nI 0 ∨ nI 11 < w) : gMX l γ yX4_bond wsX4_bond ({ frames := 7, cells := 1, slots := 6, locals := 222 } : Room) [.ref (ad γ 0), .int (nI b), .int w] σ eA (σ) := by
  refine g_enterX (own := RX4) (cc := cX4_bond) (nL := 3) (ret := (some .int)) [some (.ref (ad γ 0)), some (.int (nI b)), some (.int w)] (by decide) rfl rfl (by simp [lg_sl, Value.category]) (by simp [gl_le, glE, Value.category]) (fun hj p e s m args below meth c X C => ?_)
  refine g_aload_n X dX4_bond_0 rfl rfl ?_
  refine g_iload_n X dX4_bond_1 rfl rfl ?_
  refine g_callVv (na := 1) X hj (k_X4_requireBond l γ _ _ N (by omega) hN hN10) gW_0 rfl gX4_bond_X4_requireBond rfl ⟨rfl, rfl⟩ (by decide +kernel) rfl ⟨by decide, by decide⟩ rfl (Nat.le_of_ble_eq_true rfl) dX4_bond_2 ⟨by decide, by decide⟩ ?_
  refine g_iload_n X dX4_bond_5 rfl rfl ?_
  refine g_iconstN X 0 dX4_bond_6 ?_
  refine g_bipush (v := nI 11) X dX4_bond_7 (by decide) ?_
  exact g_callSX (na := 3) X C hj _ (t_X4_requireRange l γ _ _ _ _ h) gX4_bond_X4_requireRange rfl ⟨rfl, rfl⟩ (by decide +kernel) rfl ⟨by decide, by decide⟩ rfl (Nat.le_of_ble_eq_true rfl) dX4_bond_9 ⟨by decide, by decide⟩ ⟨by decide, by decide⟩
set_option maxRecDepth 20000 in
theorem k_X4_layer (l : Launch) (γ : gG) (σ : gS) (b k w N L : Nat) (hb : b < N) (hN : σ.1 2 116 = nI N) (hN10 : N ≤ 10) (hk : k < L) (hw : w ≤ 3) (hL : σ.1 2 (117 + b * 31 + 3) = nI L) (hL4 : L ≤ 4) : gM l γ yX4_layer wsX4_layer ({ frames := 7, cells := 0, slots := 0, locals := 222 } : Room) [.ref (ad γ 0), .int (nI b), .int (nI k), .int (nI w)] σ (gis (some (.int (σ.1 2 (117 + b * 31 + 15 + k * 4 + w)))) σ) 0 0 := by
  refine g_enter (own := RX4) (cc := cX4_layer) (nL := 4) (ret := (some .int)) [some (.ref (ad γ 0)), some (.int (nI b)), some (.int (nI k)), some (.int (nI w))] (by decide) rfl rfl (by simp [lg_sl, Value.category]) (by simp [gl_le, glE, Value.category]) (fun hj p e s m args below meth c X hr hlk hnm => ?_)
  have hi4 : ∀ w ∈ wsX40, w ∈ wsX4_layer := by decide +kernel
  refine g_aload_n X dX4_layer_0 rfl rfl ?_
  refine g_iload_n X dX4_layer_1 rfl rfl ?_
  refine g_callVv (na := 1) X hj (k_X4_requireBond l γ _ _ N (by omega) hN hN10) gW_0 rfl gX4_layer_X4_requireBond rfl ⟨rfl, rfl⟩ (by decide +kernel) rfl ⟨by decide, by decide⟩ rfl (Nat.le_of_ble_eq_true rfl) dX4_layer_2 ⟨by decide, by decide⟩ ?_
  refine g_iload_n X dX4_layer_5 rfl rfl ?_
  refine g_if_lt (tgt := 22) X dX4_layer_6 (by decide) (fun c_6 => absurd c_6 (nI_pos (by omega))) (fun c_6 => ?_)
  refine g_iload_n X dX4_layer_9 rfl rfl ?_
  refine g_aload_n X dX4_layer_10 rfl rfl ?_
  refine g_get_0_0 X hi4 (by decide +kernel) dX4_layer_11 ?_
  refine g_iload_n X dX4_layer_14 rfl rfl ?_
  refine g_iconstN X 3 dX4_layer_15 ?_
  refine g_callVi (na := 2) X hj (k_X3_bondFact l γ _ _ _ (by omega)) gW_1 rfl gX4_layer_X3_bondFact rfl ⟨rfl, rfl⟩ (by decide +kernel) rfl ⟨by decide, by decide⟩ rfl (Nat.le_of_ble_eq_true rfl) dX4_layer_16 ⟨by decide, by decide⟩ ?_
  refine g_top (y := nI L) hL ?_
  refine g_icmpN_lt (tgt := 32) X dX4_layer_19 (by decide) (by omega) (by omega) (fun c_19 => ?_) (fun c_19 => absurd hk (by omega))
  refine g_iload_n X dX4_layer_32 rfl rfl ?_
  refine g_iconstN X 0 dX4_layer_33 ?_
  refine g_iconstN X 3 dX4_layer_34 ?_
  refine g_callSv (na := 3) X hj (k_X4_requireRange l γ _ _ _ _ (nI_le (Nat.zero_le _) (by omega)) (nI_le (by omega) (by decide))) gX4_layer_X4_requireRange rfl ⟨rfl, rfl⟩ (by decide +kernel) rfl ⟨by decide, by decide⟩ rfl (Nat.le_of_ble_eq_true rfl) dX4_layer_35 ⟨by decide, by decide⟩ ?_
  refine g_aload_n X dX4_layer_38 rfl rfl ?_
  refine g_get_0_0 X hi4 (by decide +kernel) dX4_layer_39 ?_
  refine g_iload_n X dX4_layer_42 rfl rfl ?_
  refine g_iload_n X dX4_layer_43 rfl rfl ?_
  refine g_iload_n X dX4_layer_44 rfl rfl ?_
  refine g_callVi (na := 3) X hj (k_X3_layerFact l γ _ _ _ _ (by omega) (by omega) (by omega)) gW_1 rfl gX4_layer_X3_layerFact rfl ⟨rfl, rfl⟩ (by decide +kernel) rfl ⟨by decide, by decide⟩ rfl (Nat.le_of_ble_eq_true rfl) dX4_layer_45 ⟨by decide, by decide⟩ ?_
  exact g_iret X hr hlk dX4_layer_48 ⟨rfl, rfl⟩
set_option maxRecDepth 20000 in
theorem t_X4_layer_b (l : Launch) (γ : gG) (σ : gS) (y k w : Int32) (h : y < 0 ∨ σ.1 2 116 ≤ y) : gMX l γ yX4_layer wsX4_layer ({ frames := 7, cells := 1, slots := 6, locals := 222 } : Room) [.ref (ad γ 0), .int y, .int k, .int w] σ eB (σ) := by
  refine g_enterX (own := RX4) (cc := cX4_layer) (nL := 4) (ret := (some .int)) [some (.ref (ad γ 0)), some (.int y), some (.int k), some (.int w)] (by decide) rfl rfl (by simp [lg_sl, Value.category]) (by simp [gl_le, glE, Value.category]) (fun hj p e s m args below meth c X C => ?_)
  refine g_aload_n X dX4_layer_0 rfl rfl ?_
  refine g_iload_n X dX4_layer_1 rfl rfl ?_
  exact g_callVX (na := 1) X C hj _ (t_X4_requireBond l γ _ _ h) gW_0 rfl gX4_layer_X4_requireBond rfl ⟨rfl, rfl⟩ (by decide +kernel) rfl ⟨by decide, by decide⟩ rfl (Nat.le_of_ble_eq_true rfl) dX4_layer_2 ⟨by decide, by decide⟩ ⟨by decide, by decide⟩
set_option maxRecDepth 20000 in
theorem t_X4_layer_k (l : Launch) (γ : gG) (σ : gS) (k w : Int32) (b N : Nat) (hb : b < N) (hN : σ.1 2 116 = nI N) (hN10 : N ≤ 10) (h : k < 0 ∨ σ.1 2 (117 + b * 31 + 3) ≤ k) : gMX l γ yX4_layer wsX4_layer ({ frames := 7, cells := 1, slots := 6, locals := 222 } : Room) [.ref (ad γ 0), .int (nI b), .int k, .int w] σ eB (σ) := by
  refine g_enterX (own := RX4) (cc := cX4_layer) (nL := 4) (ret := (some .int)) [some (.ref (ad γ 0)), some (.int (nI b)), some (.int k), some (.int w)] (by decide) rfl rfl (by simp [lg_sl, Value.category]) (by simp [gl_le, glE, Value.category]) (fun hj p e s m args below meth c X C => ?_)
  have hin_B : ∀ w ∈ Cond.classLink RX4 214 eB :: Cond.initialized eB :: (vx_atS RX4 218 eB eN).filter goodWord, w ∈ wsX4_layer := by decide +kernel
  have hi4 : ∀ w ∈ wsX40, w ∈ wsX4_layer := by decide +kernel
  refine g_aload_n X dX4_layer_0 rfl rfl ?_
  refine g_iload_n X dX4_layer_1 rfl rfl ?_
  refine g_callVv (na := 1) X hj (k_X4_requireBond l γ _ _ N (by omega) hN hN10) gW_0 rfl gX4_layer_X4_requireBond rfl ⟨rfl, rfl⟩ (by decide +kernel) rfl ⟨by decide, by decide⟩ rfl (Nat.le_of_ble_eq_true rfl) dX4_layer_2 ⟨by decide, by decide⟩ ?_
  refine g_iload_n X dX4_layer_5 rfl rfl ?_
  refine g_if_lt (tgt := 22) X dX4_layer_6 (by decide) (fun c_6 => ?_) (fun c_6 => ?_)
  · exact g_throw (names := eN) (htx := g_tx216) X C fit_B ot_B hin_B ng_B dX4_layer_22 dX4_layer_25 dX4_layer_26 dX4_layer_28 dX4_layer_31 ⟨by decide, by decide, by decide, by decide⟩ ⟨by decide, by decide⟩
  · refine g_iload_n X dX4_layer_9 rfl rfl ?_
    refine g_aload_n X dX4_layer_10 rfl rfl ?_
    refine g_get_0_0 X hi4 (by decide +kernel) dX4_layer_11 ?_
    refine g_iload_n X dX4_layer_14 rfl rfl ?_
    refine g_iconstN X 3 dX4_layer_15 ?_
    refine g_callVi (na := 2) X hj (k_X3_bondFact l γ _ _ _ (by omega)) gW_1 rfl gX4_layer_X3_bondFact rfl ⟨rfl, rfl⟩ (by decide +kernel) rfl ⟨by decide, by decide⟩ rfl (Nat.le_of_ble_eq_true rfl) dX4_layer_16 ⟨by decide, by decide⟩ ?_
    refine g_icmp_lt (tgt := 32) X dX4_layer_19 (by decide) (fun c_19 => h.elim (fun q => absurd q c_6) (fun q => absurd c_19 (Int32.not_lt.mpr q))) (fun c_19 => ?_)
    exact g_throw (names := eN) (htx := g_tx216) X C fit_B ot_B hin_B ng_B dX4_layer_22 dX4_layer_25 dX4_layer_26 dX4_layer_28 dX4_layer_31 ⟨by decide, by decide, by decide, by decide⟩ ⟨by decide, by decide⟩
set_option maxRecDepth 20000 in
theorem t_X4_layer_w (l : Launch) (γ : gG) (σ : gS) (k L : Nat) (w : Int32) (b N : Nat) (hb : b < N) (hN : σ.1 2 116 = nI N) (hN10 : N ≤ 10) (hk : k < L) (hL : σ.1 2 (117 + b * 31 + 3) = nI L) (hL4 : L ≤ 4) (h : w < nI 0 ∨ nI 3 < w) : gMX l γ yX4_layer wsX4_layer ({ frames := 7, cells := 1, slots := 6, locals := 222 } : Room) [.ref (ad γ 0), .int (nI b), .int (nI k), .int w] σ eA (σ) := by
  refine g_enterX (own := RX4) (cc := cX4_layer) (nL := 4) (ret := (some .int)) [some (.ref (ad γ 0)), some (.int (nI b)), some (.int (nI k)), some (.int w)] (by decide) rfl rfl (by simp [lg_sl, Value.category]) (by simp [gl_le, glE, Value.category]) (fun hj p e s m args below meth c X C => ?_)
  have hi4 : ∀ w ∈ wsX40, w ∈ wsX4_layer := by decide +kernel
  refine g_aload_n X dX4_layer_0 rfl rfl ?_
  refine g_iload_n X dX4_layer_1 rfl rfl ?_
  refine g_callVv (na := 1) X hj (k_X4_requireBond l γ _ _ N (by omega) hN hN10) gW_0 rfl gX4_layer_X4_requireBond rfl ⟨rfl, rfl⟩ (by decide +kernel) rfl ⟨by decide, by decide⟩ rfl (Nat.le_of_ble_eq_true rfl) dX4_layer_2 ⟨by decide, by decide⟩ ?_
  refine g_iload_n X dX4_layer_5 rfl rfl ?_
  refine g_if_lt (tgt := 22) X dX4_layer_6 (by decide) (fun c_6 => absurd c_6 (nI_pos (by omega))) (fun c_6 => ?_)
  refine g_iload_n X dX4_layer_9 rfl rfl ?_
  refine g_aload_n X dX4_layer_10 rfl rfl ?_
  refine g_get_0_0 X hi4 (by decide +kernel) dX4_layer_11 ?_
  refine g_iload_n X dX4_layer_14 rfl rfl ?_
  refine g_iconstN X 3 dX4_layer_15 ?_
  refine g_callVi (na := 2) X hj (k_X3_bondFact l γ _ _ _ (by omega)) gW_1 rfl gX4_layer_X3_bondFact rfl ⟨rfl, rfl⟩ (by decide +kernel) rfl ⟨by decide, by decide⟩ rfl (Nat.le_of_ble_eq_true rfl) dX4_layer_16 ⟨by decide, by decide⟩ ?_
  refine g_top (y := nI L) hL ?_
  refine g_icmpN_lt (tgt := 32) X dX4_layer_19 (by decide) (by omega) (by omega) (fun c_19 => ?_) (fun c_19 => absurd hk (by omega))
  refine g_iload_n X dX4_layer_32 rfl rfl ?_
  refine g_iconstN X 0 dX4_layer_33 ?_
  refine g_iconstN X 3 dX4_layer_34 ?_
  exact g_callSX (na := 3) X C hj _ (t_X4_requireRange l γ _ _ _ _ h) gX4_layer_X4_requireRange rfl ⟨rfl, rfl⟩ (by decide +kernel) rfl ⟨by decide, by decide⟩ rfl (Nat.le_of_ble_eq_true rfl) dX4_layer_35 ⟨by decide, by decide⟩ ⟨by decide, by decide⟩
set_option maxRecDepth 20000 in
theorem k_X4_debt (l : Launch) (γ : gG) (σ : gS) (q o : Nat) (hq : q < 8) (ho : o < 8) : gM l γ yX4_debt wsX4_debt ({ frames := 7, cells := 0, slots := 0, locals := 220 } : Room) [.ref (ad γ 0), .int (nI q), .int (nI o)] σ (gis (some (.int (σ.1 2 (48 + q * 8 + o)))) σ) 0 0 := by
  refine g_enter (own := RX4) (cc := cX4_debt) (nL := 3) (ret := (some .int)) [some (.ref (ad γ 0)), some (.int (nI q)), some (.int (nI o))] (by decide) rfl rfl (by simp [lg_sl, Value.category]) (by simp [gl_le, glE, Value.category]) (fun hj p e s m args below meth c X hr hlk hnm => ?_)
  have hi4 : ∀ w ∈ wsX40, w ∈ wsX4_debt := by decide +kernel
  refine g_iload_n X dX4_debt_0 rfl rfl ?_
  refine g_callSv (na := 1) X hj (k_X4_requirePerson l γ _ _ (by omega)) gX4_debt_X4_requirePerson rfl ⟨rfl, rfl⟩ (by decide +kernel) rfl ⟨by decide, by decide⟩ rfl (Nat.le_of_ble_eq_true rfl) dX4_debt_1 ⟨by decide, by decide⟩ ?_
  refine g_iload_n X dX4_debt_4 rfl rfl ?_
  refine g_callSv (na := 1) X hj (k_X4_requirePerson l γ _ _ (by omega)) gX4_debt_X4_requirePerson rfl ⟨rfl, rfl⟩ (by decide +kernel) rfl ⟨by decide, by decide⟩ rfl (Nat.le_of_ble_eq_true rfl) dX4_debt_5 ⟨by decide, by decide⟩ ?_
  refine g_aload_n X dX4_debt_8 rfl rfl ?_
  refine g_get_0_0 X hi4 (by decide +kernel) dX4_debt_9 ?_
  refine g_iload_n X dX4_debt_12 rfl rfl ?_
  refine g_iload_n X dX4_debt_13 rfl rfl ?_
  refine g_callVi (na := 2) X hj (k_X3_owed l γ _ _ _ (by omega) (by omega)) gW_1 rfl gX4_debt_X3_owed rfl ⟨rfl, rfl⟩ (by decide +kernel) rfl ⟨by decide, by decide⟩ rfl (Nat.le_of_ble_eq_true rfl) dX4_debt_14 ⟨by decide, by decide⟩ ?_
  exact g_iret X hr hlk dX4_debt_17 ⟨rfl, rfl⟩
set_option maxRecDepth 20000 in
theorem t_X4_debt_p (l : Launch) (γ : gG) (σ : gS) (y o : Int32) (h : isPb y = false) : gMX l γ yX4_debt wsX4_debt ({ frames := 7, cells := 1, slots := 6, locals := 220 } : Room) [.ref (ad γ 0), .int y, .int o] σ eB (σ) := by
  refine g_enterX (own := RX4) (cc := cX4_debt) (nL := 3) (ret := (some .int)) [some (.ref (ad γ 0)), some (.int y), some (.int o)] (by decide) rfl rfl (by simp [lg_sl, Value.category]) (by simp [gl_le, glE, Value.category]) (fun hj p e s m args below meth c X C => ?_)
  refine g_iload_n X dX4_debt_0 rfl rfl ?_
  exact g_callSX (na := 1) X C hj _ (t_X4_requirePerson l γ _ _ h) gX4_debt_X4_requirePerson rfl ⟨rfl, rfl⟩ (by decide +kernel) rfl ⟨by decide, by decide⟩ rfl (Nat.le_of_ble_eq_true rfl) dX4_debt_1 ⟨by decide, by decide⟩ ⟨by decide, by decide⟩
set_option maxRecDepth 20000 in
theorem t_X4_debt_o (l : Launch) (γ : gG) (σ : gS) (q : Nat) (o : Int32) (hq : q < 8) (h : isPb o = false) : gMX l γ yX4_debt wsX4_debt ({ frames := 7, cells := 1, slots := 6, locals := 220 } : Room) [.ref (ad γ 0), .int (nI q), .int o] σ eB (σ) := by
  refine g_enterX (own := RX4) (cc := cX4_debt) (nL := 3) (ret := (some .int)) [some (.ref (ad γ 0)), some (.int (nI q)), some (.int o)] (by decide) rfl rfl (by simp [lg_sl, Value.category]) (by simp [gl_le, glE, Value.category]) (fun hj p e s m args below meth c X C => ?_)
  refine g_iload_n X dX4_debt_0 rfl rfl ?_
  refine g_callSv (na := 1) X hj (k_X4_requirePerson l γ _ _ (by omega)) gX4_debt_X4_requirePerson rfl ⟨rfl, rfl⟩ (by decide +kernel) rfl ⟨by decide, by decide⟩ rfl (Nat.le_of_ble_eq_true rfl) dX4_debt_1 ⟨by decide, by decide⟩ ?_
  refine g_iload_n X dX4_debt_4 rfl rfl ?_
  exact g_callSX (na := 1) X C hj _ (t_X4_requirePerson l γ _ _ h) gX4_debt_X4_requirePerson rfl ⟨rfl, rfl⟩ (by decide +kernel) rfl ⟨by decide, by decide⟩ rfl (Nat.le_of_ble_eq_true rfl) dX4_debt_5 ⟨by decide, by decide⟩ ⟨by decide, by decide⟩
set_option maxRecDepth 20000 in
theorem k_X4_count (l : Launch) (γ : gG) (σ : gS) (w N : Nat) (hw : w ≤ 9) (hN : σ.1 2 116 = nI N) (hN10 : N ≤ 10) : gM l γ yX4_count wsX4_count ({ frames := 7, cells := 0, slots := 0, locals := 222 } : Room) [.ref (ad γ 0), .int (nI w)] σ (gis (some (.int (cntI (σ.1 2) (σ.1 3 2) N w))) σ) 0 0 := by
  refine g_enter (own := RX4) (cc := cX4_count) (nL := 2) (ret := (some .int)) [some (.ref (ad γ 0)), some (.int (nI w))] (by decide) rfl rfl (by simp [lg_sl, Value.category]) (by simp [gl_le, glE, Value.category]) (fun hj p e s m args below meth c X hr hlk hnm => ?_)
  have hi4 : ∀ w ∈ wsX40, w ∈ wsX4_count := by decide +kernel
  refine g_iload_n X dX4_count_0 rfl rfl ?_
  refine g_iconstN X 0 dX4_count_1 ?_
  refine g_bipush (v := nI 9) X dX4_count_2 (by decide) ?_
  refine g_callSv (na := 3) X hj (k_X4_requireRange l γ _ _ _ _ (nI_le (Nat.zero_le _) (by omega)) (nI_le (by omega) (by decide))) gX4_count_X4_requireRange rfl ⟨rfl, rfl⟩ (by decide +kernel) rfl ⟨by decide, by decide⟩ rfl (Nat.le_of_ble_eq_true rfl) dX4_count_4 ⟨by decide, by decide⟩ ?_
  refine g_iload_n X dX4_count_7 rfl rfl ?_
  rcases (show w = 0 ∨ w = 1 ∨ w = 2 ∨ w = 3 ∨ w = 4 ∨ w = 5 ∨ w = 6 ∨ w = 7 ∨ w = 8 ∨ w = 9 by omega) with rfl | rfl | rfl | rfl | rfl | rfl | rfl | rfl | rfl | rfl
  · refine g_tableIn (tgt := 60) (off := 52) X dX4_count_8 (by decide) (by decide) rfl (by decide) ?_
    refine g_aload_n X dX4_count_60 rfl rfl ?_
    refine g_get_0_0 X hi4 (by decide +kernel) dX4_count_61 ?_
    refine g_callVi (na := 0) X hj (k_X3_bondCount l γ _) gW_1 rfl gX4_count_X3_bondCount rfl ⟨rfl, rfl⟩ (by decide +kernel) rfl ⟨by decide, by decide⟩ rfl (Nat.le_of_ble_eq_true rfl) dX4_count_64 ⟨by decide, by decide⟩ ?_
    exact g_iret X hr hlk dX4_count_67 ⟨rfl, rfl⟩
  · refine g_tableIn (tgt := 68) (off := 60) X dX4_count_8 (by decide) (by decide) rfl (by decide) ?_
    refine g_aload_n X dX4_count_68 rfl rfl ?_
    refine g_get_0_0 X hi4 (by decide +kernel) dX4_count_69 ?_
    refine g_bipush (v := nI 9) X dX4_count_72 (by decide) ?_
    refine g_callVi (na := 1) X hj (k_X3_sumOverBonds l γ _ N _ (by omega) hN hN10) gW_1 rfl gX4_count_X3_sumOverBonds rfl ⟨rfl, rfl⟩ (by decide +kernel) rfl ⟨by decide, by decide⟩ rfl (Nat.le_of_ble_eq_true rfl) dX4_count_74 ⟨by decide, by decide⟩ ?_
    exact g_iret X hr hlk dX4_count_77 ⟨rfl, rfl⟩
  · refine g_tableIn (tgt := 78) (off := 70) X dX4_count_8 (by decide) (by decide) rfl (by decide) ?_
    refine g_aload_n X dX4_count_78 rfl rfl ?_
    refine g_get_0_0 X hi4 (by decide +kernel) dX4_count_79 ?_
    refine g_callVi (na := 0) X hj (k_X3_cashOfAll l γ _) gW_1 rfl gX4_count_X3_cashOfAll rfl ⟨rfl, rfl⟩ (by decide +kernel) rfl ⟨by decide, by decide⟩ rfl (Nat.le_of_ble_eq_true rfl) dX4_count_82 ⟨by decide, by decide⟩ ?_
    exact g_iret X hr hlk dX4_count_85 ⟨rfl, rfl⟩
  · refine g_tableIn (tgt := 86) (off := 78) X dX4_count_8 (by decide) (by decide) rfl (by decide) ?_
    refine g_aload_n X dX4_count_86 rfl rfl ?_
    refine g_get_0_0 X hi4 (by decide +kernel) dX4_count_87 ?_
    refine g_callVi (na := 0) X hj (k_X3_brought l γ _) gW_1 rfl gX4_count_X3_brought rfl ⟨rfl, rfl⟩ (by decide +kernel) rfl ⟨by decide, by decide⟩ rfl (Nat.le_of_ble_eq_true rfl) dX4_count_90 ⟨by decide, by decide⟩ ?_
    exact g_iret X hr hlk dX4_count_93 ⟨rfl, rfl⟩
  · refine g_tableIn (tgt := 94) (off := 86) X dX4_count_8 (by decide) (by decide) rfl (by decide) ?_
    refine g_aload_n X dX4_count_94 rfl rfl ?_
    refine g_get_0_0 X hi4 (by decide +kernel) dX4_count_95 ?_
    refine g_bipush (v := nI 6) X dX4_count_98 (by decide) ?_
    refine g_callVi (na := 1) X hj (k_X3_sumOverBonds l γ _ N _ (by omega) hN hN10) gW_1 rfl gX4_count_X3_sumOverBonds rfl ⟨rfl, rfl⟩ (by decide +kernel) rfl ⟨by decide, by decide⟩ rfl (Nat.le_of_ble_eq_true rfl) dX4_count_100 ⟨by decide, by decide⟩ ?_
    exact g_iret X hr hlk dX4_count_103 ⟨rfl, rfl⟩
  · refine g_tableIn (tgt := 104) (off := 96) X dX4_count_8 (by decide) (by decide) rfl (by decide) ?_
    refine g_aload_n X dX4_count_104 rfl rfl ?_
    refine g_get_0_0 X hi4 (by decide +kernel) dX4_count_105 ?_
    refine g_bipush (v := nI 7) X dX4_count_108 (by decide) ?_
    refine g_callVi (na := 1) X hj (k_X3_sumOverBonds l γ _ N _ (by omega) hN hN10) gW_1 rfl gX4_count_X3_sumOverBonds rfl ⟨rfl, rfl⟩ (by decide +kernel) rfl ⟨by decide, by decide⟩ rfl (Nat.le_of_ble_eq_true rfl) dX4_count_110 ⟨by decide, by decide⟩ ?_
    exact g_iret X hr hlk dX4_count_113 ⟨rfl, rfl⟩
  · refine g_tableIn (tgt := 114) (off := 106) X dX4_count_8 (by decide) (by decide) rfl (by decide) ?_
    refine g_aload_n X dX4_count_114 rfl rfl ?_
    refine g_get_0_0 X hi4 (by decide +kernel) dX4_count_115 ?_
    refine g_bipush (v := nI 6) X dX4_count_118 (by decide) ?_
    refine g_callVi (na := 1) X hj (k_X3_sumOverBonds l γ _ N _ (by omega) hN hN10) gW_1 rfl gX4_count_X3_sumOverBonds rfl ⟨rfl, rfl⟩ (by decide +kernel) rfl ⟨by decide, by decide⟩ rfl (Nat.le_of_ble_eq_true rfl) dX4_count_120 ⟨by decide, by decide⟩ ?_
    refine g_aload_n X dX4_count_123 rfl rfl ?_
    refine g_get_0_0 X hi4 (by decide +kernel) dX4_count_124 ?_
    refine g_bipush (v := nI 7) X dX4_count_127 (by decide) ?_
    refine g_callVi (na := 1) X hj (k_X3_sumOverBonds l γ _ N _ (by omega) hN hN10) gW_1 rfl gX4_count_X3_sumOverBonds rfl ⟨rfl, rfl⟩ (by decide +kernel) rfl ⟨by decide, by decide⟩ rfl (Nat.le_of_ble_eq_true rfl) dX4_count_129 ⟨by decide, by decide⟩ ?_
    refine g_isub X dX4_count_132 ?_
    exact g_iret X hr hlk dX4_count_133 ⟨rfl, rfl⟩
  · refine g_tableIn (tgt := 134) (off := 126) X dX4_count_8 (by decide) (by decide) rfl (by decide) ?_
    refine g_aload_n X dX4_count_134 rfl rfl ?_
    refine g_get_0_0 X hi4 (by decide +kernel) dX4_count_135 ?_
    refine g_callVi (na := 0) X hj (k_X3_debtsOfAll l γ _) gW_1 rfl gX4_count_X3_debtsOfAll rfl ⟨rfl, rfl⟩ (by decide +kernel) rfl ⟨by decide, by decide⟩ rfl (Nat.le_of_ble_eq_true rfl) dX4_count_138 ⟨by decide, by decide⟩ ?_
    exact g_iret X hr hlk dX4_count_141 ⟨rfl, rfl⟩
  · refine g_tableIn (tgt := 142) (off := 134) X dX4_count_8 (by decide) (by decide) rfl (by decide) ?_
    refine g_aload_n X dX4_count_142 rfl rfl ?_
    refine g_get_0_0 X hi4 (by decide +kernel) dX4_count_143 ?_
    refine g_bipush (v := nI 8) X dX4_count_146 (by decide) ?_
    refine g_callVi (na := 1) X hj (k_X3_sumOverBonds l γ _ N _ (by omega) hN hN10) gW_1 rfl gX4_count_X3_sumOverBonds rfl ⟨rfl, rfl⟩ (by decide +kernel) rfl ⟨by decide, by decide⟩ rfl (Nat.le_of_ble_eq_true rfl) dX4_count_148 ⟨by decide, by decide⟩ ?_
    exact g_iret X hr hlk dX4_count_151 ⟨rfl, rfl⟩
  · refine g_tableOut (tgt := 152) X dX4_count_8 (by decide) (by decide) ?_
    refine g_aload_n X dX4_count_152 rfl rfl ?_
    refine g_get_0_1 X hi4 (by decide +kernel) dX4_count_153 ?_
    refine g_callVi (na := 0) X hj (k_X1_size l γ _) gW_3 rfl gX4_count_X1_size rfl ⟨rfl, rfl⟩ (by decide +kernel) rfl ⟨by decide, by decide⟩ rfl (Nat.le_of_ble_eq_true rfl) dX4_count_156 ⟨by decide, by decide⟩ ?_
    exact g_iret X hr hlk dX4_count_159 ⟨rfl, rfl⟩
set_option maxRecDepth 20000 in
theorem t_X4_count_w (l : Launch) (γ : gG) (σ : gS) (w : Int32) (h : w < nI 0 ∨ nI 9 < w) : gMX l γ yX4_count wsX4_count ({ frames := 7, cells := 1, slots := 6, locals := 222 } : Room) [.ref (ad γ 0), .int w] σ eA (σ) := by
  refine g_enterX (own := RX4) (cc := cX4_count) (nL := 2) (ret := (some .int)) [some (.ref (ad γ 0)), some (.int w)] (by decide) rfl rfl (by simp [lg_sl, Value.category]) (by simp [gl_le, glE, Value.category]) (fun hj p e s m args below meth c X C => ?_)
  refine g_iload_n X dX4_count_0 rfl rfl ?_
  refine g_iconstN X 0 dX4_count_1 ?_
  refine g_bipush (v := nI 9) X dX4_count_2 (by decide) ?_
  exact g_callSX (na := 3) X C hj _ (t_X4_requireRange l γ _ _ _ _ h) gX4_count_X4_requireRange rfl ⟨rfl, rfl⟩ (by decide +kernel) rfl ⟨by decide, by decide⟩ rfl (Nat.le_of_ble_eq_true rfl) dX4_count_4 ⟨by decide, by decide⟩ ⟨by decide, by decide⟩
set_option maxRecDepth 20000 in
theorem k_X4_setting (l : Launch) (γ : gG) (σ : gS) (k : Nat) (hk : k < 3) : gM l γ yX4_setting wsX4_setting ({ frames := 7, cells := 0, slots := 0, locals := 220 } : Room) [.ref (ad γ 0), .int (nI k)] σ (gis (some (.int (σ.1 2 (112 + k)))) σ) 0 0 := by
  refine g_enter (own := RX4) (cc := cX4_setting) (nL := 2) (ret := (some .int)) [some (.ref (ad γ 0)), some (.int (nI k))] (by decide) rfl rfl (by simp [lg_sl, Value.category]) (by simp [gl_le, glE, Value.category]) (fun hj p e s m args below meth c X hr hlk hnm => ?_)
  have hi4 : ∀ w ∈ wsX40, w ∈ wsX4_setting := by decide +kernel
  refine g_iload_n X dX4_setting_0 rfl rfl ?_
  refine g_callSv (na := 1) X hj (k_X4_requireSetting l γ _ _ (by omega)) gX4_setting_X4_requireSetting rfl ⟨rfl, rfl⟩ (by decide +kernel) rfl ⟨by decide, by decide⟩ rfl (Nat.le_of_ble_eq_true rfl) dX4_setting_1 ⟨by decide, by decide⟩ ?_
  refine g_aload_n X dX4_setting_4 rfl rfl ?_
  refine g_get_0_0 X hi4 (by decide +kernel) dX4_setting_5 ?_
  refine g_iload_n X dX4_setting_8 rfl rfl ?_
  refine g_callVi (na := 1) X hj (k_X3_settingValue l γ _ _ (by omega)) gW_1 rfl gX4_setting_X3_settingValue rfl ⟨rfl, rfl⟩ (by decide +kernel) rfl ⟨by decide, by decide⟩ rfl (Nat.le_of_ble_eq_true rfl) dX4_setting_9 ⟨by decide, by decide⟩ ?_
  exact g_iret X hr hlk dX4_setting_12 ⟨rfl, rfl⟩
set_option maxRecDepth 20000 in
theorem t_X4_setting_p (l : Launch) (γ : gG) (σ : gS) (y : Int32) (h : y < 0 ∨ nI 3 ≤ y) : gMX l γ yX4_setting wsX4_setting ({ frames := 7, cells := 1, slots := 6, locals := 220 } : Room) [.ref (ad γ 0), .int y] σ eB (σ) := by
  refine g_enterX (own := RX4) (cc := cX4_setting) (nL := 2) (ret := (some .int)) [some (.ref (ad γ 0)), some (.int y)] (by decide) rfl rfl (by simp [lg_sl, Value.category]) (by simp [gl_le, glE, Value.category]) (fun hj p e s m args below meth c X C => ?_)
  refine g_iload_n X dX4_setting_0 rfl rfl ?_
  exact g_callSX (na := 1) X C hj _ (t_X4_requireSetting l γ _ _ h) gX4_setting_X4_requireSetting rfl ⟨rfl, rfl⟩ (by decide +kernel) rfl ⟨by decide, by decide⟩ rfl (Nat.le_of_ble_eq_true rfl) dX4_setting_1 ⟨by decide, by decide⟩ ⟨by decide, by decide⟩
set_option maxRecDepth 20000 in
theorem k_X4_spare (l : Launch) (γ : gG) (σ : gS) (q : Nat) (hq : q < 8) (N : Nat) (L : Nat → Nat) (hS : Sh (σ.1 2) N L) : gM l γ yX4_spare wsX4_spare ({ frames := 7, cells := 0, slots := 0, locals := 220 } : Room) [.ref (ad γ 0), .int (nI q)] σ (gis (some (.int (spareOf (σ.1 2) N L q))) σ) 0 0 := by
  refine g_enter (own := RX4) (cc := cX4_spare) (nL := 2) (ret := (some .int)) [some (.ref (ad γ 0)), some (.int (nI q))] (by decide) rfl rfl (by simp [lg_sl, Value.category]) (by simp [gl_le, glE, Value.category]) (fun hj p e s m args below meth c X hr hlk hnm => ?_)
  have hi4 : ∀ w ∈ wsX40, w ∈ wsX4_spare := by decide +kernel
  refine g_iload_n X dX4_spare_0 rfl rfl ?_
  refine g_callSv (na := 1) X hj (k_X4_requirePerson l γ _ _ (by omega)) gX4_spare_X4_requirePerson rfl ⟨rfl, rfl⟩ (by decide +kernel) rfl ⟨by decide, by decide⟩ rfl (Nat.le_of_ble_eq_true rfl) dX4_spare_1 ⟨by decide, by decide⟩ ?_
  refine g_aload_n X dX4_spare_4 rfl rfl ?_
  refine g_get_0_0 X hi4 (by decide +kernel) dX4_spare_5 ?_
  refine g_iload_n X dX4_spare_8 rfl rfl ?_
  refine g_callVi (na := 1) X hj (k_X3_spareCash l γ _ N L _ hS hq) gW_1 rfl gX4_spare_X3_spareCash rfl ⟨rfl, rfl⟩ (by decide +kernel) rfl ⟨by decide, by decide⟩ rfl (Nat.le_of_ble_eq_true rfl) dX4_spare_9 ⟨by decide, by decide⟩ ?_
  exact g_iret X hr hlk dX4_spare_12 ⟨rfl, rfl⟩
set_option maxRecDepth 20000 in
theorem t_X4_spare_p (l : Launch) (γ : gG) (σ : gS) (y : Int32) (h : isPb y = false) : gMX l γ yX4_spare wsX4_spare ({ frames := 7, cells := 1, slots := 6, locals := 220 } : Room) [.ref (ad γ 0), .int y] σ eB (σ) := by
  refine g_enterX (own := RX4) (cc := cX4_spare) (nL := 2) (ret := (some .int)) [some (.ref (ad γ 0)), some (.int y)] (by decide) rfl rfl (by simp [lg_sl, Value.category]) (by simp [gl_le, glE, Value.category]) (fun hj p e s m args below meth c X C => ?_)
  refine g_iload_n X dX4_spare_0 rfl rfl ?_
  exact g_callSX (na := 1) X C hj _ (t_X4_requirePerson l γ _ _ h) gX4_spare_X4_requirePerson rfl ⟨rfl, rfl⟩ (by decide +kernel) rfl ⟨by decide, by decide⟩ rfl (Nat.le_of_ble_eq_true rfl) dX4_spare_1 ⟨by decide, by decide⟩ ⟨by decide, by decide⟩
set_option maxRecDepth 20000 in
theorem k_X4_ifCalled (l : Launch) (γ : gG) (σ : gS) (x : Int32) (w : Nat) (N b prn L : Nat) (su : Nat → Nat) (hprn : σ.1 2 (117 + b * 31 + 0) = nI prn) (hpn : prn < 8) (hL : σ.1 2 (117 + b * 31 + 3) = nI L) (hL4 : L ≤ 4) (hsu : ∀ i, i < L → σ.1 2 (117 + b * 31 + 15 + i * 4 + 0) = nI (su i) ∧ su i < 8) (hb : b < N) (hN : σ.1 2 116 = nI N) (hN10 : N ≤ 10) (h1 : nI 1 ≤ x) (h2 : x ≤ nI 99999) (hw : w ≤ 10) : gM l γ yX4_ifCalled wsX4_ifCalled ({ frames := 8, cells := 0, slots := 0, locals := 242 } : Room) [.ref (ad γ 0), .int (nI b), .int x, .int (nI w)] σ (gis (some (.int (efI (σ.1 2) b L (drAm σ b x) (drBp σ b prn x) (drT σ b prn L x).1 (drT σ b prn L x).2.2.1.1 w))) (drS σ b prn L x)) 0 0 := by
  refine g_enter (own := RX4) (cc := cX4_ifCalled) (nL := 4) (ret := (some .int)) [some (.ref (ad γ 0)), some (.int (nI b)), some (.int x), some (.int (nI w))] (by decide) rfl rfl (by simp [lg_sl, Value.category]) (by simp [gl_le, glE, Value.category]) (fun hj p e s m args below meth c X hr hlk hnm => ?_)
  have hi4 : ∀ w ∈ wsX40, w ∈ wsX4_ifCalled := by decide +kernel
  refine g_aload_n X dX4_ifCalled_0 rfl rfl ?_
  refine g_iload_n X dX4_ifCalled_1 rfl rfl ?_
  refine g_callVv (na := 1) X hj (k_X4_requireBond l γ _ _ N (by omega) hN hN10) gW_0 rfl gX4_ifCalled_X4_requireBond rfl ⟨rfl, rfl⟩ (by decide +kernel) rfl ⟨by decide, by decide⟩ rfl (Nat.le_of_ble_eq_true rfl) dX4_ifCalled_2 ⟨by decide, by decide⟩ ?_
  refine g_iload_n X dX4_ifCalled_5 rfl rfl ?_
  refine g_callSv (na := 1) X hj (k_X4_requireAmount l γ _ _ h1 h2) gX4_ifCalled_X4_requireAmount rfl ⟨rfl, rfl⟩ (by decide +kernel) rfl ⟨by decide, by decide⟩ rfl (Nat.le_of_ble_eq_true rfl) dX4_ifCalled_6 ⟨by decide, by decide⟩ ?_
  refine g_iload_n X dX4_ifCalled_9 rfl rfl ?_
  refine g_iconstN X 0 dX4_ifCalled_10 ?_
  refine g_bipush (v := nI 10) X dX4_ifCalled_11 (by decide) ?_
  refine g_callSv (na := 3) X hj (k_X4_requireRange l γ _ _ _ _ (nI_le (Nat.zero_le _) (by omega)) (nI_le (by omega) (by decide))) gX4_ifCalled_X4_requireRange rfl ⟨rfl, rfl⟩ (by decide +kernel) rfl ⟨by decide, by decide⟩ rfl (Nat.le_of_ble_eq_true rfl) dX4_ifCalled_13 ⟨by decide, by decide⟩ ?_
  refine g_aload_n X dX4_ifCalled_16 rfl rfl ?_
  refine g_get_0_3 X hi4 (by decide +kernel) dX4_ifCalled_17 ?_
  refine g_aload_n X dX4_ifCalled_20 rfl rfl ?_
  refine g_get_0_0 X hi4 (by decide +kernel) dX4_ifCalled_21 ?_
  refine g_iload_n X dX4_ifCalled_24 rfl rfl ?_
  refine g_iload_n X dX4_ifCalled_25 rfl rfl ?_
  refine g_callVv (na := 3) X hj (k_X2_draw l γ _ _ prn L su _ (by omega) hprn hpn hL hL4 hsu) gW_16 rfl gX4_ifCalled_X2_draw rfl ⟨rfl, rfl⟩ (by decide +kernel) rfl ⟨by decide, by decide⟩ rfl (Nat.le_of_ble_eq_true rfl) dX4_ifCalled_26 ⟨by decide, by decide⟩ ?_
  unfold drS pyT
  refine g_aload_n X dX4_ifCalled_29 rfl rfl ?_
  refine g_get_0_3 X hi4 (by decide +kernel) dX4_ifCalled_30 ?_
  refine g_aload_n X dX4_ifCalled_33 rfl rfl ?_
  refine g_get_0_0 X hi4 (by decide +kernel) dX4_ifCalled_34 ?_
  refine g_iload_n X dX4_ifCalled_37 rfl rfl ?_
  refine g_callVi (na := 2) X hj (k_X2_effect l γ σ _ _ _ _ _ _ _ _ _ _ _ _ b L _ rfl (by omega) hL hL4 (by omega)) gW_16 rfl gX4_ifCalled_X2_effect rfl ⟨rfl, rfl⟩ (by decide +kernel) rfl ⟨by decide, by decide⟩ rfl (Nat.le_of_ble_eq_true rfl) dX4_ifCalled_38 ⟨by decide, by decide⟩ ?_
  exact g_iret X hr hlk dX4_ifCalled_41 ⟨rfl, rfl⟩
set_option maxRecDepth 20000 in
theorem t_X4_ifCalled_b (l : Launch) (γ : gG) (σ : gS) (y x w : Int32) (h : y < 0 ∨ σ.1 2 116 ≤ y) : gMX l γ yX4_ifCalled wsX4_ifCalled ({ frames := 8, cells := 1, slots := 6, locals := 242 } : Room) [.ref (ad γ 0), .int y, .int x, .int w] σ eB (σ) := by
  refine g_enterX (own := RX4) (cc := cX4_ifCalled) (nL := 4) (ret := (some .int)) [some (.ref (ad γ 0)), some (.int y), some (.int x), some (.int w)] (by decide) rfl rfl (by simp [lg_sl, Value.category]) (by simp [gl_le, glE, Value.category]) (fun hj p e s m args below meth c X C => ?_)
  refine g_aload_n X dX4_ifCalled_0 rfl rfl ?_
  refine g_iload_n X dX4_ifCalled_1 rfl rfl ?_
  exact g_callVX (na := 1) X C hj _ (t_X4_requireBond l γ _ _ h) gW_0 rfl gX4_ifCalled_X4_requireBond rfl ⟨rfl, rfl⟩ (by decide +kernel) rfl ⟨by decide, by decide⟩ rfl (Nat.le_of_ble_eq_true rfl) dX4_ifCalled_2 ⟨by decide, by decide⟩ ⟨by decide, by decide⟩
set_option maxRecDepth 20000 in
theorem t_X4_ifCalled_a (l : Launch) (γ : gG) (σ : gS) (x w : Int32) (b N : Nat) (hb : b < N) (hN : σ.1 2 116 = nI N) (hN10 : N ≤ 10) (h : x < nI 1 ∨ nI 99999 < x) : gMX l γ yX4_ifCalled wsX4_ifCalled ({ frames := 8, cells := 1, slots := 6, locals := 242 } : Room) [.ref (ad γ 0), .int (nI b), .int x, .int w] σ eA (σ) := by
  refine g_enterX (own := RX4) (cc := cX4_ifCalled) (nL := 4) (ret := (some .int)) [some (.ref (ad γ 0)), some (.int (nI b)), some (.int x), some (.int w)] (by decide) rfl rfl (by simp [lg_sl, Value.category]) (by simp [gl_le, glE, Value.category]) (fun hj p e s m args below meth c X C => ?_)
  refine g_aload_n X dX4_ifCalled_0 rfl rfl ?_
  refine g_iload_n X dX4_ifCalled_1 rfl rfl ?_
  refine g_callVv (na := 1) X hj (k_X4_requireBond l γ _ _ N (by omega) hN hN10) gW_0 rfl gX4_ifCalled_X4_requireBond rfl ⟨rfl, rfl⟩ (by decide +kernel) rfl ⟨by decide, by decide⟩ rfl (Nat.le_of_ble_eq_true rfl) dX4_ifCalled_2 ⟨by decide, by decide⟩ ?_
  refine g_iload_n X dX4_ifCalled_5 rfl rfl ?_
  exact g_callSX (na := 1) X C hj _ (t_X4_requireAmount l γ _ _ h) gX4_ifCalled_X4_requireAmount rfl ⟨rfl, rfl⟩ (by decide +kernel) rfl ⟨by decide, by decide⟩ rfl (Nat.le_of_ble_eq_true rfl) dX4_ifCalled_6 ⟨by decide, by decide⟩ ⟨by decide, by decide⟩
set_option maxRecDepth 20000 in
theorem t_X4_ifCalled_w (l : Launch) (γ : gG) (σ : gS) (x w : Int32) (b N : Nat) (hb : b < N) (hN : σ.1 2 116 = nI N) (hN10 : N ≤ 10) (h1 : nI 1 ≤ x) (h2 : x ≤ nI 99999) (h : w < nI 0 ∨ nI 10 < w) : gMX l γ yX4_ifCalled wsX4_ifCalled ({ frames := 8, cells := 1, slots := 6, locals := 242 } : Room) [.ref (ad γ 0), .int (nI b), .int x, .int w] σ eA (σ) := by
  refine g_enterX (own := RX4) (cc := cX4_ifCalled) (nL := 4) (ret := (some .int)) [some (.ref (ad γ 0)), some (.int (nI b)), some (.int x), some (.int w)] (by decide) rfl rfl (by simp [lg_sl, Value.category]) (by simp [gl_le, glE, Value.category]) (fun hj p e s m args below meth c X C => ?_)
  refine g_aload_n X dX4_ifCalled_0 rfl rfl ?_
  refine g_iload_n X dX4_ifCalled_1 rfl rfl ?_
  refine g_callVv (na := 1) X hj (k_X4_requireBond l γ _ _ N (by omega) hN hN10) gW_0 rfl gX4_ifCalled_X4_requireBond rfl ⟨rfl, rfl⟩ (by decide +kernel) rfl ⟨by decide, by decide⟩ rfl (Nat.le_of_ble_eq_true rfl) dX4_ifCalled_2 ⟨by decide, by decide⟩ ?_
  refine g_iload_n X dX4_ifCalled_5 rfl rfl ?_
  refine g_callSv (na := 1) X hj (k_X4_requireAmount l γ _ _ h1 h2) gX4_ifCalled_X4_requireAmount rfl ⟨rfl, rfl⟩ (by decide +kernel) rfl ⟨by decide, by decide⟩ rfl (Nat.le_of_ble_eq_true rfl) dX4_ifCalled_6 ⟨by decide, by decide⟩ ?_
  refine g_iload_n X dX4_ifCalled_9 rfl rfl ?_
  refine g_iconstN X 0 dX4_ifCalled_10 ?_
  refine g_bipush (v := nI 10) X dX4_ifCalled_11 (by decide) ?_
  exact g_callSX (na := 3) X C hj _ (t_X4_requireRange l γ _ _ _ _ h) gX4_ifCalled_X4_requireRange rfl ⟨rfl, rfl⟩ (by decide +kernel) rfl ⟨by decide, by decide⟩ rfl (Nat.le_of_ble_eq_true rfl) dX4_ifCalled_13 ⟨by decide, by decide⟩ ⟨by decide, by decide⟩
set_option maxRecDepth 20000 in
theorem k_X4_thin (l : Launch) (γ : gG) (σ : gS) (N b prn L : Nat) (su : Nat → Nat) (hprn : σ.1 2 (117 + b * 31 + 0) = nI prn) (hpn : prn < 8) (hL : σ.1 2 (117 + b * 31 + 3) = nI L) (hL4 : L ≤ 4) (hsu : ∀ i, i < L → σ.1 2 (117 + b * 31 + 15 + i * 4 + 0) = nI (su i) ∧ su i < 8) (hb : b < N) (hN : σ.1 2 116 = nI N) (hN10 : N ≤ 10) : gM l γ yX4_thin wsX4_thin ({ frames := 7, cells := 0, slots := 0, locals := 221 } : Room) [.ref (ad γ 0), .int (nI b)] σ (gis (some (.int (drT σ b prn L (leftOf (σ.1 2) b)).2.1)) (drS σ b prn L (leftOf (σ.1 2) b))) 0 0 := by
  refine g_enter (own := RX4) (cc := cX4_thin) (nL := 2) (ret := (some .int)) [some (.ref (ad γ 0)), some (.int (nI b))] (by decide) rfl rfl (by simp [lg_sl, Value.category]) (by simp [gl_le, glE, Value.category]) (fun hj p e s m args below meth c X hr hlk hnm => ?_)
  have hi4 : ∀ w ∈ wsX40, w ∈ wsX4_thin := by decide +kernel
  refine g_aload_n X dX4_thin_0 rfl rfl ?_
  refine g_iload_n X dX4_thin_1 rfl rfl ?_
  refine g_callVv (na := 1) X hj (k_X4_requireBond l γ _ _ N (by omega) hN hN10) gW_0 rfl gX4_thin_X4_requireBond rfl ⟨rfl, rfl⟩ (by decide +kernel) rfl ⟨by decide, by decide⟩ rfl (Nat.le_of_ble_eq_true rfl) dX4_thin_2 ⟨by decide, by decide⟩ ?_
  refine g_aload_n X dX4_thin_5 rfl rfl ?_
  refine g_get_0_3 X hi4 (by decide +kernel) dX4_thin_6 ?_
  refine g_aload_n X dX4_thin_9 rfl rfl ?_
  refine g_get_0_0 X hi4 (by decide +kernel) dX4_thin_10 ?_
  refine g_iload_n X dX4_thin_13 rfl rfl ?_
  refine g_aload_n X dX4_thin_14 rfl rfl ?_
  refine g_get_0_0 X hi4 (by decide +kernel) dX4_thin_15 ?_
  refine g_iload_n X dX4_thin_18 rfl rfl ?_
  refine g_callVi (na := 1) X hj (k_X3_leftOfBond l γ _ _ (by omega)) gW_1 rfl gX4_thin_X3_leftOfBond rfl ⟨rfl, rfl⟩ (by decide +kernel) rfl ⟨by decide, by decide⟩ rfl (Nat.le_of_ble_eq_true rfl) dX4_thin_19 ⟨by decide, by decide⟩ ?_
  refine g_callVv (na := 3) X hj (k_X2_draw l γ _ _ prn L su _ (by omega) hprn hpn hL hL4 hsu) gW_16 rfl gX4_thin_X2_draw rfl ⟨rfl, rfl⟩ (by decide +kernel) rfl ⟨by decide, by decide⟩ rfl (Nat.le_of_ble_eq_true rfl) dX4_thin_22 ⟨by decide, by decide⟩ ?_
  unfold drS pyT
  refine g_aload_n X dX4_thin_25 rfl rfl ?_
  refine g_get_0_3 X hi4 (by decide +kernel) dX4_thin_26 ?_
  refine g_callVi (na := 0) X hj (k_X2_thinLayer l γ _) gW_16 rfl gX4_thin_X2_thinLayer rfl ⟨rfl, rfl⟩ (by decide +kernel) rfl ⟨by decide, by decide⟩ rfl (Nat.le_of_ble_eq_true rfl) dX4_thin_29 ⟨by decide, by decide⟩ ?_
  exact g_iret X hr hlk dX4_thin_32 ⟨rfl, rfl⟩
set_option maxRecDepth 20000 in
theorem t_X4_thin_b (l : Launch) (γ : gG) (σ : gS) (y : Int32) (h : y < 0 ∨ σ.1 2 116 ≤ y) : gMX l γ yX4_thin wsX4_thin ({ frames := 7, cells := 1, slots := 6, locals := 221 } : Room) [.ref (ad γ 0), .int y] σ eB (σ) := by
  refine g_enterX (own := RX4) (cc := cX4_thin) (nL := 2) (ret := (some .int)) [some (.ref (ad γ 0)), some (.int y)] (by decide) rfl rfl (by simp [lg_sl, Value.category]) (by simp [gl_le, glE, Value.category]) (fun hj p e s m args below meth c X C => ?_)
  refine g_aload_n X dX4_thin_0 rfl rfl ?_
  refine g_iload_n X dX4_thin_1 rfl rfl ?_
  exact g_callVX (na := 1) X C hj _ (t_X4_requireBond l γ _ _ h) gW_0 rfl gX4_thin_X4_requireBond rfl ⟨rfl, rfl⟩ (by decide +kernel) rfl ⟨by decide, by decide⟩ rfl (Nat.le_of_ble_eq_true rfl) dX4_thin_2 ⟨by decide, by decide⟩ ⟨by decide, by decide⟩
set_option maxRecDepth 20000 in
theorem k_X4_append (l : Launch) (γ : gG) (σ : gS) (x : Int32) (k : Nat) (h1 : nI 33 ≤ x) (h2 : x ≤ nI 126) (hl : σ.1 11 4 = nI k) (hk : k < 60) : gM l γ yX4_append wsX4_append ({ frames := 7, cells := 0, slots := 0, locals := 222 } : Room) [.ref (ad γ 0), .int x] σ (gis (some (.int (nI (k + 1)))) (sP (sA σ 12 (upd (σ.1 12) k x)) 4 (nI (k + 1)))) 0 0 := by
  refine g_enter (own := RX4) (cc := cX4_append) (nL := 2) (ret := (some .int)) [some (.ref (ad γ 0)), some (.int x)] (by decide) rfl rfl (by simp [lg_sl, Value.category]) (by simp [gl_le, glE, Value.category]) (fun hj p e s m args below meth c X hr hlk hnm => ?_)
  have hi4 : ∀ w ∈ wsX40, w ∈ wsX4_append := by decide +kernel
  refine g_iload_n X dX4_append_0 rfl rfl ?_
  refine g_bipush (v := nI 33) X dX4_append_1 (by decide) ?_
  refine g_bipush (v := nI 126) X dX4_append_3 (by decide) ?_
  refine g_callSv (na := 3) X hj (k_X4_requireRange l γ _ _ _ _ (by assumption) (by assumption)) gX4_append_X4_requireRange rfl ⟨rfl, rfl⟩ (by decide +kernel) rfl ⟨by decide, by decide⟩ rfl (Nat.le_of_ble_eq_true rfl) dX4_append_5 ⟨by decide, by decide⟩ ?_
  refine g_aload_n X dX4_append_8 rfl rfl ?_
  refine g_get_0_2 X hi4 (by decide +kernel) dX4_append_9 ?_
  refine g_callVi (na := 0) X hj (k_X0_length l γ _) gW_11 rfl gX4_append_X0_length rfl ⟨rfl, rfl⟩ (by decide +kernel) rfl ⟨by decide, by decide⟩ rfl (Nat.le_of_ble_eq_true rfl) dX4_append_12 ⟨by decide, by decide⟩ ?_
  refine g_top (y := nI k) hl ?_
  refine g_bipush (v := nI 60) X dX4_append_15 (by decide) ?_
  refine g_icmpN_lt (tgt := 30) X dX4_append_17 (by decide) (by omega) (by omega) (fun c_17 => ?_) (fun c_17 => absurd hk (by omega))
  refine g_aload_n X dX4_append_30 rfl rfl ?_
  refine g_get_0_2 X hi4 (by decide +kernel) dX4_append_31 ?_
  refine g_iload_n X dX4_append_34 rfl rfl ?_
  refine g_callVv (na := 1) X hj (k_X0_add l γ _ k _ hl (by omega)) gW_11 rfl gX4_append_X0_add rfl ⟨rfl, rfl⟩ (by decide +kernel) rfl ⟨by decide, by decide⟩ rfl (Nat.le_of_ble_eq_true rfl) dX4_append_35 ⟨by decide, by decide⟩ ?_
  refine g_aload_n X dX4_append_38 rfl rfl ?_
  refine g_get_0_2 X hi4 (by decide +kernel) dX4_append_39 ?_
  refine g_callVi (na := 0) X hj (k_X0_length l γ _) gW_11 rfl gX4_append_X0_length rfl ⟨rfl, rfl⟩ (by decide +kernel) rfl ⟨by decide, by decide⟩ rfl (Nat.le_of_ble_eq_true rfl) dX4_append_42 ⟨by decide, by decide⟩ ?_
  exact g_iret X hr hlk dX4_append_45 ⟨rfl, rfl⟩
set_option maxRecDepth 20000 in
theorem t_X4_append_a (l : Launch) (γ : gG) (σ : gS) (x : Int32) (h : x < nI 33 ∨ nI 126 < x) : gMX l γ yX4_append wsX4_append ({ frames := 7, cells := 1, slots := 6, locals := 222 } : Room) [.ref (ad γ 0), .int x] σ eA (σ) := by
  refine g_enterX (own := RX4) (cc := cX4_append) (nL := 2) (ret := (some .int)) [some (.ref (ad γ 0)), some (.int x)] (by decide) rfl rfl (by simp [lg_sl, Value.category]) (by simp [gl_le, glE, Value.category]) (fun hj p e s m args below meth c X C => ?_)
  refine g_iload_n X dX4_append_0 rfl rfl ?_
  refine g_bipush (v := nI 33) X dX4_append_1 (by decide) ?_
  refine g_bipush (v := nI 126) X dX4_append_3 (by decide) ?_
  exact g_callSX (na := 3) X C hj _ (t_X4_requireRange l γ _ _ _ _ h) gX4_append_X4_requireRange rfl ⟨rfl, rfl⟩ (by decide +kernel) rfl ⟨by decide, by decide⟩ rfl (Nat.le_of_ble_eq_true rfl) dX4_append_5 ⟨by decide, by decide⟩ ⟨by decide, by decide⟩
set_option maxRecDepth 20000 in
theorem t_X4_append_s (l : Launch) (γ : gG) (σ : gS) (x : Int32) (h1 : nI 33 ≤ x) (h2 : x ≤ nI 126) (hl : σ.1 11 4 = nI 60) : gMX l γ yX4_append wsX4_append ({ frames := 7, cells := 1, slots := 6, locals := 222 } : Room) [.ref (ad γ 0), .int x] σ eT (σ) := by
  refine g_enterX (own := RX4) (cc := cX4_append) (nL := 2) (ret := (some .int)) [some (.ref (ad γ 0)), some (.int x)] (by decide) rfl rfl (by simp [lg_sl, Value.category]) (by simp [gl_le, glE, Value.category]) (fun hj p e s m args below meth c X C => ?_)
  have hin_T : ∀ w ∈ Cond.classLink RX4 63 eT :: Cond.initialized eT :: (vx_atS RX4 67 eT eN).filter goodWord, w ∈ wsX4_append := by decide +kernel
  have hi4 : ∀ w ∈ wsX40, w ∈ wsX4_append := by decide +kernel
  refine g_iload_n X dX4_append_0 rfl rfl ?_
  refine g_bipush (v := nI 33) X dX4_append_1 (by decide) ?_
  refine g_bipush (v := nI 126) X dX4_append_3 (by decide) ?_
  refine g_callSv (na := 3) X hj (k_X4_requireRange l γ _ _ _ _ (by assumption) (by assumption)) gX4_append_X4_requireRange rfl ⟨rfl, rfl⟩ (by decide +kernel) rfl ⟨by decide, by decide⟩ rfl (Nat.le_of_ble_eq_true rfl) dX4_append_5 ⟨by decide, by decide⟩ ?_
  refine g_aload_n X dX4_append_8 rfl rfl ?_
  refine g_get_0_2 X hi4 (by decide +kernel) dX4_append_9 ?_
  refine g_callVi (na := 0) X hj (k_X0_length l γ _) gW_11 rfl gX4_append_X0_length rfl ⟨rfl, rfl⟩ (by decide +kernel) rfl ⟨by decide, by decide⟩ rfl (Nat.le_of_ble_eq_true rfl) dX4_append_12 ⟨by decide, by decide⟩ ?_
  refine g_top (y := nI 60) hl ?_
  refine g_bipush (v := nI 60) X dX4_append_15 (by decide) ?_
  refine g_icmpN_lt (tgt := 30) X dX4_append_17 (by decide) (by omega) (by omega) (fun c_17 => absurd c_17 (by decide)) (fun c_17 => ?_)
  exact g_throw (names := eN) (htx := g_tx153) X C fit_T ot_T hin_T ng_T dX4_append_20 dX4_append_23 dX4_append_24 dX4_append_26 dX4_append_29 ⟨by decide, by decide, by decide, by decide⟩ ⟨by decide, by decide⟩
set_option maxRecDepth 20000 in
theorem k_X4_clearBuffer (l : Launch) (γ : gG) (σ : gS) : gM l γ yX4_clearBuffer wsX4_clearBuffer ({ frames := 1, cells := 0, slots := 0, locals := 20 } : Room) [.ref (ad γ 0)] σ (gis (some (.int (σ.1 11 4))) (sP σ 4 (nI 0))) 0 0 := by
  refine g_enter (own := RX4) (cc := cX4_clearBuffer) (nL := 2) (ret := (some .int)) [some (.ref (ad γ 0)), none] (by decide) rfl rfl (by simp [lg_sl, Value.category]) (by simp [gl_le, glE, Value.category]) (fun hj p e s m args below meth c X hr hlk hnm => ?_)
  have hi4 : ∀ w ∈ wsX40, w ∈ wsX4_clearBuffer := by decide +kernel
  refine g_aload_n X dX4_clearBuffer_0 rfl rfl ?_
  refine g_get_0_2 X hi4 (by decide +kernel) dX4_clearBuffer_1 ?_
  refine g_callVi (na := 0) X hj (k_X0_length l γ _) gW_11 rfl gX4_clearBuffer_X0_length rfl ⟨rfl, rfl⟩ (by decide +kernel) rfl ⟨by decide, by decide⟩ rfl (Nat.le_of_ble_eq_true rfl) dX4_clearBuffer_4 ⟨by decide, by decide⟩ ?_
  refine g_istore_n1 X dX4_clearBuffer_7 rfl (by decide) rfl ?_
  refine g_aload_n X dX4_clearBuffer_8 rfl rfl ?_
  refine g_get_0_2 X hi4 (by decide +kernel) dX4_clearBuffer_9 ?_
  refine g_callVv (na := 0) X hj (k_X0_clear l γ _) gW_11 rfl gX4_clearBuffer_X0_clear rfl ⟨rfl, rfl⟩ (by decide +kernel) rfl ⟨by decide, by decide⟩ rfl (Nat.le_of_ble_eq_true rfl) dX4_clearBuffer_12 ⟨by decide, by decide⟩ ?_
  refine g_iload_n X dX4_clearBuffer_15 rfl rfl ?_
  exact g_iret X hr hlk dX4_clearBuffer_16 ⟨rfl, rfl⟩
set_option maxRecDepth 20000 in
theorem k_X4_firstError (l : Launch) (γ : gG) (σ : gS) (k : Nat) (hl : σ.1 11 4 = nI k) (hk : k ≤ 60) : gM l γ yX4_firstError wsX4_firstError ({ frames := 4, cells := 0, slots := 0, locals := 86 } : Room) [.ref (ad γ 0)] σ (gis (some (.int (nI (readI (rd0 σ) k 0)))) (rdE (rd0 σ) k)) 0 0 := by
  refine g_enter (own := RX4) (cc := cX4_firstError) (nL := 1) (ret := (some .int)) [some (.ref (ad γ 0))] (by decide) rfl rfl (by simp [lg_sl, Value.category]) (by simp [gl_le, glE, Value.category]) (fun hj p e s m args below meth c X hr hlk hnm => ?_)
  have hi4 : ∀ w ∈ wsX40, w ∈ wsX4_firstError := by decide +kernel
  refine g_aload_n X dX4_firstError_0 rfl rfl ?_
  refine g_get_0_2 X hi4 (by decide +kernel) dX4_firstError_1 ?_
  refine g_callVi (na := 0) X hj (k_X0_read l γ _ k hl hk) gW_11 rfl gX4_firstError_X0_read rfl ⟨rfl, rfl⟩ (by decide +kernel) rfl ⟨by decide, by decide⟩ rfl (Nat.le_of_ble_eq_true rfl) dX4_firstError_4 ⟨by decide, by decide⟩ ?_
  exact g_iret X hr hlk dX4_firstError_7 ⟨rfl, rfl⟩
set_option maxRecDepth 20000 in
theorem k_X4_undo (l : Launch) (γ : gG) (σ : gS) (j z : Nat) (hj6 : j < 6) (hn : σ.1 3 1 = nI j) (hz : σ.1 3 2 = nI z) (hz6 : z ≤ 6) (hz1 : 0 < z) : gM l γ yX4_undo wsX4_undo ({ frames := 6, cells := 0, slots := 0, locals := 200 } : Room) [.ref (ad γ 0)] σ (gis (some (.int (nI (z - 1)))) (rsS σ j z)) 0 0 := by
  refine g_enter (own := RX4) (cc := cX4_undo) (nL := 1) (ret := (some .int)) [some (.ref (ad γ 0))] (by decide) rfl rfl (by simp [lg_sl, Value.category]) (by simp [gl_le, glE, Value.category]) (fun hj p e s m args below meth c X hr hlk hnm => ?_)
  have hi4 : ∀ w ∈ wsX40, w ∈ wsX4_undo := by decide +kernel
  refine g_aload_n X dX4_undo_0 rfl rfl ?_
  refine g_get_0_1 X hi4 (by decide +kernel) dX4_undo_1 ?_
  refine g_callVi (na := 0) X hj (k_X1_size l γ _) gW_3 rfl gX4_undo_X1_size rfl ⟨rfl, rfl⟩ (by decide +kernel) rfl ⟨by decide, by decide⟩ rfl (Nat.le_of_ble_eq_true rfl) dX4_undo_4 ⟨by decide, by decide⟩ ?_
  refine g_top (y := nI z) hz ?_
  refine g_if_ne (tgt := 20) X dX4_undo_7 (by decide) (fun c_7 => ?_) (fun c_7 => absurd c_7 (nI_ne0 (by omega) (by omega)))
  refine g_aload_n X dX4_undo_20 rfl rfl ?_
  refine g_get_0_1 X hi4 (by decide +kernel) dX4_undo_21 ?_
  refine g_aload_n X dX4_undo_24 rfl rfl ?_
  refine g_get_0_0 X hi4 (by decide +kernel) dX4_undo_25 ?_
  refine g_callVv (na := 1) X hj (k_X1_restoreLatest l γ _ j z hj6 hn hz hz6 hz1) gW_3 rfl gX4_undo_X1_restoreLatest rfl ⟨rfl, rfl⟩ (by decide +kernel) rfl ⟨by decide, by decide⟩ rfl (Nat.le_of_ble_eq_true rfl) dX4_undo_28 ⟨by decide, by decide⟩ ?_
  refine g_aload_n X dX4_undo_31 rfl rfl ?_
  refine g_get_0_1 X hi4 (by decide +kernel) dX4_undo_32 ?_
  refine g_callVi (na := 0) X hj (k_X1_size l γ _) gW_3 rfl gX4_undo_X1_size rfl ⟨rfl, rfl⟩ (by decide +kernel) rfl ⟨by decide, by decide⟩ rfl (Nat.le_of_ble_eq_true rfl) dX4_undo_35 ⟨by decide, by decide⟩ ?_
  exact g_iret X hr hlk dX4_undo_38 ⟨rfl, rfl⟩
set_option maxRecDepth 20000 in
theorem t_X4_undo (l : Launch) (γ : gG) (σ : gS) (hz : σ.1 3 2 = nI 0) : gMX l γ yX4_undo wsX4_undo ({ frames := 6, cells := 1, slots := 6, locals := 200 } : Room) [.ref (ad γ 0)] σ eT (σ) := by
  refine g_enterX (own := RX4) (cc := cX4_undo) (nL := 1) (ret := (some .int)) [some (.ref (ad γ 0))] (by decide) rfl rfl (by simp [lg_sl, Value.category]) (by simp [gl_le, glE, Value.category]) (fun hj p e s m args below meth c X C => ?_)
  have hin_T : ∀ w ∈ Cond.classLink RX4 63 eT :: Cond.initialized eT :: (vx_atS RX4 67 eT eN).filter goodWord, w ∈ wsX4_undo := by decide +kernel
  have hi4 : ∀ w ∈ wsX40, w ∈ wsX4_undo := by decide +kernel
  refine g_aload_n X dX4_undo_0 rfl rfl ?_
  refine g_get_0_1 X hi4 (by decide +kernel) dX4_undo_1 ?_
  refine g_callVi (na := 0) X hj (k_X1_size l γ _) gW_3 rfl gX4_undo_X1_size rfl ⟨rfl, rfl⟩ (by decide +kernel) rfl ⟨by decide, by decide⟩ rfl (Nat.le_of_ble_eq_true rfl) dX4_undo_4 ⟨by decide, by decide⟩ ?_
  refine g_if_ne (tgt := 20) X dX4_undo_7 (by decide) (fun c_7 => absurd hz c_7) (fun c_7 => ?_)
  exact g_throw (names := eN) (htx := g_tx191) X C fit_T ot_T hin_T ng_T dX4_undo_10 dX4_undo_13 dX4_undo_14 dX4_undo_16 dX4_undo_19 ⟨by decide, by decide, by decide, by decide⟩ ⟨by decide, by decide⟩
