/-! A BOND IS GIVEN: pure words -/
theorem s2_11 (σ : gS) (f : Nat → Int32) : (sA σ 2 f).1 11 = σ.1 11 := rfl
theorem s2_13 (σ : gS) (f : Nat → Int32) : (sA σ 2 f).1 13 = σ.1 13 := rfl
theorem s2_14 (σ : gS) (f : Nat → Int32) : (sA σ 2 f).1 14 = σ.1 14 := rfl
theorem s2_15 (σ : gS) (f : Nat → Int32) : (sA σ 2 f).1 15 = σ.1 15 := rfl
def ab0 (v : Nat → Int32) (N : Nat) (t : Nat → Int32) : Nat → Int32 :=
  upd (upd (upd (upd (upd (upd v (117 + N * 31 + 0) (t 7)) (117 + N * 31 + 1) (t 8)) (117 + N * 31 + 2) (t 9)) (117 + N * 31 + 3) (t 10)) (117 + N * 31 + 4) (t 11)) (117 + N * 31 + 9) (nI 1)
def abS (v : Nat → Int32) (N : Nat) (sh : Nat → Int32) : Nat → (Nat → Int32)
  | 0 => v
  | i + 1 => upd (abS v N sh i) (117 + N * 31 + (10 + i)) (sh i)
def abL (v : Nat → Int32) (N : Nat) (su li : Nat → Int32) : Nat → (Nat → Int32)
  | 0 => v
  | i + 1 => upd (upd (upd (abL v N su li i) (117 + N * 31 + 15 + i * 4 + 0) (su i)) (117 + N * 31 + 15 + i * 4 + 1) (li i)) (117 + N * 31 + 15 + i * 4 + 2) (li i)
def abV (v : Nat → Int32) (N : Nat) (t su li sh : Nat → Int32) (k q : Nat) : Nat → Int32 := upd (abL (abS (ab0 v N t) N sh q) N su li k) 116 (nI (N + 1))
def tooB (v : Nat → Int32) (N : Nat) (L : Nat → Nat) (su : Nat → Nat) (li : Nat → Int32) (i : Nat) : Bool := !decide (boundFor v N L (nI (su i)) + li i ≤ v (su i * 6 + 0) * v (112 + 2))
def tooI (v : Nat → Int32) (N : Nat) (L : Nat → Nat) (su : Nat → Nat) (li : Nat → Int32) (k : Nat) : Bool := (List.range k).any (tooB v N L su li)
theorem tooI_t {v : Nat → Int32} {N : Nat} {L : Nat → Nat} {su : Nat → Nat} {li : Nat → Int32} {i k : Nat} (h : i < k) (hb : tooB v N L su li i = true) : tooI v N L su li k = true := List.any_eq_true.mpr ⟨i, List.mem_range.mpr h, hb⟩
theorem tooI_s {v : Nat → Int32} {N : Nat} {L : Nat → Nat} {su : Nat → Nat} {li : Nat → Int32} {i : Nat} (h : tooI v N L su li i = false) (hb : tooB v N L su li i = false) : tooI v N L su li (i + 1) = false := by
  unfold tooI at h ⊢
  rw [List.range_succ, List.any_append, h]
  simp [hb]
theorem sv_o (τ : gS) {j z o : Nat} (hj : j < 6) (h : 11 ≤ o) : (svS τ j z).1 o = τ.1 o := by
  unfold svS
  rw [sA_ne _ _ (by omega), sA_ne _ _ (by omega)]

set_option maxRecDepth 20000 in
theorem k_X3_addBond (l : Launch) (γ : gG) (σ : gS) (N k q : Nat) (hN : σ.1 2 116 = nI N) (hN9 : N < 10) (hk : σ.1 11 10 = nI k) (hk4 : k ≤ 4) (hq : σ.1 11 11 = nI q) (hq5 : q ≤ 5) : gM l γ yX3_addBond wsX3_addBond ({ frames := 1, cells := 0, slots := 0, locals := 24 } : Room) [.ref (ad γ 1), .ref (ad γ 11)] σ (gis (some (.int (nI N))) (sA σ 2 (abV (σ.1 2) N (σ.1 11) (σ.1 13) (σ.1 14) (σ.1 15) k q))) 0 0 := by
  refine g_enter (own := RX3) (cc := cX3_addBond) (nL := 4) (ret := (some .int)) [some (.ref (ad γ 1)), some (.ref (ad γ 11)), none, none] (by decide) rfl rfl (by simp [lg_sl, Value.category]) (by simp [gl_le, glE, Value.category]) (fun hj p e s m args below meth c X hr hlk hnm => ?_)
  have hi3 : ∀ w ∈ wsX30, w ∈ wsX3_addBond := by decide +kernel
  refine g_aload_n X dX3_addBond_0 rfl rfl ?_
  refine g_callVi (na := 0) X hj (k_X3_bondCount l γ _) gW_1 rfl gX3_addBond_X3_bondCount rfl ⟨rfl, rfl⟩ (by decide +kernel) rfl ⟨by decide, by decide⟩ rfl (Nat.le_of_ble_eq_true rfl) dX3_addBond_1 ⟨by decide, by decide⟩ ?_
  refine g_top (y := nI N) hN ?_
  refine g_istore_n2 X dX3_addBond_4 rfl (by decide) rfl ?_
  refine g_aload_n X dX3_addBond_5 rfl rfl ?_
  refine g_iload_n X dX3_addBond_6 rfl rfl ?_
  refine g_iconstN X 0 dX3_addBond_7 ?_
  refine g_aload_n X dX3_addBond_8 rfl rfl ?_
  refine g_callVi (na := 0) X hj (k_X0_principal l γ _) gW_11 rfl gX3_addBond_X0_principal rfl ⟨rfl, rfl⟩ (by decide +kernel) rfl ⟨by decide, by decide⟩ rfl (Nat.le_of_ble_eq_true rfl) dX3_addBond_9 ⟨by decide, by decide⟩ ?_
  refine g_callVv (na := 3) X hj (k_X3_putBondFact l γ _ _ _ _ (by omega)) gW_1 rfl gX3_addBond_X3_putBondFact rfl ⟨rfl, rfl⟩ (by decide +kernel) rfl ⟨by decide, by decide⟩ rfl (Nat.le_of_ble_eq_true rfl) dX3_addBond_12 ⟨by decide, by decide⟩ ?_
  refine g_aload_n X dX3_addBond_15 rfl rfl ?_
  refine g_iload_n X dX3_addBond_16 rfl rfl ?_
  refine g_iconstN X 1 dX3_addBond_17 ?_
  refine g_aload_n X dX3_addBond_18 rfl rfl ?_
  refine g_callVi (na := 0) X hj (k_X0_sum l γ _) gW_11 rfl gX3_addBond_X0_sum rfl ⟨rfl, rfl⟩ (by decide +kernel) rfl ⟨by decide, by decide⟩ rfl (Nat.le_of_ble_eq_true rfl) dX3_addBond_19 ⟨by decide, by decide⟩ ?_
  simp only [sA_sA, sA_eq, s2_11, s2_13, s2_14, s2_15]
  refine g_callVv (na := 3) X hj (k_X3_putBondFact l γ _ _ _ _ (by omega)) gW_1 rfl gX3_addBond_X3_putBondFact rfl ⟨rfl, rfl⟩ (by decide +kernel) rfl ⟨by decide, by decide⟩ rfl (Nat.le_of_ble_eq_true rfl) dX3_addBond_22 ⟨by decide, by decide⟩ ?_
  simp only [sA_sA, sA_eq, s2_11, s2_13, s2_14, s2_15]
  refine g_aload_n X dX3_addBond_25 rfl rfl ?_
  refine g_iload_n X dX3_addBond_26 rfl rfl ?_
  refine g_iconstN X 2 dX3_addBond_27 ?_
  refine g_aload_n X dX3_addBond_28 rfl rfl ?_
  refine g_callVi (na := 0) X hj (k_X0_way l γ _) gW_11 rfl gX3_addBond_X0_way rfl ⟨rfl, rfl⟩ (by decide +kernel) rfl ⟨by decide, by decide⟩ rfl (Nat.le_of_ble_eq_true rfl) dX3_addBond_29 ⟨by decide, by decide⟩ ?_
  simp only [sA_sA, sA_eq, s2_11, s2_13, s2_14, s2_15]
  refine g_callVv (na := 3) X hj (k_X3_putBondFact l γ _ _ _ _ (by omega)) gW_1 rfl gX3_addBond_X3_putBondFact rfl ⟨rfl, rfl⟩ (by decide +kernel) rfl ⟨by decide, by decide⟩ rfl (Nat.le_of_ble_eq_true rfl) dX3_addBond_32 ⟨by decide, by decide⟩ ?_
  simp only [sA_sA, sA_eq, s2_11, s2_13, s2_14, s2_15]
  refine g_aload_n X dX3_addBond_35 rfl rfl ?_
  refine g_iload_n X dX3_addBond_36 rfl rfl ?_
  refine g_iconstN X 3 dX3_addBond_37 ?_
  refine g_aload_n X dX3_addBond_38 rfl rfl ?_
  refine g_callVi (na := 0) X hj (k_X0_layers l γ _) gW_11 rfl gX3_addBond_X0_layers rfl ⟨rfl, rfl⟩ (by decide +kernel) rfl ⟨by decide, by decide⟩ rfl (Nat.le_of_ble_eq_true rfl) dX3_addBond_39 ⟨by decide, by decide⟩ ?_
  simp only [sA_sA, sA_eq, s2_11, s2_13, s2_14, s2_15]
  refine g_callVv (na := 3) X hj (k_X3_putBondFact l γ _ _ _ _ (by omega)) gW_1 rfl gX3_addBond_X3_putBondFact rfl ⟨rfl, rfl⟩ (by decide +kernel) rfl ⟨by decide, by decide⟩ rfl (Nat.le_of_ble_eq_true rfl) dX3_addBond_42 ⟨by decide, by decide⟩ ?_
  simp only [sA_sA, sA_eq, s2_11, s2_13, s2_14, s2_15]
  refine g_aload_n X dX3_addBond_45 rfl rfl ?_
  refine g_iload_n X dX3_addBond_46 rfl rfl ?_
  refine g_iconstN X 4 dX3_addBond_47 ?_
  refine g_aload_n X dX3_addBond_48 rfl rfl ?_
  refine g_callVi (na := 0) X hj (k_X0_milestones l γ _) gW_11 rfl gX3_addBond_X0_milestones rfl ⟨rfl, rfl⟩ (by decide +kernel) rfl ⟨by decide, by decide⟩ rfl (Nat.le_of_ble_eq_true rfl) dX3_addBond_49 ⟨by decide, by decide⟩ ?_
  simp only [sA_sA, sA_eq, s2_11, s2_13, s2_14, s2_15]
  refine g_callVv (na := 3) X hj (k_X3_putBondFact l γ _ _ _ _ (by omega)) gW_1 rfl gX3_addBond_X3_putBondFact rfl ⟨rfl, rfl⟩ (by decide +kernel) rfl ⟨by decide, by decide⟩ rfl (Nat.le_of_ble_eq_true rfl) dX3_addBond_52 ⟨by decide, by decide⟩ ?_
  simp only [sA_sA, sA_eq, s2_11, s2_13, s2_14, s2_15]
  refine g_aload_n X dX3_addBond_55 rfl rfl ?_
  refine g_iload_n X dX3_addBond_56 rfl rfl ?_
  refine g_bipush (v := nI 9) X dX3_addBond_57 (by decide) ?_
  refine g_iconstN X 1 dX3_addBond_59 ?_
  refine g_callVv (na := 3) X hj (k_X3_putBondFact l γ _ _ _ _ (by omega)) gW_1 rfl gX3_addBond_X3_putBondFact rfl ⟨rfl, rfl⟩ (by decide +kernel) rfl ⟨by decide, by decide⟩ rfl (Nat.le_of_ble_eq_true rfl) dX3_addBond_60 ⟨by decide, by decide⟩ ?_
  simp only [sA_sA, sA_eq]
  refine g_iconstN X 0 dX3_addBond_63 ?_
  refine g_istore_n3 X dX3_addBond_64 rfl (by decide) rfl ?_
  refine g_up (i0 := 0) (N := q) (fun i => [some (.ref (ad γ 1)), some (.ref (ad γ 11)), some (.int (nI N)), some (.int (nI i))]) (fun i => sA σ 2 (abS (ab0 (σ.1 2) N (σ.1 11)) N (σ.1 15) i)) (by simp [gl_le]) rfl (by omega) (fun i hi ih65 => ?_)
  refine g_iload_n X dX3_addBond_65 rfl rfl ?_
  refine g_aload_n X dX3_addBond_66 rfl rfl ?_
  refine g_callVi (na := 0) X hj (k_X0_milestones l γ _) gW_11 rfl gX3_addBond_X0_milestones rfl ⟨rfl, rfl⟩ (by decide +kernel) rfl ⟨by decide, by decide⟩ rfl (Nat.le_of_ble_eq_true rfl) dX3_addBond_67 ⟨by decide, by decide⟩ ?_
  refine g_top (y := nI q) (by rw [s2_11]; exact hq) ?_
  refine g_icmpN_ge (tgt := 93) X dX3_addBond_70 (by decide) (by omega) (by omega) (fun c_70 => ?_) (fun c_70 => ?_)
  · have e : q = i := by omega
    subst e
    refine g_iconstN X 0 dX3_addBond_93 ?_
    refine g_istore_n3 X dX3_addBond_94 rfl (by decide) rfl ?_
    refine g_up (i0 := 0) (N := k) (fun i => [some (.ref (ad γ 1)), some (.ref (ad γ 11)), some (.int (nI N)), some (.int (nI i))]) (fun i => sA σ 2 (abL (abS (ab0 (σ.1 2) N (σ.1 11)) N (σ.1 15) q) N (σ.1 13) (σ.1 14) i)) (by simp [gl_le]) rfl (by omega) (fun i hi ih95 => ?_)
    refine g_iload_n X dX3_addBond_95 rfl rfl ?_
    refine g_aload_n X dX3_addBond_96 rfl rfl ?_
    refine g_callVi (na := 0) X hj (k_X0_layers l γ _) gW_11 rfl gX3_addBond_X0_layers rfl ⟨rfl, rfl⟩ (by decide +kernel) rfl ⟨by decide, by decide⟩ rfl (Nat.le_of_ble_eq_true rfl) dX3_addBond_97 ⟨by decide, by decide⟩ ?_
    refine g_top (y := nI k) (by rw [s2_11]; exact hk) ?_
    refine g_icmpN_ge (tgt := 145) X dX3_addBond_100 (by decide) (by omega) (by omega) (fun c_100 => ?_) (fun c_100 => ?_)
    · have e : k = i := by omega
      subst e
      refine g_aload_n X dX3_addBond_145 rfl rfl ?_
      refine g_get_1_0 X hi3 (by decide +kernel) dX3_addBond_146 ?_
      refine g_bipush (v := nI 116) X dX3_addBond_149 (by decide) ?_
      refine g_iload_n X dX3_addBond_151 rfl rfl ?_
      refine g_iconstN X 1 dX3_addBond_152 ?_
      refine g_iaddN X dX3_addBond_153 ?_
      refine g_ast_2 X rfl (by omega) dX3_addBond_154 ?_
      simp only [sA_sA, sA_eq]
      refine g_iload_n X dX3_addBond_155 rfl rfl ?_
      exact g_iret X hr hlk dX3_addBond_156 ⟨rfl, rfl⟩
    · refine g_aload_n X dX3_addBond_103 rfl rfl ?_
      refine g_iload_n X dX3_addBond_104 rfl rfl ?_
      refine g_iload_n X dX3_addBond_105 rfl rfl ?_
      refine g_iconstN X 0 dX3_addBond_106 ?_
      refine g_aload_n X dX3_addBond_107 rfl rfl ?_
      refine g_iload_n X dX3_addBond_108 rfl rfl ?_
      refine g_callVi (na := 1) X hj (k_X0_surety l γ _ _ (by omega)) gW_11 rfl gX3_addBond_X0_surety rfl ⟨rfl, rfl⟩ (by decide +kernel) rfl ⟨by decide, by decide⟩ rfl (Nat.le_of_ble_eq_true rfl) dX3_addBond_109 ⟨by decide, by decide⟩ ?_
      simp only [sA_sA, sA_eq, s2_11, s2_13, s2_14, s2_15]
      refine g_callVv (na := 4) X hj (k_X3_putLayerFact l γ _ _ _ _ _ (by omega) (by omega) (by omega)) gW_1 rfl gX3_addBond_X3_putLayerFact rfl ⟨rfl, rfl⟩ (by decide +kernel) rfl ⟨by decide, by decide⟩ rfl (Nat.le_of_ble_eq_true rfl) dX3_addBond_112 ⟨by decide, by decide⟩ ?_
      simp only [sA_sA, sA_eq]
      refine g_aload_n X dX3_addBond_115 rfl rfl ?_
      refine g_iload_n X dX3_addBond_116 rfl rfl ?_
      refine g_iload_n X dX3_addBond_117 rfl rfl ?_
      refine g_iconstN X 1 dX3_addBond_118 ?_
      refine g_aload_n X dX3_addBond_119 rfl rfl ?_
      refine g_iload_n X dX3_addBond_120 rfl rfl ?_
      refine g_callVi (na := 1) X hj (k_X0_limit l γ _ _ (by omega)) gW_11 rfl gX3_addBond_X0_limit rfl ⟨rfl, rfl⟩ (by decide +kernel) rfl ⟨by decide, by decide⟩ rfl (Nat.le_of_ble_eq_true rfl) dX3_addBond_121 ⟨by decide, by decide⟩ ?_
      simp only [sA_sA, sA_eq, s2_11, s2_13, s2_14, s2_15]
      refine g_callVv (na := 4) X hj (k_X3_putLayerFact l γ _ _ _ _ _ (by omega) (by omega) (by omega)) gW_1 rfl gX3_addBond_X3_putLayerFact rfl ⟨rfl, rfl⟩ (by decide +kernel) rfl ⟨by decide, by decide⟩ rfl (Nat.le_of_ble_eq_true rfl) dX3_addBond_124 ⟨by decide, by decide⟩ ?_
      simp only [sA_sA, sA_eq]
      refine g_aload_n X dX3_addBond_127 rfl rfl ?_
      refine g_iload_n X dX3_addBond_128 rfl rfl ?_
      refine g_iload_n X dX3_addBond_129 rfl rfl ?_
      refine g_iconstN X 2 dX3_addBond_130 ?_
      refine g_aload_n X dX3_addBond_131 rfl rfl ?_
      refine g_iload_n X dX3_addBond_132 rfl rfl ?_
      refine g_callVi (na := 1) X hj (k_X0_limit l γ _ _ (by omega)) gW_11 rfl gX3_addBond_X0_limit rfl ⟨rfl, rfl⟩ (by decide +kernel) rfl ⟨by decide, by decide⟩ rfl (Nat.le_of_ble_eq_true rfl) dX3_addBond_133 ⟨by decide, by decide⟩ ?_
      simp only [sA_sA, sA_eq, s2_11, s2_13, s2_14, s2_15]
      refine g_callVv (na := 4) X hj (k_X3_putLayerFact l γ _ _ _ _ _ (by omega) (by omega) (by omega)) gW_1 rfl gX3_addBond_X3_putLayerFact rfl ⟨rfl, rfl⟩ (by decide +kernel) rfl ⟨by decide, by decide⟩ rfl (Nat.le_of_ble_eq_true rfl) dX3_addBond_136 ⟨by decide, by decide⟩ ?_
      simp only [sA_sA, sA_eq]
      refine g_iincN3 (d := 1) X dX3_addBond_139 (by decide) rfl ?_
      refine g_goto (tgt := 95) X dX3_addBond_142 (by decide) ?_
      exact g_le (by simp [gl_le]) (ih95 (by omega))
  · refine g_aload_n X dX3_addBond_73 rfl rfl ?_
    refine g_iload_n X dX3_addBond_74 rfl rfl ?_
    refine g_bipush (v := nI 10) X dX3_addBond_75 (by decide) ?_
    refine g_iload_n X dX3_addBond_77 rfl rfl ?_
    refine g_iaddN X dX3_addBond_78 ?_
    refine g_aload_n X dX3_addBond_79 rfl rfl ?_
    refine g_iload_n X dX3_addBond_80 rfl rfl ?_
    refine g_callVi (na := 1) X hj (k_X0_share l γ _ _ (by omega)) gW_11 rfl gX3_addBond_X0_share rfl ⟨rfl, rfl⟩ (by decide +kernel) rfl ⟨by decide, by decide⟩ rfl (Nat.le_of_ble_eq_true rfl) dX3_addBond_81 ⟨by decide, by decide⟩ ?_
    simp only [sA_sA, sA_eq, s2_11, s2_13, s2_14, s2_15]
    refine g_callVv (na := 3) X hj (k_X3_putBondFact l γ _ _ _ _ (by omega)) gW_1 rfl gX3_addBond_X3_putBondFact rfl ⟨rfl, rfl⟩ (by decide +kernel) rfl ⟨by decide, by decide⟩ rfl (Nat.le_of_ble_eq_true rfl) dX3_addBond_84 ⟨by decide, by decide⟩ ?_
    simp only [sA_sA, sA_eq, s2_11, s2_13, s2_14, s2_15]
    refine g_iincN3 (d := 1) X dX3_addBond_87 (by decide) rfl ?_
    refine g_goto (tgt := 65) X dX3_addBond_90 (by decide) ?_
    exact g_le (by simp [gl_le]) (ih65 (by omega))
set_option maxRecDepth 20000 in
theorem k_X4_isTooMuchForSomebody (l : Launch) (γ : gG) (σ : gS) (N k : Nat) (L su : Nat → Nat) (hS : Sh (σ.1 2) N L) (hk : σ.1 11 10 = nI k) (hk4 : k ≤ 4) (hsu : ∀ i, i < k → σ.1 13 i = nI (su i) ∧ su i < 8) : gM l γ yX4_isTooMuchForSomebody wsX4_isTooMuchForSomebody ({ frames := 2, cells := 0, slots := 0, locals := 47 } : Room) [.ref (ad γ 0)] σ (gis (some (.int (bI (tooI (σ.1 2) N L su (σ.1 14) k)))) σ) 0 0 := by
  refine g_enter (own := RX4) (cc := cX4_isTooMuchForSomebody) (nL := 4) (ret := (some .boolean)) [some (.ref (ad γ 0)), none, none, none] (by decide) rfl rfl (by simp [lg_sl, Value.category]) (by simp [gl_le, glE, Value.category]) (fun hj p e s m args below meth c X hr hlk hnm => ?_)
  have hi4 : ∀ w ∈ wsX40, w ∈ wsX4_isTooMuchForSomebody := by decide +kernel
  refine g_iconstN X 0 dX4_isTooMuchForSomebody_0 ?_
  refine g_istore_n1 X dX4_isTooMuchForSomebody_1 rfl (by decide) rfl ?_
  refine g_wf (fun r ls τ => ∃ (i : Nat), i + r = k ∧ σ = τ ∧ gl_le [some (.ref (ad γ 0)), some (.int (nI i)), none, none] ls ∧ tooI (σ.1 2) N L su (σ.1 14) i = false) k ⟨0, by omega, rfl, by simp [gl_le], rfl⟩ (fun r ls τ hI ih => ?_)
  obtain ⟨i, hi, rfl, hgl, hto⟩ := hI
  refine g_le hgl ?_
  refine g_iload_n X dX4_isTooMuchForSomebody_2 rfl rfl ?_
  refine g_aload_n X dX4_isTooMuchForSomebody_3 rfl rfl ?_
  refine g_get_0_2 X hi4 (by decide +kernel) dX4_isTooMuchForSomebody_4 ?_
  refine g_callVi (na := 0) X hj (k_X0_layers l γ _) gW_11 rfl gX4_isTooMuchForSomebody_X0_layers rfl ⟨rfl, rfl⟩ (by decide +kernel) rfl ⟨by decide, by decide⟩ rfl (Nat.le_of_ble_eq_true rfl) dX4_isTooMuchForSomebody_7 ⟨by decide, by decide⟩ ?_
  refine g_top (y := nI k) hk ?_
  refine g_icmpN_ge (tgt := 70) X dX4_isTooMuchForSomebody_10 (by decide) (by omega) (by omega) (fun c_10 => ?_) (fun c_10 => ?_)
  · have e : k = i := by omega
    subst e
    refine g_iconstN X 0 dX4_isTooMuchForSomebody_70 ?_
    exact g_zret X hr hlk rfl dX4_isTooMuchForSomebody_71 ⟨by rw [hto]; rfl, rfl⟩
  · have hs8 := (hsu i c_10).2
    refine g_aload_n X dX4_isTooMuchForSomebody_13 rfl rfl ?_
    refine g_get_0_2 X hi4 (by decide +kernel) dX4_isTooMuchForSomebody_14 ?_
    refine g_iload_n X dX4_isTooMuchForSomebody_17 rfl rfl ?_
    refine g_callVi (na := 1) X hj (k_X0_surety l γ _ _ (by omega)) gW_11 rfl gX4_isTooMuchForSomebody_X0_surety rfl ⟨rfl, rfl⟩ (by decide +kernel) rfl ⟨by decide, by decide⟩ rfl (Nat.le_of_ble_eq_true rfl) dX4_isTooMuchForSomebody_18 ⟨by decide, by decide⟩ ?_
    refine g_top (y := nI (su i)) (hsu i c_10).1 ?_
    refine g_istore_n2 X dX4_isTooMuchForSomebody_21 rfl (by decide) rfl ?_
    refine g_aload_n X dX4_isTooMuchForSomebody_22 rfl rfl ?_
    refine g_get_0_0 X hi4 (by decide +kernel) dX4_isTooMuchForSomebody_23 ?_
    refine g_iload_n X dX4_isTooMuchForSomebody_26 rfl rfl ?_
    refine g_iconstN X 0 dX4_isTooMuchForSomebody_27 ?_
    refine g_callVi (na := 2) X hj (k_X3_fact l γ _ _ _ (by omega)) gW_1 rfl gX4_isTooMuchForSomebody_X3_fact rfl ⟨rfl, rfl⟩ (by decide +kernel) rfl ⟨by decide, by decide⟩ rfl (Nat.le_of_ble_eq_true rfl) dX4_isTooMuchForSomebody_28 ⟨by decide, by decide⟩ ?_
    refine g_aload_n X dX4_isTooMuchForSomebody_31 rfl rfl ?_
    refine g_get_0_0 X hi4 (by decide +kernel) dX4_isTooMuchForSomebody_32 ?_
    refine g_iconstN X 2 dX4_isTooMuchForSomebody_35 ?_
    refine g_callVi (na := 1) X hj (k_X3_settingValue l γ _ _ (by omega)) gW_1 rfl gX4_isTooMuchForSomebody_X3_settingValue rfl ⟨rfl, rfl⟩ (by decide +kernel) rfl ⟨by decide, by decide⟩ rfl (Nat.le_of_ble_eq_true rfl) dX4_isTooMuchForSomebody_36 ⟨by decide, by decide⟩ ?_
    refine g_imul X dX4_isTooMuchForSomebody_39 ?_
    refine g_istore_n3 X dX4_isTooMuchForSomebody_40 rfl (by decide) rfl ?_
    refine g_aload_n X dX4_isTooMuchForSomebody_41 rfl rfl ?_
    refine g_get_0_0 X hi4 (by decide +kernel) dX4_isTooMuchForSomebody_42 ?_
    refine g_iload_n X dX4_isTooMuchForSomebody_45 rfl rfl ?_
    refine g_callVi (na := 1) X hj (k_X3_boundFor l γ _ N L _ hS) gW_1 rfl gX4_isTooMuchForSomebody_X3_boundFor rfl ⟨rfl, rfl⟩ (by decide +kernel) rfl ⟨by decide, by decide⟩ rfl (Nat.le_of_ble_eq_true rfl) dX4_isTooMuchForSomebody_46 ⟨by decide, by decide⟩ ?_
    refine g_aload_n X dX4_isTooMuchForSomebody_49 rfl rfl ?_
    refine g_get_0_2 X hi4 (by decide +kernel) dX4_isTooMuchForSomebody_50 ?_
    refine g_iload_n X dX4_isTooMuchForSomebody_53 rfl rfl ?_
    refine g_callVi (na := 1) X hj (k_X0_limit l γ _ _ (by omega)) gW_11 rfl gX4_isTooMuchForSomebody_X0_limit rfl ⟨rfl, rfl⟩ (by decide +kernel) rfl ⟨by decide, by decide⟩ rfl (Nat.le_of_ble_eq_true rfl) dX4_isTooMuchForSomebody_54 ⟨by decide, by decide⟩ ?_
    refine g_iadd X dX4_isTooMuchForSomebody_57 ?_
    refine g_iload_n X dX4_isTooMuchForSomebody_58 rfl rfl ?_
    refine g_icmp_le (tgt := 64) X dX4_isTooMuchForSomebody_59 (by decide) (fun c_59 => ?_) (fun c_59 => ?_)
    · refine g_iincN1 (d := 1) X dX4_isTooMuchForSomebody_64 (by decide) rfl ?_
      refine g_goto (tgt := 2) X dX4_isTooMuchForSomebody_67 (by decide) ?_
      exact ih (r - 1) (by omega) _ _ ⟨i + 1, by omega, rfl, by simp [gl_le], tooI_s hto (by unfold tooB; rw [decide_eq_true c_59]; rfl)⟩
    · refine g_iconstN X 1 dX4_isTooMuchForSomebody_62 ?_
      exact g_zret X hr hlk rfl dX4_isTooMuchForSomebody_63 ⟨by rw [tooI_t c_10 (by unfold tooB; rw [decide_eq_false c_59]; rfl)]; rfl, rfl⟩
set_option maxRecDepth 20000 in
theorem k_X4_give (l : Launch) (γ : gG) (σ : gS) (τ : gS) (nl k q N : Nat) (L su : Nat → Nat) (hl : σ.1 11 4 = nI nl) (hl60 : nl ≤ 60) (hτ : rdE (rd0 σ) nl = τ) (hk : τ.1 11 10 = nI k) (hk4 : k ≤ 4) (hq : τ.1 11 11 = nI q) (hq5 : q ≤ 5) (hc5 : τ.1 11 5 = nI 8) (hso : (soundL τ k && (decide (sumI (τ.1 14) k ≤ τ.1 11 8) && decide (sumI (τ.1 15) q ≤ nI 1000))) = true) (hS : Sh (τ.1 2) N L) (hN9 : N < 10) (hsu : ∀ i, i < k → τ.1 13 i = nI (su i) ∧ su i < 8) (hto : tooI (τ.1 2) N L su (τ.1 14) k = false) (j z : Nat) (hj6 : j < 6) (hn : τ.1 3 1 = nI j) (hz : τ.1 3 2 = nI z) (hz6 : z ≤ 6) : gM l γ yX4_give wsX4_give ({ frames := 6, cells := 0, slots := 0, locals := 200 } : Room) [.ref (ad γ 0)] σ (gis (some (.int (nI N))) (sP (sA (svS τ j z) 2 (abV (τ.1 2) N (τ.1 11) (τ.1 13) (τ.1 14) (τ.1 15) k q)) 4 (nI 0))) 0 0 := by
  refine g_enter (own := RX4) (cc := cX4_give) (nL := 2) (ret := (some .int)) [some (.ref (ad γ 0)), none] (by decide) rfl rfl (by simp [lg_sl, Value.category]) (by simp [gl_le, glE, Value.category]) (fun hj p e s m args below meth c X hr hlk hnm => ?_)
  have hi4 : ∀ w ∈ wsX40, w ∈ wsX4_give := by decide +kernel
  refine g_aload_n X dX4_give_0 rfl rfl ?_
  refine g_get_0_2 X hi4 (by decide +kernel) dX4_give_1 ?_
  refine g_callVi (na := 0) X hj (k_X0_read l γ _ nl hl hl60) gW_11 rfl gX4_give_X0_read rfl ⟨rfl, rfl⟩ (by decide +kernel) rfl ⟨by decide, by decide⟩ rfl (Nat.le_of_ble_eq_true rfl) dX4_give_4 ⟨by decide, by decide⟩ ?_
  rw [hτ]
  refine g_pop X dX4_give_7 rfl ?_
  refine g_aload_n X dX4_give_8 rfl rfl ?_
  refine g_get_0_2 X hi4 (by decide +kernel) dX4_give_9 ?_
  refine g_callVi (na := 0) X hj (k_X0_isBond l γ _) gW_11 rfl gX4_give_X0_isBond rfl ⟨rfl, rfl⟩ (by decide +kernel) rfl ⟨by decide, by decide⟩ rfl (Nat.le_of_ble_eq_true rfl) dX4_give_12 ⟨by decide, by decide⟩ ?_
  refine g_if_eq (tgt := 28) X dX4_give_15 (by decide) (fun c_15 => absurd c_15 (by rw [hc5]; decide)) (fun c_15 => ?_)
  refine g_aload_n X dX4_give_18 rfl rfl ?_
  refine g_get_0_2 X hi4 (by decide +kernel) dX4_give_19 ?_
  refine g_callVi (na := 0) X hj (k_X0_isSound l γ _ k q hk hk4 hq hq5) gW_11 rfl gX4_give_X0_isSound rfl ⟨rfl, rfl⟩ (by decide +kernel) rfl ⟨by decide, by decide⟩ rfl (Nat.le_of_ble_eq_true rfl) dX4_give_22 ⟨by decide, by decide⟩ ?_
  refine g_if_ne (tgt := 38) X dX4_give_25 (by decide) (fun c_25 => ?_) (fun c_25 => absurd c_25 (by rw [hso]; decide))
  refine g_aload_n X dX4_give_38 rfl rfl ?_
  refine g_get_0_0 X hi4 (by decide +kernel) dX4_give_39 ?_
  refine g_callVi (na := 0) X hj (k_X3_bondCount l γ _) gW_1 rfl gX4_give_X3_bondCount rfl ⟨rfl, rfl⟩ (by decide +kernel) rfl ⟨by decide, by decide⟩ rfl (Nat.le_of_ble_eq_true rfl) dX4_give_42 ⟨by decide, by decide⟩ ?_
  refine g_top (y := nI N) hS.1 ?_
  refine g_bipush (v := nI 10) X dX4_give_45 (by decide) ?_
  refine g_icmpN_ge (tgt := 57) X dX4_give_47 (by decide) (by omega) (by omega) (fun c_47 => absurd hN9 (by omega)) (fun c_47 => ?_)
  refine g_aload_n X dX4_give_50 rfl rfl ?_
  refine g_callVi (na := 0) X hj (k_X4_isTooMuchForSomebody l γ _ N k L su hS hk hk4 hsu) gW_0 rfl gX4_give_X4_isTooMuchForSomebody rfl ⟨rfl, rfl⟩ (by decide +kernel) rfl ⟨by decide, by decide⟩ rfl (Nat.le_of_ble_eq_true rfl) dX4_give_51 ⟨by decide, by decide⟩ ?_
  refine g_if_eq (tgt := 67) X dX4_give_54 (by decide) (fun c_54 => ?_) (fun c_54 => absurd (by rw [hto]; rfl) c_54)
  refine g_aload_n X dX4_give_67 rfl rfl ?_
  refine g_get_0_1 X hi4 (by decide +kernel) dX4_give_68 ?_
  refine g_aload_n X dX4_give_71 rfl rfl ?_
  refine g_get_0_0 X hi4 (by decide +kernel) dX4_give_72 ?_
  refine g_callVv (na := 1) X hj (k_X1_save l γ _ j z hj6 hn hz hz6) gW_3 rfl gX4_give_X1_save rfl ⟨rfl, rfl⟩ (by decide +kernel) rfl ⟨by decide, by decide⟩ rfl (Nat.le_of_ble_eq_true rfl) dX4_give_75 ⟨by decide, by decide⟩ ?_
  refine g_aload_n X dX4_give_78 rfl rfl ?_
  refine g_get_0_0 X hi4 (by decide +kernel) dX4_give_79 ?_
  refine g_aload_n X dX4_give_82 rfl rfl ?_
  refine g_get_0_2 X hi4 (by decide +kernel) dX4_give_83 ?_
  refine g_callVi (na := 1) X hj (k_X3_addBond l γ (svS τ j z) N k q (by rw [sv_2]; exact hS.1) hN9 (by rw [sv_o τ hj6 (by decide)]; exact hk) hk4 (by rw [sv_o τ hj6 (by decide)]; exact hq) hq5) gW_1 rfl gX4_give_X3_addBond rfl ⟨rfl, rfl⟩ (by decide +kernel) rfl ⟨by decide, by decide⟩ rfl (Nat.le_of_ble_eq_true rfl) dX4_give_86 ⟨by decide, by decide⟩ ?_
  rw [sv_2, sv_o τ hj6 (by decide), sv_o τ hj6 (by decide), sv_o τ hj6 (by decide), sv_o τ hj6 (by decide)]
  refine g_istore_n1 X dX4_give_89 rfl (by decide) rfl ?_
  refine g_aload_n X dX4_give_90 rfl rfl ?_
  refine g_get_0_2 X hi4 (by decide +kernel) dX4_give_91 ?_
  refine g_callVv (na := 0) X hj (k_X0_clear l γ _) gW_11 rfl gX4_give_X0_clear rfl ⟨rfl, rfl⟩ (by decide +kernel) rfl ⟨by decide, by decide⟩ rfl (Nat.le_of_ble_eq_true rfl) dX4_give_94 ⟨by decide, by decide⟩ ?_
  refine g_iload_n X dX4_give_97 rfl rfl ?_
  exact g_iret X hr hlk dX4_give_98 ⟨rfl, rfl⟩
set_option maxRecDepth 20000 in
theorem t_X4_give_a (l : Launch) (γ : gG) (σ : gS) (τ : gS) (nl k q N : Nat) (L su : Nat → Nat) (hl : σ.1 11 4 = nI nl) (hl60 : nl ≤ 60) (hτ : rdE (rd0 σ) nl = τ) (hk : τ.1 11 10 = nI k) (hk4 : k ≤ 4) (hq : τ.1 11 11 = nI q) (hq5 : q ≤ 5) (h : τ.1 11 5 ≠ nI 8 ∨ (soundL τ k && (decide (sumI (τ.1 14) k ≤ τ.1 11 8) && decide (sumI (τ.1 15) q ≤ nI 1000))) = false) : gMX l γ yX4_give wsX4_give ({ frames := 6, cells := 1, slots := 6, locals := 200 } : Room) [.ref (ad γ 0)] σ eA (τ) := by
  refine g_enterX (own := RX4) (cc := cX4_give) (nL := 2) (ret := (some .int)) [some (.ref (ad γ 0)), none] (by decide) rfl rfl (by simp [lg_sl, Value.category]) (by simp [gl_le, glE, Value.category]) (fun hj p e s m args below meth c X C => ?_)
  have hin_A : ∀ w ∈ Cond.classLink RX4 171 eA :: Cond.initialized eA :: (vx_atS RX4 175 eA eN).filter goodWord, w ∈ wsX4_give := by decide +kernel
  have hi4 : ∀ w ∈ wsX40, w ∈ wsX4_give := by decide +kernel
  refine g_aload_n X dX4_give_0 rfl rfl ?_
  refine g_get_0_2 X hi4 (by decide +kernel) dX4_give_1 ?_
  refine g_callVi (na := 0) X hj (k_X0_read l γ _ nl hl hl60) gW_11 rfl gX4_give_X0_read rfl ⟨rfl, rfl⟩ (by decide +kernel) rfl ⟨by decide, by decide⟩ rfl (Nat.le_of_ble_eq_true rfl) dX4_give_4 ⟨by decide, by decide⟩ ?_
  rw [hτ]
  refine g_pop X dX4_give_7 rfl ?_
  refine g_aload_n X dX4_give_8 rfl rfl ?_
  refine g_get_0_2 X hi4 (by decide +kernel) dX4_give_9 ?_
  refine g_callVi (na := 0) X hj (k_X0_isBond l γ _) gW_11 rfl gX4_give_X0_isBond rfl ⟨rfl, rfl⟩ (by decide +kernel) rfl ⟨by decide, by decide⟩ rfl (Nat.le_of_ble_eq_true rfl) dX4_give_12 ⟨by decide, by decide⟩ ?_
  refine g_if_eq (tgt := 28) X dX4_give_15 (by decide) (fun c_15 => ?_) (fun c_15 => ?_)
  · replace c_15 := bI_f c_15
    exact g_throw (names := eN) (htx := g_tx173) X C fit_A ot_A hin_A ng_A dX4_give_28 dX4_give_31 dX4_give_32 dX4_give_34 dX4_give_37 ⟨by decide, by decide, by decide, by decide⟩ ⟨by decide, by decide⟩
  · replace c_15 := bI_t c_15
    refine g_aload_n X dX4_give_18 rfl rfl ?_
    refine g_get_0_2 X hi4 (by decide +kernel) dX4_give_19 ?_
    refine g_callVi (na := 0) X hj (k_X0_isSound l γ _ k q hk hk4 hq hq5) gW_11 rfl gX4_give_X0_isSound rfl ⟨rfl, rfl⟩ (by decide +kernel) rfl ⟨by decide, by decide⟩ rfl (Nat.le_of_ble_eq_true rfl) dX4_give_22 ⟨by decide, by decide⟩ ?_
    refine g_if_ne (tgt := 38) X dX4_give_25 (by decide) (fun c_25 => h.elim (fun q9 => absurd (of_decide_eq_true c_15) q9) (fun q9 => absurd (by rw [q9]; rfl) c_25)) (fun c_25 => ?_)
    exact g_throw (names := eN) (htx := g_tx173) X C fit_A ot_A hin_A ng_A dX4_give_28 dX4_give_31 dX4_give_32 dX4_give_34 dX4_give_37 ⟨by decide, by decide, by decide, by decide⟩ ⟨by decide, by decide⟩
set_option maxRecDepth 20000 in
theorem t_X4_give_s (l : Launch) (γ : gG) (σ : gS) (τ : gS) (nl k q N : Nat) (L su : Nat → Nat) (hl : σ.1 11 4 = nI nl) (hl60 : nl ≤ 60) (hτ : rdE (rd0 σ) nl = τ) (hk : τ.1 11 10 = nI k) (hk4 : k ≤ 4) (hq : τ.1 11 11 = nI q) (hq5 : q ≤ 5) (hc5 : τ.1 11 5 = nI 8) (hso : (soundL τ k && (decide (sumI (τ.1 14) k ≤ τ.1 11 8) && decide (sumI (τ.1 15) q ≤ nI 1000))) = true) (hS : Sh (τ.1 2) N L) (hsu : ∀ i, i < k → τ.1 13 i = nI (su i) ∧ su i < 8) (h : N = 10 ∨ tooI (τ.1 2) N L su (τ.1 14) k = true) : gMX l γ yX4_give wsX4_give ({ frames := 6, cells := 1, slots := 6, locals := 200 } : Room) [.ref (ad γ 0)] σ eT (τ) := by
  have hN10 := hS.2.1
  refine g_enterX (own := RX4) (cc := cX4_give) (nL := 2) (ret := (some .int)) [some (.ref (ad γ 0)), none] (by decide) rfl rfl (by simp [lg_sl, Value.category]) (by simp [gl_le, glE, Value.category]) (fun hj p e s m args below meth c X C => ?_)
  have hin_T : ∀ w ∈ Cond.classLink RX4 63 eT :: Cond.initialized eT :: (vx_atS RX4 67 eT eN).filter goodWord, w ∈ wsX4_give := by decide +kernel
  have hi4 : ∀ w ∈ wsX40, w ∈ wsX4_give := by decide +kernel
  refine g_aload_n X dX4_give_0 rfl rfl ?_
  refine g_get_0_2 X hi4 (by decide +kernel) dX4_give_1 ?_
  refine g_callVi (na := 0) X hj (k_X0_read l γ _ nl hl hl60) gW_11 rfl gX4_give_X0_read rfl ⟨rfl, rfl⟩ (by decide +kernel) rfl ⟨by decide, by decide⟩ rfl (Nat.le_of_ble_eq_true rfl) dX4_give_4 ⟨by decide, by decide⟩ ?_
  rw [hτ]
  refine g_pop X dX4_give_7 rfl ?_
  refine g_aload_n X dX4_give_8 rfl rfl ?_
  refine g_get_0_2 X hi4 (by decide +kernel) dX4_give_9 ?_
  refine g_callVi (na := 0) X hj (k_X0_isBond l γ _) gW_11 rfl gX4_give_X0_isBond rfl ⟨rfl, rfl⟩ (by decide +kernel) rfl ⟨by decide, by decide⟩ rfl (Nat.le_of_ble_eq_true rfl) dX4_give_12 ⟨by decide, by decide⟩ ?_
  refine g_if_eq (tgt := 28) X dX4_give_15 (by decide) (fun c_15 => absurd c_15 (by rw [hc5]; decide)) (fun c_15 => ?_)
  refine g_aload_n X dX4_give_18 rfl rfl ?_
  refine g_get_0_2 X hi4 (by decide +kernel) dX4_give_19 ?_
  refine g_callVi (na := 0) X hj (k_X0_isSound l γ _ k q hk hk4 hq hq5) gW_11 rfl gX4_give_X0_isSound rfl ⟨rfl, rfl⟩ (by decide +kernel) rfl ⟨by decide, by decide⟩ rfl (Nat.le_of_ble_eq_true rfl) dX4_give_22 ⟨by decide, by decide⟩ ?_
  refine g_if_ne (tgt := 38) X dX4_give_25 (by decide) (fun c_25 => ?_) (fun c_25 => absurd c_25 (by rw [hso]; decide))
  refine g_aload_n X dX4_give_38 rfl rfl ?_
  refine g_get_0_0 X hi4 (by decide +kernel) dX4_give_39 ?_
  refine g_callVi (na := 0) X hj (k_X3_bondCount l γ _) gW_1 rfl gX4_give_X3_bondCount rfl ⟨rfl, rfl⟩ (by decide +kernel) rfl ⟨by decide, by decide⟩ rfl (Nat.le_of_ble_eq_true rfl) dX4_give_42 ⟨by decide, by decide⟩ ?_
  refine g_top (y := nI N) hS.1 ?_
  refine g_bipush (v := nI 10) X dX4_give_45 (by decide) ?_
  refine g_icmpN_ge (tgt := 57) X dX4_give_47 (by decide) (by omega) (by omega) (fun c_47 => ?_) (fun c_47 => ?_)
  · exact g_throw (names := eN) (htx := g_tx182) X C fit_T ot_T hin_T ng_T dX4_give_57 dX4_give_60 dX4_give_61 dX4_give_63 dX4_give_66 ⟨by decide, by decide, by decide, by decide⟩ ⟨by decide, by decide⟩
  · refine g_aload_n X dX4_give_50 rfl rfl ?_
    refine g_callVi (na := 0) X hj (k_X4_isTooMuchForSomebody l γ _ N k L su hS hk hk4 hsu) gW_0 rfl gX4_give_X4_isTooMuchForSomebody rfl ⟨rfl, rfl⟩ (by decide +kernel) rfl ⟨by decide, by decide⟩ rfl (Nat.le_of_ble_eq_true rfl) dX4_give_51 ⟨by decide, by decide⟩ ?_
    refine g_if_eq (tgt := 67) X dX4_give_54 (by decide) (fun c_54 => h.elim (fun q9 => absurd c_47 (by omega)) (fun q9 => absurd c_54 (by rw [q9]; decide))) (fun c_54 => ?_)
    exact g_throw (names := eN) (htx := g_tx182) X C fit_T ot_T hin_T ng_T dX4_give_57 dX4_give_60 dX4_give_61 dX4_give_63 dX4_give_66 ⟨by decide, by decide, by decide, by decide⟩ ⟨by decide, by decide⟩
