/-! THE HISTORY -/
theorem min6 {z : Nat} (h : z ≤ 6) : (if nI (z + 1) < nI 6 then nI (z + 1) else nI 6) = nI (min 6 (z + 1)) := by
  by_cases hz : z < 5
  · rw [if_pos ((nI_ltI (by omega) (by decide)).mpr (by omega))]
    congr 1
    omega
  · rw [if_neg (fun q => by have := (nI_ltI (by omega) (by decide)).mp q; omega)]
    congr 1
    omega
/-- the state behind a save: row j holds the cells, the next row, one more saved (6 at most) -/
def svS (σ : gS) (j z : Nat) : gS := sA (sA σ (5 + j) (cpy427 (σ.1 2) (σ.1 (5 + j)))) 3 (upd (upd (σ.1 3) 1 (nI ((j + 1) % 6))) 2 (nI (min 6 (z + 1))))
/-- the state behind a restoring: the row ahead comes back -/
def rsS (σ : gS) (j z : Nat) : gS := sA (sA σ 3 (upd (upd (σ.1 3) 1 (nI ((j + 5) % 6))) 2 (nI (z - 1)))) 2 (cpy427 (σ.1 (5 + (j + 5) % 6)) (σ.1 2))
theorem k_X3_copyTo (l : Launch) (γ : gG) (σ : gS) (j : Nat) (hj6 : j < 6) : gM l γ yX3_copyTo wsX3_copyTo ({ frames := 1, cells := 0, slots := 0, locals := 60 } : Room) [.ref (ad γ 1), .ref (ad γ (5 + j))] σ (gis none (sA σ (5 + j) (cpy427 (σ.1 2) (σ.1 (5 + j))))) 0 0 := by
  refine g_enter (own := RX3) (cc := cX3_copyTo) (nL := 2) (ret := none) [some (.ref (ad γ 1)), some (.ref (ad γ (5 + j)))] (by decide) rfl rfl (by simp [lg_sl, Value.category]) (by simp [gl_le, glE, Value.category]) (fun hj p e s m args below meth c X hr hlk hnm => ?_)
  have hi3 : ∀ w ∈ wsX30, w ∈ wsX3_copyTo := by decide +kernel
  refine g_aload_n X dX3_copyTo_0 rfl rfl ?_
  refine g_get_1_0 X hi3 (by decide +kernel) dX3_copyTo_1 ?_
  refine g_iconstN X 0 dX3_copyTo_4 ?_
  refine g_aload_n X dX3_copyTo_5 rfl rfl ?_
  refine g_iconstN X 0 dX3_copyTo_6 ?_
  refine g_sipush (v := nI 427) X dX3_copyTo_7 (by decide) ?_
  refine g_copy (src := 2) (dst := (5 + j)) X gW_2 (gW_row hj6) (fun h => gW_set_row hj6) (by decide +kernel) ⟨by decide, Nat.le_of_ble_eq_true rfl⟩ dX3_copyTo_10 ?_
  exact g_vret X hr hlk dX3_copyTo_13 ⟨rfl, rfl⟩
theorem k_X3_copyFrom (l : Launch) (γ : gG) (σ : gS) (j : Nat) (hj6 : j < 6) : gM l γ yX3_copyFrom wsX3_copyFrom ({ frames := 1, cells := 0, slots := 0, locals := 60 } : Room) [.ref (ad γ 1), .ref (ad γ (5 + j))] σ (gis none (sA σ 2 (cpy427 (σ.1 (5 + j)) (σ.1 2)))) 0 0 := by
  refine g_enter (own := RX3) (cc := cX3_copyFrom) (nL := 2) (ret := none) [some (.ref (ad γ 1)), some (.ref (ad γ (5 + j)))] (by decide) rfl rfl (by simp [lg_sl, Value.category]) (by simp [gl_le, glE, Value.category]) (fun hj p e s m args below meth c X hr hlk hnm => ?_)
  have hi3 : ∀ w ∈ wsX30, w ∈ wsX3_copyFrom := by decide +kernel
  refine g_aload_n X dX3_copyFrom_0 rfl rfl ?_
  refine g_iconstN X 0 dX3_copyFrom_1 ?_
  refine g_aload_n X dX3_copyFrom_2 rfl rfl ?_
  refine g_get_1_0 X hi3 (by decide +kernel) dX3_copyFrom_3 ?_
  refine g_iconstN X 0 dX3_copyFrom_6 ?_
  refine g_sipush (v := nI 427) X dX3_copyFrom_7 (by decide) ?_
  refine g_copy (src := (5 + j)) (dst := 2) X (gW_row hj6) gW_2 (fun h => gW_set_2) (by decide +kernel) ⟨by decide, Nat.le_of_ble_eq_true rfl⟩ dX3_copyFrom_10 ?_
  exact g_vret X hr hlk dX3_copyFrom_13 ⟨rfl, rfl⟩
set_option maxRecDepth 20000 in
theorem k_X1_size (l : Launch) (γ : gG) (σ : gS) : gM l γ yX1_size wsX1_size ({ frames := 0, cells := 0, slots := 0, locals := 0 } : Room) [.ref (ad γ 3)] σ (gis (some (.int (σ.1 3 2))) σ) 0 0 := by
  refine g_enter (own := RX1) (cc := cX1_size) (nL := 1) (ret := (some .int)) [some (.ref (ad γ 3))] (by decide) rfl rfl (by simp [lg_sl, Value.category]) (by simp [gl_le, glE, Value.category]) (fun hj p e s m args below meth c X hr hlk hnm => ?_)
  have hi1 : ∀ w ∈ wsX10, w ∈ wsX1_size := by decide +kernel
  refine g_aload_n X dX1_size_0 rfl rfl ?_
  refine g_get_3_2 X hi1 (by decide +kernel) dX1_size_1 ?_
  exact g_iret X hr hlk dX1_size_4 ⟨rfl, rfl⟩
set_option maxRecDepth 20000 in
theorem k_X1_save (l : Launch) (γ : gG) (σ : gS) (j z : Nat) (hj6 : j < 6) (hn : σ.1 3 1 = nI j) (hz : σ.1 3 2 = nI z) (hz6 : z ≤ 6) : gM l γ yX1_save wsX1_save ({ frames := 2, cells := 0, slots := 0, locals := 81 } : Room) [.ref (ad γ 3), .ref (ad γ 1)] σ (gis none (svS σ j z)) 0 0 := by
  refine g_enter (own := RX1) (cc := cX1_save) (nL := 2) (ret := none) [some (.ref (ad γ 3)), some (.ref (ad γ 1))] (by decide) rfl rfl (by simp [lg_sl, Value.category]) (by simp [gl_le, glE, Value.category]) (fun hj p e s m args below meth c X hr hlk hnm => ?_)
  have hi1 : ∀ w ∈ wsX10, w ∈ wsX1_save := by decide +kernel
  refine g_aload_n X dX1_save_0 rfl rfl ?_
  refine g_aload_n X dX1_save_1 rfl rfl ?_
  refine g_get_3_0 X hi1 (by decide +kernel) dX1_save_2 ?_
  refine g_aload_n X dX1_save_5 rfl rfl ?_
  refine g_get_3_1 X hi1 (by decide +kernel) dX1_save_6 ?_
  refine g_top hn ?_
  refine g_aald_4 X rfl (by omega) dX1_save_9 ?_
  refine g_callVv (na := 1) X hj (k_X3_copyTo l γ _ _ (by omega)) gW_1 rfl gX1_save_X3_copyTo rfl ⟨rfl, rfl⟩ (by decide +kernel) rfl ⟨by decide, by decide⟩ rfl (Nat.le_of_ble_eq_true rfl) dX1_save_10 ⟨by decide, by decide⟩ ?_
  refine g_aload_n X dX1_save_13 rfl rfl ?_
  refine g_aload_n X dX1_save_14 rfl rfl ?_
  refine g_get_3_1 X hi1 (by decide +kernel) dX1_save_15 ?_
  refine g_top (y := nI j) (by rw [sA_ne _ _ (by omega)]; exact hn) ?_
  refine g_iconstN X 1 dX1_save_18 ?_
  refine g_iaddN X dX1_save_19 ?_
  refine g_bipush (v := nI 6) X dX1_save_20 (by decide) ?_
  refine g_irem X dX1_save_22 (by decide) ?_
  refine g_top (y := nI ((j + 1) % 6)) (pk_rem (by omega) (by decide) (by decide)) ?_
  refine g_put_3_1 X hi1 (by decide +kernel) dX1_save_23 ?_
  refine g_aload_n X dX1_save_26 rfl rfl ?_
  refine g_bipush (v := nI 6) X dX1_save_27 (by decide) ?_
  refine g_aload_n X dX1_save_29 rfl rfl ?_
  refine g_get_3_2 X hi1 (by decide +kernel) dX1_save_30 ?_
  refine g_top (y := nI z) (by rw [sA_eq, sA_ne _ _ (by omega)]; simp [upd, hz]) ?_
  refine g_iconstN X 1 dX1_save_33 ?_
  refine g_iaddN X dX1_save_34 ?_
  refine g_min X (by decide +kernel) ⟨by decide, Nat.le_of_ble_eq_true rfl, by decide, by decide⟩ dX1_save_35 ?_
  refine g_top (y := nI (min 6 (z + 1))) (min6 hz6) ?_
  refine g_put_3_2 X hi1 (by decide +kernel) dX1_save_38 ?_
  exact g_vret X hr hlk dX1_save_41 ⟨rfl, by unfold svS; rw [sA_sA, sA_eq, sA_ne _ _ (by omega)]⟩
set_option maxRecDepth 20000 in
theorem k_X1_restoreLatest (l : Launch) (γ : gG) (σ : gS) (j z : Nat) (hj6 : j < 6) (hn : σ.1 3 1 = nI j) (hz : σ.1 3 2 = nI z) (hz6 : z ≤ 6) (hz1 : 0 < z) : gM l γ yX1_restoreLatest wsX1_restoreLatest ({ frames := 2, cells := 0, slots := 0, locals := 81 } : Room) [.ref (ad γ 3), .ref (ad γ 1)] σ (gis none (rsS σ j z)) 0 0 := by
  refine g_enter (own := RX1) (cc := cX1_restoreLatest) (nL := 2) (ret := none) [some (.ref (ad γ 3)), some (.ref (ad γ 1))] (by decide) rfl rfl (by simp [lg_sl, Value.category]) (by simp [gl_le, glE, Value.category]) (fun hj p e s m args below meth c X hr hlk hnm => ?_)
  have hi1 : ∀ w ∈ wsX10, w ∈ wsX1_restoreLatest := by decide +kernel
  refine g_aload_n X dX1_restoreLatest_0 rfl rfl ?_
  refine g_aload_n X dX1_restoreLatest_1 rfl rfl ?_
  refine g_get_3_1 X hi1 (by decide +kernel) dX1_restoreLatest_2 ?_
  refine g_top hn ?_
  refine g_bipush (v := nI 6) X dX1_restoreLatest_5 (by decide) ?_
  refine g_iaddN X dX1_restoreLatest_7 ?_
  refine g_iconstN X 1 dX1_restoreLatest_8 ?_
  refine g_isubN X dX1_restoreLatest_9 (by omega) ?_
  refine g_bipush (v := nI 6) X dX1_restoreLatest_10 (by decide) ?_
  refine g_irem X dX1_restoreLatest_12 (by decide) ?_
  refine g_top (y := nI ((j + 5) % 6)) (by rw [show j + 6 - 1 = j + 5 by omega]; exact pk_rem (by omega) (by decide) (by decide)) ?_
  refine g_put_3_1 X hi1 (by decide +kernel) dX1_restoreLatest_13 ?_
  refine g_aload_n X dX1_restoreLatest_16 rfl rfl ?_
  refine g_dup X dX1_restoreLatest_17 rfl ?_
  refine g_get_3_2 X hi1 (by decide +kernel) dX1_restoreLatest_18 ?_
  refine g_top (y := nI z) (by rw [sA_eq]; simp [upd, hz]) ?_
  refine g_iconstN X 1 dX1_restoreLatest_21 ?_
  refine g_isubN X dX1_restoreLatest_22 (by omega) ?_
  refine g_put_3_2 X hi1 (by decide +kernel) dX1_restoreLatest_23 ?_
  refine g_aload_n X dX1_restoreLatest_26 rfl rfl ?_
  refine g_aload_n X dX1_restoreLatest_27 rfl rfl ?_
  refine g_get_3_0 X hi1 (by decide +kernel) dX1_restoreLatest_28 ?_
  refine g_aload_n X dX1_restoreLatest_31 rfl rfl ?_
  refine g_get_3_1 X hi1 (by decide +kernel) dX1_restoreLatest_32 ?_
  refine g_top (y := nI ((j + 5) % 6)) (by rw [sA_eq]; simp [upd, sA_eq]) ?_
  refine g_aald_4 X rfl (by omega) dX1_restoreLatest_35 ?_
  refine g_callVv (na := 1) X hj (k_X3_copyFrom l γ _ _ (by omega)) gW_1 rfl gX1_restoreLatest_X3_copyFrom rfl ⟨rfl, rfl⟩ (by decide +kernel) rfl ⟨by decide, by decide⟩ rfl (Nat.le_of_ble_eq_true rfl) dX1_restoreLatest_36 ⟨by decide, by decide⟩ ?_
  exact g_vret X hr hlk dX1_restoreLatest_39 ⟨rfl, by unfold rsS; rw [sA_sA, sA_eq, sA_ne _ _ (by omega), sA_ne _ _ (by omega)]⟩
