/-! THE TEXT -/
def sP (σ : gS) (f : Nat) (x : Int32) : gS := sA σ 11 (upd (σ.1 11) f x)
abbrev BS : Type := Bool × gS
def aSign (σ : gS) (c s q : Int32) : BS := if c = s then (true, sP σ 5 q) else (false, σ)
def aPrin (σ : gS) (c : Int32) : BS := if isPb (c - nI 48) then (true, sP (sP σ 7 (c - nI 48)) 5 (nI 2)) else (false, σ)
def aSure (σ : gS) (c : Int32) (k : Nat) : BS := if isPb (c - nI 48) ∧ k < 4 then (true, sP (sA σ 13 (upd (σ.1 13) k (c - nI 48))) 5 (nI 5)) else (false, σ)
def longer (σ : gS) (c : Int32) : Int32 := σ.1 11 6 * nI 10 + (c - nI 48)
def aExt (σ : gS) (c most : Int32) : BS := if ¬ c < nI 48 ∧ c ≤ nI 57 ∧ ¬ longer σ c < nI 1 ∧ longer σ c ≤ most then (true, sP σ 6 (longer σ c)) else (false, σ)
def aSum (σ : gS) (c : Int32) : BS := if ¬ σ.1 11 6 = 0 ∧ c = nI 58 then (true, sP (sP (sP σ 6 (nI 0)) 8 (σ.1 11 6)) 5 (nI 4)) else (false, σ)
def aLim (σ : gS) (c : Int32) (k : Nat) : BS :=
  if ¬ σ.1 11 6 = 0 ∧ k < 4 ∧ ((c = nI 43 ∧ k + 1 < 4) ∨ c = nI 64) then
    (true, sP (sP (sA (sP σ 6 (nI 0)) 14 (upd (σ.1 14) k (σ.1 11 6))) 10 (nI (k + 1))) 5 (if c = nI 43 ∧ k + 1 < 4 then nI 4 else nI 7))
  else (false, σ)
def aShr (σ : gS) (c : Int32) (k : Nat) : BS :=
  if ¬ σ.1 11 6 = 0 ∧ k < 5 ∧ ((c = nI 43 ∧ k + 1 < 5) ∨ c = nI 108 ∨ c = nI 101) then
    (true, if c = nI 108 ∨ c = nI 101 then sP (sP (sP (sA (sP σ 6 (nI 0)) 15 (upd (σ.1 15) k (σ.1 11 6))) 11 (nI (k + 1))) 9 (if c = nI 101 then nI 1 else nI 0)) 5 (nI 8)
      else sP (sA (sP σ 6 (nI 0)) 15 (upd (σ.1 15) k (σ.1 11 6))) 11 (nI (k + 1)))
  else (false, σ)
def orB (a b : BS) : BS := if a.1 then a else b
def accS (σ : gS) (c : Int32) (p k q : Nat) : BS := match p with
  | 0 => aSign σ c (nI 112) (nI 1)
  | 1 => aPrin σ c
  | 2 => aSign σ c (nI 115) (nI 3)
  | 3 => orB (aExt σ c (nI 99999)) (aSum σ c)
  | 4 => aSure σ c k
  | 5 => aSign σ c (nI 42) (nI 6)
  | 6 => orB (aExt σ c (nI 99999)) (aLim σ c k)
  | 7 => orB (aExt σ c (nI 1000)) (aShr σ c q)
  | _ => (false, σ)
theorem aExt_f {σ : gS} {c most : Int32} (h : (aExt σ c most).1 = false) : (aExt σ c most).2 = σ := by
  unfold aExt at h ⊢
  split
  · rename_i hc
    rw [if_pos hc] at h
    cases h
  · rfl
/-- a bond's text that was read: layers apart, limits and shares small enough -/
def aheadI (f : Nat → Int32) (j : Nat) : Nat → Bool
  | 0 => false
  | i + 1 => aheadI f j i || decide (f i = f j)
theorem ne43_64 : ¬ nI 43 = nI 64 := by decide
theorem ne43_108 : ¬ nI 43 = nI 108 := by decide
theorem ne43_101 : ¬ nI 43 = nI 101 := by decide
theorem ne64_43 : ¬ nI 64 = nI 43 := by decide
theorem ne64_108 : ¬ nI 64 = nI 108 := by decide
theorem ne64_101 : ¬ nI 64 = nI 101 := by decide
theorem ne108_43 : ¬ nI 108 = nI 43 := by decide
theorem ne108_64 : ¬ nI 108 = nI 64 := by decide
theorem ne108_101 : ¬ nI 108 = nI 101 := by decide
theorem ne101_43 : ¬ nI 101 = nI 43 := by decide
theorem ne101_64 : ¬ nI 101 = nI 64 := by decide
theorem ne101_108 : ¬ nI 101 = nI 108 := by decide

set_option maxRecDepth 20000 in
theorem k_X0_length (l : Launch) (γ : gG) (σ : gS) : gM l γ yX0_length wsX0_length ({ frames := 0, cells := 0, slots := 0, locals := 0 } : Room) [.ref (ad γ 11)] σ (gis (some (.int (σ.1 11 4))) σ) 0 0 := by
  refine g_enter (own := RX0) (cc := cX0_length) (nL := 1) (ret := (some .int)) [some (.ref (ad γ 11))] (by decide) rfl rfl (by simp [lg_sl, Value.category]) (by simp [gl_le, glE, Value.category]) (fun hj p e s m args below meth c X hr hlk hnm => ?_)
  have hi0 : ∀ w ∈ wsX00, w ∈ wsX0_length := by decide +kernel
  refine g_aload_n X dX0_length_0 rfl rfl ?_
  refine g_get_11_4 X hi0 (by decide +kernel) dX0_length_1 ?_
  exact g_iret X hr hlk dX0_length_4 ⟨rfl, rfl⟩
set_option maxRecDepth 20000 in
theorem k_X0_principal (l : Launch) (γ : gG) (σ : gS) : gM l γ yX0_principal wsX0_principal ({ frames := 0, cells := 0, slots := 0, locals := 0 } : Room) [.ref (ad γ 11)] σ (gis (some (.int (σ.1 11 7))) σ) 0 0 := by
  refine g_enter (own := RX0) (cc := cX0_principal) (nL := 1) (ret := (some .int)) [some (.ref (ad γ 11))] (by decide) rfl rfl (by simp [lg_sl, Value.category]) (by simp [gl_le, glE, Value.category]) (fun hj p e s m args below meth c X hr hlk hnm => ?_)
  have hi0 : ∀ w ∈ wsX00, w ∈ wsX0_principal := by decide +kernel
  refine g_aload_n X dX0_principal_0 rfl rfl ?_
  refine g_get_11_7 X hi0 (by decide +kernel) dX0_principal_1 ?_
  exact g_iret X hr hlk dX0_principal_4 ⟨rfl, rfl⟩
set_option maxRecDepth 20000 in
theorem k_X0_sum (l : Launch) (γ : gG) (σ : gS) : gM l γ yX0_sum wsX0_sum ({ frames := 0, cells := 0, slots := 0, locals := 0 } : Room) [.ref (ad γ 11)] σ (gis (some (.int (σ.1 11 8))) σ) 0 0 := by
  refine g_enter (own := RX0) (cc := cX0_sum) (nL := 1) (ret := (some .int)) [some (.ref (ad γ 11))] (by decide) rfl rfl (by simp [lg_sl, Value.category]) (by simp [gl_le, glE, Value.category]) (fun hj p e s m args below meth c X hr hlk hnm => ?_)
  have hi0 : ∀ w ∈ wsX00, w ∈ wsX0_sum := by decide +kernel
  refine g_aload_n X dX0_sum_0 rfl rfl ?_
  refine g_get_11_8 X hi0 (by decide +kernel) dX0_sum_1 ?_
  exact g_iret X hr hlk dX0_sum_4 ⟨rfl, rfl⟩
set_option maxRecDepth 20000 in
theorem k_X0_way (l : Launch) (γ : gG) (σ : gS) : gM l γ yX0_way wsX0_way ({ frames := 0, cells := 0, slots := 0, locals := 0 } : Room) [.ref (ad γ 11)] σ (gis (some (.int (σ.1 11 9))) σ) 0 0 := by
  refine g_enter (own := RX0) (cc := cX0_way) (nL := 1) (ret := (some .int)) [some (.ref (ad γ 11))] (by decide) rfl rfl (by simp [lg_sl, Value.category]) (by simp [gl_le, glE, Value.category]) (fun hj p e s m args below meth c X hr hlk hnm => ?_)
  have hi0 : ∀ w ∈ wsX00, w ∈ wsX0_way := by decide +kernel
  refine g_aload_n X dX0_way_0 rfl rfl ?_
  refine g_get_11_9 X hi0 (by decide +kernel) dX0_way_1 ?_
  exact g_iret X hr hlk dX0_way_4 ⟨rfl, rfl⟩
set_option maxRecDepth 20000 in
theorem k_X0_layers (l : Launch) (γ : gG) (σ : gS) : gM l γ yX0_layers wsX0_layers ({ frames := 0, cells := 0, slots := 0, locals := 0 } : Room) [.ref (ad γ 11)] σ (gis (some (.int (σ.1 11 10))) σ) 0 0 := by
  refine g_enter (own := RX0) (cc := cX0_layers) (nL := 1) (ret := (some .int)) [some (.ref (ad γ 11))] (by decide) rfl rfl (by simp [lg_sl, Value.category]) (by simp [gl_le, glE, Value.category]) (fun hj p e s m args below meth c X hr hlk hnm => ?_)
  have hi0 : ∀ w ∈ wsX00, w ∈ wsX0_layers := by decide +kernel
  refine g_aload_n X dX0_layers_0 rfl rfl ?_
  refine g_get_11_10 X hi0 (by decide +kernel) dX0_layers_1 ?_
  exact g_iret X hr hlk dX0_layers_4 ⟨rfl, rfl⟩
set_option maxRecDepth 20000 in
theorem k_X0_milestones (l : Launch) (γ : gG) (σ : gS) : gM l γ yX0_milestones wsX0_milestones ({ frames := 0, cells := 0, slots := 0, locals := 0 } : Room) [.ref (ad γ 11)] σ (gis (some (.int (σ.1 11 11))) σ) 0 0 := by
  refine g_enter (own := RX0) (cc := cX0_milestones) (nL := 1) (ret := (some .int)) [some (.ref (ad γ 11))] (by decide) rfl rfl (by simp [lg_sl, Value.category]) (by simp [gl_le, glE, Value.category]) (fun hj p e s m args below meth c X hr hlk hnm => ?_)
  have hi0 : ∀ w ∈ wsX00, w ∈ wsX0_milestones := by decide +kernel
  refine g_aload_n X dX0_milestones_0 rfl rfl ?_
  refine g_get_11_11 X hi0 (by decide +kernel) dX0_milestones_1 ?_
  exact g_iret X hr hlk dX0_milestones_4 ⟨rfl, rfl⟩
set_option maxRecDepth 20000 in
theorem k_X0_codeAt (l : Launch) (γ : gG) (σ : gS) (j : Nat) (hj60 : j < 60) : gM l γ yX0_codeAt wsX0_codeAt ({ frames := 0, cells := 0, slots := 0, locals := 0 } : Room) [.ref (ad γ 11), .int (nI j)] σ (gis (some (.int (σ.1 12 j))) σ) 0 0 := by
  refine g_enter (own := RX0) (cc := cX0_codeAt) (nL := 2) (ret := (some .int)) [some (.ref (ad γ 11)), some (.int (nI j))] (by decide) rfl rfl (by simp [lg_sl, Value.category]) (by simp [gl_le, glE, Value.category]) (fun hj p e s m args below meth c X hr hlk hnm => ?_)
  have hi0 : ∀ w ∈ wsX00, w ∈ wsX0_codeAt := by decide +kernel
  refine g_aload_n X dX0_codeAt_0 rfl rfl ?_
  refine g_get_11_0 X hi0 (by decide +kernel) dX0_codeAt_1 ?_
  refine g_iload_n X dX0_codeAt_4 rfl rfl ?_
  refine g_ald_12 X rfl (by omega) dX0_codeAt_5 ?_
  exact g_iret X hr hlk dX0_codeAt_6 ⟨rfl, rfl⟩
set_option maxRecDepth 20000 in
theorem k_X0_surety (l : Launch) (γ : gG) (σ : gS) (j : Nat) (hj4 : j < 4) : gM l γ yX0_surety wsX0_surety ({ frames := 0, cells := 0, slots := 0, locals := 0 } : Room) [.ref (ad γ 11), .int (nI j)] σ (gis (some (.int (σ.1 13 j))) σ) 0 0 := by
  refine g_enter (own := RX0) (cc := cX0_surety) (nL := 2) (ret := (some .int)) [some (.ref (ad γ 11)), some (.int (nI j))] (by decide) rfl rfl (by simp [lg_sl, Value.category]) (by simp [gl_le, glE, Value.category]) (fun hj p e s m args below meth c X hr hlk hnm => ?_)
  have hi0 : ∀ w ∈ wsX00, w ∈ wsX0_surety := by decide +kernel
  refine g_aload_n X dX0_surety_0 rfl rfl ?_
  refine g_get_11_1 X hi0 (by decide +kernel) dX0_surety_1 ?_
  refine g_iload_n X dX0_surety_4 rfl rfl ?_
  refine g_ald_13 X rfl (by omega) dX0_surety_5 ?_
  exact g_iret X hr hlk dX0_surety_6 ⟨rfl, rfl⟩
set_option maxRecDepth 20000 in
theorem k_X0_limit (l : Launch) (γ : gG) (σ : gS) (j : Nat) (hj4 : j < 4) : gM l γ yX0_limit wsX0_limit ({ frames := 0, cells := 0, slots := 0, locals := 0 } : Room) [.ref (ad γ 11), .int (nI j)] σ (gis (some (.int (σ.1 14 j))) σ) 0 0 := by
  refine g_enter (own := RX0) (cc := cX0_limit) (nL := 2) (ret := (some .int)) [some (.ref (ad γ 11)), some (.int (nI j))] (by decide) rfl rfl (by simp [lg_sl, Value.category]) (by simp [gl_le, glE, Value.category]) (fun hj p e s m args below meth c X hr hlk hnm => ?_)
  have hi0 : ∀ w ∈ wsX00, w ∈ wsX0_limit := by decide +kernel
  refine g_aload_n X dX0_limit_0 rfl rfl ?_
  refine g_get_11_2 X hi0 (by decide +kernel) dX0_limit_1 ?_
  refine g_iload_n X dX0_limit_4 rfl rfl ?_
  refine g_ald_14 X rfl (by omega) dX0_limit_5 ?_
  exact g_iret X hr hlk dX0_limit_6 ⟨rfl, rfl⟩
set_option maxRecDepth 20000 in
theorem k_X0_share (l : Launch) (γ : gG) (σ : gS) (j : Nat) (hj5 : j < 5) : gM l γ yX0_share wsX0_share ({ frames := 0, cells := 0, slots := 0, locals := 0 } : Room) [.ref (ad γ 11), .int (nI j)] σ (gis (some (.int (σ.1 15 j))) σ) 0 0 := by
  refine g_enter (own := RX0) (cc := cX0_share) (nL := 2) (ret := (some .int)) [some (.ref (ad γ 11)), some (.int (nI j))] (by decide) rfl rfl (by simp [lg_sl, Value.category]) (by simp [gl_le, glE, Value.category]) (fun hj p e s m args below meth c X hr hlk hnm => ?_)
  have hi0 : ∀ w ∈ wsX00, w ∈ wsX0_share := by decide +kernel
  refine g_aload_n X dX0_share_0 rfl rfl ?_
  refine g_get_11_3 X hi0 (by decide +kernel) dX0_share_1 ?_
  refine g_iload_n X dX0_share_4 rfl rfl ?_
  refine g_ald_15 X rfl (by omega) dX0_share_5 ?_
  exact g_iret X hr hlk dX0_share_6 ⟨rfl, rfl⟩
set_option maxRecDepth 20000 in
theorem k_X0_add (l : Launch) (γ : gG) (σ : gS) (j : Nat) (ch : Int32) (hl : σ.1 11 4 = nI j) (hj60 : j < 60) : gM l γ yX0_add wsX0_add ({ frames := 0, cells := 0, slots := 0, locals := 0 } : Room) [.ref (ad γ 11), .int ch] σ (gis none (sP (sA σ 12 (upd (σ.1 12) j ch)) 4 (nI (j + 1)))) 0 0 := by
  refine g_enter (own := RX0) (cc := cX0_add) (nL := 2) (ret := none) [some (.ref (ad γ 11)), some (.int ch)] (by decide) rfl rfl (by simp [lg_sl, Value.category]) (by simp [gl_le, glE, Value.category]) (fun hj p e s m args below meth c X hr hlk hnm => ?_)
  have hi0 : ∀ w ∈ wsX00, w ∈ wsX0_add := by decide +kernel
  refine g_aload_n X dX0_add_0 rfl rfl ?_
  refine g_get_11_0 X hi0 (by decide +kernel) dX0_add_1 ?_
  refine g_aload_n X dX0_add_4 rfl rfl ?_
  refine g_get_11_4 X hi0 (by decide +kernel) dX0_add_5 ?_
  refine g_top hl ?_
  refine g_iload_n X dX0_add_8 rfl rfl ?_
  refine g_ast_12 X rfl (by omega) dX0_add_9 ?_
  refine g_aload_n X dX0_add_10 rfl rfl ?_
  refine g_dup X dX0_add_11 rfl ?_
  refine g_get_11_4 X hi0 (by decide +kernel) dX0_add_12 ?_
  refine g_top (y := nI j) (by rw [sA_ne _ _ (by omega)]; exact hl) ?_
  refine g_iconstN X 1 dX0_add_15 ?_
  refine g_iaddN X dX0_add_16 ?_
  refine g_put_11_4 X hi0 (by decide +kernel) dX0_add_17 ?_
  exact g_vret X hr hlk dX0_add_20 ⟨rfl, rfl⟩
set_option maxRecDepth 20000 in
theorem k_X0_clear (l : Launch) (γ : gG) (σ : gS) : gM l γ yX0_clear wsX0_clear ({ frames := 0, cells := 0, slots := 0, locals := 0 } : Room) [.ref (ad γ 11)] σ (gis none (sP σ 4 (nI 0))) 0 0 := by
  refine g_enter (own := RX0) (cc := cX0_clear) (nL := 1) (ret := none) [some (.ref (ad γ 11))] (by decide) rfl rfl (by simp [lg_sl, Value.category]) (by simp [gl_le, glE, Value.category]) (fun hj p e s m args below meth c X hr hlk hnm => ?_)
  have hi0 : ∀ w ∈ wsX00, w ∈ wsX0_clear := by decide +kernel
  refine g_aload_n X dX0_clear_0 rfl rfl ?_
  refine g_iconstN X 0 dX0_clear_1 ?_
  refine g_put_11_4 X hi0 (by decide +kernel) dX0_clear_2 ?_
  exact g_vret X hr hlk dX0_clear_5 ⟨rfl, rfl⟩
set_option maxRecDepth 20000 in
theorem k_X0_isBond (l : Launch) (γ : gG) (σ : gS) : gM l γ yX0_isBond wsX0_isBond ({ frames := 0, cells := 0, slots := 0, locals := 0 } : Room) [.ref (ad γ 11)] σ (gis (some (.int (bI (decide (σ.1 11 5 = nI 8))))) σ) 0 0 := by
  refine g_enter (own := RX0) (cc := cX0_isBond) (nL := 1) (ret := (some .boolean)) [some (.ref (ad γ 11))] (by decide) rfl rfl (by simp [lg_sl, Value.category]) (by simp [gl_le, glE, Value.category]) (fun hj p e s m args below meth c X hr hlk hnm => ?_)
  have hi0 : ∀ w ∈ wsX00, w ∈ wsX0_isBond := by decide +kernel
  refine g_aload_n X dX0_isBond_0 rfl rfl ?_
  refine g_get_11_5 X hi0 (by decide +kernel) dX0_isBond_1 ?_
  refine g_bipush (v := nI 8) X dX0_isBond_4 (by decide) ?_
  refine g_icmp_ne (tgt := 13) X dX0_isBond_6 (by decide) (fun c_6 => ?_) (fun c_6 => ?_)
  · refine g_iconstN X 0 dX0_isBond_13 ?_
    exact g_zret X hr hlk rfl dX0_isBond_14 ⟨by simp [bI, *], rfl⟩
  · refine g_iconstN X 1 dX0_isBond_9 ?_
    refine g_goto (tgt := 14) X dX0_isBond_10 (by decide) ?_
    exact g_zret X hr hlk rfl dX0_isBond_14 ⟨by simp [bI, *], rfl⟩
set_option maxRecDepth 20000 in
theorem k_X0_takeNumber (l : Launch) (γ : gG) (σ : gS) : gM l γ yX0_takeNumber wsX0_takeNumber ({ frames := 0, cells := 0, slots := 0, locals := 0 } : Room) [.ref (ad γ 11)] σ (gis (some (.int (σ.1 11 6))) (sP σ 6 (nI 0))) 0 0 := by
  refine g_enter (own := RX0) (cc := cX0_takeNumber) (nL := 2) (ret := (some .int)) [some (.ref (ad γ 11)), none] (by decide) rfl rfl (by simp [lg_sl, Value.category]) (by simp [gl_le, glE, Value.category]) (fun hj p e s m args below meth c X hr hlk hnm => ?_)
  have hi0 : ∀ w ∈ wsX00, w ∈ wsX0_takeNumber := by decide +kernel
  refine g_aload_n X dX0_takeNumber_0 rfl rfl ?_
  refine g_get_11_6 X hi0 (by decide +kernel) dX0_takeNumber_1 ?_
  refine g_istore_n1 X dX0_takeNumber_4 rfl (by decide) rfl ?_
  refine g_aload_n X dX0_takeNumber_5 rfl rfl ?_
  refine g_iconstN X 0 dX0_takeNumber_6 ?_
  refine g_put_11_6 X hi0 (by decide +kernel) dX0_takeNumber_7 ?_
  refine g_iload_n X dX0_takeNumber_10 rfl rfl ?_
  exact g_iret X hr hlk dX0_takeNumber_11 ⟨rfl, rfl⟩
set_option maxRecDepth 20000 in
theorem k_X0_acceptsSign (l : Launch) (γ : gG) (σ : gS) (ch s9 q : Int32) : gM l γ yX0_acceptsSign wsX0_acceptsSign ({ frames := 0, cells := 0, slots := 0, locals := 0 } : Room) [.ref (ad γ 11), .int ch, .int s9, .int q] σ (gis (some (.int (bI (aSign σ ch s9 q).1))) (aSign σ ch s9 q).2) 0 0 := by
  refine g_enter (own := RX0) (cc := cX0_acceptsSign) (nL := 4) (ret := (some .boolean)) [some (.ref (ad γ 11)), some (.int ch), some (.int s9), some (.int q)] (by decide) rfl rfl (by simp [lg_sl, Value.category]) (by simp [gl_le, glE, Value.category]) (fun hj p e s m args below meth c X hr hlk hnm => ?_)
  have hi0 : ∀ w ∈ wsX00, w ∈ wsX0_acceptsSign := by decide +kernel
  refine g_iload_n X dX0_acceptsSign_0 rfl rfl ?_
  refine g_iload_n X dX0_acceptsSign_1 rfl rfl ?_
  refine g_icmp_eq (tgt := 7) X dX0_acceptsSign_2 (by decide) (fun c_2 => ?_) (fun c_2 => ?_)
  · refine g_aload_n X dX0_acceptsSign_7 rfl rfl ?_
    refine g_iload_n X dX0_acceptsSign_8 rfl rfl ?_
    refine g_put_11_5 X hi0 (by decide +kernel) dX0_acceptsSign_9 ?_
    refine g_iconstN X 1 dX0_acceptsSign_12 ?_
    exact g_zret X hr hlk rfl dX0_acceptsSign_13 ⟨by simp [aSign, bI, *], by simp [aSign, sP, *]⟩
  · refine g_iconstN X 0 dX0_acceptsSign_5 ?_
    exact g_zret X hr hlk rfl dX0_acceptsSign_6 ⟨by simp [aSign, bI, *], by simp [aSign, sP, *]⟩
set_option maxRecDepth 20000 in
theorem k_X0_acceptsPrincipal (l : Launch) (γ : gG) (σ : gS) (ch : Int32) : gM l γ yX0_acceptsPrincipal wsX0_acceptsPrincipal ({ frames := 1, cells := 0, slots := 0, locals := 20 } : Room) [.ref (ad γ 11), .int ch] σ (gis (some (.int (bI (aPrin σ ch).1))) (aPrin σ ch).2) 0 0 := by
  refine g_enter (own := RX0) (cc := cX0_acceptsPrincipal) (nL := 2) (ret := (some .boolean)) [some (.ref (ad γ 11)), some (.int ch)] (by decide) rfl rfl (by simp [lg_sl, Value.category]) (by simp [gl_le, glE, Value.category]) (fun hj p e s m args below meth c X hr hlk hnm => ?_)
  have hi0 : ∀ w ∈ wsX00, w ∈ wsX0_acceptsPrincipal := by decide +kernel
  refine g_iload_n X dX0_acceptsPrincipal_0 rfl rfl ?_
  refine g_bipush (v := nI 48) X dX0_acceptsPrincipal_1 (by decide) ?_
  refine g_isub X dX0_acceptsPrincipal_3 ?_
  refine g_callSi (na := 1) X hj (k_X3_isPerson l γ _ _) gX0_acceptsPrincipal_X3_isPerson rfl ⟨rfl, rfl⟩ (by decide +kernel) rfl ⟨by decide, by decide⟩ rfl (Nat.le_of_ble_eq_true rfl) dX0_acceptsPrincipal_4 ⟨by decide, by decide⟩ ?_
  refine g_if_ne (tgt := 12) X dX0_acceptsPrincipal_7 (by decide) (fun c_7 => ?_) (fun c_7 => ?_)
  · replace c_7 := bI_t c_7
    refine g_aload_n X dX0_acceptsPrincipal_12 rfl rfl ?_
    refine g_iload_n X dX0_acceptsPrincipal_13 rfl rfl ?_
    refine g_bipush (v := nI 48) X dX0_acceptsPrincipal_14 (by decide) ?_
    refine g_isub X dX0_acceptsPrincipal_16 ?_
    refine g_put_11_7 X hi0 (by decide +kernel) dX0_acceptsPrincipal_17 ?_
    refine g_aload_n X dX0_acceptsPrincipal_20 rfl rfl ?_
    refine g_iconstN X 2 dX0_acceptsPrincipal_21 ?_
    refine g_put_11_5 X hi0 (by decide +kernel) dX0_acceptsPrincipal_22 ?_
    refine g_iconstN X 1 dX0_acceptsPrincipal_25 ?_
    exact g_zret X hr hlk rfl dX0_acceptsPrincipal_26 ⟨by simp [aPrin, bI, *], by simp [aPrin, sP, *]⟩
  · replace c_7 := bI_f c_7
    refine g_iconstN X 0 dX0_acceptsPrincipal_10 ?_
    exact g_zret X hr hlk rfl dX0_acceptsPrincipal_11 ⟨by simp [aPrin, bI, *], by simp [aPrin, sP, *]⟩
set_option maxRecDepth 20000 in
theorem k_X0_acceptsSurety (l : Launch) (γ : gG) (σ : gS) (ch : Int32) (k : Nat) (hk : σ.1 11 10 = nI k) (hk4 : k ≤ 4) : gM l γ yX0_acceptsSurety wsX0_acceptsSurety ({ frames := 1, cells := 0, slots := 0, locals := 20 } : Room) [.ref (ad γ 11), .int ch] σ (gis (some (.int (bI (aSure σ ch k).1))) (aSure σ ch k).2) 0 0 := by
  refine g_enter (own := RX0) (cc := cX0_acceptsSurety) (nL := 2) (ret := (some .boolean)) [some (.ref (ad γ 11)), some (.int ch)] (by decide) rfl rfl (by simp [lg_sl, Value.category]) (by simp [gl_le, glE, Value.category]) (fun hj p e s m args below meth c X hr hlk hnm => ?_)
  have hi0 : ∀ w ∈ wsX00, w ∈ wsX0_acceptsSurety := by decide +kernel
  refine g_iload_n X dX0_acceptsSurety_0 rfl rfl ?_
  refine g_bipush (v := nI 48) X dX0_acceptsSurety_1 (by decide) ?_
  refine g_isub X dX0_acceptsSurety_3 ?_
  refine g_callSi (na := 1) X hj (k_X3_isPerson l γ _ _) gX0_acceptsSurety_X3_isPerson rfl ⟨rfl, rfl⟩ (by decide +kernel) rfl ⟨by decide, by decide⟩ rfl (Nat.le_of_ble_eq_true rfl) dX0_acceptsSurety_4 ⟨by decide, by decide⟩ ?_
  refine g_if_eq (tgt := 18) X dX0_acceptsSurety_7 (by decide) (fun c_7 => ?_) (fun c_7 => ?_)
  · replace c_7 := bI_f c_7
    refine g_iconstN X 0 dX0_acceptsSurety_18 ?_
    exact g_zret X hr hlk rfl dX0_acceptsSurety_19 ⟨by simp [aSure, bI, *, Nat.not_lt_of_le], by simp [aSure, sP, *, Nat.not_lt_of_le]⟩
  · replace c_7 := bI_t c_7
    refine g_aload_n X dX0_acceptsSurety_10 rfl rfl ?_
    refine g_get_11_10 X hi0 (by decide +kernel) dX0_acceptsSurety_11 ?_
    refine g_top hk ?_
    refine g_iconstN X 4 dX0_acceptsSurety_14 ?_
    refine g_icmpN_lt (tgt := 20) X dX0_acceptsSurety_15 (by decide) (by omega) (by omega) (fun c_15 => ?_) (fun c_15 => ?_)
    · refine g_aload_n X dX0_acceptsSurety_20 rfl rfl ?_
      refine g_get_11_1 X hi0 (by decide +kernel) dX0_acceptsSurety_21 ?_
      refine g_aload_n X dX0_acceptsSurety_24 rfl rfl ?_
      refine g_get_11_10 X hi0 (by decide +kernel) dX0_acceptsSurety_25 ?_
      refine g_top hk ?_
      refine g_iload_n X dX0_acceptsSurety_28 rfl rfl ?_
      refine g_bipush (v := nI 48) X dX0_acceptsSurety_29 (by decide) ?_
      refine g_isub X dX0_acceptsSurety_31 ?_
      refine g_ast_13 X rfl (by omega) dX0_acceptsSurety_32 ?_
      refine g_aload_n X dX0_acceptsSurety_33 rfl rfl ?_
      refine g_iconstN X 5 dX0_acceptsSurety_34 ?_
      refine g_put_11_5 X hi0 (by decide +kernel) dX0_acceptsSurety_35 ?_
      refine g_iconstN X 1 dX0_acceptsSurety_38 ?_
      exact g_zret X hr hlk rfl dX0_acceptsSurety_39 ⟨by simp [aSure, bI, *, Nat.not_lt_of_le], by simp [aSure, sP, *, Nat.not_lt_of_le]⟩
    · refine g_iconstN X 0 dX0_acceptsSurety_18 ?_
      exact g_zret X hr hlk rfl dX0_acceptsSurety_19 ⟨by simp [aSure, bI, *, Nat.not_lt_of_le], by simp [aSure, sP, *, Nat.not_lt_of_le]⟩
set_option maxRecDepth 20000 in
theorem k_X0_extendsNumber (l : Launch) (γ : gG) (σ : gS) (ch most : Int32) : gM l γ yX0_extendsNumber wsX0_extendsNumber ({ frames := 0, cells := 0, slots := 0, locals := 0 } : Room) [.ref (ad γ 11), .int ch, .int most] σ (gis (some (.int (bI (aExt σ ch most).1))) (aExt σ ch most).2) 0 0 := by
  refine g_enter (own := RX0) (cc := cX0_extendsNumber) (nL := 4) (ret := (some .boolean)) [some (.ref (ad γ 11)), some (.int ch), some (.int most), none] (by decide) rfl rfl (by simp [lg_sl, Value.category]) (by simp [gl_le, glE, Value.category]) (fun hj p e s m args below meth c X hr hlk hnm => ?_)
  have hi0 : ∀ w ∈ wsX00, w ∈ wsX0_extendsNumber := by decide +kernel
  refine g_iload_n X dX0_extendsNumber_0 rfl rfl ?_
  refine g_bipush (v := nI 48) X dX0_extendsNumber_1 (by decide) ?_
  refine g_icmp_lt (tgt := 12) X dX0_extendsNumber_3 (by decide) (fun c_3 => ?_) (fun c_3 => ?_)
  · refine g_iconstN X 0 dX0_extendsNumber_12 ?_
    exact g_zret X hr hlk rfl dX0_extendsNumber_13 ⟨by simp [aExt, longer, bI, *], by simp [aExt, longer, sP, *]⟩
  · refine g_iload_n X dX0_extendsNumber_6 rfl rfl ?_
    refine g_bipush (v := nI 57) X dX0_extendsNumber_7 (by decide) ?_
    refine g_icmp_le (tgt := 14) X dX0_extendsNumber_9 (by decide) (fun c_9 => ?_) (fun c_9 => ?_)
    · refine g_aload_n X dX0_extendsNumber_14 rfl rfl ?_
      refine g_get_11_6 X hi0 (by decide +kernel) dX0_extendsNumber_15 ?_
      refine g_bipush (v := nI 10) X dX0_extendsNumber_18 (by decide) ?_
      refine g_imul X dX0_extendsNumber_20 ?_
      refine g_iload_n X dX0_extendsNumber_21 rfl rfl ?_
      refine g_bipush (v := nI 48) X dX0_extendsNumber_22 (by decide) ?_
      refine g_isub X dX0_extendsNumber_24 ?_
      refine g_iadd X dX0_extendsNumber_25 ?_
      refine g_istore_n3 X dX0_extendsNumber_26 rfl (by decide) rfl ?_
      refine g_iload_n X dX0_extendsNumber_27 rfl rfl ?_
      refine g_iconstN X 1 dX0_extendsNumber_28 ?_
      refine g_icmp_lt (tgt := 37) X dX0_extendsNumber_29 (by decide) (fun c_29 => ?_) (fun c_29 => ?_)
      · refine g_iconstN X 0 dX0_extendsNumber_37 ?_
        exact g_zret X hr hlk rfl dX0_extendsNumber_38 ⟨by simp [aExt, longer, bI, *], by simp [aExt, longer, sP, *]⟩
      · refine g_iload_n X dX0_extendsNumber_32 rfl rfl ?_
        refine g_iload_n X dX0_extendsNumber_33 rfl rfl ?_
        refine g_icmp_le (tgt := 39) X dX0_extendsNumber_34 (by decide) (fun c_34 => ?_) (fun c_34 => ?_)
        · refine g_aload_n X dX0_extendsNumber_39 rfl rfl ?_
          refine g_iload_n X dX0_extendsNumber_40 rfl rfl ?_
          refine g_put_11_6 X hi0 (by decide +kernel) dX0_extendsNumber_41 ?_
          refine g_iconstN X 1 dX0_extendsNumber_44 ?_
          exact g_zret X hr hlk rfl dX0_extendsNumber_45 ⟨by simp [aExt, longer, bI, *], by simp [aExt, longer, sP, *]⟩
        · refine g_iconstN X 0 dX0_extendsNumber_37 ?_
          exact g_zret X hr hlk rfl dX0_extendsNumber_38 ⟨by simp [aExt, longer, bI, *], by simp [aExt, longer, sP, *]⟩
    · refine g_iconstN X 0 dX0_extendsNumber_12 ?_
      exact g_zret X hr hlk rfl dX0_extendsNumber_13 ⟨by simp [aExt, longer, bI, *], by simp [aExt, longer, sP, *]⟩
set_option maxRecDepth 20000 in
theorem k_X0_endsSum (l : Launch) (γ : gG) (σ : gS) (ch : Int32) : gM l γ yX0_endsSum wsX0_endsSum ({ frames := 1, cells := 0, slots := 0, locals := 21 } : Room) [.ref (ad γ 11), .int ch] σ (gis (some (.int (bI (aSum σ ch).1))) (aSum σ ch).2) 0 0 := by
  refine g_enter (own := RX0) (cc := cX0_endsSum) (nL := 2) (ret := (some .boolean)) [some (.ref (ad γ 11)), some (.int ch)] (by decide) rfl rfl (by simp [lg_sl, Value.category]) (by simp [gl_le, glE, Value.category]) (fun hj p e s m args below meth c X hr hlk hnm => ?_)
  have hi0 : ∀ w ∈ wsX00, w ∈ wsX0_endsSum := by decide +kernel
  refine g_aload_n X dX0_endsSum_0 rfl rfl ?_
  refine g_get_11_6 X hi0 (by decide +kernel) dX0_endsSum_1 ?_
  refine g_if_eq (tgt := 13) X dX0_endsSum_4 (by decide) (fun c_4 => ?_) (fun c_4 => ?_)
  · refine g_iconstN X 0 dX0_endsSum_13 ?_
    exact g_zret X hr hlk rfl dX0_endsSum_14 ⟨by simp [aSum, bI, *], by simp [aSum, sP, *]⟩
  · refine g_iload_n X dX0_endsSum_7 rfl rfl ?_
    refine g_bipush (v := nI 58) X dX0_endsSum_8 (by decide) ?_
    refine g_icmp_eq (tgt := 15) X dX0_endsSum_10 (by decide) (fun c_10 => ?_) (fun c_10 => ?_)
    · refine g_aload_n X dX0_endsSum_15 rfl rfl ?_
      refine g_aload_n X dX0_endsSum_16 rfl rfl ?_
      refine g_callVi (na := 0) X hj (k_X0_takeNumber l γ _) gW_11 rfl gX0_endsSum_X0_takeNumber rfl ⟨rfl, rfl⟩ (by decide +kernel) rfl ⟨by decide, by decide⟩ rfl (Nat.le_of_ble_eq_true rfl) dX0_endsSum_17 ⟨by decide, by decide⟩ ?_
      refine g_put_11_8 X hi0 (by decide +kernel) dX0_endsSum_20 ?_
      refine g_aload_n X dX0_endsSum_23 rfl rfl ?_
      refine g_iconstN X 4 dX0_endsSum_24 ?_
      refine g_put_11_5 X hi0 (by decide +kernel) dX0_endsSum_25 ?_
      refine g_iconstN X 1 dX0_endsSum_28 ?_
      exact g_zret X hr hlk rfl dX0_endsSum_29 ⟨by simp [aSum, bI, *], by simp [aSum, sP, *]⟩
    · refine g_iconstN X 0 dX0_endsSum_13 ?_
      exact g_zret X hr hlk rfl dX0_endsSum_14 ⟨by simp [aSum, bI, *], by simp [aSum, sP, *]⟩
set_option maxRecDepth 20000 in
theorem k_X0_endsLimit (l : Launch) (γ : gG) (σ : gS) (ch : Int32) (k : Nat) (hk : σ.1 11 10 = nI k) (hk4 : k ≤ 4) : gM l γ yX0_endsLimit wsX0_endsLimit ({ frames := 1, cells := 0, slots := 0, locals := 21 } : Room) [.ref (ad γ 11), .int ch] σ (gis (some (.int (bI (aLim σ ch k).1))) (aLim σ ch k).2) 0 0 := by
  refine g_enter (own := RX0) (cc := cX0_endsLimit) (nL := 3) (ret := (some .boolean)) [some (.ref (ad γ 11)), some (.int ch), none] (by decide) rfl rfl (by simp [lg_sl, Value.category]) (by simp [gl_le, glE, Value.category]) (fun hj p e s m args below meth c X hr hlk hnm => ?_)
  have hi0 : ∀ w ∈ wsX00, w ∈ wsX0_endsLimit := by decide +kernel
  refine g_iload_n X dX0_endsLimit_0 rfl rfl ?_
  refine g_bipush (v := nI 43) X dX0_endsLimit_1 (by decide) ?_
  refine g_icmp_ne (tgt := 20) X dX0_endsLimit_3 (by decide) (fun c_3 => ?_) (fun c_3 => ?_)
  · refine g_iconstN X 0 dX0_endsLimit_20 ?_
    refine g_istore_n2 X dX0_endsLimit_21 rfl (by decide) rfl ?_
    refine g_aload_n X dX0_endsLimit_22 rfl rfl ?_
    refine g_get_11_6 X hi0 (by decide +kernel) dX0_endsLimit_23 ?_
    refine g_if_eq (tgt := 47) X dX0_endsLimit_26 (by decide) (fun c_26 => ?_) (fun c_26 => ?_)
    · refine g_iconstN X 0 dX0_endsLimit_47 ?_
      exact g_zret X hr hlk rfl dX0_endsLimit_48 (by first | exact absurd (c_3.symm.trans c_44) ne43_64 | exact ⟨by simp [aLim, bI, *, Nat.not_lt_of_le, ne43_64, ne43_108, ne43_101, ne64_43, ne64_108, ne64_101, ne108_43, ne108_64, ne108_101, ne101_43, ne101_64, ne101_108], by simp [aLim, sP, sA_sA, sA_eq, sA_ne, upd, *, Nat.not_lt_of_le, ne43_64, ne43_108, ne43_101, ne64_43, ne64_108, ne64_101, ne108_43, ne108_64, ne108_101, ne101_43, ne101_64, ne101_108]⟩)
    · refine g_aload_n X dX0_endsLimit_29 rfl rfl ?_
      refine g_get_11_10 X hi0 (by decide +kernel) dX0_endsLimit_30 ?_
      refine g_top hk ?_
      refine g_iconstN X 4 dX0_endsLimit_33 ?_
      refine g_icmpN_ge (tgt := 47) X dX0_endsLimit_34 (by decide) (by omega) (by omega) (fun c_34 => ?_) (fun c_34 => ?_)
      · refine g_iconstN X 0 dX0_endsLimit_47 ?_
        exact g_zret X hr hlk rfl dX0_endsLimit_48 (by first | exact absurd (c_3.symm.trans c_44) ne43_64 | exact ⟨by simp [aLim, bI, *, Nat.not_lt_of_le, ne43_64, ne43_108, ne43_101, ne64_43, ne64_108, ne64_101, ne108_43, ne108_64, ne108_101, ne101_43, ne101_64, ne101_108], by simp [aLim, sP, sA_sA, sA_eq, sA_ne, upd, *, Nat.not_lt_of_le, ne43_64, ne43_108, ne43_101, ne64_43, ne64_108, ne64_101, ne108_43, ne108_64, ne108_101, ne101_43, ne101_64, ne101_108]⟩)
      · refine g_iload_n X dX0_endsLimit_37 rfl rfl ?_
        refine g_if_ne (tgt := 49) X dX0_endsLimit_38 (by decide) (fun c_38 => absurd (by decide) c_38) (fun c_38 => ?_)
        refine g_iload_n X dX0_endsLimit_41 rfl rfl ?_
        refine g_bipush (v := nI 64) X dX0_endsLimit_42 (by decide) ?_
        refine g_icmp_eq (tgt := 49) X dX0_endsLimit_44 (by decide) (fun c_44 => ?_) (fun c_44 => ?_)
        · refine g_aload_n X dX0_endsLimit_49 rfl rfl ?_
          refine g_get_11_2 X hi0 (by decide +kernel) dX0_endsLimit_50 ?_
          refine g_aload_n X dX0_endsLimit_53 rfl rfl ?_
          refine g_get_11_10 X hi0 (by decide +kernel) dX0_endsLimit_54 ?_
          refine g_top hk ?_
          refine g_aload_n X dX0_endsLimit_57 rfl rfl ?_
          refine g_callVi (na := 0) X hj (k_X0_takeNumber l γ _) gW_11 rfl gX0_endsLimit_X0_takeNumber rfl ⟨rfl, rfl⟩ (by decide +kernel) rfl ⟨by decide, by decide⟩ rfl (Nat.le_of_ble_eq_true rfl) dX0_endsLimit_58 ⟨by decide, by decide⟩ ?_
          refine g_ast_14 X rfl (by omega) dX0_endsLimit_61 ?_
          refine g_aload_n X dX0_endsLimit_62 rfl rfl ?_
          refine g_dup X dX0_endsLimit_63 rfl ?_
          refine g_get_11_10 X hi0 (by decide +kernel) dX0_endsLimit_64 ?_
          refine g_top (y := nI k) (by simp [sP, sA_eq, sA_ne, upd, hk]) ?_
          refine g_iconstN X 1 dX0_endsLimit_67 ?_
          refine g_iaddN X dX0_endsLimit_68 ?_
          refine g_put_11_10 X hi0 (by decide +kernel) dX0_endsLimit_69 ?_
          refine g_aload_n X dX0_endsLimit_72 rfl rfl ?_
          refine g_iload_n X dX0_endsLimit_73 rfl rfl ?_
          refine g_if_eq (tgt := 81) X dX0_endsLimit_74 (by decide) (fun c_74 => ?_) (fun c_74 => absurd (by decide) c_74)
          refine g_bipush (v := nI 7) X dX0_endsLimit_81 (by decide) ?_
          refine g_put_11_5 X hi0 (by decide +kernel) dX0_endsLimit_83 ?_
          refine g_iconstN X 1 dX0_endsLimit_86 ?_
          exact g_zret X hr hlk rfl dX0_endsLimit_87 (by first | exact absurd (c_3.symm.trans c_44) ne43_64 | exact ⟨by simp [aLim, bI, *, Nat.not_lt_of_le, ne43_64, ne43_108, ne43_101, ne64_43, ne64_108, ne64_101, ne108_43, ne108_64, ne108_101, ne101_43, ne101_64, ne101_108], by simp [aLim, sP, sA_sA, sA_eq, sA_ne, upd, *, Nat.not_lt_of_le, ne43_64, ne43_108, ne43_101, ne64_43, ne64_108, ne64_101, ne108_43, ne108_64, ne108_101, ne101_43, ne101_64, ne101_108]⟩)
        · refine g_iconstN X 0 dX0_endsLimit_47 ?_
          exact g_zret X hr hlk rfl dX0_endsLimit_48 (by first | exact absurd (c_3.symm.trans c_44) ne43_64 | exact ⟨by simp [aLim, bI, *, Nat.not_lt_of_le, ne43_64, ne43_108, ne43_101, ne64_43, ne64_108, ne64_101, ne108_43, ne108_64, ne108_101, ne101_43, ne101_64, ne101_108], by simp [aLim, sP, sA_sA, sA_eq, sA_ne, upd, *, Nat.not_lt_of_le, ne43_64, ne43_108, ne43_101, ne64_43, ne64_108, ne64_101, ne108_43, ne108_64, ne108_101, ne101_43, ne101_64, ne101_108]⟩)
  · refine g_aload_n X dX0_endsLimit_6 rfl rfl ?_
    refine g_get_11_10 X hi0 (by decide +kernel) dX0_endsLimit_7 ?_
    refine g_top hk ?_
    refine g_iconstN X 1 dX0_endsLimit_10 ?_
    refine g_iaddN X dX0_endsLimit_11 ?_
    refine g_iconstN X 4 dX0_endsLimit_12 ?_
    refine g_icmpN_ge (tgt := 20) X dX0_endsLimit_13 (by decide) (by omega) (by omega) (fun c_13 => ?_) (fun c_13 => ?_)
    · refine g_iconstN X 0 dX0_endsLimit_20 ?_
      refine g_istore_n2 X dX0_endsLimit_21 rfl (by decide) rfl ?_
      refine g_aload_n X dX0_endsLimit_22 rfl rfl ?_
      refine g_get_11_6 X hi0 (by decide +kernel) dX0_endsLimit_23 ?_
      refine g_if_eq (tgt := 47) X dX0_endsLimit_26 (by decide) (fun c_26 => ?_) (fun c_26 => ?_)
      · refine g_iconstN X 0 dX0_endsLimit_47 ?_
        exact g_zret X hr hlk rfl dX0_endsLimit_48 (by first | exact absurd (c_3.symm.trans c_44) ne43_64 | exact ⟨by simp [aLim, bI, *, Nat.not_lt_of_le, ne43_64, ne43_108, ne43_101, ne64_43, ne64_108, ne64_101, ne108_43, ne108_64, ne108_101, ne101_43, ne101_64, ne101_108], by simp [aLim, sP, sA_sA, sA_eq, sA_ne, upd, *, Nat.not_lt_of_le, ne43_64, ne43_108, ne43_101, ne64_43, ne64_108, ne64_101, ne108_43, ne108_64, ne108_101, ne101_43, ne101_64, ne101_108]⟩)
      · refine g_aload_n X dX0_endsLimit_29 rfl rfl ?_
        refine g_get_11_10 X hi0 (by decide +kernel) dX0_endsLimit_30 ?_
        refine g_top hk ?_
        refine g_iconstN X 4 dX0_endsLimit_33 ?_
        refine g_icmpN_ge (tgt := 47) X dX0_endsLimit_34 (by decide) (by omega) (by omega) (fun c_34 => ?_) (fun c_34 => ?_)
        · refine g_iconstN X 0 dX0_endsLimit_47 ?_
          exact g_zret X hr hlk rfl dX0_endsLimit_48 (by first | exact absurd (c_3.symm.trans c_44) ne43_64 | exact ⟨by simp [aLim, bI, *, Nat.not_lt_of_le, ne43_64, ne43_108, ne43_101, ne64_43, ne64_108, ne64_101, ne108_43, ne108_64, ne108_101, ne101_43, ne101_64, ne101_108], by simp [aLim, sP, sA_sA, sA_eq, sA_ne, upd, *, Nat.not_lt_of_le, ne43_64, ne43_108, ne43_101, ne64_43, ne64_108, ne64_101, ne108_43, ne108_64, ne108_101, ne101_43, ne101_64, ne101_108]⟩)
        · refine g_iload_n X dX0_endsLimit_37 rfl rfl ?_
          refine g_if_ne (tgt := 49) X dX0_endsLimit_38 (by decide) (fun c_38 => absurd (by decide) c_38) (fun c_38 => ?_)
          refine g_iload_n X dX0_endsLimit_41 rfl rfl ?_
          refine g_bipush (v := nI 64) X dX0_endsLimit_42 (by decide) ?_
          refine g_icmp_eq (tgt := 49) X dX0_endsLimit_44 (by decide) (fun c_44 => ?_) (fun c_44 => ?_)
          · refine g_aload_n X dX0_endsLimit_49 rfl rfl ?_
            refine g_get_11_2 X hi0 (by decide +kernel) dX0_endsLimit_50 ?_
            refine g_aload_n X dX0_endsLimit_53 rfl rfl ?_
            refine g_get_11_10 X hi0 (by decide +kernel) dX0_endsLimit_54 ?_
            refine g_top hk ?_
            refine g_aload_n X dX0_endsLimit_57 rfl rfl ?_
            refine g_callVi (na := 0) X hj (k_X0_takeNumber l γ _) gW_11 rfl gX0_endsLimit_X0_takeNumber rfl ⟨rfl, rfl⟩ (by decide +kernel) rfl ⟨by decide, by decide⟩ rfl (Nat.le_of_ble_eq_true rfl) dX0_endsLimit_58 ⟨by decide, by decide⟩ ?_
            refine g_ast_14 X rfl (by omega) dX0_endsLimit_61 ?_
            refine g_aload_n X dX0_endsLimit_62 rfl rfl ?_
            refine g_dup X dX0_endsLimit_63 rfl ?_
            refine g_get_11_10 X hi0 (by decide +kernel) dX0_endsLimit_64 ?_
            refine g_top (y := nI k) (by simp [sP, sA_eq, sA_ne, upd, hk]) ?_
            refine g_iconstN X 1 dX0_endsLimit_67 ?_
            refine g_iaddN X dX0_endsLimit_68 ?_
            refine g_put_11_10 X hi0 (by decide +kernel) dX0_endsLimit_69 ?_
            refine g_aload_n X dX0_endsLimit_72 rfl rfl ?_
            refine g_iload_n X dX0_endsLimit_73 rfl rfl ?_
            refine g_if_eq (tgt := 81) X dX0_endsLimit_74 (by decide) (fun c_74 => ?_) (fun c_74 => absurd (by decide) c_74)
            refine g_bipush (v := nI 7) X dX0_endsLimit_81 (by decide) ?_
            refine g_put_11_5 X hi0 (by decide +kernel) dX0_endsLimit_83 ?_
            refine g_iconstN X 1 dX0_endsLimit_86 ?_
            exact g_zret X hr hlk rfl dX0_endsLimit_87 (by first | exact absurd (c_3.symm.trans c_44) ne43_64 | exact ⟨by simp [aLim, bI, *, Nat.not_lt_of_le, ne43_64, ne43_108, ne43_101, ne64_43, ne64_108, ne64_101, ne108_43, ne108_64, ne108_101, ne101_43, ne101_64, ne101_108], by simp [aLim, sP, sA_sA, sA_eq, sA_ne, upd, *, Nat.not_lt_of_le, ne43_64, ne43_108, ne43_101, ne64_43, ne64_108, ne64_101, ne108_43, ne108_64, ne108_101, ne101_43, ne101_64, ne101_108]⟩)
          · refine g_iconstN X 0 dX0_endsLimit_47 ?_
            exact g_zret X hr hlk rfl dX0_endsLimit_48 (by first | exact absurd (c_3.symm.trans c_44) ne43_64 | exact ⟨by simp [aLim, bI, *, Nat.not_lt_of_le, ne43_64, ne43_108, ne43_101, ne64_43, ne64_108, ne64_101, ne108_43, ne108_64, ne108_101, ne101_43, ne101_64, ne101_108], by simp [aLim, sP, sA_sA, sA_eq, sA_ne, upd, *, Nat.not_lt_of_le, ne43_64, ne43_108, ne43_101, ne64_43, ne64_108, ne64_101, ne108_43, ne108_64, ne108_101, ne101_43, ne101_64, ne101_108]⟩)
    · refine g_iconstN X 1 dX0_endsLimit_16 ?_
      refine g_goto (tgt := 21) X dX0_endsLimit_17 (by decide) ?_
      refine g_istore_n2 X dX0_endsLimit_21 rfl (by decide) rfl ?_
      refine g_aload_n X dX0_endsLimit_22 rfl rfl ?_
      refine g_get_11_6 X hi0 (by decide +kernel) dX0_endsLimit_23 ?_
      refine g_if_eq (tgt := 47) X dX0_endsLimit_26 (by decide) (fun c_26 => ?_) (fun c_26 => ?_)
      · refine g_iconstN X 0 dX0_endsLimit_47 ?_
        exact g_zret X hr hlk rfl dX0_endsLimit_48 (by first | exact absurd (c_3.symm.trans c_44) ne43_64 | exact ⟨by simp [aLim, bI, *, Nat.not_lt_of_le, ne43_64, ne43_108, ne43_101, ne64_43, ne64_108, ne64_101, ne108_43, ne108_64, ne108_101, ne101_43, ne101_64, ne101_108], by simp [aLim, sP, sA_sA, sA_eq, sA_ne, upd, *, Nat.not_lt_of_le, ne43_64, ne43_108, ne43_101, ne64_43, ne64_108, ne64_101, ne108_43, ne108_64, ne108_101, ne101_43, ne101_64, ne101_108]⟩)
      · refine g_aload_n X dX0_endsLimit_29 rfl rfl ?_
        refine g_get_11_10 X hi0 (by decide +kernel) dX0_endsLimit_30 ?_
        refine g_top hk ?_
        refine g_iconstN X 4 dX0_endsLimit_33 ?_
        refine g_icmpN_ge (tgt := 47) X dX0_endsLimit_34 (by decide) (by omega) (by omega) (fun c_34 => ?_) (fun c_34 => ?_)
        · refine g_iconstN X 0 dX0_endsLimit_47 ?_
          exact g_zret X hr hlk rfl dX0_endsLimit_48 (by first | exact absurd (c_3.symm.trans c_44) ne43_64 | exact ⟨by simp [aLim, bI, *, Nat.not_lt_of_le, ne43_64, ne43_108, ne43_101, ne64_43, ne64_108, ne64_101, ne108_43, ne108_64, ne108_101, ne101_43, ne101_64, ne101_108], by simp [aLim, sP, sA_sA, sA_eq, sA_ne, upd, *, Nat.not_lt_of_le, ne43_64, ne43_108, ne43_101, ne64_43, ne64_108, ne64_101, ne108_43, ne108_64, ne108_101, ne101_43, ne101_64, ne101_108]⟩)
        · refine g_iload_n X dX0_endsLimit_37 rfl rfl ?_
          refine g_if_ne (tgt := 49) X dX0_endsLimit_38 (by decide) (fun c_38 => ?_) (fun c_38 => absurd c_38 (by decide))
          refine g_aload_n X dX0_endsLimit_49 rfl rfl ?_
          refine g_get_11_2 X hi0 (by decide +kernel) dX0_endsLimit_50 ?_
          refine g_aload_n X dX0_endsLimit_53 rfl rfl ?_
          refine g_get_11_10 X hi0 (by decide +kernel) dX0_endsLimit_54 ?_
          refine g_top hk ?_
          refine g_aload_n X dX0_endsLimit_57 rfl rfl ?_
          refine g_callVi (na := 0) X hj (k_X0_takeNumber l γ _) gW_11 rfl gX0_endsLimit_X0_takeNumber rfl ⟨rfl, rfl⟩ (by decide +kernel) rfl ⟨by decide, by decide⟩ rfl (Nat.le_of_ble_eq_true rfl) dX0_endsLimit_58 ⟨by decide, by decide⟩ ?_
          refine g_ast_14 X rfl (by omega) dX0_endsLimit_61 ?_
          refine g_aload_n X dX0_endsLimit_62 rfl rfl ?_
          refine g_dup X dX0_endsLimit_63 rfl ?_
          refine g_get_11_10 X hi0 (by decide +kernel) dX0_endsLimit_64 ?_
          refine g_top (y := nI k) (by simp [sP, sA_eq, sA_ne, upd, hk]) ?_
          refine g_iconstN X 1 dX0_endsLimit_67 ?_
          refine g_iaddN X dX0_endsLimit_68 ?_
          refine g_put_11_10 X hi0 (by decide +kernel) dX0_endsLimit_69 ?_
          refine g_aload_n X dX0_endsLimit_72 rfl rfl ?_
          refine g_iload_n X dX0_endsLimit_73 rfl rfl ?_
          refine g_if_eq (tgt := 81) X dX0_endsLimit_74 (by decide) (fun c_74 => absurd c_74 (by decide)) (fun c_74 => ?_)
          refine g_iconstN X 4 dX0_endsLimit_77 ?_
          refine g_goto (tgt := 83) X dX0_endsLimit_78 (by decide) ?_
          refine g_put_11_5 X hi0 (by decide +kernel) dX0_endsLimit_83 ?_
          refine g_iconstN X 1 dX0_endsLimit_86 ?_
          exact g_zret X hr hlk rfl dX0_endsLimit_87 (by first | exact absurd (c_3.symm.trans c_44) ne43_64 | exact ⟨by simp [aLim, bI, *, Nat.not_lt_of_le, ne43_64, ne43_108, ne43_101, ne64_43, ne64_108, ne64_101, ne108_43, ne108_64, ne108_101, ne101_43, ne101_64, ne101_108], by simp [aLim, sP, sA_sA, sA_eq, sA_ne, upd, *, Nat.not_lt_of_le, ne43_64, ne43_108, ne43_101, ne64_43, ne64_108, ne64_101, ne108_43, ne108_64, ne108_101, ne101_43, ne101_64, ne101_108]⟩)
set_option maxRecDepth 20000 in
theorem k_X0_endsShare (l : Launch) (γ : gG) (σ : gS) (ch : Int32) (k : Nat) (hk : σ.1 11 11 = nI k) (hk4 : k ≤ 5) : gM l γ yX0_endsShare wsX0_endsShare ({ frames := 1, cells := 0, slots := 0, locals := 21 } : Room) [.ref (ad γ 11), .int ch] σ (gis (some (.int (bI (aShr σ ch k).1))) (aShr σ ch k).2) 0 0 := by
  refine g_enter (own := RX0) (cc := cX0_endsShare) (nL := 4) (ret := (some .boolean)) [some (.ref (ad γ 11)), some (.int ch), none, none] (by decide) rfl rfl (by simp [lg_sl, Value.category]) (by simp [gl_le, glE, Value.category]) (fun hj p e s m args below meth c X hr hlk hnm => ?_)
  have hi0 : ∀ w ∈ wsX00, w ∈ wsX0_endsShare := by decide +kernel
  refine g_iload_n X dX0_endsShare_0 rfl rfl ?_
  refine g_bipush (v := nI 43) X dX0_endsShare_1 (by decide) ?_
  refine g_icmp_ne (tgt := 20) X dX0_endsShare_3 (by decide) (fun c_3 => ?_) (fun c_3 => ?_)
  · refine g_iconstN X 0 dX0_endsShare_20 ?_
    refine g_istore_n2 X dX0_endsShare_21 rfl (by decide) rfl ?_
    refine g_iload_n X dX0_endsShare_22 rfl rfl ?_
    refine g_bipush (v := nI 108) X dX0_endsShare_23 (by decide) ?_
    refine g_icmp_eq (tgt := 34) X dX0_endsShare_25 (by decide) (fun c_25 => ?_) (fun c_25 => ?_)
    · refine g_iconstN X 1 dX0_endsShare_34 ?_
      refine g_goto (tgt := 39) X dX0_endsShare_35 (by decide) ?_
      refine g_istore_n3 X dX0_endsShare_39 rfl (by decide) rfl ?_
      refine g_aload_n X dX0_endsShare_40 rfl rfl ?_
      refine g_get_11_6 X hi0 (by decide +kernel) dX0_endsShare_41 ?_
      refine g_if_eq (tgt := 63) X dX0_endsShare_44 (by decide) (fun c_44 => ?_) (fun c_44 => ?_)
      · refine g_iconstN X 0 dX0_endsShare_63 ?_
        exact g_zret X hr hlk rfl dX0_endsShare_64 (by first | exact absurd (c_3.symm.trans c_25) ne43_108 | exact absurd (c_3.symm.trans c_31) ne43_101 | exact absurd (c_25.symm.trans c_96) ne108_101 | exact absurd c_31 c_96 | exact ⟨by simp [aShr, bI, *, Nat.not_lt_of_le, ne43_64, ne43_108, ne43_101, ne64_43, ne64_108, ne64_101, ne108_43, ne108_64, ne108_101, ne101_43, ne101_64, ne101_108], by simp [aShr, sP, sA_sA, sA_eq, sA_ne, upd, *, Nat.not_lt_of_le, ne43_64, ne43_108, ne43_101, ne64_43, ne64_108, ne64_101, ne108_43, ne108_64, ne108_101, ne101_43, ne101_64, ne101_108]⟩)
      · refine g_aload_n X dX0_endsShare_47 rfl rfl ?_
        refine g_get_11_11 X hi0 (by decide +kernel) dX0_endsShare_48 ?_
        refine g_top hk ?_
        refine g_iconstN X 5 dX0_endsShare_51 ?_
        refine g_icmpN_ge (tgt := 63) X dX0_endsShare_52 (by decide) (by omega) (by omega) (fun c_52 => ?_) (fun c_52 => ?_)
        · refine g_iconstN X 0 dX0_endsShare_63 ?_
          exact g_zret X hr hlk rfl dX0_endsShare_64 (by first | exact absurd (c_3.symm.trans c_25) ne43_108 | exact absurd (c_3.symm.trans c_31) ne43_101 | exact absurd (c_25.symm.trans c_96) ne108_101 | exact absurd c_31 c_96 | exact ⟨by simp [aShr, bI, *, Nat.not_lt_of_le, ne43_64, ne43_108, ne43_101, ne64_43, ne64_108, ne64_101, ne108_43, ne108_64, ne108_101, ne101_43, ne101_64, ne101_108], by simp [aShr, sP, sA_sA, sA_eq, sA_ne, upd, *, Nat.not_lt_of_le, ne43_64, ne43_108, ne43_101, ne64_43, ne64_108, ne64_101, ne108_43, ne108_64, ne108_101, ne101_43, ne101_64, ne101_108]⟩)
        · refine g_iload_n X dX0_endsShare_55 rfl rfl ?_
          refine g_if_ne (tgt := 65) X dX0_endsShare_56 (by decide) (fun c_56 => absurd (by decide) c_56) (fun c_56 => ?_)
          refine g_iload_n X dX0_endsShare_59 rfl rfl ?_
          refine g_if_ne (tgt := 65) X dX0_endsShare_60 (by decide) (fun c_60 => ?_) (fun c_60 => absurd c_60 (by decide))
          refine g_aload_n X dX0_endsShare_65 rfl rfl ?_
          refine g_get_11_3 X hi0 (by decide +kernel) dX0_endsShare_66 ?_
          refine g_aload_n X dX0_endsShare_69 rfl rfl ?_
          refine g_get_11_11 X hi0 (by decide +kernel) dX0_endsShare_70 ?_
          refine g_top hk ?_
          refine g_aload_n X dX0_endsShare_73 rfl rfl ?_
          refine g_callVi (na := 0) X hj (k_X0_takeNumber l γ _) gW_11 rfl gX0_endsShare_X0_takeNumber rfl ⟨rfl, rfl⟩ (by decide +kernel) rfl ⟨by decide, by decide⟩ rfl (Nat.le_of_ble_eq_true rfl) dX0_endsShare_74 ⟨by decide, by decide⟩ ?_
          refine g_ast_15 X rfl (by omega) dX0_endsShare_77 ?_
          refine g_aload_n X dX0_endsShare_78 rfl rfl ?_
          refine g_dup X dX0_endsShare_79 rfl ?_
          refine g_get_11_11 X hi0 (by decide +kernel) dX0_endsShare_80 ?_
          refine g_top (y := nI k) (by simp [sP, sA_eq, sA_ne, upd, hk]) ?_
          refine g_iconstN X 1 dX0_endsShare_83 ?_
          refine g_iaddN X dX0_endsShare_84 ?_
          refine g_put_11_11 X hi0 (by decide +kernel) dX0_endsShare_85 ?_
          refine g_iload_n X dX0_endsShare_88 rfl rfl ?_
          refine g_if_eq (tgt := 113) X dX0_endsShare_89 (by decide) (fun c_89 => absurd c_89 (by decide)) (fun c_89 => ?_)
          refine g_aload_n X dX0_endsShare_92 rfl rfl ?_
          refine g_iload_n X dX0_endsShare_93 rfl rfl ?_
          refine g_bipush (v := nI 101) X dX0_endsShare_94 (by decide) ?_
          refine g_icmp_ne (tgt := 103) X dX0_endsShare_96 (by decide) (fun c_96 => ?_) (fun c_96 => ?_)
          · refine g_iconstN X 0 dX0_endsShare_103 ?_
            refine g_put_11_9 X hi0 (by decide +kernel) dX0_endsShare_104 ?_
            refine g_aload_n X dX0_endsShare_107 rfl rfl ?_
            refine g_bipush (v := nI 8) X dX0_endsShare_108 (by decide) ?_
            refine g_put_11_5 X hi0 (by decide +kernel) dX0_endsShare_110 ?_
            refine g_iconstN X 1 dX0_endsShare_113 ?_
            exact g_zret X hr hlk rfl dX0_endsShare_114 (by first | exact absurd (c_3.symm.trans c_25) ne43_108 | exact absurd (c_3.symm.trans c_31) ne43_101 | exact absurd (c_25.symm.trans c_96) ne108_101 | exact absurd c_31 c_96 | exact ⟨by simp [aShr, bI, *, Nat.not_lt_of_le, ne43_64, ne43_108, ne43_101, ne64_43, ne64_108, ne64_101, ne108_43, ne108_64, ne108_101, ne101_43, ne101_64, ne101_108], by simp [aShr, sP, sA_sA, sA_eq, sA_ne, upd, *, Nat.not_lt_of_le, ne43_64, ne43_108, ne43_101, ne64_43, ne64_108, ne64_101, ne108_43, ne108_64, ne108_101, ne101_43, ne101_64, ne101_108]⟩)
          · refine g_iconstN X 1 dX0_endsShare_99 ?_
            refine g_goto (tgt := 104) X dX0_endsShare_100 (by decide) ?_
            refine g_put_11_9 X hi0 (by decide +kernel) dX0_endsShare_104 ?_
            refine g_aload_n X dX0_endsShare_107 rfl rfl ?_
            refine g_bipush (v := nI 8) X dX0_endsShare_108 (by decide) ?_
            refine g_put_11_5 X hi0 (by decide +kernel) dX0_endsShare_110 ?_
            refine g_iconstN X 1 dX0_endsShare_113 ?_
            exact g_zret X hr hlk rfl dX0_endsShare_114 (by first | exact absurd (c_3.symm.trans c_25) ne43_108 | exact absurd (c_3.symm.trans c_31) ne43_101 | exact absurd (c_25.symm.trans c_96) ne108_101 | exact absurd c_31 c_96 | exact ⟨by simp [aShr, bI, *, Nat.not_lt_of_le, ne43_64, ne43_108, ne43_101, ne64_43, ne64_108, ne64_101, ne108_43, ne108_64, ne108_101, ne101_43, ne101_64, ne101_108], by simp [aShr, sP, sA_sA, sA_eq, sA_ne, upd, *, Nat.not_lt_of_le, ne43_64, ne43_108, ne43_101, ne64_43, ne64_108, ne64_101, ne108_43, ne108_64, ne108_101, ne101_43, ne101_64, ne101_108]⟩)
    · refine g_iload_n X dX0_endsShare_28 rfl rfl ?_
      refine g_bipush (v := nI 101) X dX0_endsShare_29 (by decide) ?_
      refine g_icmp_ne (tgt := 38) X dX0_endsShare_31 (by decide) (fun c_31 => ?_) (fun c_31 => ?_)
      · refine g_iconstN X 0 dX0_endsShare_38 ?_
        refine g_istore_n3 X dX0_endsShare_39 rfl (by decide) rfl ?_
        refine g_aload_n X dX0_endsShare_40 rfl rfl ?_
        refine g_get_11_6 X hi0 (by decide +kernel) dX0_endsShare_41 ?_
        refine g_if_eq (tgt := 63) X dX0_endsShare_44 (by decide) (fun c_44 => ?_) (fun c_44 => ?_)
        · refine g_iconstN X 0 dX0_endsShare_63 ?_
          exact g_zret X hr hlk rfl dX0_endsShare_64 (by first | exact absurd (c_3.symm.trans c_25) ne43_108 | exact absurd (c_3.symm.trans c_31) ne43_101 | exact absurd (c_25.symm.trans c_96) ne108_101 | exact absurd c_31 c_96 | exact ⟨by simp [aShr, bI, *, Nat.not_lt_of_le, ne43_64, ne43_108, ne43_101, ne64_43, ne64_108, ne64_101, ne108_43, ne108_64, ne108_101, ne101_43, ne101_64, ne101_108], by simp [aShr, sP, sA_sA, sA_eq, sA_ne, upd, *, Nat.not_lt_of_le, ne43_64, ne43_108, ne43_101, ne64_43, ne64_108, ne64_101, ne108_43, ne108_64, ne108_101, ne101_43, ne101_64, ne101_108]⟩)
        · refine g_aload_n X dX0_endsShare_47 rfl rfl ?_
          refine g_get_11_11 X hi0 (by decide +kernel) dX0_endsShare_48 ?_
          refine g_top hk ?_
          refine g_iconstN X 5 dX0_endsShare_51 ?_
          refine g_icmpN_ge (tgt := 63) X dX0_endsShare_52 (by decide) (by omega) (by omega) (fun c_52 => ?_) (fun c_52 => ?_)
          · refine g_iconstN X 0 dX0_endsShare_63 ?_
            exact g_zret X hr hlk rfl dX0_endsShare_64 (by first | exact absurd (c_3.symm.trans c_25) ne43_108 | exact absurd (c_3.symm.trans c_31) ne43_101 | exact absurd (c_25.symm.trans c_96) ne108_101 | exact absurd c_31 c_96 | exact ⟨by simp [aShr, bI, *, Nat.not_lt_of_le, ne43_64, ne43_108, ne43_101, ne64_43, ne64_108, ne64_101, ne108_43, ne108_64, ne108_101, ne101_43, ne101_64, ne101_108], by simp [aShr, sP, sA_sA, sA_eq, sA_ne, upd, *, Nat.not_lt_of_le, ne43_64, ne43_108, ne43_101, ne64_43, ne64_108, ne64_101, ne108_43, ne108_64, ne108_101, ne101_43, ne101_64, ne101_108]⟩)
          · refine g_iload_n X dX0_endsShare_55 rfl rfl ?_
            refine g_if_ne (tgt := 65) X dX0_endsShare_56 (by decide) (fun c_56 => absurd (by decide) c_56) (fun c_56 => ?_)
            refine g_iload_n X dX0_endsShare_59 rfl rfl ?_
            refine g_if_ne (tgt := 65) X dX0_endsShare_60 (by decide) (fun c_60 => absurd (by decide) c_60) (fun c_60 => ?_)
            refine g_iconstN X 0 dX0_endsShare_63 ?_
            exact g_zret X hr hlk rfl dX0_endsShare_64 (by first | exact absurd (c_3.symm.trans c_25) ne43_108 | exact absurd (c_3.symm.trans c_31) ne43_101 | exact absurd (c_25.symm.trans c_96) ne108_101 | exact absurd c_31 c_96 | exact ⟨by simp [aShr, bI, *, Nat.not_lt_of_le, ne43_64, ne43_108, ne43_101, ne64_43, ne64_108, ne64_101, ne108_43, ne108_64, ne108_101, ne101_43, ne101_64, ne101_108], by simp [aShr, sP, sA_sA, sA_eq, sA_ne, upd, *, Nat.not_lt_of_le, ne43_64, ne43_108, ne43_101, ne64_43, ne64_108, ne64_101, ne108_43, ne108_64, ne108_101, ne101_43, ne101_64, ne101_108]⟩)
      · refine g_iconstN X 1 dX0_endsShare_34 ?_
        refine g_goto (tgt := 39) X dX0_endsShare_35 (by decide) ?_
        refine g_istore_n3 X dX0_endsShare_39 rfl (by decide) rfl ?_
        refine g_aload_n X dX0_endsShare_40 rfl rfl ?_
        refine g_get_11_6 X hi0 (by decide +kernel) dX0_endsShare_41 ?_
        refine g_if_eq (tgt := 63) X dX0_endsShare_44 (by decide) (fun c_44 => ?_) (fun c_44 => ?_)
        · refine g_iconstN X 0 dX0_endsShare_63 ?_
          exact g_zret X hr hlk rfl dX0_endsShare_64 (by first | exact absurd (c_3.symm.trans c_25) ne43_108 | exact absurd (c_3.symm.trans c_31) ne43_101 | exact absurd (c_25.symm.trans c_96) ne108_101 | exact absurd c_31 c_96 | exact ⟨by simp [aShr, bI, *, Nat.not_lt_of_le, ne43_64, ne43_108, ne43_101, ne64_43, ne64_108, ne64_101, ne108_43, ne108_64, ne108_101, ne101_43, ne101_64, ne101_108], by simp [aShr, sP, sA_sA, sA_eq, sA_ne, upd, *, Nat.not_lt_of_le, ne43_64, ne43_108, ne43_101, ne64_43, ne64_108, ne64_101, ne108_43, ne108_64, ne108_101, ne101_43, ne101_64, ne101_108]⟩)
        · refine g_aload_n X dX0_endsShare_47 rfl rfl ?_
          refine g_get_11_11 X hi0 (by decide +kernel) dX0_endsShare_48 ?_
          refine g_top hk ?_
          refine g_iconstN X 5 dX0_endsShare_51 ?_
          refine g_icmpN_ge (tgt := 63) X dX0_endsShare_52 (by decide) (by omega) (by omega) (fun c_52 => ?_) (fun c_52 => ?_)
          · refine g_iconstN X 0 dX0_endsShare_63 ?_
            exact g_zret X hr hlk rfl dX0_endsShare_64 (by first | exact absurd (c_3.symm.trans c_25) ne43_108 | exact absurd (c_3.symm.trans c_31) ne43_101 | exact absurd (c_25.symm.trans c_96) ne108_101 | exact absurd c_31 c_96 | exact ⟨by simp [aShr, bI, *, Nat.not_lt_of_le, ne43_64, ne43_108, ne43_101, ne64_43, ne64_108, ne64_101, ne108_43, ne108_64, ne108_101, ne101_43, ne101_64, ne101_108], by simp [aShr, sP, sA_sA, sA_eq, sA_ne, upd, *, Nat.not_lt_of_le, ne43_64, ne43_108, ne43_101, ne64_43, ne64_108, ne64_101, ne108_43, ne108_64, ne108_101, ne101_43, ne101_64, ne101_108]⟩)
          · refine g_iload_n X dX0_endsShare_55 rfl rfl ?_
            refine g_if_ne (tgt := 65) X dX0_endsShare_56 (by decide) (fun c_56 => absurd (by decide) c_56) (fun c_56 => ?_)
            refine g_iload_n X dX0_endsShare_59 rfl rfl ?_
            refine g_if_ne (tgt := 65) X dX0_endsShare_60 (by decide) (fun c_60 => ?_) (fun c_60 => absurd c_60 (by decide))
            refine g_aload_n X dX0_endsShare_65 rfl rfl ?_
            refine g_get_11_3 X hi0 (by decide +kernel) dX0_endsShare_66 ?_
            refine g_aload_n X dX0_endsShare_69 rfl rfl ?_
            refine g_get_11_11 X hi0 (by decide +kernel) dX0_endsShare_70 ?_
            refine g_top hk ?_
            refine g_aload_n X dX0_endsShare_73 rfl rfl ?_
            refine g_callVi (na := 0) X hj (k_X0_takeNumber l γ _) gW_11 rfl gX0_endsShare_X0_takeNumber rfl ⟨rfl, rfl⟩ (by decide +kernel) rfl ⟨by decide, by decide⟩ rfl (Nat.le_of_ble_eq_true rfl) dX0_endsShare_74 ⟨by decide, by decide⟩ ?_
            refine g_ast_15 X rfl (by omega) dX0_endsShare_77 ?_
            refine g_aload_n X dX0_endsShare_78 rfl rfl ?_
            refine g_dup X dX0_endsShare_79 rfl ?_
            refine g_get_11_11 X hi0 (by decide +kernel) dX0_endsShare_80 ?_
            refine g_top (y := nI k) (by simp [sP, sA_eq, sA_ne, upd, hk]) ?_
            refine g_iconstN X 1 dX0_endsShare_83 ?_
            refine g_iaddN X dX0_endsShare_84 ?_
            refine g_put_11_11 X hi0 (by decide +kernel) dX0_endsShare_85 ?_
            refine g_iload_n X dX0_endsShare_88 rfl rfl ?_
            refine g_if_eq (tgt := 113) X dX0_endsShare_89 (by decide) (fun c_89 => absurd c_89 (by decide)) (fun c_89 => ?_)
            refine g_aload_n X dX0_endsShare_92 rfl rfl ?_
            refine g_iload_n X dX0_endsShare_93 rfl rfl ?_
            refine g_bipush (v := nI 101) X dX0_endsShare_94 (by decide) ?_
            refine g_icmp_ne (tgt := 103) X dX0_endsShare_96 (by decide) (fun c_96 => ?_) (fun c_96 => ?_)
            · refine g_iconstN X 0 dX0_endsShare_103 ?_
              refine g_put_11_9 X hi0 (by decide +kernel) dX0_endsShare_104 ?_
              refine g_aload_n X dX0_endsShare_107 rfl rfl ?_
              refine g_bipush (v := nI 8) X dX0_endsShare_108 (by decide) ?_
              refine g_put_11_5 X hi0 (by decide +kernel) dX0_endsShare_110 ?_
              refine g_iconstN X 1 dX0_endsShare_113 ?_
              exact g_zret X hr hlk rfl dX0_endsShare_114 (by first | exact absurd (c_3.symm.trans c_25) ne43_108 | exact absurd (c_3.symm.trans c_31) ne43_101 | exact absurd (c_25.symm.trans c_96) ne108_101 | exact absurd c_31 c_96 | exact ⟨by simp [aShr, bI, *, Nat.not_lt_of_le, ne43_64, ne43_108, ne43_101, ne64_43, ne64_108, ne64_101, ne108_43, ne108_64, ne108_101, ne101_43, ne101_64, ne101_108], by simp [aShr, sP, sA_sA, sA_eq, sA_ne, upd, *, Nat.not_lt_of_le, ne43_64, ne43_108, ne43_101, ne64_43, ne64_108, ne64_101, ne108_43, ne108_64, ne108_101, ne101_43, ne101_64, ne101_108]⟩)
            · refine g_iconstN X 1 dX0_endsShare_99 ?_
              refine g_goto (tgt := 104) X dX0_endsShare_100 (by decide) ?_
              refine g_put_11_9 X hi0 (by decide +kernel) dX0_endsShare_104 ?_
              refine g_aload_n X dX0_endsShare_107 rfl rfl ?_
              refine g_bipush (v := nI 8) X dX0_endsShare_108 (by decide) ?_
              refine g_put_11_5 X hi0 (by decide +kernel) dX0_endsShare_110 ?_
              refine g_iconstN X 1 dX0_endsShare_113 ?_
              exact g_zret X hr hlk rfl dX0_endsShare_114 (by first | exact absurd (c_3.symm.trans c_25) ne43_108 | exact absurd (c_3.symm.trans c_31) ne43_101 | exact absurd (c_25.symm.trans c_96) ne108_101 | exact absurd c_31 c_96 | exact ⟨by simp [aShr, bI, *, Nat.not_lt_of_le, ne43_64, ne43_108, ne43_101, ne64_43, ne64_108, ne64_101, ne108_43, ne108_64, ne108_101, ne101_43, ne101_64, ne101_108], by simp [aShr, sP, sA_sA, sA_eq, sA_ne, upd, *, Nat.not_lt_of_le, ne43_64, ne43_108, ne43_101, ne64_43, ne64_108, ne64_101, ne108_43, ne108_64, ne108_101, ne101_43, ne101_64, ne101_108]⟩)
  · refine g_aload_n X dX0_endsShare_6 rfl rfl ?_
    refine g_get_11_11 X hi0 (by decide +kernel) dX0_endsShare_7 ?_
    refine g_top hk ?_
    refine g_iconstN X 1 dX0_endsShare_10 ?_
    refine g_iaddN X dX0_endsShare_11 ?_
    refine g_iconstN X 5 dX0_endsShare_12 ?_
    refine g_icmpN_ge (tgt := 20) X dX0_endsShare_13 (by decide) (by omega) (by omega) (fun c_13 => ?_) (fun c_13 => ?_)
    · refine g_iconstN X 0 dX0_endsShare_20 ?_
      refine g_istore_n2 X dX0_endsShare_21 rfl (by decide) rfl ?_
      refine g_iload_n X dX0_endsShare_22 rfl rfl ?_
      refine g_bipush (v := nI 108) X dX0_endsShare_23 (by decide) ?_
      refine g_icmp_eq (tgt := 34) X dX0_endsShare_25 (by decide) (fun c_25 => ?_) (fun c_25 => ?_)
      · refine g_iconstN X 1 dX0_endsShare_34 ?_
        refine g_goto (tgt := 39) X dX0_endsShare_35 (by decide) ?_
        refine g_istore_n3 X dX0_endsShare_39 rfl (by decide) rfl ?_
        refine g_aload_n X dX0_endsShare_40 rfl rfl ?_
        refine g_get_11_6 X hi0 (by decide +kernel) dX0_endsShare_41 ?_
        refine g_if_eq (tgt := 63) X dX0_endsShare_44 (by decide) (fun c_44 => ?_) (fun c_44 => ?_)
        · refine g_iconstN X 0 dX0_endsShare_63 ?_
          exact g_zret X hr hlk rfl dX0_endsShare_64 (by first | exact absurd (c_3.symm.trans c_25) ne43_108 | exact absurd (c_3.symm.trans c_31) ne43_101 | exact absurd (c_25.symm.trans c_96) ne108_101 | exact absurd c_31 c_96 | exact ⟨by simp [aShr, bI, *, Nat.not_lt_of_le, ne43_64, ne43_108, ne43_101, ne64_43, ne64_108, ne64_101, ne108_43, ne108_64, ne108_101, ne101_43, ne101_64, ne101_108], by simp [aShr, sP, sA_sA, sA_eq, sA_ne, upd, *, Nat.not_lt_of_le, ne43_64, ne43_108, ne43_101, ne64_43, ne64_108, ne64_101, ne108_43, ne108_64, ne108_101, ne101_43, ne101_64, ne101_108]⟩)
        · refine g_aload_n X dX0_endsShare_47 rfl rfl ?_
          refine g_get_11_11 X hi0 (by decide +kernel) dX0_endsShare_48 ?_
          refine g_top hk ?_
          refine g_iconstN X 5 dX0_endsShare_51 ?_
          refine g_icmpN_ge (tgt := 63) X dX0_endsShare_52 (by decide) (by omega) (by omega) (fun c_52 => ?_) (fun c_52 => ?_)
          · refine g_iconstN X 0 dX0_endsShare_63 ?_
            exact g_zret X hr hlk rfl dX0_endsShare_64 (by first | exact absurd (c_3.symm.trans c_25) ne43_108 | exact absurd (c_3.symm.trans c_31) ne43_101 | exact absurd (c_25.symm.trans c_96) ne108_101 | exact absurd c_31 c_96 | exact ⟨by simp [aShr, bI, *, Nat.not_lt_of_le, ne43_64, ne43_108, ne43_101, ne64_43, ne64_108, ne64_101, ne108_43, ne108_64, ne108_101, ne101_43, ne101_64, ne101_108], by simp [aShr, sP, sA_sA, sA_eq, sA_ne, upd, *, Nat.not_lt_of_le, ne43_64, ne43_108, ne43_101, ne64_43, ne64_108, ne64_101, ne108_43, ne108_64, ne108_101, ne101_43, ne101_64, ne101_108]⟩)
          · refine g_iload_n X dX0_endsShare_55 rfl rfl ?_
            refine g_if_ne (tgt := 65) X dX0_endsShare_56 (by decide) (fun c_56 => absurd (by decide) c_56) (fun c_56 => ?_)
            refine g_iload_n X dX0_endsShare_59 rfl rfl ?_
            refine g_if_ne (tgt := 65) X dX0_endsShare_60 (by decide) (fun c_60 => ?_) (fun c_60 => absurd c_60 (by decide))
            refine g_aload_n X dX0_endsShare_65 rfl rfl ?_
            refine g_get_11_3 X hi0 (by decide +kernel) dX0_endsShare_66 ?_
            refine g_aload_n X dX0_endsShare_69 rfl rfl ?_
            refine g_get_11_11 X hi0 (by decide +kernel) dX0_endsShare_70 ?_
            refine g_top hk ?_
            refine g_aload_n X dX0_endsShare_73 rfl rfl ?_
            refine g_callVi (na := 0) X hj (k_X0_takeNumber l γ _) gW_11 rfl gX0_endsShare_X0_takeNumber rfl ⟨rfl, rfl⟩ (by decide +kernel) rfl ⟨by decide, by decide⟩ rfl (Nat.le_of_ble_eq_true rfl) dX0_endsShare_74 ⟨by decide, by decide⟩ ?_
            refine g_ast_15 X rfl (by omega) dX0_endsShare_77 ?_
            refine g_aload_n X dX0_endsShare_78 rfl rfl ?_
            refine g_dup X dX0_endsShare_79 rfl ?_
            refine g_get_11_11 X hi0 (by decide +kernel) dX0_endsShare_80 ?_
            refine g_top (y := nI k) (by simp [sP, sA_eq, sA_ne, upd, hk]) ?_
            refine g_iconstN X 1 dX0_endsShare_83 ?_
            refine g_iaddN X dX0_endsShare_84 ?_
            refine g_put_11_11 X hi0 (by decide +kernel) dX0_endsShare_85 ?_
            refine g_iload_n X dX0_endsShare_88 rfl rfl ?_
            refine g_if_eq (tgt := 113) X dX0_endsShare_89 (by decide) (fun c_89 => absurd c_89 (by decide)) (fun c_89 => ?_)
            refine g_aload_n X dX0_endsShare_92 rfl rfl ?_
            refine g_iload_n X dX0_endsShare_93 rfl rfl ?_
            refine g_bipush (v := nI 101) X dX0_endsShare_94 (by decide) ?_
            refine g_icmp_ne (tgt := 103) X dX0_endsShare_96 (by decide) (fun c_96 => ?_) (fun c_96 => ?_)
            · refine g_iconstN X 0 dX0_endsShare_103 ?_
              refine g_put_11_9 X hi0 (by decide +kernel) dX0_endsShare_104 ?_
              refine g_aload_n X dX0_endsShare_107 rfl rfl ?_
              refine g_bipush (v := nI 8) X dX0_endsShare_108 (by decide) ?_
              refine g_put_11_5 X hi0 (by decide +kernel) dX0_endsShare_110 ?_
              refine g_iconstN X 1 dX0_endsShare_113 ?_
              exact g_zret X hr hlk rfl dX0_endsShare_114 (by first | exact absurd (c_3.symm.trans c_25) ne43_108 | exact absurd (c_3.symm.trans c_31) ne43_101 | exact absurd (c_25.symm.trans c_96) ne108_101 | exact absurd c_31 c_96 | exact ⟨by simp [aShr, bI, *, Nat.not_lt_of_le, ne43_64, ne43_108, ne43_101, ne64_43, ne64_108, ne64_101, ne108_43, ne108_64, ne108_101, ne101_43, ne101_64, ne101_108], by simp [aShr, sP, sA_sA, sA_eq, sA_ne, upd, *, Nat.not_lt_of_le, ne43_64, ne43_108, ne43_101, ne64_43, ne64_108, ne64_101, ne108_43, ne108_64, ne108_101, ne101_43, ne101_64, ne101_108]⟩)
            · refine g_iconstN X 1 dX0_endsShare_99 ?_
              refine g_goto (tgt := 104) X dX0_endsShare_100 (by decide) ?_
              refine g_put_11_9 X hi0 (by decide +kernel) dX0_endsShare_104 ?_
              refine g_aload_n X dX0_endsShare_107 rfl rfl ?_
              refine g_bipush (v := nI 8) X dX0_endsShare_108 (by decide) ?_
              refine g_put_11_5 X hi0 (by decide +kernel) dX0_endsShare_110 ?_
              refine g_iconstN X 1 dX0_endsShare_113 ?_
              exact g_zret X hr hlk rfl dX0_endsShare_114 (by first | exact absurd (c_3.symm.trans c_25) ne43_108 | exact absurd (c_3.symm.trans c_31) ne43_101 | exact absurd (c_25.symm.trans c_96) ne108_101 | exact absurd c_31 c_96 | exact ⟨by simp [aShr, bI, *, Nat.not_lt_of_le, ne43_64, ne43_108, ne43_101, ne64_43, ne64_108, ne64_101, ne108_43, ne108_64, ne108_101, ne101_43, ne101_64, ne101_108], by simp [aShr, sP, sA_sA, sA_eq, sA_ne, upd, *, Nat.not_lt_of_le, ne43_64, ne43_108, ne43_101, ne64_43, ne64_108, ne64_101, ne108_43, ne108_64, ne108_101, ne101_43, ne101_64, ne101_108]⟩)
      · refine g_iload_n X dX0_endsShare_28 rfl rfl ?_
        refine g_bipush (v := nI 101) X dX0_endsShare_29 (by decide) ?_
        refine g_icmp_ne (tgt := 38) X dX0_endsShare_31 (by decide) (fun c_31 => ?_) (fun c_31 => ?_)
        · refine g_iconstN X 0 dX0_endsShare_38 ?_
          refine g_istore_n3 X dX0_endsShare_39 rfl (by decide) rfl ?_
          refine g_aload_n X dX0_endsShare_40 rfl rfl ?_
          refine g_get_11_6 X hi0 (by decide +kernel) dX0_endsShare_41 ?_
          refine g_if_eq (tgt := 63) X dX0_endsShare_44 (by decide) (fun c_44 => ?_) (fun c_44 => ?_)
          · refine g_iconstN X 0 dX0_endsShare_63 ?_
            exact g_zret X hr hlk rfl dX0_endsShare_64 (by first | exact absurd (c_3.symm.trans c_25) ne43_108 | exact absurd (c_3.symm.trans c_31) ne43_101 | exact absurd (c_25.symm.trans c_96) ne108_101 | exact absurd c_31 c_96 | exact ⟨by simp [aShr, bI, *, Nat.not_lt_of_le, ne43_64, ne43_108, ne43_101, ne64_43, ne64_108, ne64_101, ne108_43, ne108_64, ne108_101, ne101_43, ne101_64, ne101_108], by simp [aShr, sP, sA_sA, sA_eq, sA_ne, upd, *, Nat.not_lt_of_le, ne43_64, ne43_108, ne43_101, ne64_43, ne64_108, ne64_101, ne108_43, ne108_64, ne108_101, ne101_43, ne101_64, ne101_108]⟩)
          · refine g_aload_n X dX0_endsShare_47 rfl rfl ?_
            refine g_get_11_11 X hi0 (by decide +kernel) dX0_endsShare_48 ?_
            refine g_top hk ?_
            refine g_iconstN X 5 dX0_endsShare_51 ?_
            refine g_icmpN_ge (tgt := 63) X dX0_endsShare_52 (by decide) (by omega) (by omega) (fun c_52 => ?_) (fun c_52 => ?_)
            · refine g_iconstN X 0 dX0_endsShare_63 ?_
              exact g_zret X hr hlk rfl dX0_endsShare_64 (by first | exact absurd (c_3.symm.trans c_25) ne43_108 | exact absurd (c_3.symm.trans c_31) ne43_101 | exact absurd (c_25.symm.trans c_96) ne108_101 | exact absurd c_31 c_96 | exact ⟨by simp [aShr, bI, *, Nat.not_lt_of_le, ne43_64, ne43_108, ne43_101, ne64_43, ne64_108, ne64_101, ne108_43, ne108_64, ne108_101, ne101_43, ne101_64, ne101_108], by simp [aShr, sP, sA_sA, sA_eq, sA_ne, upd, *, Nat.not_lt_of_le, ne43_64, ne43_108, ne43_101, ne64_43, ne64_108, ne64_101, ne108_43, ne108_64, ne108_101, ne101_43, ne101_64, ne101_108]⟩)
            · refine g_iload_n X dX0_endsShare_55 rfl rfl ?_
              refine g_if_ne (tgt := 65) X dX0_endsShare_56 (by decide) (fun c_56 => absurd (by decide) c_56) (fun c_56 => ?_)
              refine g_iload_n X dX0_endsShare_59 rfl rfl ?_
              refine g_if_ne (tgt := 65) X dX0_endsShare_60 (by decide) (fun c_60 => absurd (by decide) c_60) (fun c_60 => ?_)
              refine g_iconstN X 0 dX0_endsShare_63 ?_
              exact g_zret X hr hlk rfl dX0_endsShare_64 (by first | exact absurd (c_3.symm.trans c_25) ne43_108 | exact absurd (c_3.symm.trans c_31) ne43_101 | exact absurd (c_25.symm.trans c_96) ne108_101 | exact absurd c_31 c_96 | exact ⟨by simp [aShr, bI, *, Nat.not_lt_of_le, ne43_64, ne43_108, ne43_101, ne64_43, ne64_108, ne64_101, ne108_43, ne108_64, ne108_101, ne101_43, ne101_64, ne101_108], by simp [aShr, sP, sA_sA, sA_eq, sA_ne, upd, *, Nat.not_lt_of_le, ne43_64, ne43_108, ne43_101, ne64_43, ne64_108, ne64_101, ne108_43, ne108_64, ne108_101, ne101_43, ne101_64, ne101_108]⟩)
        · refine g_iconstN X 1 dX0_endsShare_34 ?_
          refine g_goto (tgt := 39) X dX0_endsShare_35 (by decide) ?_
          refine g_istore_n3 X dX0_endsShare_39 rfl (by decide) rfl ?_
          refine g_aload_n X dX0_endsShare_40 rfl rfl ?_
          refine g_get_11_6 X hi0 (by decide +kernel) dX0_endsShare_41 ?_
          refine g_if_eq (tgt := 63) X dX0_endsShare_44 (by decide) (fun c_44 => ?_) (fun c_44 => ?_)
          · refine g_iconstN X 0 dX0_endsShare_63 ?_
            exact g_zret X hr hlk rfl dX0_endsShare_64 (by first | exact absurd (c_3.symm.trans c_25) ne43_108 | exact absurd (c_3.symm.trans c_31) ne43_101 | exact absurd (c_25.symm.trans c_96) ne108_101 | exact absurd c_31 c_96 | exact ⟨by simp [aShr, bI, *, Nat.not_lt_of_le, ne43_64, ne43_108, ne43_101, ne64_43, ne64_108, ne64_101, ne108_43, ne108_64, ne108_101, ne101_43, ne101_64, ne101_108], by simp [aShr, sP, sA_sA, sA_eq, sA_ne, upd, *, Nat.not_lt_of_le, ne43_64, ne43_108, ne43_101, ne64_43, ne64_108, ne64_101, ne108_43, ne108_64, ne108_101, ne101_43, ne101_64, ne101_108]⟩)
          · refine g_aload_n X dX0_endsShare_47 rfl rfl ?_
            refine g_get_11_11 X hi0 (by decide +kernel) dX0_endsShare_48 ?_
            refine g_top hk ?_
            refine g_iconstN X 5 dX0_endsShare_51 ?_
            refine g_icmpN_ge (tgt := 63) X dX0_endsShare_52 (by decide) (by omega) (by omega) (fun c_52 => ?_) (fun c_52 => ?_)
            · refine g_iconstN X 0 dX0_endsShare_63 ?_
              exact g_zret X hr hlk rfl dX0_endsShare_64 (by first | exact absurd (c_3.symm.trans c_25) ne43_108 | exact absurd (c_3.symm.trans c_31) ne43_101 | exact absurd (c_25.symm.trans c_96) ne108_101 | exact absurd c_31 c_96 | exact ⟨by simp [aShr, bI, *, Nat.not_lt_of_le, ne43_64, ne43_108, ne43_101, ne64_43, ne64_108, ne64_101, ne108_43, ne108_64, ne108_101, ne101_43, ne101_64, ne101_108], by simp [aShr, sP, sA_sA, sA_eq, sA_ne, upd, *, Nat.not_lt_of_le, ne43_64, ne43_108, ne43_101, ne64_43, ne64_108, ne64_101, ne108_43, ne108_64, ne108_101, ne101_43, ne101_64, ne101_108]⟩)
            · refine g_iload_n X dX0_endsShare_55 rfl rfl ?_
              refine g_if_ne (tgt := 65) X dX0_endsShare_56 (by decide) (fun c_56 => absurd (by decide) c_56) (fun c_56 => ?_)
              refine g_iload_n X dX0_endsShare_59 rfl rfl ?_
              refine g_if_ne (tgt := 65) X dX0_endsShare_60 (by decide) (fun c_60 => ?_) (fun c_60 => absurd c_60 (by decide))
              refine g_aload_n X dX0_endsShare_65 rfl rfl ?_
              refine g_get_11_3 X hi0 (by decide +kernel) dX0_endsShare_66 ?_
              refine g_aload_n X dX0_endsShare_69 rfl rfl ?_
              refine g_get_11_11 X hi0 (by decide +kernel) dX0_endsShare_70 ?_
              refine g_top hk ?_
              refine g_aload_n X dX0_endsShare_73 rfl rfl ?_
              refine g_callVi (na := 0) X hj (k_X0_takeNumber l γ _) gW_11 rfl gX0_endsShare_X0_takeNumber rfl ⟨rfl, rfl⟩ (by decide +kernel) rfl ⟨by decide, by decide⟩ rfl (Nat.le_of_ble_eq_true rfl) dX0_endsShare_74 ⟨by decide, by decide⟩ ?_
              refine g_ast_15 X rfl (by omega) dX0_endsShare_77 ?_
              refine g_aload_n X dX0_endsShare_78 rfl rfl ?_
              refine g_dup X dX0_endsShare_79 rfl ?_
              refine g_get_11_11 X hi0 (by decide +kernel) dX0_endsShare_80 ?_
              refine g_top (y := nI k) (by simp [sP, sA_eq, sA_ne, upd, hk]) ?_
              refine g_iconstN X 1 dX0_endsShare_83 ?_
              refine g_iaddN X dX0_endsShare_84 ?_
              refine g_put_11_11 X hi0 (by decide +kernel) dX0_endsShare_85 ?_
              refine g_iload_n X dX0_endsShare_88 rfl rfl ?_
              refine g_if_eq (tgt := 113) X dX0_endsShare_89 (by decide) (fun c_89 => absurd c_89 (by decide)) (fun c_89 => ?_)
              refine g_aload_n X dX0_endsShare_92 rfl rfl ?_
              refine g_iload_n X dX0_endsShare_93 rfl rfl ?_
              refine g_bipush (v := nI 101) X dX0_endsShare_94 (by decide) ?_
              refine g_icmp_ne (tgt := 103) X dX0_endsShare_96 (by decide) (fun c_96 => ?_) (fun c_96 => ?_)
              · refine g_iconstN X 0 dX0_endsShare_103 ?_
                refine g_put_11_9 X hi0 (by decide +kernel) dX0_endsShare_104 ?_
                refine g_aload_n X dX0_endsShare_107 rfl rfl ?_
                refine g_bipush (v := nI 8) X dX0_endsShare_108 (by decide) ?_
                refine g_put_11_5 X hi0 (by decide +kernel) dX0_endsShare_110 ?_
                refine g_iconstN X 1 dX0_endsShare_113 ?_
                exact g_zret X hr hlk rfl dX0_endsShare_114 (by first | exact absurd (c_3.symm.trans c_25) ne43_108 | exact absurd (c_3.symm.trans c_31) ne43_101 | exact absurd (c_25.symm.trans c_96) ne108_101 | exact absurd c_31 c_96 | exact ⟨by simp [aShr, bI, *, Nat.not_lt_of_le, ne43_64, ne43_108, ne43_101, ne64_43, ne64_108, ne64_101, ne108_43, ne108_64, ne108_101, ne101_43, ne101_64, ne101_108], by simp [aShr, sP, sA_sA, sA_eq, sA_ne, upd, *, Nat.not_lt_of_le, ne43_64, ne43_108, ne43_101, ne64_43, ne64_108, ne64_101, ne108_43, ne108_64, ne108_101, ne101_43, ne101_64, ne101_108]⟩)
              · refine g_iconstN X 1 dX0_endsShare_99 ?_
                refine g_goto (tgt := 104) X dX0_endsShare_100 (by decide) ?_
                refine g_put_11_9 X hi0 (by decide +kernel) dX0_endsShare_104 ?_
                refine g_aload_n X dX0_endsShare_107 rfl rfl ?_
                refine g_bipush (v := nI 8) X dX0_endsShare_108 (by decide) ?_
                refine g_put_11_5 X hi0 (by decide +kernel) dX0_endsShare_110 ?_
                refine g_iconstN X 1 dX0_endsShare_113 ?_
                exact g_zret X hr hlk rfl dX0_endsShare_114 (by first | exact absurd (c_3.symm.trans c_25) ne43_108 | exact absurd (c_3.symm.trans c_31) ne43_101 | exact absurd (c_25.symm.trans c_96) ne108_101 | exact absurd c_31 c_96 | exact ⟨by simp [aShr, bI, *, Nat.not_lt_of_le, ne43_64, ne43_108, ne43_101, ne64_43, ne64_108, ne64_101, ne108_43, ne108_64, ne108_101, ne101_43, ne101_64, ne101_108], by simp [aShr, sP, sA_sA, sA_eq, sA_ne, upd, *, Nat.not_lt_of_le, ne43_64, ne43_108, ne43_101, ne64_43, ne64_108, ne64_101, ne108_43, ne108_64, ne108_101, ne101_43, ne101_64, ne101_108]⟩)
    · refine g_iconstN X 1 dX0_endsShare_16 ?_
      refine g_goto (tgt := 21) X dX0_endsShare_17 (by decide) ?_
      refine g_istore_n2 X dX0_endsShare_21 rfl (by decide) rfl ?_
      refine g_iload_n X dX0_endsShare_22 rfl rfl ?_
      refine g_bipush (v := nI 108) X dX0_endsShare_23 (by decide) ?_
      refine g_icmp_eq (tgt := 34) X dX0_endsShare_25 (by decide) (fun c_25 => ?_) (fun c_25 => ?_)
      · refine g_iconstN X 1 dX0_endsShare_34 ?_
        refine g_goto (tgt := 39) X dX0_endsShare_35 (by decide) ?_
        refine g_istore_n3 X dX0_endsShare_39 rfl (by decide) rfl ?_
        refine g_aload_n X dX0_endsShare_40 rfl rfl ?_
        refine g_get_11_6 X hi0 (by decide +kernel) dX0_endsShare_41 ?_
        refine g_if_eq (tgt := 63) X dX0_endsShare_44 (by decide) (fun c_44 => ?_) (fun c_44 => ?_)
        · refine g_iconstN X 0 dX0_endsShare_63 ?_
          exact g_zret X hr hlk rfl dX0_endsShare_64 (by first | exact absurd (c_3.symm.trans c_25) ne43_108 | exact absurd (c_3.symm.trans c_31) ne43_101 | exact absurd (c_25.symm.trans c_96) ne108_101 | exact absurd c_31 c_96 | exact ⟨by simp [aShr, bI, *, Nat.not_lt_of_le, ne43_64, ne43_108, ne43_101, ne64_43, ne64_108, ne64_101, ne108_43, ne108_64, ne108_101, ne101_43, ne101_64, ne101_108], by simp [aShr, sP, sA_sA, sA_eq, sA_ne, upd, *, Nat.not_lt_of_le, ne43_64, ne43_108, ne43_101, ne64_43, ne64_108, ne64_101, ne108_43, ne108_64, ne108_101, ne101_43, ne101_64, ne101_108]⟩)
        · refine g_aload_n X dX0_endsShare_47 rfl rfl ?_
          refine g_get_11_11 X hi0 (by decide +kernel) dX0_endsShare_48 ?_
          refine g_top hk ?_
          refine g_iconstN X 5 dX0_endsShare_51 ?_
          refine g_icmpN_ge (tgt := 63) X dX0_endsShare_52 (by decide) (by omega) (by omega) (fun c_52 => ?_) (fun c_52 => ?_)
          · refine g_iconstN X 0 dX0_endsShare_63 ?_
            exact g_zret X hr hlk rfl dX0_endsShare_64 (by first | exact absurd (c_3.symm.trans c_25) ne43_108 | exact absurd (c_3.symm.trans c_31) ne43_101 | exact absurd (c_25.symm.trans c_96) ne108_101 | exact absurd c_31 c_96 | exact ⟨by simp [aShr, bI, *, Nat.not_lt_of_le, ne43_64, ne43_108, ne43_101, ne64_43, ne64_108, ne64_101, ne108_43, ne108_64, ne108_101, ne101_43, ne101_64, ne101_108], by simp [aShr, sP, sA_sA, sA_eq, sA_ne, upd, *, Nat.not_lt_of_le, ne43_64, ne43_108, ne43_101, ne64_43, ne64_108, ne64_101, ne108_43, ne108_64, ne108_101, ne101_43, ne101_64, ne101_108]⟩)
          · refine g_iload_n X dX0_endsShare_55 rfl rfl ?_
            refine g_if_ne (tgt := 65) X dX0_endsShare_56 (by decide) (fun c_56 => ?_) (fun c_56 => absurd c_56 (by decide))
            refine g_aload_n X dX0_endsShare_65 rfl rfl ?_
            refine g_get_11_3 X hi0 (by decide +kernel) dX0_endsShare_66 ?_
            refine g_aload_n X dX0_endsShare_69 rfl rfl ?_
            refine g_get_11_11 X hi0 (by decide +kernel) dX0_endsShare_70 ?_
            refine g_top hk ?_
            refine g_aload_n X dX0_endsShare_73 rfl rfl ?_
            refine g_callVi (na := 0) X hj (k_X0_takeNumber l γ _) gW_11 rfl gX0_endsShare_X0_takeNumber rfl ⟨rfl, rfl⟩ (by decide +kernel) rfl ⟨by decide, by decide⟩ rfl (Nat.le_of_ble_eq_true rfl) dX0_endsShare_74 ⟨by decide, by decide⟩ ?_
            refine g_ast_15 X rfl (by omega) dX0_endsShare_77 ?_
            refine g_aload_n X dX0_endsShare_78 rfl rfl ?_
            refine g_dup X dX0_endsShare_79 rfl ?_
            refine g_get_11_11 X hi0 (by decide +kernel) dX0_endsShare_80 ?_
            refine g_top (y := nI k) (by simp [sP, sA_eq, sA_ne, upd, hk]) ?_
            refine g_iconstN X 1 dX0_endsShare_83 ?_
            refine g_iaddN X dX0_endsShare_84 ?_
            refine g_put_11_11 X hi0 (by decide +kernel) dX0_endsShare_85 ?_
            refine g_iload_n X dX0_endsShare_88 rfl rfl ?_
            refine g_if_eq (tgt := 113) X dX0_endsShare_89 (by decide) (fun c_89 => absurd c_89 (by decide)) (fun c_89 => ?_)
            refine g_aload_n X dX0_endsShare_92 rfl rfl ?_
            refine g_iload_n X dX0_endsShare_93 rfl rfl ?_
            refine g_bipush (v := nI 101) X dX0_endsShare_94 (by decide) ?_
            refine g_icmp_ne (tgt := 103) X dX0_endsShare_96 (by decide) (fun c_96 => ?_) (fun c_96 => ?_)
            · refine g_iconstN X 0 dX0_endsShare_103 ?_
              refine g_put_11_9 X hi0 (by decide +kernel) dX0_endsShare_104 ?_
              refine g_aload_n X dX0_endsShare_107 rfl rfl ?_
              refine g_bipush (v := nI 8) X dX0_endsShare_108 (by decide) ?_
              refine g_put_11_5 X hi0 (by decide +kernel) dX0_endsShare_110 ?_
              refine g_iconstN X 1 dX0_endsShare_113 ?_
              exact g_zret X hr hlk rfl dX0_endsShare_114 (by first | exact absurd (c_3.symm.trans c_25) ne43_108 | exact absurd (c_3.symm.trans c_31) ne43_101 | exact absurd (c_25.symm.trans c_96) ne108_101 | exact absurd c_31 c_96 | exact ⟨by simp [aShr, bI, *, Nat.not_lt_of_le, ne43_64, ne43_108, ne43_101, ne64_43, ne64_108, ne64_101, ne108_43, ne108_64, ne108_101, ne101_43, ne101_64, ne101_108], by simp [aShr, sP, sA_sA, sA_eq, sA_ne, upd, *, Nat.not_lt_of_le, ne43_64, ne43_108, ne43_101, ne64_43, ne64_108, ne64_101, ne108_43, ne108_64, ne108_101, ne101_43, ne101_64, ne101_108]⟩)
            · refine g_iconstN X 1 dX0_endsShare_99 ?_
              refine g_goto (tgt := 104) X dX0_endsShare_100 (by decide) ?_
              refine g_put_11_9 X hi0 (by decide +kernel) dX0_endsShare_104 ?_
              refine g_aload_n X dX0_endsShare_107 rfl rfl ?_
              refine g_bipush (v := nI 8) X dX0_endsShare_108 (by decide) ?_
              refine g_put_11_5 X hi0 (by decide +kernel) dX0_endsShare_110 ?_
              refine g_iconstN X 1 dX0_endsShare_113 ?_
              exact g_zret X hr hlk rfl dX0_endsShare_114 (by first | exact absurd (c_3.symm.trans c_25) ne43_108 | exact absurd (c_3.symm.trans c_31) ne43_101 | exact absurd (c_25.symm.trans c_96) ne108_101 | exact absurd c_31 c_96 | exact ⟨by simp [aShr, bI, *, Nat.not_lt_of_le, ne43_64, ne43_108, ne43_101, ne64_43, ne64_108, ne64_101, ne108_43, ne108_64, ne108_101, ne101_43, ne101_64, ne101_108], by simp [aShr, sP, sA_sA, sA_eq, sA_ne, upd, *, Nat.not_lt_of_le, ne43_64, ne43_108, ne43_101, ne64_43, ne64_108, ne64_101, ne108_43, ne108_64, ne108_101, ne101_43, ne101_64, ne101_108]⟩)
      · refine g_iload_n X dX0_endsShare_28 rfl rfl ?_
        refine g_bipush (v := nI 101) X dX0_endsShare_29 (by decide) ?_
        refine g_icmp_ne (tgt := 38) X dX0_endsShare_31 (by decide) (fun c_31 => ?_) (fun c_31 => ?_)
        · refine g_iconstN X 0 dX0_endsShare_38 ?_
          refine g_istore_n3 X dX0_endsShare_39 rfl (by decide) rfl ?_
          refine g_aload_n X dX0_endsShare_40 rfl rfl ?_
          refine g_get_11_6 X hi0 (by decide +kernel) dX0_endsShare_41 ?_
          refine g_if_eq (tgt := 63) X dX0_endsShare_44 (by decide) (fun c_44 => ?_) (fun c_44 => ?_)
          · refine g_iconstN X 0 dX0_endsShare_63 ?_
            exact g_zret X hr hlk rfl dX0_endsShare_64 (by first | exact absurd (c_3.symm.trans c_25) ne43_108 | exact absurd (c_3.symm.trans c_31) ne43_101 | exact absurd (c_25.symm.trans c_96) ne108_101 | exact absurd c_31 c_96 | exact ⟨by simp [aShr, bI, *, Nat.not_lt_of_le, ne43_64, ne43_108, ne43_101, ne64_43, ne64_108, ne64_101, ne108_43, ne108_64, ne108_101, ne101_43, ne101_64, ne101_108], by simp [aShr, sP, sA_sA, sA_eq, sA_ne, upd, *, Nat.not_lt_of_le, ne43_64, ne43_108, ne43_101, ne64_43, ne64_108, ne64_101, ne108_43, ne108_64, ne108_101, ne101_43, ne101_64, ne101_108]⟩)
          · refine g_aload_n X dX0_endsShare_47 rfl rfl ?_
            refine g_get_11_11 X hi0 (by decide +kernel) dX0_endsShare_48 ?_
            refine g_top hk ?_
            refine g_iconstN X 5 dX0_endsShare_51 ?_
            refine g_icmpN_ge (tgt := 63) X dX0_endsShare_52 (by decide) (by omega) (by omega) (fun c_52 => ?_) (fun c_52 => ?_)
            · refine g_iconstN X 0 dX0_endsShare_63 ?_
              exact g_zret X hr hlk rfl dX0_endsShare_64 (by first | exact absurd (c_3.symm.trans c_25) ne43_108 | exact absurd (c_3.symm.trans c_31) ne43_101 | exact absurd (c_25.symm.trans c_96) ne108_101 | exact absurd c_31 c_96 | exact ⟨by simp [aShr, bI, *, Nat.not_lt_of_le, ne43_64, ne43_108, ne43_101, ne64_43, ne64_108, ne64_101, ne108_43, ne108_64, ne108_101, ne101_43, ne101_64, ne101_108], by simp [aShr, sP, sA_sA, sA_eq, sA_ne, upd, *, Nat.not_lt_of_le, ne43_64, ne43_108, ne43_101, ne64_43, ne64_108, ne64_101, ne108_43, ne108_64, ne108_101, ne101_43, ne101_64, ne101_108]⟩)
            · refine g_iload_n X dX0_endsShare_55 rfl rfl ?_
              refine g_if_ne (tgt := 65) X dX0_endsShare_56 (by decide) (fun c_56 => ?_) (fun c_56 => absurd c_56 (by decide))
              refine g_aload_n X dX0_endsShare_65 rfl rfl ?_
              refine g_get_11_3 X hi0 (by decide +kernel) dX0_endsShare_66 ?_
              refine g_aload_n X dX0_endsShare_69 rfl rfl ?_
              refine g_get_11_11 X hi0 (by decide +kernel) dX0_endsShare_70 ?_
              refine g_top hk ?_
              refine g_aload_n X dX0_endsShare_73 rfl rfl ?_
              refine g_callVi (na := 0) X hj (k_X0_takeNumber l γ _) gW_11 rfl gX0_endsShare_X0_takeNumber rfl ⟨rfl, rfl⟩ (by decide +kernel) rfl ⟨by decide, by decide⟩ rfl (Nat.le_of_ble_eq_true rfl) dX0_endsShare_74 ⟨by decide, by decide⟩ ?_
              refine g_ast_15 X rfl (by omega) dX0_endsShare_77 ?_
              refine g_aload_n X dX0_endsShare_78 rfl rfl ?_
              refine g_dup X dX0_endsShare_79 rfl ?_
              refine g_get_11_11 X hi0 (by decide +kernel) dX0_endsShare_80 ?_
              refine g_top (y := nI k) (by simp [sP, sA_eq, sA_ne, upd, hk]) ?_
              refine g_iconstN X 1 dX0_endsShare_83 ?_
              refine g_iaddN X dX0_endsShare_84 ?_
              refine g_put_11_11 X hi0 (by decide +kernel) dX0_endsShare_85 ?_
              refine g_iload_n X dX0_endsShare_88 rfl rfl ?_
              refine g_if_eq (tgt := 113) X dX0_endsShare_89 (by decide) (fun c_89 => ?_) (fun c_89 => absurd (by decide) c_89)
              refine g_iconstN X 1 dX0_endsShare_113 ?_
              exact g_zret X hr hlk rfl dX0_endsShare_114 (by first | exact absurd (c_3.symm.trans c_25) ne43_108 | exact absurd (c_3.symm.trans c_31) ne43_101 | exact absurd (c_25.symm.trans c_96) ne108_101 | exact absurd c_31 c_96 | exact ⟨by simp [aShr, bI, *, Nat.not_lt_of_le, ne43_64, ne43_108, ne43_101, ne64_43, ne64_108, ne64_101, ne108_43, ne108_64, ne108_101, ne101_43, ne101_64, ne101_108], by simp [aShr, sP, sA_sA, sA_eq, sA_ne, upd, *, Nat.not_lt_of_le, ne43_64, ne43_108, ne43_101, ne64_43, ne64_108, ne64_101, ne108_43, ne108_64, ne108_101, ne101_43, ne101_64, ne101_108]⟩)
        · refine g_iconstN X 1 dX0_endsShare_34 ?_
          refine g_goto (tgt := 39) X dX0_endsShare_35 (by decide) ?_
          refine g_istore_n3 X dX0_endsShare_39 rfl (by decide) rfl ?_
          refine g_aload_n X dX0_endsShare_40 rfl rfl ?_
          refine g_get_11_6 X hi0 (by decide +kernel) dX0_endsShare_41 ?_
          refine g_if_eq (tgt := 63) X dX0_endsShare_44 (by decide) (fun c_44 => ?_) (fun c_44 => ?_)
          · refine g_iconstN X 0 dX0_endsShare_63 ?_
            exact g_zret X hr hlk rfl dX0_endsShare_64 (by first | exact absurd (c_3.symm.trans c_25) ne43_108 | exact absurd (c_3.symm.trans c_31) ne43_101 | exact absurd (c_25.symm.trans c_96) ne108_101 | exact absurd c_31 c_96 | exact ⟨by simp [aShr, bI, *, Nat.not_lt_of_le, ne43_64, ne43_108, ne43_101, ne64_43, ne64_108, ne64_101, ne108_43, ne108_64, ne108_101, ne101_43, ne101_64, ne101_108], by simp [aShr, sP, sA_sA, sA_eq, sA_ne, upd, *, Nat.not_lt_of_le, ne43_64, ne43_108, ne43_101, ne64_43, ne64_108, ne64_101, ne108_43, ne108_64, ne108_101, ne101_43, ne101_64, ne101_108]⟩)
          · refine g_aload_n X dX0_endsShare_47 rfl rfl ?_
            refine g_get_11_11 X hi0 (by decide +kernel) dX0_endsShare_48 ?_
            refine g_top hk ?_
            refine g_iconstN X 5 dX0_endsShare_51 ?_
            refine g_icmpN_ge (tgt := 63) X dX0_endsShare_52 (by decide) (by omega) (by omega) (fun c_52 => ?_) (fun c_52 => ?_)
            · refine g_iconstN X 0 dX0_endsShare_63 ?_
              exact g_zret X hr hlk rfl dX0_endsShare_64 (by first | exact absurd (c_3.symm.trans c_25) ne43_108 | exact absurd (c_3.symm.trans c_31) ne43_101 | exact absurd (c_25.symm.trans c_96) ne108_101 | exact absurd c_31 c_96 | exact ⟨by simp [aShr, bI, *, Nat.not_lt_of_le, ne43_64, ne43_108, ne43_101, ne64_43, ne64_108, ne64_101, ne108_43, ne108_64, ne108_101, ne101_43, ne101_64, ne101_108], by simp [aShr, sP, sA_sA, sA_eq, sA_ne, upd, *, Nat.not_lt_of_le, ne43_64, ne43_108, ne43_101, ne64_43, ne64_108, ne64_101, ne108_43, ne108_64, ne108_101, ne101_43, ne101_64, ne101_108]⟩)
            · refine g_iload_n X dX0_endsShare_55 rfl rfl ?_
              refine g_if_ne (tgt := 65) X dX0_endsShare_56 (by decide) (fun c_56 => ?_) (fun c_56 => absurd c_56 (by decide))
              refine g_aload_n X dX0_endsShare_65 rfl rfl ?_
              refine g_get_11_3 X hi0 (by decide +kernel) dX0_endsShare_66 ?_
              refine g_aload_n X dX0_endsShare_69 rfl rfl ?_
              refine g_get_11_11 X hi0 (by decide +kernel) dX0_endsShare_70 ?_
              refine g_top hk ?_
              refine g_aload_n X dX0_endsShare_73 rfl rfl ?_
              refine g_callVi (na := 0) X hj (k_X0_takeNumber l γ _) gW_11 rfl gX0_endsShare_X0_takeNumber rfl ⟨rfl, rfl⟩ (by decide +kernel) rfl ⟨by decide, by decide⟩ rfl (Nat.le_of_ble_eq_true rfl) dX0_endsShare_74 ⟨by decide, by decide⟩ ?_
              refine g_ast_15 X rfl (by omega) dX0_endsShare_77 ?_
              refine g_aload_n X dX0_endsShare_78 rfl rfl ?_
              refine g_dup X dX0_endsShare_79 rfl ?_
              refine g_get_11_11 X hi0 (by decide +kernel) dX0_endsShare_80 ?_
              refine g_top (y := nI k) (by simp [sP, sA_eq, sA_ne, upd, hk]) ?_
              refine g_iconstN X 1 dX0_endsShare_83 ?_
              refine g_iaddN X dX0_endsShare_84 ?_
              refine g_put_11_11 X hi0 (by decide +kernel) dX0_endsShare_85 ?_
              refine g_iload_n X dX0_endsShare_88 rfl rfl ?_
              refine g_if_eq (tgt := 113) X dX0_endsShare_89 (by decide) (fun c_89 => absurd c_89 (by decide)) (fun c_89 => ?_)
              refine g_aload_n X dX0_endsShare_92 rfl rfl ?_
              refine g_iload_n X dX0_endsShare_93 rfl rfl ?_
              refine g_bipush (v := nI 101) X dX0_endsShare_94 (by decide) ?_
              refine g_icmp_ne (tgt := 103) X dX0_endsShare_96 (by decide) (fun c_96 => ?_) (fun c_96 => ?_)
              · refine g_iconstN X 0 dX0_endsShare_103 ?_
                refine g_put_11_9 X hi0 (by decide +kernel) dX0_endsShare_104 ?_
                refine g_aload_n X dX0_endsShare_107 rfl rfl ?_
                refine g_bipush (v := nI 8) X dX0_endsShare_108 (by decide) ?_
                refine g_put_11_5 X hi0 (by decide +kernel) dX0_endsShare_110 ?_
                refine g_iconstN X 1 dX0_endsShare_113 ?_
                exact g_zret X hr hlk rfl dX0_endsShare_114 (by first | exact absurd (c_3.symm.trans c_25) ne43_108 | exact absurd (c_3.symm.trans c_31) ne43_101 | exact absurd (c_25.symm.trans c_96) ne108_101 | exact absurd c_31 c_96 | exact ⟨by simp [aShr, bI, *, Nat.not_lt_of_le, ne43_64, ne43_108, ne43_101, ne64_43, ne64_108, ne64_101, ne108_43, ne108_64, ne108_101, ne101_43, ne101_64, ne101_108], by simp [aShr, sP, sA_sA, sA_eq, sA_ne, upd, *, Nat.not_lt_of_le, ne43_64, ne43_108, ne43_101, ne64_43, ne64_108, ne64_101, ne108_43, ne108_64, ne108_101, ne101_43, ne101_64, ne101_108]⟩)
              · refine g_iconstN X 1 dX0_endsShare_99 ?_
                refine g_goto (tgt := 104) X dX0_endsShare_100 (by decide) ?_
                refine g_put_11_9 X hi0 (by decide +kernel) dX0_endsShare_104 ?_
                refine g_aload_n X dX0_endsShare_107 rfl rfl ?_
                refine g_bipush (v := nI 8) X dX0_endsShare_108 (by decide) ?_
                refine g_put_11_5 X hi0 (by decide +kernel) dX0_endsShare_110 ?_
                refine g_iconstN X 1 dX0_endsShare_113 ?_
                exact g_zret X hr hlk rfl dX0_endsShare_114 (by first | exact absurd (c_3.symm.trans c_25) ne43_108 | exact absurd (c_3.symm.trans c_31) ne43_101 | exact absurd (c_25.symm.trans c_96) ne108_101 | exact absurd c_31 c_96 | exact ⟨by simp [aShr, bI, *, Nat.not_lt_of_le, ne43_64, ne43_108, ne43_101, ne64_43, ne64_108, ne64_101, ne108_43, ne108_64, ne108_101, ne101_43, ne101_64, ne101_108], by simp [aShr, sP, sA_sA, sA_eq, sA_ne, upd, *, Nat.not_lt_of_le, ne43_64, ne43_108, ne43_101, ne64_43, ne64_108, ne64_101, ne108_43, ne108_64, ne108_101, ne101_43, ne101_64, ne101_108]⟩)
set_option maxRecDepth 20000 in
theorem k_X0_accepts (l : Launch) (γ : gG) (σ : gS) (ch : Int32) (w k q : Nat) (hp : σ.1 11 5 = nI w) (hp8 : w ≤ 8) (hk : σ.1 11 10 = nI k) (hk4 : k ≤ 4) (hq : σ.1 11 11 = nI q) (hq5 : q ≤ 5) : gM l γ yX0_accepts wsX0_accepts ({ frames := 2, cells := 0, slots := 0, locals := 44 } : Room) [.ref (ad γ 11), .int ch] σ (gis (some (.int (bI (accS σ ch w k q).1))) (accS σ ch w k q).2) 0 0 := by
  refine g_enter (own := RX0) (cc := cX0_accepts) (nL := 2) (ret := (some .boolean)) [some (.ref (ad γ 11)), some (.int ch)] (by decide) rfl rfl (by simp [lg_sl, Value.category]) (by simp [gl_le, glE, Value.category]) (fun hj p e s m args below meth c X hr hlk hnm => ?_)
  have hi0 : ∀ w ∈ wsX00, w ∈ wsX0_accepts := by decide +kernel
  refine g_aload_n X dX0_accepts_0 rfl rfl ?_
  refine g_get_11_5 X hi0 (by decide +kernel) dX0_accepts_1 ?_
  refine g_top hp ?_
  rcases (show w = 0 ∨ w = 1 ∨ w = 2 ∨ w = 3 ∨ w = 4 ∨ w = 5 ∨ w = 6 ∨ w = 7 ∨ w = 8 by omega) with rfl | rfl | rfl | rfl | rfl | rfl | rfl | rfl | rfl
  · refine g_tableIn (tgt := 52) X dX0_accepts_4 (by decide) (by decide) rfl (by decide) ?_
    refine g_aload_n X dX0_accepts_52 rfl rfl ?_
    refine g_iload_n X dX0_accepts_53 rfl rfl ?_
    refine g_bipush (v := nI 112) X dX0_accepts_54 (by decide) ?_
    refine g_iconstN X 1 dX0_accepts_56 ?_
    refine g_callVi (na := 3) X hj (k_X0_acceptsSign l γ _ _ _ _) gW_11 rfl gX0_accepts_X0_acceptsSign rfl ⟨rfl, rfl⟩ (by decide +kernel) rfl ⟨by decide, by decide⟩ rfl (Nat.le_of_ble_eq_true rfl) dX0_accepts_57 ⟨by decide, by decide⟩ ?_
    exact g_zret X hr hlk (bI_n _) dX0_accepts_60 ⟨rfl, rfl⟩
  · refine g_tableIn (tgt := 61) X dX0_accepts_4 (by decide) (by decide) rfl (by decide) ?_
    refine g_aload_n X dX0_accepts_61 rfl rfl ?_
    refine g_iload_n X dX0_accepts_62 rfl rfl ?_
    refine g_callVi (na := 1) X hj (k_X0_acceptsPrincipal l γ _ _) gW_11 rfl gX0_accepts_X0_acceptsPrincipal rfl ⟨rfl, rfl⟩ (by decide +kernel) rfl ⟨by decide, by decide⟩ rfl (Nat.le_of_ble_eq_true rfl) dX0_accepts_63 ⟨by decide, by decide⟩ ?_
    exact g_zret X hr hlk (bI_n _) dX0_accepts_66 ⟨rfl, rfl⟩
  · refine g_tableIn (tgt := 67) X dX0_accepts_4 (by decide) (by decide) rfl (by decide) ?_
    refine g_aload_n X dX0_accepts_67 rfl rfl ?_
    refine g_iload_n X dX0_accepts_68 rfl rfl ?_
    refine g_bipush (v := nI 115) X dX0_accepts_69 (by decide) ?_
    refine g_iconstN X 3 dX0_accepts_71 ?_
    refine g_callVi (na := 3) X hj (k_X0_acceptsSign l γ _ _ _ _) gW_11 rfl gX0_accepts_X0_acceptsSign rfl ⟨rfl, rfl⟩ (by decide +kernel) rfl ⟨by decide, by decide⟩ rfl (Nat.le_of_ble_eq_true rfl) dX0_accepts_72 ⟨by decide, by decide⟩ ?_
    exact g_zret X hr hlk (bI_n _) dX0_accepts_75 ⟨rfl, rfl⟩
  · refine g_tableIn (tgt := 76) X dX0_accepts_4 (by decide) (by decide) rfl (by decide) ?_
    refine g_aload_n X dX0_accepts_76 rfl rfl ?_
    refine g_iload_n X dX0_accepts_77 rfl rfl ?_
    refine g_ldc (v := nI 99999) X (show Cond.constant RX0 63 99999 ∈ _ by decide +kernel) dX0_accepts_78 ?_
    refine g_callVi (na := 2) X hj (k_X0_extendsNumber l γ _ _ _) gW_11 rfl gX0_accepts_X0_extendsNumber rfl ⟨rfl, rfl⟩ (by decide +kernel) rfl ⟨by decide, by decide⟩ rfl (Nat.le_of_ble_eq_true rfl) dX0_accepts_80 ⟨by decide, by decide⟩ ?_
    refine g_if_ne (tgt := 94) X dX0_accepts_83 (by decide) (fun c_83 => ?_) (fun c_83 => ?_)
    · replace c_83 := bI_t c_83
      refine g_iconstN X 1 dX0_accepts_94 ?_
      refine g_goto (tgt := 99) X dX0_accepts_95 (by decide) ?_
      exact g_zret X hr hlk rfl dX0_accepts_99 ⟨by simp [accS, orB, bI, *], by simp [accS, orB, *]⟩
    · replace c_83 := bI_f c_83
      rw [aExt_f c_83]
      refine g_aload_n X dX0_accepts_86 rfl rfl ?_
      refine g_iload_n X dX0_accepts_87 rfl rfl ?_
      refine g_callVi (na := 1) X hj (k_X0_endsSum l γ _ _) gW_11 rfl gX0_accepts_X0_endsSum rfl ⟨rfl, rfl⟩ (by decide +kernel) rfl ⟨by decide, by decide⟩ rfl (Nat.le_of_ble_eq_true rfl) dX0_accepts_88 ⟨by decide, by decide⟩ ?_
      refine g_if_eq (tgt := 98) X dX0_accepts_91 (by decide) (fun c_91 => ?_) (fun c_91 => ?_)
      · replace c_91 := bI_f c_91
        refine g_iconstN X 0 dX0_accepts_98 ?_
        exact g_zret X hr hlk rfl dX0_accepts_99 ⟨by simp [accS, orB, bI, *], by simp [accS, orB, *]⟩
      · replace c_91 := bI_t c_91
        refine g_iconstN X 1 dX0_accepts_94 ?_
        refine g_goto (tgt := 99) X dX0_accepts_95 (by decide) ?_
        exact g_zret X hr hlk rfl dX0_accepts_99 ⟨by simp [accS, orB, bI, *], by simp [accS, orB, *]⟩
  · refine g_tableIn (tgt := 100) X dX0_accepts_4 (by decide) (by decide) rfl (by decide) ?_
    refine g_aload_n X dX0_accepts_100 rfl rfl ?_
    refine g_iload_n X dX0_accepts_101 rfl rfl ?_
    refine g_callVi (na := 1) X hj (k_X0_acceptsSurety l γ _ _ k hk hk4) gW_11 rfl gX0_accepts_X0_acceptsSurety rfl ⟨rfl, rfl⟩ (by decide +kernel) rfl ⟨by decide, by decide⟩ rfl (Nat.le_of_ble_eq_true rfl) dX0_accepts_102 ⟨by decide, by decide⟩ ?_
    exact g_zret X hr hlk (bI_n _) dX0_accepts_105 ⟨rfl, rfl⟩
  · refine g_tableIn (tgt := 106) X dX0_accepts_4 (by decide) (by decide) rfl (by decide) ?_
    refine g_aload_n X dX0_accepts_106 rfl rfl ?_
    refine g_iload_n X dX0_accepts_107 rfl rfl ?_
    refine g_bipush (v := nI 42) X dX0_accepts_108 (by decide) ?_
    refine g_bipush (v := nI 6) X dX0_accepts_110 (by decide) ?_
    refine g_callVi (na := 3) X hj (k_X0_acceptsSign l γ _ _ _ _) gW_11 rfl gX0_accepts_X0_acceptsSign rfl ⟨rfl, rfl⟩ (by decide +kernel) rfl ⟨by decide, by decide⟩ rfl (Nat.le_of_ble_eq_true rfl) dX0_accepts_112 ⟨by decide, by decide⟩ ?_
    exact g_zret X hr hlk (bI_n _) dX0_accepts_115 ⟨rfl, rfl⟩
  · refine g_tableIn (tgt := 116) X dX0_accepts_4 (by decide) (by decide) rfl (by decide) ?_
    refine g_aload_n X dX0_accepts_116 rfl rfl ?_
    refine g_iload_n X dX0_accepts_117 rfl rfl ?_
    refine g_ldc (v := nI 99999) X (show Cond.constant RX0 63 99999 ∈ _ by decide +kernel) dX0_accepts_118 ?_
    refine g_callVi (na := 2) X hj (k_X0_extendsNumber l γ _ _ _) gW_11 rfl gX0_accepts_X0_extendsNumber rfl ⟨rfl, rfl⟩ (by decide +kernel) rfl ⟨by decide, by decide⟩ rfl (Nat.le_of_ble_eq_true rfl) dX0_accepts_120 ⟨by decide, by decide⟩ ?_
    refine g_if_ne (tgt := 134) X dX0_accepts_123 (by decide) (fun c_123 => ?_) (fun c_123 => ?_)
    · replace c_123 := bI_t c_123
      refine g_iconstN X 1 dX0_accepts_134 ?_
      refine g_goto (tgt := 139) X dX0_accepts_135 (by decide) ?_
      exact g_zret X hr hlk rfl dX0_accepts_139 ⟨by simp [accS, orB, bI, *], by simp [accS, orB, *]⟩
    · replace c_123 := bI_f c_123
      rw [aExt_f c_123]
      refine g_aload_n X dX0_accepts_126 rfl rfl ?_
      refine g_iload_n X dX0_accepts_127 rfl rfl ?_
      refine g_callVi (na := 1) X hj (k_X0_endsLimit l γ _ _ k hk hk4) gW_11 rfl gX0_accepts_X0_endsLimit rfl ⟨rfl, rfl⟩ (by decide +kernel) rfl ⟨by decide, by decide⟩ rfl (Nat.le_of_ble_eq_true rfl) dX0_accepts_128 ⟨by decide, by decide⟩ ?_
      refine g_if_eq (tgt := 138) X dX0_accepts_131 (by decide) (fun c_131 => ?_) (fun c_131 => ?_)
      · replace c_131 := bI_f c_131
        refine g_iconstN X 0 dX0_accepts_138 ?_
        exact g_zret X hr hlk rfl dX0_accepts_139 ⟨by simp [accS, orB, bI, *], by simp [accS, orB, *]⟩
      · replace c_131 := bI_t c_131
        refine g_iconstN X 1 dX0_accepts_134 ?_
        refine g_goto (tgt := 139) X dX0_accepts_135 (by decide) ?_
        exact g_zret X hr hlk rfl dX0_accepts_139 ⟨by simp [accS, orB, bI, *], by simp [accS, orB, *]⟩
  · refine g_tableIn (tgt := 140) X dX0_accepts_4 (by decide) (by decide) rfl (by decide) ?_
    refine g_aload_n X dX0_accepts_140 rfl rfl ?_
    refine g_iload_n X dX0_accepts_141 rfl rfl ?_
    refine g_sipush (v := nI 1000) X dX0_accepts_142 (by decide) ?_
    refine g_callVi (na := 2) X hj (k_X0_extendsNumber l γ _ _ _) gW_11 rfl gX0_accepts_X0_extendsNumber rfl ⟨rfl, rfl⟩ (by decide +kernel) rfl ⟨by decide, by decide⟩ rfl (Nat.le_of_ble_eq_true rfl) dX0_accepts_145 ⟨by decide, by decide⟩ ?_
    refine g_if_ne (tgt := 159) X dX0_accepts_148 (by decide) (fun c_148 => ?_) (fun c_148 => ?_)
    · replace c_148 := bI_t c_148
      refine g_iconstN X 1 dX0_accepts_159 ?_
      refine g_goto (tgt := 164) X dX0_accepts_160 (by decide) ?_
      exact g_zret X hr hlk rfl dX0_accepts_164 ⟨by simp [accS, orB, bI, *], by simp [accS, orB, *]⟩
    · replace c_148 := bI_f c_148
      rw [aExt_f c_148]
      refine g_aload_n X dX0_accepts_151 rfl rfl ?_
      refine g_iload_n X dX0_accepts_152 rfl rfl ?_
      refine g_callVi (na := 1) X hj (k_X0_endsShare l γ _ _ q hq hq5) gW_11 rfl gX0_accepts_X0_endsShare rfl ⟨rfl, rfl⟩ (by decide +kernel) rfl ⟨by decide, by decide⟩ rfl (Nat.le_of_ble_eq_true rfl) dX0_accepts_153 ⟨by decide, by decide⟩ ?_
      refine g_if_eq (tgt := 163) X dX0_accepts_156 (by decide) (fun c_156 => ?_) (fun c_156 => ?_)
      · replace c_156 := bI_f c_156
        refine g_iconstN X 0 dX0_accepts_163 ?_
        exact g_zret X hr hlk rfl dX0_accepts_164 ⟨by simp [accS, orB, bI, *], by simp [accS, orB, *]⟩
      · replace c_156 := bI_t c_156
        refine g_iconstN X 1 dX0_accepts_159 ?_
        refine g_goto (tgt := 164) X dX0_accepts_160 (by decide) ?_
        exact g_zret X hr hlk rfl dX0_accepts_164 ⟨by simp [accS, orB, bI, *], by simp [accS, orB, *]⟩
  · refine g_tableOut (tgt := 165) X dX0_accepts_4 (by decide) (by decide) ?_
    refine g_iconstN X 0 dX0_accepts_165 ?_
    exact g_zret X hr hlk rfl dX0_accepts_166 ⟨rfl, rfl⟩
