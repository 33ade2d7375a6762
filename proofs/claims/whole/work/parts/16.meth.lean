/-! THE REFERENCE'S OWN METHODS: what is thrown, what is saved -/
theorem inP {q k : Nat} (h : q ≤ k) (hk : k < 2 ^ 31) : inB (nI q) (nI 0) (nI k) = true := by
  unfold inB
  rw [decide_eq_true (nI_le (Nat.zero_le _) (by omega)), decide_eq_true (nI_le h hk)]; rfl
theorem bI_1 {b : Bool} (h : b = true) : ¬ bI b = 0 := by subst h; decide
theorem bI_0 {b : Bool} (h : b = false) : bI b = 0 := by subst h; rfl
def okM (σ : gS) : gS := sM σ 6 (nI 0)
theorem upd_upd (f : Nat → Int32) (k : Nat) (x y : Int32) : upd (upd f k x) k y = upd f k y := by
  funext j
  unfold upd
  by_cases h : j = k <;> simp [h]
theorem sM_ok (σ : gS) (x : Int32) : sM (okM σ) 6 x = sM σ 6 x := by
  unfold okM sM
  rw [sA_sA, sA_eq, upd_upd]
theorem okM_24 (σ : gS) : (okM σ).1 24 = σ.1 24 := rfl
/-- the rows of the saved states, behind one more -/
def rwM (r z : Nat → Int32) (n : Nat) : Nat → Int32 :=
  if n = 6 then fun k => if 2155 ≤ k ∧ k < 2586 then z (k - 2155) else if k < 2155 then r (k + 431) else r k
  else fun k => if 431 * n ≤ k ∧ k < 431 * n + 431 then z (k - 431 * n) else r k
def shR (r : Nat → Int32) (i : Nat) : Nat → Int32 := fun k => if k < i then r (k + 431) else r k
def cpR (r z : Nat → Int32) (off i : Nat) : Nat → Int32 := fun k => if off ≤ k ∧ k < off + i then z (k - off) else r k
theorem shR_0 (r : Nat → Int32) : shR r 0 = r := by
  funext k
  unfold shR
  rw [if_neg (by omega)]
theorem shR_s (r : Nat → Int32) (i : Nat) : upd (shR r i) i (shR r i (i + 431)) = shR r (i + 1) := by
  funext k
  unfold upd shR
  by_cases h : k = i
  · subst h
    rw [if_pos rfl, if_neg (by omega), if_pos (by omega)]
  · rw [if_neg h]
    by_cases h2 : k < i
    · rw [if_pos h2, if_pos (by omega)]
    · rw [if_neg h2, if_neg (by omega)]
theorem cpR_0 (r z : Nat → Int32) (off : Nat) : cpR r z off 0 = r := by
  funext k
  unfold cpR
  rw [if_neg (by omega)]
theorem cpR_s (r z : Nat → Int32) (off i : Nat) : upd (cpR r z off i) (off + i) (z i) = cpR r z off (i + 1) := by
  funext k
  unfold upd cpR
  by_cases h : k = off + i
  · subst h
    rw [if_pos rfl, if_pos (by omega), show off + i - off = i by omega]
  · rw [if_neg h]
    by_cases h2 : off ≤ k ∧ k < off + i
    · rw [if_pos h2, if_pos (by omega)]
    · rw [if_neg h2, if_neg (by omega)]
theorem rwM_ne {r z : Nat → Int32} {n : Nat} (h : ¬ n = 6) : cpR r z (431 * n) 431 = rwM r z n := by
  unfold rwM
  rw [if_neg h]
  rfl
theorem rwM_6 (r z : Nat → Int32) : cpR (shR r 2155) z (431 * 5) 431 = rwM r z 6 := by
  unfold rwM
  rw [if_pos rfl]
  funext k
  unfold cpR shR
  dsimp only
/-- the world, with rows and record side by side -/
def svW (σ : gS) (r f : Nat → Int32) : gS := (fun o => if o = 25 then r else if o = 23 then f else σ.1 o, σ.2)
section SVW
variable (σ : gS) (r f g : Nat → Int32)
theorem svW_25 : (svW σ r f).1 25 = r := rfl
theorem svW_23 : (svW σ r f).1 23 = f := rfl
theorem svW_24 : (svW σ r f).1 24 = σ.1 24 := rfl
theorem svW_s25 : sA (svW σ r f) 25 g = svW σ g f := by
  unfold svW sA
  refine Prod.ext (funext fun o => ?_) rfl
  dsimp only
  by_cases h : o = 25
  · rw [if_pos h, if_pos h]
  · rw [if_neg h, if_neg h, if_neg h]
theorem svW_s23 : sA (svW σ r f) 23 g = svW σ r g := by
  unfold svW sA
  refine Prod.ext (funext fun o => ?_) rfl
  dsimp only
  by_cases h : o = 23
  · subst h; rfl
  · rw [if_neg h, if_neg h, if_neg h]
theorem svW_id : svW σ (σ.1 25) (σ.1 23) = σ := by
  unfold svW
  refine Prod.ext (funext fun o => ?_) rfl
  dsimp only
  split
  · rename_i h; subst h; rfl
  · split
    · rename_i h; subst h; rfl
    · rfl
end SVW
/-- behind a call that is undone by one undo: the row z, n states saved before -/
def unM (σ : gS) (n : Nat) (z : Nat → Int32) : gS := (fun o => if o = 24 then z else if o = 25 then rwM (σ.1 25) (σ.1 24) n else if o = 23 then upd (upd (σ.1 23) 6 (nI 0)) 3 (nI (min 6 (n + 1))) else σ.1 o, σ.2)
section UNM
variable (σ : gS) (n : Nat) (z g : Nat → Int32)
theorem unM_24 : (unM σ n z).1 24 = z := rfl
theorem unM_s24 : sA (unM σ n z) 24 g = unM σ n g := by
  unfold unM sA
  refine Prod.ext (funext fun o => ?_) rfl
  dsimp only
  by_cases h : o = 24
  · rw [if_pos h, if_pos h]
  · rw [if_neg h, if_neg h, if_neg h]
theorem unM_0 : svW (okM σ) (rwM ((okM σ).1 25) ((okM σ).1 24) n) (upd ((okM σ).1 23) 3 (nI (min 6 (n + 1)))) = unM σ n (σ.1 24) := by
  unfold svW unM
  refine Prod.ext (funext fun o => ?_) rfl
  dsimp only
  by_cases h24 : o = 24
  · subst h24
    rfl
  · rw [if_neg h24]
    by_cases h25 : o = 25
    · rw [if_pos h25, if_pos h25]
      rfl
    · rw [if_neg h25, if_neg h25]
      by_cases h23 : o = 23
      · rw [if_pos h23, if_pos h23]
        unfold okM sM
        rw [sA_eq]
      · rw [if_neg h23, if_neg h23]
        unfold okM sM
        exact sA_ne _ _ h23
end UNM
theorem okM_f {σ : gS} {k : Nat} {x : Int32} (h : σ.1 23 k = x) (hk : k ≠ 6) : (okM σ).1 23 k = x := by
  unfold okM sM
  rw [sA_eq, pk_un hk]
  exact h
def rlZ (z : Nat → Int32) (b L : Nat) (x : Int32) : Nat → Int32 := trZ (ad1 (ad1 z (121 + 31 * b + 8) x) 5 x) b L
def reM (z : Nat → Int32) (b k : Nat) : Int32 := ((z (121 + 31 * b + 1)).toInt64 * (z (121 + 31 * b + 10 + k)).toInt64 / 1000).toInt32
def gtZ (z : Nat → Int32) (q : Nat) (g x : Int32) : Nat → Int32 := upd (upd z (17 + q) g) (25 + q) x
def unR (z r : Nat → Int32) (n i : Nat) : Nat → Int32 := fun k => if k < i then r (431 * n + k) else z k
theorem unR_0 (z r : Nat → Int32) (n : Nat) : unR z r n 0 = z := by
  funext k
  unfold unR
  rw [if_neg (by omega)]
theorem unR_s (z r : Nat → Int32) (n i : Nat) : upd (unR z r n i) i (r (431 * n + i)) = unR z r n (i + 1) := by
  funext k
  unfold upd unR
  by_cases h : k = i
  · subst h
    rw [if_pos rfl, if_pos (by omega)]
  · rw [if_neg h]
    by_cases h2 : k < i
    · rw [if_pos h2, if_pos (by omega)]
    · rw [if_neg h2, if_neg (by omega)]
theorem inB_m {x a b : Int32} (h : inB x a b = false) (ha : ¬ x < a) : b < x := by
  unfold inB at h
  rw [decide_eq_true (Int32.not_lt.mp ha), Bool.true_and] at h
  exact Int32.not_le.mp (of_decide_eq_false h)

set_option maxRecDepth 20000 in
theorem k_X5_save (l : Launch) (γ : gG) (σ : gS) (n : Nat) (hn : σ.1 23 3 = nI n) (hn6 : n ≤ 6) : gM l γ yX5_save wsX5_save ({ frames := 0, cells := 0, slots := 0, locals := 0 } : Room) [.ref (ad γ 23)] σ (gis none (svW σ (rwM (σ.1 25) (σ.1 24) n) (upd (σ.1 23) 3 (nI (min 6 (n + 1)))))) 0 0 := by
  refine g_enter (own := RX5) (cc := cX5_save) (nL := 2) (ret := none) [some (.ref (ad γ 23)), none] (by decide) rfl rfl (by simp [lg_sl, Value.category]) (by simp [gl_le, glE, Value.category]) (fun hj p e s m args below meth c X hr hlk hnm => ?_)
  have hi5 : ∀ w ∈ wsX50, w ∈ wsX5_save := by decide +kernel
  refine g_eq rfl (σ' := svW σ (σ.1 25) (σ.1 23)) (svW_id σ).symm ?_
  refine g_aload_n X dX5_save_0 rfl rfl ?_
  refine g_get_23_3 X hi5 (by decide +kernel) dX5_save_1 ?_
  refine g_top (y := nI n) (by first | exact hn | (rw [svW_23]; exact hn)) ?_
  refine g_bipush (v := nI 6) X dX5_save_4 (by decide) ?_
  by_cases h6 : n = 6
  · subst h6
    obtain ⟨m, hm⟩ : ∃ m, m = 5 := ⟨5, rfl⟩
    refine g_icmpN_ne (tgt := 50) X dX5_save_6 (by decide) (by omega) (by omega) (fun c_6 => absurd rfl c_6) (fun c_6 => ?_)
    refine g_iconstN X 0 dX5_save_9 ?_
    refine g_istore_n1 X dX5_save_10 rfl (by decide) rfl ?_
    refine g_up (i0 := 0) (N := 2155) (fun i => [some (.ref (ad γ 23)), some (.int (nI i))]) (fun i => svW σ (shR (σ.1 25) i) (σ.1 23)) (by simp [gl_le]) (by rw [shR_0]) (by omega) (fun i hi ih11 => ?_)
    refine g_iload_n X dX5_save_11 rfl rfl ?_
    refine g_sipush (v := nI 2155) X dX5_save_12 (by decide) ?_
    refine g_icmpN_ge (tgt := 40) X dX5_save_15 (by decide) (by omega) (by omega) (fun c_15 => ?_) (fun c_15 => ?_)
    · have e : i = 2155 := by omega
      subst e
      refine g_aload_n X dX5_save_40 rfl rfl ?_
      refine g_dup X dX5_save_41 rfl ?_
      refine g_get_23_3 X hi5 (by decide +kernel) dX5_save_42 ?_
      refine g_top (y := nI 6) (by rw [svW_23]; exact hn) ?_
      refine g_iconstN X 1 dX5_save_45 ?_
      refine g_isubN X dX5_save_46 (by omega) ?_
      refine g_put_23_3 X hi5 (by decide +kernel) dX5_save_47 ?_
      simp only [svW_s23, svW_23]
      refine g_eq rfl (σ' := svW σ (shR (σ.1 25) 2155) (upd (σ.1 23) 3 (nI 5))) rfl ?_
      refine g_iconstN X 0 dX5_save_50 ?_
      refine g_istore_n1 X dX5_save_51 rfl (by decide) rfl ?_
      refine g_up (i0 := 0) (N := 431) (fun i => [some (.ref (ad γ 23)), some (.int (nI i))]) (fun i => svW σ (cpR (shR (σ.1 25) 2155) (σ.1 24) (431 * m) i) (upd (σ.1 23) 3 (nI 5))) (by simp [gl_le]) (by rw [cpR_0]) (by omega) (fun i hi ih52 => ?_)
      refine g_iload_n X dX5_save_52 rfl rfl ?_
      refine g_sipush (v := nI 431) X dX5_save_53 (by decide) ?_
      refine g_icmpN_ge (tgt := 86) X dX5_save_56 (by decide) (by omega) (by omega) (fun c_56 => ?_) (fun c_56 => ?_)
      · have e : i = 431 := by omega
        subst e
        refine g_aload_n X dX5_save_86 rfl rfl ?_
        refine g_dup X dX5_save_87 rfl ?_
        refine g_get_23_3 X hi5 (by decide +kernel) dX5_save_88 ?_
        refine g_top (y := nI m) (by subst hm; rw [svW_23, pk_us]) ?_
        refine g_iconstN X 1 dX5_save_91 ?_
        refine g_iaddN X dX5_save_92 ?_
        refine g_put_23_3 X hi5 (by decide +kernel) dX5_save_93 ?_
        exact g_vret X hr hlk dX5_save_96 ⟨rfl, by subst hm; simp only [svW_s23, svW_23, upd_upd, rwM_6]; rfl⟩
      · refine g_aload_n X dX5_save_59 rfl rfl ?_
        refine g_get_23_1 X hi5 (by decide +kernel) dX5_save_60 ?_
        refine g_sipush (v := nI 431) X dX5_save_63 (by decide) ?_
        refine g_aload_n X dX5_save_66 rfl rfl ?_
        refine g_get_23_3 X hi5 (by decide +kernel) dX5_save_67 ?_
        refine g_top (y := nI m) (by subst hm; rw [svW_23, pk_us]) ?_
        refine g_imulN X dX5_save_70 ?_
        refine g_iload_n X dX5_save_71 rfl rfl ?_
        refine g_iaddN X dX5_save_72 ?_
        refine g_aload_n X dX5_save_73 rfl rfl ?_
        refine g_get_23_0 X hi5 (by decide +kernel) dX5_save_74 ?_
        refine g_iload_n X dX5_save_77 rfl rfl ?_
        refine g_ald_24 X rfl (by omega) dX5_save_78 ?_
        refine g_ast_25 X rfl (by omega) dX5_save_79 ?_
        refine g_iincN1 (d := 1) X dX5_save_80 (by decide) rfl ?_
        refine g_goto (tgt := 52) X dX5_save_83 (by decide) ?_
        simp only [svW_s25, svW_25, svW_24, cpR_s]
        exact g_le (by simp [gl_le]) (ih52 (by omega))
    · refine g_aload_n X dX5_save_18 rfl rfl ?_
      refine g_get_23_1 X hi5 (by decide +kernel) dX5_save_19 ?_
      refine g_iload_n X dX5_save_22 rfl rfl ?_
      refine g_aload_n X dX5_save_23 rfl rfl ?_
      refine g_get_23_1 X hi5 (by decide +kernel) dX5_save_24 ?_
      refine g_iload_n X dX5_save_27 rfl rfl ?_
      refine g_sipush (v := nI 431) X dX5_save_28 (by decide) ?_
      refine g_iaddN X dX5_save_31 ?_
      refine g_ald_25 X rfl (by omega) dX5_save_32 ?_
      refine g_ast_25 X rfl (by omega) dX5_save_33 ?_
      refine g_iincN1 (d := 1) X dX5_save_34 (by decide) rfl ?_
      refine g_goto (tgt := 11) X dX5_save_37 (by decide) ?_
      simp only [svW_s25, svW_25, shR_s]
      exact g_le (by simp [gl_le]) (ih11 (by omega))
  · obtain ⟨m, hm⟩ : ∃ m, m = n := ⟨n, rfl⟩
    refine g_icmpN_ne (tgt := 50) X dX5_save_6 (by decide) (by omega) (by omega) (fun c_6 => ?_) (fun c_6 => absurd c_6 h6)
    refine g_iconstN X 0 dX5_save_50 ?_
    refine g_istore_n1 X dX5_save_51 rfl (by decide) rfl ?_
    refine g_up (i0 := 0) (N := 431) (fun i => [some (.ref (ad γ 23)), some (.int (nI i))]) (fun i => svW σ (cpR (σ.1 25) (σ.1 24) (431 * m) i) (σ.1 23)) (by simp [gl_le]) (by rw [cpR_0]) (by omega) (fun i hi ih52 => ?_)
    refine g_iload_n X dX5_save_52 rfl rfl ?_
    refine g_sipush (v := nI 431) X dX5_save_53 (by decide) ?_
    refine g_icmpN_ge (tgt := 86) X dX5_save_56 (by decide) (by omega) (by omega) (fun c_56 => ?_) (fun c_56 => ?_)
    · have e : i = 431 := by omega
      subst e
      refine g_aload_n X dX5_save_86 rfl rfl ?_
      refine g_dup X dX5_save_87 rfl ?_
      refine g_get_23_3 X hi5 (by decide +kernel) dX5_save_88 ?_
      refine g_top (y := nI m) (by subst hm; rw [svW_23]; exact hn) ?_
      refine g_iconstN X 1 dX5_save_91 ?_
      refine g_iaddN X dX5_save_92 ?_
      refine g_put_23_3 X hi5 (by decide +kernel) dX5_save_93 ?_
      exact g_vret X hr hlk dX5_save_96 ⟨rfl, by subst hm; simp only [svW_s23, svW_23, rwM_ne h6]; rw [Nat.min_eq_right (by omega)]⟩
    · refine g_aload_n X dX5_save_59 rfl rfl ?_
      refine g_get_23_1 X hi5 (by decide +kernel) dX5_save_60 ?_
      refine g_sipush (v := nI 431) X dX5_save_63 (by decide) ?_
      refine g_aload_n X dX5_save_66 rfl rfl ?_
      refine g_get_23_3 X hi5 (by decide +kernel) dX5_save_67 ?_
      refine g_top (y := nI m) (by subst hm; rw [svW_23]; exact hn) ?_
      refine g_imulN X dX5_save_70 ?_
      refine g_iload_n X dX5_save_71 rfl rfl ?_
      refine g_iaddN X dX5_save_72 ?_
      refine g_aload_n X dX5_save_73 rfl rfl ?_
      refine g_get_23_0 X hi5 (by decide +kernel) dX5_save_74 ?_
      refine g_iload_n X dX5_save_77 rfl rfl ?_
      refine g_ald_24 X rfl (by omega) dX5_save_78 ?_
      refine g_ast_25 X rfl (by omega) dX5_save_79 ?_
      refine g_iincN1 (d := 1) X dX5_save_80 (by decide) rfl ?_
      refine g_goto (tgt := 52) X dX5_save_83 (by decide) ?_
      simp only [svW_s25, svW_25, svW_24, cpR_s]
      exact g_le (by simp [gl_le]) (ih52 (by omega))
set_option maxRecDepth 20000 in
theorem k_X5_bring (l : Launch) (γ : gG) (σ : gS) (q : Nat) (x : Int32) (hq : q < 8) (h1 : inB x (nI 1) (nI 99999) = true) (n : Nat) (hn : σ.1 23 3 = nI n) (hn6 : n ≤ 6) : gM l γ yX5_bring wsX5_bring ({ frames := 2, cells := 0, slots := 0, locals := 42 } : Room) [.ref (ad γ 23), .int (nI q), .int x] σ (gis (some (.int ((ad1 (ad1 (σ.1 24) (9 + q) x) 1 x) (9 + q)))) (unM σ n (ad1 (ad1 (σ.1 24) (9 + q) x) 1 x))) 0 0 := by
  refine g_enter (own := RX5) (cc := cX5_bring) (nL := 3) (ret := (some .int)) [some (.ref (ad γ 23)), some (.int (nI q)), some (.int x)] (by decide) rfl rfl (by simp [lg_sl, Value.category]) (by simp [gl_le, glE, Value.category]) (fun hj p e s m args below meth c X hr hlk hnm => ?_)
  have hi5 : ∀ w ∈ wsX50, w ∈ wsX5_bring := by decide +kernel
  refine g_aload_n X dX5_bring_0 rfl rfl ?_
  refine g_iconstN X 0 dX5_bring_1 ?_
  refine g_put_23_6 X hi5 (by decide +kernel) dX5_bring_2 ?_
  refine g_eq rfl (σ' := okM σ) rfl ?_
  refine g_iload_n X dX5_bring_5 rfl rfl ?_
  refine g_callSi (na := 1) X hj (k_X5_isPerson l γ _ _) gX5_bring_X5_isPerson rfl ⟨rfl, rfl⟩ (by decide +kernel) rfl ⟨by decide, by decide⟩ rfl (Nat.le_of_ble_eq_true rfl) dX5_bring_6 ⟨by decide, by decide⟩ ?_
  refine g_if_ne (tgt := 18) X dX5_bring_9 (by decide) (fun c_9 => ?_) (fun c_9 => absurd c_9 (bI_1 (inP (by omega) (by decide))))
  refine g_iload_n X dX5_bring_18 rfl rfl ?_
  refine g_callSi (na := 1) X hj (k_X5_isMoney l γ _ _) gX5_bring_X5_isMoney rfl ⟨rfl, rfl⟩ (by decide +kernel) rfl ⟨by decide, by decide⟩ rfl (Nat.le_of_ble_eq_true rfl) dX5_bring_19 ⟨by decide, by decide⟩ ?_
  refine g_if_ne (tgt := 31) X dX5_bring_22 (by decide) (fun c_22 => ?_) (fun c_22 => absurd c_22 (bI_1 h1))
  refine g_aload_n X dX5_bring_31 rfl rfl ?_
  refine g_callVv (na := 0) X hj (k_X5_save l γ _ n (okM_f hn (by decide)) hn6) gW_23 rfl gX5_bring_X5_save rfl ⟨rfl, rfl⟩ (by decide +kernel) rfl ⟨by decide, by decide⟩ rfl (Nat.le_of_ble_eq_true rfl) dX5_bring_32 ⟨by decide, by decide⟩ ?_
  refine g_eq rfl (σ' := unM σ n (σ.1 24)) (unM_0 σ n) ?_
  refine g_aload_n X dX5_bring_35 rfl rfl ?_
  refine g_get_23_0 X hi5 (by decide +kernel) dX5_bring_36 ?_
  refine g_bipush (v := nI 9) X dX5_bring_39 (by decide) ?_
  refine g_iload_n X dX5_bring_41 rfl rfl ?_
  refine g_iaddN X dX5_bring_42 ?_
  refine g_dup2_11 X dX5_bring_43 rfl rfl ?_
  refine g_ald_24 X rfl (by omega) dX5_bring_44 ?_
  simp only [unM_24]
  refine g_iload_n X dX5_bring_45 rfl rfl ?_
  refine g_iadd X dX5_bring_46 ?_
  refine g_ast_24 X rfl (by omega) dX5_bring_47 ?_
  simp only [unM_s24]
  refine g_eq rfl (σ' := unM σ n (ad1 (σ.1 24) (9 + q) x)) rfl ?_
  refine g_aload_n X dX5_bring_48 rfl rfl ?_
  refine g_get_23_0 X hi5 (by decide +kernel) dX5_bring_49 ?_
  refine g_iconstN X 1 dX5_bring_52 ?_
  refine g_dup2_11 X dX5_bring_53 rfl rfl ?_
  refine g_ald_24 X rfl (by omega) dX5_bring_54 ?_
  simp only [unM_24]
  refine g_iload_n X dX5_bring_55 rfl rfl ?_
  refine g_iadd X dX5_bring_56 ?_
  refine g_ast_24 X rfl (by omega) dX5_bring_57 ?_
  simp only [unM_s24]
  refine g_eq rfl (σ' := unM σ n (ad1 (ad1 (σ.1 24) (9 + q) x) 1 x)) rfl ?_
  refine g_aload_n X dX5_bring_58 rfl rfl ?_
  refine g_get_23_0 X hi5 (by decide +kernel) dX5_bring_59 ?_
  refine g_bipush (v := nI 9) X dX5_bring_62 (by decide) ?_
  refine g_iload_n X dX5_bring_64 rfl rfl ?_
  refine g_iaddN X dX5_bring_65 ?_
  refine g_ald_24 X rfl (by omega) dX5_bring_66 ?_
  simp only [unM_24]
  exact g_iret X hr hlk dX5_bring_67 ⟨rfl, rfl⟩
set_option maxRecDepth 20000 in
theorem k_X5_bring_1 (l : Launch) (γ : gG) (σ : gS) (y x : Int32) (h : inB y (nI 0) (nI 7) = false) : gM l γ yX5_bring wsX5_bring ({ frames := 2, cells := 0, slots := 0, locals := 42 } : Room) [.ref (ad γ 23), .int y, .int x] σ (gis (some (.int (nI 0))) (sM σ 6 (nI 1))) 0 0 := by
  refine g_enter (own := RX5) (cc := cX5_bring) (nL := 3) (ret := (some .int)) [some (.ref (ad γ 23)), some (.int y), some (.int x)] (by decide) rfl rfl (by simp [lg_sl, Value.category]) (by simp [gl_le, glE, Value.category]) (fun hj p e s m args below meth c X hr hlk hnm => ?_)
  have hi5 : ∀ w ∈ wsX50, w ∈ wsX5_bring := by decide +kernel
  refine g_aload_n X dX5_bring_0 rfl rfl ?_
  refine g_iconstN X 0 dX5_bring_1 ?_
  refine g_put_23_6 X hi5 (by decide +kernel) dX5_bring_2 ?_
  refine g_eq rfl (σ' := okM σ) rfl ?_
  refine g_iload_n X dX5_bring_5 rfl rfl ?_
  refine g_callSi (na := 1) X hj (k_X5_isPerson l γ _ _) gX5_bring_X5_isPerson rfl ⟨rfl, rfl⟩ (by decide +kernel) rfl ⟨by decide, by decide⟩ rfl (Nat.le_of_ble_eq_true rfl) dX5_bring_6 ⟨by decide, by decide⟩ ?_
  refine g_if_ne (tgt := 18) X dX5_bring_9 (by decide) (fun c_9 => absurd (bI_0 h) c_9) (fun c_9 => ?_)
  refine g_aload_n X dX5_bring_12 rfl rfl ?_
  refine g_iconstN X 1 dX5_bring_13 ?_
  refine g_callVi (na := 1) X hj (k_X5_fails l γ _ _) gW_23 rfl gX5_bring_X5_fails rfl ⟨rfl, rfl⟩ (by decide +kernel) rfl ⟨by decide, by decide⟩ rfl (Nat.le_of_ble_eq_true rfl) dX5_bring_14 ⟨by decide, by decide⟩ ?_
  exact g_iret X hr hlk dX5_bring_17 ⟨rfl, sM_ok σ _⟩
set_option maxRecDepth 20000 in
theorem k_X5_bring_2 (l : Launch) (γ : gG) (σ : gS) (q : Nat) (x : Int32) (hq : q < 8) (h1 : inB x (nI 1) (nI 99999) = false) : gM l γ yX5_bring wsX5_bring ({ frames := 2, cells := 0, slots := 0, locals := 42 } : Room) [.ref (ad γ 23), .int (nI q), .int x] σ (gis (some (.int (nI 0))) (sM σ 6 (nI 2))) 0 0 := by
  refine g_enter (own := RX5) (cc := cX5_bring) (nL := 3) (ret := (some .int)) [some (.ref (ad γ 23)), some (.int (nI q)), some (.int x)] (by decide) rfl rfl (by simp [lg_sl, Value.category]) (by simp [gl_le, glE, Value.category]) (fun hj p e s m args below meth c X hr hlk hnm => ?_)
  have hi5 : ∀ w ∈ wsX50, w ∈ wsX5_bring := by decide +kernel
  refine g_aload_n X dX5_bring_0 rfl rfl ?_
  refine g_iconstN X 0 dX5_bring_1 ?_
  refine g_put_23_6 X hi5 (by decide +kernel) dX5_bring_2 ?_
  refine g_eq rfl (σ' := okM σ) rfl ?_
  refine g_iload_n X dX5_bring_5 rfl rfl ?_
  refine g_callSi (na := 1) X hj (k_X5_isPerson l γ _ _) gX5_bring_X5_isPerson rfl ⟨rfl, rfl⟩ (by decide +kernel) rfl ⟨by decide, by decide⟩ rfl (Nat.le_of_ble_eq_true rfl) dX5_bring_6 ⟨by decide, by decide⟩ ?_
  refine g_if_ne (tgt := 18) X dX5_bring_9 (by decide) (fun c_9 => ?_) (fun c_9 => absurd c_9 (bI_1 (inP (by omega) (by decide))))
  refine g_iload_n X dX5_bring_18 rfl rfl ?_
  refine g_callSi (na := 1) X hj (k_X5_isMoney l γ _ _) gX5_bring_X5_isMoney rfl ⟨rfl, rfl⟩ (by decide +kernel) rfl ⟨by decide, by decide⟩ rfl (Nat.le_of_ble_eq_true rfl) dX5_bring_19 ⟨by decide, by decide⟩ ?_
  refine g_if_ne (tgt := 31) X dX5_bring_22 (by decide) (fun c_22 => absurd (bI_0 h1) c_22) (fun c_22 => ?_)
  refine g_aload_n X dX5_bring_25 rfl rfl ?_
  refine g_iconstN X 2 dX5_bring_26 ?_
  refine g_callVi (na := 1) X hj (k_X5_fails l γ _ _) gW_23 rfl gX5_bring_X5_fails rfl ⟨rfl, rfl⟩ (by decide +kernel) rfl ⟨by decide, by decide⟩ rfl (Nat.le_of_ble_eq_true rfl) dX5_bring_27 ⟨by decide, by decide⟩ ?_
  exact g_iret X hr hlk dX5_bring_30 ⟨rfl, sM_ok σ _⟩
set_option maxRecDepth 20000 in
theorem k_X5_takeOut (l : Launch) (γ : gG) (σ : gS) (q : Nat) (x : Int32) (hq : q < 8) (h1 : inB x (nI 1) (nI 99999) = true) (N : Nat) (L : Nat → Nat) (hS : SZ (σ.1 24) N L) (h3 : x ≤ spZ (σ.1 24) N L q) (n : Nat) (hn : σ.1 23 3 = nI n) (hn6 : n ≤ 6) : gM l γ yX5_takeOut wsX5_takeOut ({ frames := 4, cells := 0, slots := 0, locals := 87 } : Room) [.ref (ad γ 23), .int (nI q), .int x] σ (gis (some (.int ((sb1 (sb1 (σ.1 24) (9 + q) x) 1 x) (9 + q)))) (unM σ n (sb1 (sb1 (σ.1 24) (9 + q) x) 1 x))) 0 0 := by
  refine g_enter (own := RX5) (cc := cX5_takeOut) (nL := 3) (ret := (some .int)) [some (.ref (ad γ 23)), some (.int (nI q)), some (.int x)] (by decide) rfl rfl (by simp [lg_sl, Value.category]) (by simp [gl_le, glE, Value.category]) (fun hj p e s m args below meth c X hr hlk hnm => ?_)
  have hi5 : ∀ w ∈ wsX50, w ∈ wsX5_takeOut := by decide +kernel
  refine g_aload_n X dX5_takeOut_0 rfl rfl ?_
  refine g_iconstN X 0 dX5_takeOut_1 ?_
  refine g_put_23_6 X hi5 (by decide +kernel) dX5_takeOut_2 ?_
  refine g_eq rfl (σ' := okM σ) rfl ?_
  refine g_iload_n X dX5_takeOut_5 rfl rfl ?_
  refine g_callSi (na := 1) X hj (k_X5_isPerson l γ _ _) gX5_takeOut_X5_isPerson rfl ⟨rfl, rfl⟩ (by decide +kernel) rfl ⟨by decide, by decide⟩ rfl (Nat.le_of_ble_eq_true rfl) dX5_takeOut_6 ⟨by decide, by decide⟩ ?_
  refine g_if_ne (tgt := 18) X dX5_takeOut_9 (by decide) (fun c_9 => ?_) (fun c_9 => absurd c_9 (bI_1 (inP (by omega) (by decide))))
  refine g_iload_n X dX5_takeOut_18 rfl rfl ?_
  refine g_callSi (na := 1) X hj (k_X5_isMoney l γ _ _) gX5_takeOut_X5_isMoney rfl ⟨rfl, rfl⟩ (by decide +kernel) rfl ⟨by decide, by decide⟩ rfl (Nat.le_of_ble_eq_true rfl) dX5_takeOut_19 ⟨by decide, by decide⟩ ?_
  refine g_if_ne (tgt := 31) X dX5_takeOut_22 (by decide) (fun c_22 => ?_) (fun c_22 => absurd c_22 (bI_1 h1))
  refine g_iload_n X dX5_takeOut_31 rfl rfl ?_
  refine g_aload_n X dX5_takeOut_32 rfl rfl ?_
  refine g_iload_n X dX5_takeOut_33 rfl rfl ?_
  refine g_callVi (na := 1) X hj (k_X5_spareOf l γ _ N L _ hS (by omega)) gW_23 rfl gX5_takeOut_X5_spareOf rfl ⟨rfl, rfl⟩ (by decide +kernel) rfl ⟨by decide, by decide⟩ rfl (Nat.le_of_ble_eq_true rfl) dX5_takeOut_34 ⟨by decide, by decide⟩ ?_
  refine g_icmp_le (tgt := 46) X dX5_takeOut_37 (by decide) (fun c_37 => ?_) (fun c_37 => absurd h3 c_37)
  refine g_aload_n X dX5_takeOut_46 rfl rfl ?_
  refine g_callVv (na := 0) X hj (k_X5_save l γ _ n (okM_f hn (by decide)) hn6) gW_23 rfl gX5_takeOut_X5_save rfl ⟨rfl, rfl⟩ (by decide +kernel) rfl ⟨by decide, by decide⟩ rfl (Nat.le_of_ble_eq_true rfl) dX5_takeOut_47 ⟨by decide, by decide⟩ ?_
  refine g_eq rfl (σ' := unM σ n (σ.1 24)) (unM_0 σ n) ?_
  refine g_aload_n X dX5_takeOut_50 rfl rfl ?_
  refine g_get_23_0 X hi5 (by decide +kernel) dX5_takeOut_51 ?_
  refine g_bipush (v := nI 9) X dX5_takeOut_54 (by decide) ?_
  refine g_iload_n X dX5_takeOut_56 rfl rfl ?_
  refine g_iaddN X dX5_takeOut_57 ?_
  refine g_dup2_11 X dX5_takeOut_58 rfl rfl ?_
  refine g_ald_24 X rfl (by omega) dX5_takeOut_59 ?_
  simp only [unM_24]
  refine g_iload_n X dX5_takeOut_60 rfl rfl ?_
  refine g_isub X dX5_takeOut_61 ?_
  refine g_ast_24 X rfl (by omega) dX5_takeOut_62 ?_
  simp only [unM_s24]
  refine g_eq rfl (σ' := unM σ n (sb1 (σ.1 24) (9 + q) x)) rfl ?_
  refine g_aload_n X dX5_takeOut_63 rfl rfl ?_
  refine g_get_23_0 X hi5 (by decide +kernel) dX5_takeOut_64 ?_
  refine g_iconstN X 1 dX5_takeOut_67 ?_
  refine g_dup2_11 X dX5_takeOut_68 rfl rfl ?_
  refine g_ald_24 X rfl (by omega) dX5_takeOut_69 ?_
  simp only [unM_24]
  refine g_iload_n X dX5_takeOut_70 rfl rfl ?_
  refine g_isub X dX5_takeOut_71 ?_
  refine g_ast_24 X rfl (by omega) dX5_takeOut_72 ?_
  simp only [unM_s24]
  refine g_eq rfl (σ' := unM σ n (sb1 (sb1 (σ.1 24) (9 + q) x) 1 x)) rfl ?_
  refine g_aload_n X dX5_takeOut_73 rfl rfl ?_
  refine g_get_23_0 X hi5 (by decide +kernel) dX5_takeOut_74 ?_
  refine g_bipush (v := nI 9) X dX5_takeOut_77 (by decide) ?_
  refine g_iload_n X dX5_takeOut_79 rfl rfl ?_
  refine g_iaddN X dX5_takeOut_80 ?_
  refine g_ald_24 X rfl (by omega) dX5_takeOut_81 ?_
  simp only [unM_24]
  exact g_iret X hr hlk dX5_takeOut_82 ⟨rfl, rfl⟩
set_option maxRecDepth 20000 in
theorem k_X5_takeOut_1 (l : Launch) (γ : gG) (σ : gS) (y x : Int32) (h : inB y (nI 0) (nI 7) = false) : gM l γ yX5_takeOut wsX5_takeOut ({ frames := 4, cells := 0, slots := 0, locals := 87 } : Room) [.ref (ad γ 23), .int y, .int x] σ (gis (some (.int (nI 0))) (sM σ 6 (nI 1))) 0 0 := by
  refine g_enter (own := RX5) (cc := cX5_takeOut) (nL := 3) (ret := (some .int)) [some (.ref (ad γ 23)), some (.int y), some (.int x)] (by decide) rfl rfl (by simp [lg_sl, Value.category]) (by simp [gl_le, glE, Value.category]) (fun hj p e s m args below meth c X hr hlk hnm => ?_)
  have hi5 : ∀ w ∈ wsX50, w ∈ wsX5_takeOut := by decide +kernel
  refine g_aload_n X dX5_takeOut_0 rfl rfl ?_
  refine g_iconstN X 0 dX5_takeOut_1 ?_
  refine g_put_23_6 X hi5 (by decide +kernel) dX5_takeOut_2 ?_
  refine g_eq rfl (σ' := okM σ) rfl ?_
  refine g_iload_n X dX5_takeOut_5 rfl rfl ?_
  refine g_callSi (na := 1) X hj (k_X5_isPerson l γ _ _) gX5_takeOut_X5_isPerson rfl ⟨rfl, rfl⟩ (by decide +kernel) rfl ⟨by decide, by decide⟩ rfl (Nat.le_of_ble_eq_true rfl) dX5_takeOut_6 ⟨by decide, by decide⟩ ?_
  refine g_if_ne (tgt := 18) X dX5_takeOut_9 (by decide) (fun c_9 => absurd (bI_0 h) c_9) (fun c_9 => ?_)
  refine g_aload_n X dX5_takeOut_12 rfl rfl ?_
  refine g_iconstN X 1 dX5_takeOut_13 ?_
  refine g_callVi (na := 1) X hj (k_X5_fails l γ _ _) gW_23 rfl gX5_takeOut_X5_fails rfl ⟨rfl, rfl⟩ (by decide +kernel) rfl ⟨by decide, by decide⟩ rfl (Nat.le_of_ble_eq_true rfl) dX5_takeOut_14 ⟨by decide, by decide⟩ ?_
  exact g_iret X hr hlk dX5_takeOut_17 ⟨rfl, sM_ok σ _⟩
set_option maxRecDepth 20000 in
theorem k_X5_takeOut_2 (l : Launch) (γ : gG) (σ : gS) (q : Nat) (x : Int32) (hq : q < 8) (h1 : inB x (nI 1) (nI 99999) = false) : gM l γ yX5_takeOut wsX5_takeOut ({ frames := 4, cells := 0, slots := 0, locals := 87 } : Room) [.ref (ad γ 23), .int (nI q), .int x] σ (gis (some (.int (nI 0))) (sM σ 6 (nI 2))) 0 0 := by
  refine g_enter (own := RX5) (cc := cX5_takeOut) (nL := 3) (ret := (some .int)) [some (.ref (ad γ 23)), some (.int (nI q)), some (.int x)] (by decide) rfl rfl (by simp [lg_sl, Value.category]) (by simp [gl_le, glE, Value.category]) (fun hj p e s m args below meth c X hr hlk hnm => ?_)
  have hi5 : ∀ w ∈ wsX50, w ∈ wsX5_takeOut := by decide +kernel
  refine g_aload_n X dX5_takeOut_0 rfl rfl ?_
  refine g_iconstN X 0 dX5_takeOut_1 ?_
  refine g_put_23_6 X hi5 (by decide +kernel) dX5_takeOut_2 ?_
  refine g_eq rfl (σ' := okM σ) rfl ?_
  refine g_iload_n X dX5_takeOut_5 rfl rfl ?_
  refine g_callSi (na := 1) X hj (k_X5_isPerson l γ _ _) gX5_takeOut_X5_isPerson rfl ⟨rfl, rfl⟩ (by decide +kernel) rfl ⟨by decide, by decide⟩ rfl (Nat.le_of_ble_eq_true rfl) dX5_takeOut_6 ⟨by decide, by decide⟩ ?_
  refine g_if_ne (tgt := 18) X dX5_takeOut_9 (by decide) (fun c_9 => ?_) (fun c_9 => absurd c_9 (bI_1 (inP (by omega) (by decide))))
  refine g_iload_n X dX5_takeOut_18 rfl rfl ?_
  refine g_callSi (na := 1) X hj (k_X5_isMoney l γ _ _) gX5_takeOut_X5_isMoney rfl ⟨rfl, rfl⟩ (by decide +kernel) rfl ⟨by decide, by decide⟩ rfl (Nat.le_of_ble_eq_true rfl) dX5_takeOut_19 ⟨by decide, by decide⟩ ?_
  refine g_if_ne (tgt := 31) X dX5_takeOut_22 (by decide) (fun c_22 => absurd (bI_0 h1) c_22) (fun c_22 => ?_)
  refine g_aload_n X dX5_takeOut_25 rfl rfl ?_
  refine g_iconstN X 2 dX5_takeOut_26 ?_
  refine g_callVi (na := 1) X hj (k_X5_fails l γ _ _) gW_23 rfl gX5_takeOut_X5_fails rfl ⟨rfl, rfl⟩ (by decide +kernel) rfl ⟨by decide, by decide⟩ rfl (Nat.le_of_ble_eq_true rfl) dX5_takeOut_27 ⟨by decide, by decide⟩ ?_
  exact g_iret X hr hlk dX5_takeOut_30 ⟨rfl, sM_ok σ _⟩
set_option maxRecDepth 20000 in
theorem k_X5_takeOut_3 (l : Launch) (γ : gG) (σ : gS) (q : Nat) (x : Int32) (hq : q < 8) (h1 : inB x (nI 1) (nI 99999) = true) (N : Nat) (L : Nat → Nat) (hS : SZ (σ.1 24) N L) (h3 : spZ (σ.1 24) N L q < x) : gM l γ yX5_takeOut wsX5_takeOut ({ frames := 4, cells := 0, slots := 0, locals := 87 } : Room) [.ref (ad γ 23), .int (nI q), .int x] σ (gis (some (.int (nI 0))) (sM σ 6 (nI 3))) 0 0 := by
  refine g_enter (own := RX5) (cc := cX5_takeOut) (nL := 3) (ret := (some .int)) [some (.ref (ad γ 23)), some (.int (nI q)), some (.int x)] (by decide) rfl rfl (by simp [lg_sl, Value.category]) (by simp [gl_le, glE, Value.category]) (fun hj p e s m args below meth c X hr hlk hnm => ?_)
  have hi5 : ∀ w ∈ wsX50, w ∈ wsX5_takeOut := by decide +kernel
  refine g_aload_n X dX5_takeOut_0 rfl rfl ?_
  refine g_iconstN X 0 dX5_takeOut_1 ?_
  refine g_put_23_6 X hi5 (by decide +kernel) dX5_takeOut_2 ?_
  refine g_eq rfl (σ' := okM σ) rfl ?_
  refine g_iload_n X dX5_takeOut_5 rfl rfl ?_
  refine g_callSi (na := 1) X hj (k_X5_isPerson l γ _ _) gX5_takeOut_X5_isPerson rfl ⟨rfl, rfl⟩ (by decide +kernel) rfl ⟨by decide, by decide⟩ rfl (Nat.le_of_ble_eq_true rfl) dX5_takeOut_6 ⟨by decide, by decide⟩ ?_
  refine g_if_ne (tgt := 18) X dX5_takeOut_9 (by decide) (fun c_9 => ?_) (fun c_9 => absurd c_9 (bI_1 (inP (by omega) (by decide))))
  refine g_iload_n X dX5_takeOut_18 rfl rfl ?_
  refine g_callSi (na := 1) X hj (k_X5_isMoney l γ _ _) gX5_takeOut_X5_isMoney rfl ⟨rfl, rfl⟩ (by decide +kernel) rfl ⟨by decide, by decide⟩ rfl (Nat.le_of_ble_eq_true rfl) dX5_takeOut_19 ⟨by decide, by decide⟩ ?_
  refine g_if_ne (tgt := 31) X dX5_takeOut_22 (by decide) (fun c_22 => ?_) (fun c_22 => absurd c_22 (bI_1 h1))
  refine g_iload_n X dX5_takeOut_31 rfl rfl ?_
  refine g_aload_n X dX5_takeOut_32 rfl rfl ?_
  refine g_iload_n X dX5_takeOut_33 rfl rfl ?_
  refine g_callVi (na := 1) X hj (k_X5_spareOf l γ _ N L _ hS (by omega)) gW_23 rfl gX5_takeOut_X5_spareOf rfl ⟨rfl, rfl⟩ (by decide +kernel) rfl ⟨by decide, by decide⟩ rfl (Nat.le_of_ble_eq_true rfl) dX5_takeOut_34 ⟨by decide, by decide⟩ ?_
  refine g_icmp_le (tgt := 46) X dX5_takeOut_37 (by decide) (fun c_37 => absurd c_37 (Int32.not_le.mpr h3)) (fun c_37 => ?_)
  refine g_aload_n X dX5_takeOut_40 rfl rfl ?_
  refine g_iconstN X 3 dX5_takeOut_41 ?_
  refine g_callVi (na := 1) X hj (k_X5_fails l γ _ _) gW_23 rfl gX5_takeOut_X5_fails rfl ⟨rfl, rfl⟩ (by decide +kernel) rfl ⟨by decide, by decide⟩ rfl (Nat.le_of_ble_eq_true rfl) dX5_takeOut_42 ⟨by decide, by decide⟩ ?_
  exact g_iret X hr hlk dX5_takeOut_45 ⟨rfl, sM_ok σ _⟩
set_option maxRecDepth 20000 in
theorem k_X5_guarantee_n (l : Launch) (γ : gG) (σ : gS) (q : Nat) (x : Int32) (hq : q < 8) (n : Nat) (hn : σ.1 23 3 = nI n) (hn6 : n ≤ 6) : gM l γ yX5_guarantee wsX5_guarantee ({ frames := 2, cells := 0, slots := 0, locals := 42 } : Room) [.ref (ad γ 23), .int (nI q), .int (-1), .int x] σ (gis (some (.int (σ.1 24 (17 + q)))) (unM σ n (gtZ (σ.1 24) q (-1) (nI 0)))) 0 0 := by
  refine g_enter (own := RX5) (cc := cX5_guarantee) (nL := 5) (ret := (some .int)) [some (.ref (ad γ 23)), some (.int (nI q)), some (.int (-1)), some (.int x), none] (by decide) rfl rfl (by simp [lg_sl, Value.category]) (by simp [gl_le, glE, Value.category]) (fun hj p e s m args below meth c X hr hlk hnm => ?_)
  have hi5 : ∀ w ∈ wsX50, w ∈ wsX5_guarantee := by decide +kernel
  refine g_aload_n X dX5_guarantee_0 rfl rfl ?_
  refine g_iconstN X 0 dX5_guarantee_1 ?_
  refine g_put_23_6 X hi5 (by decide +kernel) dX5_guarantee_2 ?_
  refine g_eq rfl (σ' := okM σ) rfl ?_
  refine g_iload_n X dX5_guarantee_5 rfl rfl ?_
  refine g_callSi (na := 1) X hj (k_X5_isPerson l γ _ _) gX5_guarantee_X5_isPerson rfl ⟨rfl, rfl⟩ (by decide +kernel) rfl ⟨by decide, by decide⟩ rfl (Nat.le_of_ble_eq_true rfl) dX5_guarantee_6 ⟨by decide, by decide⟩ ?_
  refine g_if_eq (tgt := 24) X dX5_guarantee_9 (by decide) (fun c_9 => absurd c_9 (bI_1 (inP (by omega) (by decide)))) (fun c_9 => ?_)
  refine g_iload_n X dX5_guarantee_12 rfl rfl ?_
  refine g_iconst (v := -1) X dX5_guarantee_13 (by decide) ?_
  refine g_icmp_eq (tgt := 30) X dX5_guarantee_14 (by decide) (fun c_14 => ?_) (fun c_14 => absurd rfl c_14)
  refine g_iload_n X dX5_guarantee_30 rfl rfl ?_
  refine g_iconst (v := -1) X dX5_guarantee_31 (by decide) ?_
  refine g_icmp_eq (tgt := 51) X dX5_guarantee_32 (by decide) (fun c_32 => ?_) (fun c_32 => absurd rfl c_32)
  refine g_aload_n X dX5_guarantee_51 rfl rfl ?_
  refine g_iload_n X dX5_guarantee_52 rfl rfl ?_
  refine g_iload_n X dX5_guarantee_53 rfl rfl ?_
  refine g_callVi (na := 2) X hj (k_X5_isIn l γ _ _ _ (Or.inl rfl)) gW_23 rfl gX5_guarantee_X5_isIn rfl ⟨rfl, rfl⟩ (by decide +kernel) rfl ⟨by decide, by decide⟩ rfl (Nat.le_of_ble_eq_true rfl) dX5_guarantee_54 ⟨by decide, by decide⟩ ?_
  refine g_if_eq (tgt := 66) X dX5_guarantee_57 (by decide) (fun c_57 => ?_) (fun c_57 => absurd (bI_0 rfl) c_57)
  refine g_aload_n X dX5_guarantee_66 rfl rfl ?_
  refine g_callVv (na := 0) X hj (k_X5_save l γ _ n (okM_f hn (by decide)) hn6) gW_23 rfl gX5_guarantee_X5_save rfl ⟨rfl, rfl⟩ (by decide +kernel) rfl ⟨by decide, by decide⟩ rfl (Nat.le_of_ble_eq_true rfl) dX5_guarantee_67 ⟨by decide, by decide⟩ ?_
  refine g_eq rfl (σ' := unM σ n (σ.1 24)) (unM_0 σ n) ?_
  refine g_aload_n X dX5_guarantee_70 rfl rfl ?_
  refine g_get_23_0 X hi5 (by decide +kernel) dX5_guarantee_71 ?_
  refine g_bipush (v := nI 17) X dX5_guarantee_74 (by decide) ?_
  refine g_iload_n X dX5_guarantee_76 rfl rfl ?_
  refine g_iaddN X dX5_guarantee_77 ?_
  refine g_ald_24 X rfl (by omega) dX5_guarantee_78 ?_
  simp only [unM_24]
  refine g_istore_s4 X dX5_guarantee_79 (by decide) rfl ?_
  refine g_aload_n X dX5_guarantee_81 rfl rfl ?_
  refine g_get_23_0 X hi5 (by decide +kernel) dX5_guarantee_82 ?_
  refine g_bipush (v := nI 17) X dX5_guarantee_85 (by decide) ?_
  refine g_iload_n X dX5_guarantee_87 rfl rfl ?_
  refine g_iaddN X dX5_guarantee_88 ?_
  refine g_iload_n X dX5_guarantee_89 rfl rfl ?_
  refine g_ast_24 X rfl (by omega) dX5_guarantee_90 ?_
  simp only [unM_s24]
  refine g_eq rfl (σ' := unM σ n (upd (σ.1 24) (17 + q) (-1))) rfl ?_
  refine g_aload_n X dX5_guarantee_91 rfl rfl ?_
  refine g_get_23_0 X hi5 (by decide +kernel) dX5_guarantee_92 ?_
  refine g_bipush (v := nI 25) X dX5_guarantee_95 (by decide) ?_
  refine g_iload_n X dX5_guarantee_97 rfl rfl ?_
  refine g_iaddN X dX5_guarantee_98 ?_
  refine g_iload_n X dX5_guarantee_99 rfl rfl ?_
  refine g_iconst (v := -1) X dX5_guarantee_100 (by decide) ?_
  refine g_icmp_ne (tgt := 108) X dX5_guarantee_101 (by decide) (fun c_101 => absurd rfl c_101) (fun c_101 => ?_)
  refine g_iconstN X 0 dX5_guarantee_104 ?_
  refine g_goto (tgt := 109) X dX5_guarantee_105 (by decide) ?_
  refine g_ast_24 X rfl (by omega) dX5_guarantee_109 ?_
  simp only [unM_s24]
  refine g_eq rfl (σ' := unM σ n (gtZ (σ.1 24) q (-1) (nI 0))) rfl ?_
  refine g_iload X dX5_guarantee_110 rfl ?_
  exact g_iret X hr hlk dX5_guarantee_112 ⟨rfl, rfl⟩
set_option maxRecDepth 20000 in
theorem k_X5_guarantee_g (l : Launch) (γ : gG) (σ : gS) (q g : Nat) (x : Int32) (hq : q < 8) (hg : g < 8) (h1 : inB x (nI 1) (nI 100) = true) (hch : chOK (σ.1 24) 8 (nI g)) (hi : inZ (σ.1 24) (nI q) 8 (nI g) false = false) (n : Nat) (hn : σ.1 23 3 = nI n) (hn6 : n ≤ 6) : gM l γ yX5_guarantee wsX5_guarantee ({ frames := 2, cells := 0, slots := 0, locals := 42 } : Room) [.ref (ad γ 23), .int (nI q), .int (nI g), .int x] σ (gis (some (.int (σ.1 24 (17 + q)))) (unM σ n (gtZ (σ.1 24) q (nI g) x))) 0 0 := by
  refine g_enter (own := RX5) (cc := cX5_guarantee) (nL := 5) (ret := (some .int)) [some (.ref (ad γ 23)), some (.int (nI q)), some (.int (nI g)), some (.int x), none] (by decide) rfl rfl (by simp [lg_sl, Value.category]) (by simp [gl_le, glE, Value.category]) (fun hj p e s m args below meth c X hr hlk hnm => ?_)
  have hi5 : ∀ w ∈ wsX50, w ∈ wsX5_guarantee := by decide +kernel
  refine g_aload_n X dX5_guarantee_0 rfl rfl ?_
  refine g_iconstN X 0 dX5_guarantee_1 ?_
  refine g_put_23_6 X hi5 (by decide +kernel) dX5_guarantee_2 ?_
  refine g_eq rfl (σ' := okM σ) rfl ?_
  refine g_iload_n X dX5_guarantee_5 rfl rfl ?_
  refine g_callSi (na := 1) X hj (k_X5_isPerson l γ _ _) gX5_guarantee_X5_isPerson rfl ⟨rfl, rfl⟩ (by decide +kernel) rfl ⟨by decide, by decide⟩ rfl (Nat.le_of_ble_eq_true rfl) dX5_guarantee_6 ⟨by decide, by decide⟩ ?_
  refine g_if_eq (tgt := 24) X dX5_guarantee_9 (by decide) (fun c_9 => absurd c_9 (bI_1 (inP (by omega) (by decide)))) (fun c_9 => ?_)
  refine g_iload_n X dX5_guarantee_12 rfl rfl ?_
  refine g_iconst (v := -1) X dX5_guarantee_13 (by decide) ?_
  refine g_icmp_eq (tgt := 30) X dX5_guarantee_14 (by decide) (fun c_14 => absurd c_14 (nI_m1 (by omega))) (fun c_14 => ?_)
  refine g_iload_n X dX5_guarantee_17 rfl rfl ?_
  refine g_callSi (na := 1) X hj (k_X5_isPerson l γ _ _) gX5_guarantee_X5_isPerson rfl ⟨rfl, rfl⟩ (by decide +kernel) rfl ⟨by decide, by decide⟩ rfl (Nat.le_of_ble_eq_true rfl) dX5_guarantee_18 ⟨by decide, by decide⟩ ?_
  refine g_if_ne (tgt := 30) X dX5_guarantee_21 (by decide) (fun c_21 => ?_) (fun c_21 => absurd c_21 (bI_1 (inP (by omega) (by decide))))
  refine g_iload_n X dX5_guarantee_30 rfl rfl ?_
  refine g_iconst (v := -1) X dX5_guarantee_31 (by decide) ?_
  refine g_icmp_eq (tgt := 51) X dX5_guarantee_32 (by decide) (fun c_32 => absurd c_32 (nI_m1 (by omega))) (fun c_32 => ?_)
  refine g_iload_n X dX5_guarantee_35 rfl rfl ?_
  refine g_iconstN X 1 dX5_guarantee_36 ?_
  refine g_bipush (v := nI 100) X dX5_guarantee_37 (by decide) ?_
  refine g_callSi (na := 3) X hj (k_X5_in l γ _ _ _ _) gX5_guarantee_X5_in rfl ⟨rfl, rfl⟩ (by decide +kernel) rfl ⟨by decide, by decide⟩ rfl (Nat.le_of_ble_eq_true rfl) dX5_guarantee_39 ⟨by decide, by decide⟩ ?_
  refine g_if_ne (tgt := 51) X dX5_guarantee_42 (by decide) (fun c_42 => ?_) (fun c_42 => absurd c_42 (bI_1 h1))
  refine g_aload_n X dX5_guarantee_51 rfl rfl ?_
  refine g_iload_n X dX5_guarantee_52 rfl rfl ?_
  refine g_iload_n X dX5_guarantee_53 rfl rfl ?_
  refine g_callVi (na := 2) X hj (k_X5_isIn l γ _ _ _ hch) gW_23 rfl gX5_guarantee_X5_isIn rfl ⟨rfl, rfl⟩ (by decide +kernel) rfl ⟨by decide, by decide⟩ rfl (Nat.le_of_ble_eq_true rfl) dX5_guarantee_54 ⟨by decide, by decide⟩ ?_
  refine g_if_eq (tgt := 66) X dX5_guarantee_57 (by decide) (fun c_57 => ?_) (fun c_57 => absurd (bI_0 hi) c_57)
  refine g_aload_n X dX5_guarantee_66 rfl rfl ?_
  refine g_callVv (na := 0) X hj (k_X5_save l γ _ n (okM_f hn (by decide)) hn6) gW_23 rfl gX5_guarantee_X5_save rfl ⟨rfl, rfl⟩ (by decide +kernel) rfl ⟨by decide, by decide⟩ rfl (Nat.le_of_ble_eq_true rfl) dX5_guarantee_67 ⟨by decide, by decide⟩ ?_
  refine g_eq rfl (σ' := unM σ n (σ.1 24)) (unM_0 σ n) ?_
  refine g_aload_n X dX5_guarantee_70 rfl rfl ?_
  refine g_get_23_0 X hi5 (by decide +kernel) dX5_guarantee_71 ?_
  refine g_bipush (v := nI 17) X dX5_guarantee_74 (by decide) ?_
  refine g_iload_n X dX5_guarantee_76 rfl rfl ?_
  refine g_iaddN X dX5_guarantee_77 ?_
  refine g_ald_24 X rfl (by omega) dX5_guarantee_78 ?_
  simp only [unM_24]
  refine g_istore_s4 X dX5_guarantee_79 (by decide) rfl ?_
  refine g_aload_n X dX5_guarantee_81 rfl rfl ?_
  refine g_get_23_0 X hi5 (by decide +kernel) dX5_guarantee_82 ?_
  refine g_bipush (v := nI 17) X dX5_guarantee_85 (by decide) ?_
  refine g_iload_n X dX5_guarantee_87 rfl rfl ?_
  refine g_iaddN X dX5_guarantee_88 ?_
  refine g_iload_n X dX5_guarantee_89 rfl rfl ?_
  refine g_ast_24 X rfl (by omega) dX5_guarantee_90 ?_
  simp only [unM_s24]
  refine g_eq rfl (σ' := unM σ n (upd (σ.1 24) (17 + q) (nI g))) rfl ?_
  refine g_aload_n X dX5_guarantee_91 rfl rfl ?_
  refine g_get_23_0 X hi5 (by decide +kernel) dX5_guarantee_92 ?_
  refine g_bipush (v := nI 25) X dX5_guarantee_95 (by decide) ?_
  refine g_iload_n X dX5_guarantee_97 rfl rfl ?_
  refine g_iaddN X dX5_guarantee_98 ?_
  refine g_iload_n X dX5_guarantee_99 rfl rfl ?_
  refine g_iconst (v := -1) X dX5_guarantee_100 (by decide) ?_
  refine g_icmp_ne (tgt := 108) X dX5_guarantee_101 (by decide) (fun c_101 => ?_) (fun c_101 => absurd c_101 (nI_m1 (by omega)))
  refine g_iload_n X dX5_guarantee_108 rfl rfl ?_
  refine g_ast_24 X rfl (by omega) dX5_guarantee_109 ?_
  simp only [unM_s24]
  refine g_eq rfl (σ' := unM σ n (gtZ (σ.1 24) q (nI g) x)) rfl ?_
  refine g_iload X dX5_guarantee_110 rfl ?_
  exact g_iret X hr hlk dX5_guarantee_112 ⟨rfl, rfl⟩
set_option maxRecDepth 20000 in
theorem k_X5_guarantee_1 (l : Launch) (γ : gG) (σ : gS) (y g x : Int32) (h : inB y (nI 0) (nI 7) = false) : gM l γ yX5_guarantee wsX5_guarantee ({ frames := 2, cells := 0, slots := 0, locals := 42 } : Room) [.ref (ad γ 23), .int y, .int g, .int x] σ (gis (some (.int (nI 0))) (sM σ 6 (nI 1))) 0 0 := by
  refine g_enter (own := RX5) (cc := cX5_guarantee) (nL := 5) (ret := (some .int)) [some (.ref (ad γ 23)), some (.int y), some (.int g), some (.int x), none] (by decide) rfl rfl (by simp [lg_sl, Value.category]) (by simp [gl_le, glE, Value.category]) (fun hj p e s m args below meth c X hr hlk hnm => ?_)
  have hi5 : ∀ w ∈ wsX50, w ∈ wsX5_guarantee := by decide +kernel
  refine g_aload_n X dX5_guarantee_0 rfl rfl ?_
  refine g_iconstN X 0 dX5_guarantee_1 ?_
  refine g_put_23_6 X hi5 (by decide +kernel) dX5_guarantee_2 ?_
  refine g_eq rfl (σ' := okM σ) rfl ?_
  refine g_iload_n X dX5_guarantee_5 rfl rfl ?_
  refine g_callSi (na := 1) X hj (k_X5_isPerson l γ _ _) gX5_guarantee_X5_isPerson rfl ⟨rfl, rfl⟩ (by decide +kernel) rfl ⟨by decide, by decide⟩ rfl (Nat.le_of_ble_eq_true rfl) dX5_guarantee_6 ⟨by decide, by decide⟩ ?_
  refine g_if_eq (tgt := 24) X dX5_guarantee_9 (by decide) (fun c_9 => ?_) (fun c_9 => absurd (bI_0 h) c_9)
  refine g_aload_n X dX5_guarantee_24 rfl rfl ?_
  refine g_iconstN X 1 dX5_guarantee_25 ?_
  refine g_callVi (na := 1) X hj (k_X5_fails l γ _ _) gW_23 rfl gX5_guarantee_X5_fails rfl ⟨rfl, rfl⟩ (by decide +kernel) rfl ⟨by decide, by decide⟩ rfl (Nat.le_of_ble_eq_true rfl) dX5_guarantee_26 ⟨by decide, by decide⟩ ?_
  exact g_iret X hr hlk dX5_guarantee_29 ⟨rfl, sM_ok σ _⟩
set_option maxRecDepth 20000 in
theorem k_X5_guarantee_1g (l : Launch) (γ : gG) (σ : gS) (q : Nat) (g x : Int32) (hq : q < 8) (hg : ¬ g = -1) (h : inB g (nI 0) (nI 7) = false) : gM l γ yX5_guarantee wsX5_guarantee ({ frames := 2, cells := 0, slots := 0, locals := 42 } : Room) [.ref (ad γ 23), .int (nI q), .int g, .int x] σ (gis (some (.int (nI 0))) (sM σ 6 (nI 1))) 0 0 := by
  refine g_enter (own := RX5) (cc := cX5_guarantee) (nL := 5) (ret := (some .int)) [some (.ref (ad γ 23)), some (.int (nI q)), some (.int g), some (.int x), none] (by decide) rfl rfl (by simp [lg_sl, Value.category]) (by simp [gl_le, glE, Value.category]) (fun hj p e s m args below meth c X hr hlk hnm => ?_)
  have hi5 : ∀ w ∈ wsX50, w ∈ wsX5_guarantee := by decide +kernel
  refine g_aload_n X dX5_guarantee_0 rfl rfl ?_
  refine g_iconstN X 0 dX5_guarantee_1 ?_
  refine g_put_23_6 X hi5 (by decide +kernel) dX5_guarantee_2 ?_
  refine g_eq rfl (σ' := okM σ) rfl ?_
  refine g_iload_n X dX5_guarantee_5 rfl rfl ?_
  refine g_callSi (na := 1) X hj (k_X5_isPerson l γ _ _) gX5_guarantee_X5_isPerson rfl ⟨rfl, rfl⟩ (by decide +kernel) rfl ⟨by decide, by decide⟩ rfl (Nat.le_of_ble_eq_true rfl) dX5_guarantee_6 ⟨by decide, by decide⟩ ?_
  refine g_if_eq (tgt := 24) X dX5_guarantee_9 (by decide) (fun c_9 => absurd c_9 (bI_1 (inP (by omega) (by decide)))) (fun c_9 => ?_)
  refine g_iload_n X dX5_guarantee_12 rfl rfl ?_
  refine g_iconst (v := -1) X dX5_guarantee_13 (by decide) ?_
  refine g_icmp_eq (tgt := 30) X dX5_guarantee_14 (by decide) (fun c_14 => absurd c_14 hg) (fun c_14 => ?_)
  refine g_iload_n X dX5_guarantee_17 rfl rfl ?_
  refine g_callSi (na := 1) X hj (k_X5_isPerson l γ _ _) gX5_guarantee_X5_isPerson rfl ⟨rfl, rfl⟩ (by decide +kernel) rfl ⟨by decide, by decide⟩ rfl (Nat.le_of_ble_eq_true rfl) dX5_guarantee_18 ⟨by decide, by decide⟩ ?_
  refine g_if_ne (tgt := 30) X dX5_guarantee_21 (by decide) (fun c_21 => absurd (bI_0 h) c_21) (fun c_21 => ?_)
  refine g_aload_n X dX5_guarantee_24 rfl rfl ?_
  refine g_iconstN X 1 dX5_guarantee_25 ?_
  refine g_callVi (na := 1) X hj (k_X5_fails l γ _ _) gW_23 rfl gX5_guarantee_X5_fails rfl ⟨rfl, rfl⟩ (by decide +kernel) rfl ⟨by decide, by decide⟩ rfl (Nat.le_of_ble_eq_true rfl) dX5_guarantee_26 ⟨by decide, by decide⟩ ?_
  exact g_iret X hr hlk dX5_guarantee_29 ⟨rfl, sM_ok σ _⟩
set_option maxRecDepth 20000 in
theorem k_X5_guarantee_2 (l : Launch) (γ : gG) (σ : gS) (q g : Nat) (x : Int32) (hq : q < 8) (hg : g < 8) (h1 : inB x (nI 1) (nI 100) = false) : gM l γ yX5_guarantee wsX5_guarantee ({ frames := 2, cells := 0, slots := 0, locals := 42 } : Room) [.ref (ad γ 23), .int (nI q), .int (nI g), .int x] σ (gis (some (.int (nI 0))) (sM σ 6 (nI 2))) 0 0 := by
  refine g_enter (own := RX5) (cc := cX5_guarantee) (nL := 5) (ret := (some .int)) [some (.ref (ad γ 23)), some (.int (nI q)), some (.int (nI g)), some (.int x), none] (by decide) rfl rfl (by simp [lg_sl, Value.category]) (by simp [gl_le, glE, Value.category]) (fun hj p e s m args below meth c X hr hlk hnm => ?_)
  have hi5 : ∀ w ∈ wsX50, w ∈ wsX5_guarantee := by decide +kernel
  refine g_aload_n X dX5_guarantee_0 rfl rfl ?_
  refine g_iconstN X 0 dX5_guarantee_1 ?_
  refine g_put_23_6 X hi5 (by decide +kernel) dX5_guarantee_2 ?_
  refine g_eq rfl (σ' := okM σ) rfl ?_
  refine g_iload_n X dX5_guarantee_5 rfl rfl ?_
  refine g_callSi (na := 1) X hj (k_X5_isPerson l γ _ _) gX5_guarantee_X5_isPerson rfl ⟨rfl, rfl⟩ (by decide +kernel) rfl ⟨by decide, by decide⟩ rfl (Nat.le_of_ble_eq_true rfl) dX5_guarantee_6 ⟨by decide, by decide⟩ ?_
  refine g_if_eq (tgt := 24) X dX5_guarantee_9 (by decide) (fun c_9 => absurd c_9 (bI_1 (inP (by omega) (by decide)))) (fun c_9 => ?_)
  refine g_iload_n X dX5_guarantee_12 rfl rfl ?_
  refine g_iconst (v := -1) X dX5_guarantee_13 (by decide) ?_
  refine g_icmp_eq (tgt := 30) X dX5_guarantee_14 (by decide) (fun c_14 => absurd c_14 (nI_m1 (by omega))) (fun c_14 => ?_)
  refine g_iload_n X dX5_guarantee_17 rfl rfl ?_
  refine g_callSi (na := 1) X hj (k_X5_isPerson l γ _ _) gX5_guarantee_X5_isPerson rfl ⟨rfl, rfl⟩ (by decide +kernel) rfl ⟨by decide, by decide⟩ rfl (Nat.le_of_ble_eq_true rfl) dX5_guarantee_18 ⟨by decide, by decide⟩ ?_
  refine g_if_ne (tgt := 30) X dX5_guarantee_21 (by decide) (fun c_21 => ?_) (fun c_21 => absurd c_21 (bI_1 (inP (by omega) (by decide))))
  refine g_iload_n X dX5_guarantee_30 rfl rfl ?_
  refine g_iconst (v := -1) X dX5_guarantee_31 (by decide) ?_
  refine g_icmp_eq (tgt := 51) X dX5_guarantee_32 (by decide) (fun c_32 => absurd c_32 (nI_m1 (by omega))) (fun c_32 => ?_)
  refine g_iload_n X dX5_guarantee_35 rfl rfl ?_
  refine g_iconstN X 1 dX5_guarantee_36 ?_
  refine g_bipush (v := nI 100) X dX5_guarantee_37 (by decide) ?_
  refine g_callSi (na := 3) X hj (k_X5_in l γ _ _ _ _) gX5_guarantee_X5_in rfl ⟨rfl, rfl⟩ (by decide +kernel) rfl ⟨by decide, by decide⟩ rfl (Nat.le_of_ble_eq_true rfl) dX5_guarantee_39 ⟨by decide, by decide⟩ ?_
  refine g_if_ne (tgt := 51) X dX5_guarantee_42 (by decide) (fun c_42 => absurd (bI_0 h1) c_42) (fun c_42 => ?_)
  refine g_aload_n X dX5_guarantee_45 rfl rfl ?_
  refine g_iconstN X 2 dX5_guarantee_46 ?_
  refine g_callVi (na := 1) X hj (k_X5_fails l γ _ _) gW_23 rfl gX5_guarantee_X5_fails rfl ⟨rfl, rfl⟩ (by decide +kernel) rfl ⟨by decide, by decide⟩ rfl (Nat.le_of_ble_eq_true rfl) dX5_guarantee_47 ⟨by decide, by decide⟩ ?_
  exact g_iret X hr hlk dX5_guarantee_50 ⟨rfl, sM_ok σ _⟩
set_option maxRecDepth 20000 in
theorem k_X5_guarantee_3 (l : Launch) (γ : gG) (σ : gS) (q g : Nat) (x : Int32) (hq : q < 8) (hg : g < 8) (h1 : inB x (nI 1) (nI 100) = true) (hch : chOK (σ.1 24) 8 (nI g)) (hi : inZ (σ.1 24) (nI q) 8 (nI g) false = true) : gM l γ yX5_guarantee wsX5_guarantee ({ frames := 2, cells := 0, slots := 0, locals := 42 } : Room) [.ref (ad γ 23), .int (nI q), .int (nI g), .int x] σ (gis (some (.int (nI 0))) (sM σ 6 (nI 3))) 0 0 := by
  refine g_enter (own := RX5) (cc := cX5_guarantee) (nL := 5) (ret := (some .int)) [some (.ref (ad γ 23)), some (.int (nI q)), some (.int (nI g)), some (.int x), none] (by decide) rfl rfl (by simp [lg_sl, Value.category]) (by simp [gl_le, glE, Value.category]) (fun hj p e s m args below meth c X hr hlk hnm => ?_)
  have hi5 : ∀ w ∈ wsX50, w ∈ wsX5_guarantee := by decide +kernel
  refine g_aload_n X dX5_guarantee_0 rfl rfl ?_
  refine g_iconstN X 0 dX5_guarantee_1 ?_
  refine g_put_23_6 X hi5 (by decide +kernel) dX5_guarantee_2 ?_
  refine g_eq rfl (σ' := okM σ) rfl ?_
  refine g_iload_n X dX5_guarantee_5 rfl rfl ?_
  refine g_callSi (na := 1) X hj (k_X5_isPerson l γ _ _) gX5_guarantee_X5_isPerson rfl ⟨rfl, rfl⟩ (by decide +kernel) rfl ⟨by decide, by decide⟩ rfl (Nat.le_of_ble_eq_true rfl) dX5_guarantee_6 ⟨by decide, by decide⟩ ?_
  refine g_if_eq (tgt := 24) X dX5_guarantee_9 (by decide) (fun c_9 => absurd c_9 (bI_1 (inP (by omega) (by decide)))) (fun c_9 => ?_)
  refine g_iload_n X dX5_guarantee_12 rfl rfl ?_
  refine g_iconst (v := -1) X dX5_guarantee_13 (by decide) ?_
  refine g_icmp_eq (tgt := 30) X dX5_guarantee_14 (by decide) (fun c_14 => absurd c_14 (nI_m1 (by omega))) (fun c_14 => ?_)
  refine g_iload_n X dX5_guarantee_17 rfl rfl ?_
  refine g_callSi (na := 1) X hj (k_X5_isPerson l γ _ _) gX5_guarantee_X5_isPerson rfl ⟨rfl, rfl⟩ (by decide +kernel) rfl ⟨by decide, by decide⟩ rfl (Nat.le_of_ble_eq_true rfl) dX5_guarantee_18 ⟨by decide, by decide⟩ ?_
  refine g_if_ne (tgt := 30) X dX5_guarantee_21 (by decide) (fun c_21 => ?_) (fun c_21 => absurd c_21 (bI_1 (inP (by omega) (by decide))))
  refine g_iload_n X dX5_guarantee_30 rfl rfl ?_
  refine g_iconst (v := -1) X dX5_guarantee_31 (by decide) ?_
  refine g_icmp_eq (tgt := 51) X dX5_guarantee_32 (by decide) (fun c_32 => absurd c_32 (nI_m1 (by omega))) (fun c_32 => ?_)
  refine g_iload_n X dX5_guarantee_35 rfl rfl ?_
  refine g_iconstN X 1 dX5_guarantee_36 ?_
  refine g_bipush (v := nI 100) X dX5_guarantee_37 (by decide) ?_
  refine g_callSi (na := 3) X hj (k_X5_in l γ _ _ _ _) gX5_guarantee_X5_in rfl ⟨rfl, rfl⟩ (by decide +kernel) rfl ⟨by decide, by decide⟩ rfl (Nat.le_of_ble_eq_true rfl) dX5_guarantee_39 ⟨by decide, by decide⟩ ?_
  refine g_if_ne (tgt := 51) X dX5_guarantee_42 (by decide) (fun c_42 => ?_) (fun c_42 => absurd c_42 (bI_1 h1))
  refine g_aload_n X dX5_guarantee_51 rfl rfl ?_
  refine g_iload_n X dX5_guarantee_52 rfl rfl ?_
  refine g_iload_n X dX5_guarantee_53 rfl rfl ?_
  refine g_callVi (na := 2) X hj (k_X5_isIn l γ _ _ _ hch) gW_23 rfl gX5_guarantee_X5_isIn rfl ⟨rfl, rfl⟩ (by decide +kernel) rfl ⟨by decide, by decide⟩ rfl (Nat.le_of_ble_eq_true rfl) dX5_guarantee_54 ⟨by decide, by decide⟩ ?_
  refine g_if_eq (tgt := 66) X dX5_guarantee_57 (by decide) (fun c_57 => absurd c_57 (bI_1 hi)) (fun c_57 => ?_)
  refine g_aload_n X dX5_guarantee_60 rfl rfl ?_
  refine g_iconstN X 3 dX5_guarantee_61 ?_
  refine g_callVi (na := 1) X hj (k_X5_fails l γ _ _) gW_23 rfl gX5_guarantee_X5_fails rfl ⟨rfl, rfl⟩ (by decide +kernel) rfl ⟨by decide, by decide⟩ rfl (Nat.le_of_ble_eq_true rfl) dX5_guarantee_62 ⟨by decide, by decide⟩ ?_
  exact g_iret X hr hlk dX5_guarantee_65 ⟨rfl, sM_ok σ _⟩
set_option maxRecDepth 20000 in
theorem k_X5_repay (l : Launch) (γ : gG) (σ : gS) (q o : Nat) (x : Int32) (hq : q < 8) (ho : o < 8) (h1 : inB x (nI 1) (nI 99999) = true) (h3 : x ≤ σ.1 24 (57 + 8 * q + o)) (h4 : x ≤ σ.1 24 (9 + q)) (n : Nat) (hn : σ.1 23 3 = nI n) (hn6 : n ≤ 6) : gM l γ yX5_repay wsX5_repay ({ frames := 2, cells := 0, slots := 0, locals := 42 } : Room) [.ref (ad γ 23), .int (nI q), .int (nI o), .int x] σ (gis (some (.int ((sb1 (ad1 (sb1 (σ.1 24) (9 + q) x) (9 + o) x) (57 + 8 * q + o) x) (57 + 8 * q + o)))) (unM σ n (sb1 (ad1 (sb1 (σ.1 24) (9 + q) x) (9 + o) x) (57 + 8 * q + o) x))) 0 0 := by
  refine g_enter (own := RX5) (cc := cX5_repay) (nL := 4) (ret := (some .int)) [some (.ref (ad γ 23)), some (.int (nI q)), some (.int (nI o)), some (.int x)] (by decide) rfl rfl (by simp [lg_sl, Value.category]) (by simp [gl_le, glE, Value.category]) (fun hj p e s m args below meth c X hr hlk hnm => ?_)
  have hi5 : ∀ w ∈ wsX50, w ∈ wsX5_repay := by decide +kernel
  refine g_aload_n X dX5_repay_0 rfl rfl ?_
  refine g_iconstN X 0 dX5_repay_1 ?_
  refine g_put_23_6 X hi5 (by decide +kernel) dX5_repay_2 ?_
  refine g_eq rfl (σ' := okM σ) rfl ?_
  refine g_iload_n X dX5_repay_5 rfl rfl ?_
  refine g_callSi (na := 1) X hj (k_X5_isPerson l γ _ _) gX5_repay_X5_isPerson rfl ⟨rfl, rfl⟩ (by decide +kernel) rfl ⟨by decide, by decide⟩ rfl (Nat.le_of_ble_eq_true rfl) dX5_repay_6 ⟨by decide, by decide⟩ ?_
  refine g_if_eq (tgt := 19) X dX5_repay_9 (by decide) (fun c_9 => absurd c_9 (bI_1 (inP (by omega) (by decide)))) (fun c_9 => ?_)
  refine g_iload_n X dX5_repay_12 rfl rfl ?_
  refine g_callSi (na := 1) X hj (k_X5_isPerson l γ _ _) gX5_repay_X5_isPerson rfl ⟨rfl, rfl⟩ (by decide +kernel) rfl ⟨by decide, by decide⟩ rfl (Nat.le_of_ble_eq_true rfl) dX5_repay_13 ⟨by decide, by decide⟩ ?_
  refine g_if_ne (tgt := 25) X dX5_repay_16 (by decide) (fun c_16 => ?_) (fun c_16 => absurd c_16 (bI_1 (inP (by omega) (by decide))))
  refine g_iload_n X dX5_repay_25 rfl rfl ?_
  refine g_callSi (na := 1) X hj (k_X5_isMoney l γ _ _) gX5_repay_X5_isMoney rfl ⟨rfl, rfl⟩ (by decide +kernel) rfl ⟨by decide, by decide⟩ rfl (Nat.le_of_ble_eq_true rfl) dX5_repay_26 ⟨by decide, by decide⟩ ?_
  refine g_if_ne (tgt := 38) X dX5_repay_29 (by decide) (fun c_29 => ?_) (fun c_29 => absurd c_29 (bI_1 h1))
  refine g_aload_n X dX5_repay_38 rfl rfl ?_
  refine g_get_23_0 X hi5 (by decide +kernel) dX5_repay_39 ?_
  refine g_iload_n X dX5_repay_42 rfl rfl ?_
  refine g_iload_n X dX5_repay_43 rfl rfl ?_
  refine g_callSi (na := 2) X hj (k_X5_debtAt l γ _ _ _) gX5_repay_X5_debtAt rfl ⟨rfl, rfl⟩ (by decide +kernel) rfl ⟨by decide, by decide⟩ rfl (Nat.le_of_ble_eq_true rfl) dX5_repay_44 ⟨by decide, by decide⟩ ?_
  refine g_ald_24 X rfl (by omega) dX5_repay_47 ?_
  simp only [okM_24]
  refine g_iload_n X dX5_repay_48 rfl rfl ?_
  refine g_icmp_lt (tgt := 65) X dX5_repay_49 (by decide) (fun c_49 => absurd c_49 (Int32.not_lt.mpr h3)) (fun c_49 => ?_)
  refine g_aload_n X dX5_repay_52 rfl rfl ?_
  refine g_get_23_0 X hi5 (by decide +kernel) dX5_repay_53 ?_
  refine g_bipush (v := nI 9) X dX5_repay_56 (by decide) ?_
  refine g_iload_n X dX5_repay_58 rfl rfl ?_
  refine g_iaddN X dX5_repay_59 ?_
  refine g_ald_24 X rfl (by omega) dX5_repay_60 ?_
  simp only [okM_24]
  refine g_iload_n X dX5_repay_61 rfl rfl ?_
  refine g_icmp_ge (tgt := 71) X dX5_repay_62 (by decide) (fun c_62 => ?_) (fun c_62 => absurd h4 c_62)
  refine g_aload_n X dX5_repay_71 rfl rfl ?_
  refine g_callVv (na := 0) X hj (k_X5_save l γ _ n (okM_f hn (by decide)) hn6) gW_23 rfl gX5_repay_X5_save rfl ⟨rfl, rfl⟩ (by decide +kernel) rfl ⟨by decide, by decide⟩ rfl (Nat.le_of_ble_eq_true rfl) dX5_repay_72 ⟨by decide, by decide⟩ ?_
  refine g_eq rfl (σ' := unM σ n (σ.1 24)) (unM_0 σ n) ?_
  refine g_aload_n X dX5_repay_75 rfl rfl ?_
  refine g_get_23_0 X hi5 (by decide +kernel) dX5_repay_76 ?_
  refine g_bipush (v := nI 9) X dX5_repay_79 (by decide) ?_
  refine g_iload_n X dX5_repay_81 rfl rfl ?_
  refine g_iaddN X dX5_repay_82 ?_
  refine g_dup2_11 X dX5_repay_83 rfl rfl ?_
  refine g_ald_24 X rfl (by omega) dX5_repay_84 ?_
  simp only [unM_24]
  refine g_iload_n X dX5_repay_85 rfl rfl ?_
  refine g_isub X dX5_repay_86 ?_
  refine g_ast_24 X rfl (by omega) dX5_repay_87 ?_
  simp only [unM_s24]
  refine g_eq rfl (σ' := unM σ n (sb1 (σ.1 24) (9 + q) x)) rfl ?_
  refine g_aload_n X dX5_repay_88 rfl rfl ?_
  refine g_get_23_0 X hi5 (by decide +kernel) dX5_repay_89 ?_
  refine g_bipush (v := nI 9) X dX5_repay_92 (by decide) ?_
  refine g_iload_n X dX5_repay_94 rfl rfl ?_
  refine g_iaddN X dX5_repay_95 ?_
  refine g_dup2_11 X dX5_repay_96 rfl rfl ?_
  refine g_ald_24 X rfl (by omega) dX5_repay_97 ?_
  simp only [unM_24]
  refine g_iload_n X dX5_repay_98 rfl rfl ?_
  refine g_iadd X dX5_repay_99 ?_
  refine g_ast_24 X rfl (by omega) dX5_repay_100 ?_
  simp only [unM_s24]
  refine g_eq rfl (σ' := unM σ n (ad1 (sb1 (σ.1 24) (9 + q) x) (9 + o) x)) rfl ?_
  refine g_aload_n X dX5_repay_101 rfl rfl ?_
  refine g_get_23_0 X hi5 (by decide +kernel) dX5_repay_102 ?_
  refine g_iload_n X dX5_repay_105 rfl rfl ?_
  refine g_iload_n X dX5_repay_106 rfl rfl ?_
  refine g_callSi (na := 2) X hj (k_X5_debtAt l γ _ _ _) gX5_repay_X5_debtAt rfl ⟨rfl, rfl⟩ (by decide +kernel) rfl ⟨by decide, by decide⟩ rfl (Nat.le_of_ble_eq_true rfl) dX5_repay_107 ⟨by decide, by decide⟩ ?_
  refine g_dup2_11 X dX5_repay_110 rfl rfl ?_
  refine g_ald_24 X rfl (by omega) dX5_repay_111 ?_
  simp only [unM_24]
  refine g_iload_n X dX5_repay_112 rfl rfl ?_
  refine g_isub X dX5_repay_113 ?_
  refine g_ast_24 X rfl (by omega) dX5_repay_114 ?_
  simp only [unM_s24]
  refine g_eq rfl (σ' := unM σ n (sb1 (ad1 (sb1 (σ.1 24) (9 + q) x) (9 + o) x) (57 + 8 * q + o) x)) rfl ?_
  refine g_aload_n X dX5_repay_115 rfl rfl ?_
  refine g_get_23_0 X hi5 (by decide +kernel) dX5_repay_116 ?_
  refine g_iload_n X dX5_repay_119 rfl rfl ?_
  refine g_iload_n X dX5_repay_120 rfl rfl ?_
  refine g_callSi (na := 2) X hj (k_X5_debtAt l γ _ _ _) gX5_repay_X5_debtAt rfl ⟨rfl, rfl⟩ (by decide +kernel) rfl ⟨by decide, by decide⟩ rfl (Nat.le_of_ble_eq_true rfl) dX5_repay_121 ⟨by decide, by decide⟩ ?_
  refine g_ald_24 X rfl (by omega) dX5_repay_124 ?_
  simp only [unM_24]
  exact g_iret X hr hlk dX5_repay_125 ⟨rfl, rfl⟩
set_option maxRecDepth 20000 in
theorem k_X5_repay_1 (l : Launch) (γ : gG) (σ : gS) (y o x : Int32) (h : inB y (nI 0) (nI 7) = false) : gM l γ yX5_repay wsX5_repay ({ frames := 2, cells := 0, slots := 0, locals := 42 } : Room) [.ref (ad γ 23), .int y, .int o, .int x] σ (gis (some (.int (nI 0))) (sM σ 6 (nI 1))) 0 0 := by
  refine g_enter (own := RX5) (cc := cX5_repay) (nL := 4) (ret := (some .int)) [some (.ref (ad γ 23)), some (.int y), some (.int o), some (.int x)] (by decide) rfl rfl (by simp [lg_sl, Value.category]) (by simp [gl_le, glE, Value.category]) (fun hj p e s m args below meth c X hr hlk hnm => ?_)
  have hi5 : ∀ w ∈ wsX50, w ∈ wsX5_repay := by decide +kernel
  refine g_aload_n X dX5_repay_0 rfl rfl ?_
  refine g_iconstN X 0 dX5_repay_1 ?_
  refine g_put_23_6 X hi5 (by decide +kernel) dX5_repay_2 ?_
  refine g_eq rfl (σ' := okM σ) rfl ?_
  refine g_iload_n X dX5_repay_5 rfl rfl ?_
  refine g_callSi (na := 1) X hj (k_X5_isPerson l γ _ _) gX5_repay_X5_isPerson rfl ⟨rfl, rfl⟩ (by decide +kernel) rfl ⟨by decide, by decide⟩ rfl (Nat.le_of_ble_eq_true rfl) dX5_repay_6 ⟨by decide, by decide⟩ ?_
  refine g_if_eq (tgt := 19) X dX5_repay_9 (by decide) (fun c_9 => ?_) (fun c_9 => absurd (bI_0 h) c_9)
  refine g_aload_n X dX5_repay_19 rfl rfl ?_
  refine g_iconstN X 1 dX5_repay_20 ?_
  refine g_callVi (na := 1) X hj (k_X5_fails l γ _ _) gW_23 rfl gX5_repay_X5_fails rfl ⟨rfl, rfl⟩ (by decide +kernel) rfl ⟨by decide, by decide⟩ rfl (Nat.le_of_ble_eq_true rfl) dX5_repay_21 ⟨by decide, by decide⟩ ?_
  exact g_iret X hr hlk dX5_repay_24 ⟨rfl, sM_ok σ _⟩
set_option maxRecDepth 20000 in
theorem k_X5_repay_1o (l : Launch) (γ : gG) (σ : gS) (q : Nat) (o x : Int32) (hq : q < 8) (h : inB o (nI 0) (nI 7) = false) : gM l γ yX5_repay wsX5_repay ({ frames := 2, cells := 0, slots := 0, locals := 42 } : Room) [.ref (ad γ 23), .int (nI q), .int o, .int x] σ (gis (some (.int (nI 0))) (sM σ 6 (nI 1))) 0 0 := by
  refine g_enter (own := RX5) (cc := cX5_repay) (nL := 4) (ret := (some .int)) [some (.ref (ad γ 23)), some (.int (nI q)), some (.int o), some (.int x)] (by decide) rfl rfl (by simp [lg_sl, Value.category]) (by simp [gl_le, glE, Value.category]) (fun hj p e s m args below meth c X hr hlk hnm => ?_)
  have hi5 : ∀ w ∈ wsX50, w ∈ wsX5_repay := by decide +kernel
  refine g_aload_n X dX5_repay_0 rfl rfl ?_
  refine g_iconstN X 0 dX5_repay_1 ?_
  refine g_put_23_6 X hi5 (by decide +kernel) dX5_repay_2 ?_
  refine g_eq rfl (σ' := okM σ) rfl ?_
  refine g_iload_n X dX5_repay_5 rfl rfl ?_
  refine g_callSi (na := 1) X hj (k_X5_isPerson l γ _ _) gX5_repay_X5_isPerson rfl ⟨rfl, rfl⟩ (by decide +kernel) rfl ⟨by decide, by decide⟩ rfl (Nat.le_of_ble_eq_true rfl) dX5_repay_6 ⟨by decide, by decide⟩ ?_
  refine g_if_eq (tgt := 19) X dX5_repay_9 (by decide) (fun c_9 => absurd c_9 (bI_1 (inP (by omega) (by decide)))) (fun c_9 => ?_)
  refine g_iload_n X dX5_repay_12 rfl rfl ?_
  refine g_callSi (na := 1) X hj (k_X5_isPerson l γ _ _) gX5_repay_X5_isPerson rfl ⟨rfl, rfl⟩ (by decide +kernel) rfl ⟨by decide, by decide⟩ rfl (Nat.le_of_ble_eq_true rfl) dX5_repay_13 ⟨by decide, by decide⟩ ?_
  refine g_if_ne (tgt := 25) X dX5_repay_16 (by decide) (fun c_16 => absurd (bI_0 h) c_16) (fun c_16 => ?_)
  refine g_aload_n X dX5_repay_19 rfl rfl ?_
  refine g_iconstN X 1 dX5_repay_20 ?_
  refine g_callVi (na := 1) X hj (k_X5_fails l γ _ _) gW_23 rfl gX5_repay_X5_fails rfl ⟨rfl, rfl⟩ (by decide +kernel) rfl ⟨by decide, by decide⟩ rfl (Nat.le_of_ble_eq_true rfl) dX5_repay_21 ⟨by decide, by decide⟩ ?_
  exact g_iret X hr hlk dX5_repay_24 ⟨rfl, sM_ok σ _⟩
set_option maxRecDepth 20000 in
theorem k_X5_repay_2 (l : Launch) (γ : gG) (σ : gS) (q o : Nat) (x : Int32) (hq : q < 8) (ho : o < 8) (h1 : inB x (nI 1) (nI 99999) = false) : gM l γ yX5_repay wsX5_repay ({ frames := 2, cells := 0, slots := 0, locals := 42 } : Room) [.ref (ad γ 23), .int (nI q), .int (nI o), .int x] σ (gis (some (.int (nI 0))) (sM σ 6 (nI 2))) 0 0 := by
  refine g_enter (own := RX5) (cc := cX5_repay) (nL := 4) (ret := (some .int)) [some (.ref (ad γ 23)), some (.int (nI q)), some (.int (nI o)), some (.int x)] (by decide) rfl rfl (by simp [lg_sl, Value.category]) (by simp [gl_le, glE, Value.category]) (fun hj p e s m args below meth c X hr hlk hnm => ?_)
  have hi5 : ∀ w ∈ wsX50, w ∈ wsX5_repay := by decide +kernel
  refine g_aload_n X dX5_repay_0 rfl rfl ?_
  refine g_iconstN X 0 dX5_repay_1 ?_
  refine g_put_23_6 X hi5 (by decide +kernel) dX5_repay_2 ?_
  refine g_eq rfl (σ' := okM σ) rfl ?_
  refine g_iload_n X dX5_repay_5 rfl rfl ?_
  refine g_callSi (na := 1) X hj (k_X5_isPerson l γ _ _) gX5_repay_X5_isPerson rfl ⟨rfl, rfl⟩ (by decide +kernel) rfl ⟨by decide, by decide⟩ rfl (Nat.le_of_ble_eq_true rfl) dX5_repay_6 ⟨by decide, by decide⟩ ?_
  refine g_if_eq (tgt := 19) X dX5_repay_9 (by decide) (fun c_9 => absurd c_9 (bI_1 (inP (by omega) (by decide)))) (fun c_9 => ?_)
  refine g_iload_n X dX5_repay_12 rfl rfl ?_
  refine g_callSi (na := 1) X hj (k_X5_isPerson l γ _ _) gX5_repay_X5_isPerson rfl ⟨rfl, rfl⟩ (by decide +kernel) rfl ⟨by decide, by decide⟩ rfl (Nat.le_of_ble_eq_true rfl) dX5_repay_13 ⟨by decide, by decide⟩ ?_
  refine g_if_ne (tgt := 25) X dX5_repay_16 (by decide) (fun c_16 => ?_) (fun c_16 => absurd c_16 (bI_1 (inP (by omega) (by decide))))
  refine g_iload_n X dX5_repay_25 rfl rfl ?_
  refine g_callSi (na := 1) X hj (k_X5_isMoney l γ _ _) gX5_repay_X5_isMoney rfl ⟨rfl, rfl⟩ (by decide +kernel) rfl ⟨by decide, by decide⟩ rfl (Nat.le_of_ble_eq_true rfl) dX5_repay_26 ⟨by decide, by decide⟩ ?_
  refine g_if_ne (tgt := 38) X dX5_repay_29 (by decide) (fun c_29 => absurd (bI_0 h1) c_29) (fun c_29 => ?_)
  refine g_aload_n X dX5_repay_32 rfl rfl ?_
  refine g_iconstN X 2 dX5_repay_33 ?_
  refine g_callVi (na := 1) X hj (k_X5_fails l γ _ _) gW_23 rfl gX5_repay_X5_fails rfl ⟨rfl, rfl⟩ (by decide +kernel) rfl ⟨by decide, by decide⟩ rfl (Nat.le_of_ble_eq_true rfl) dX5_repay_34 ⟨by decide, by decide⟩ ?_
  exact g_iret X hr hlk dX5_repay_37 ⟨rfl, sM_ok σ _⟩
set_option maxRecDepth 20000 in
theorem k_X5_repay_3 (l : Launch) (γ : gG) (σ : gS) (q o : Nat) (x : Int32) (hq : q < 8) (ho : o < 8) (h1 : inB x (nI 1) (nI 99999) = true) (h : σ.1 24 (57 + 8 * q + o) < x ∨ σ.1 24 (9 + q) < x) : gM l γ yX5_repay wsX5_repay ({ frames := 2, cells := 0, slots := 0, locals := 42 } : Room) [.ref (ad γ 23), .int (nI q), .int (nI o), .int x] σ (gis (some (.int (nI 0))) (sM σ 6 (nI 3))) 0 0 := by
  refine g_enter (own := RX5) (cc := cX5_repay) (nL := 4) (ret := (some .int)) [some (.ref (ad γ 23)), some (.int (nI q)), some (.int (nI o)), some (.int x)] (by decide) rfl rfl (by simp [lg_sl, Value.category]) (by simp [gl_le, glE, Value.category]) (fun hj p e s m args below meth c X hr hlk hnm => ?_)
  have hi5 : ∀ w ∈ wsX50, w ∈ wsX5_repay := by decide +kernel
  refine g_aload_n X dX5_repay_0 rfl rfl ?_
  refine g_iconstN X 0 dX5_repay_1 ?_
  refine g_put_23_6 X hi5 (by decide +kernel) dX5_repay_2 ?_
  refine g_eq rfl (σ' := okM σ) rfl ?_
  refine g_iload_n X dX5_repay_5 rfl rfl ?_
  refine g_callSi (na := 1) X hj (k_X5_isPerson l γ _ _) gX5_repay_X5_isPerson rfl ⟨rfl, rfl⟩ (by decide +kernel) rfl ⟨by decide, by decide⟩ rfl (Nat.le_of_ble_eq_true rfl) dX5_repay_6 ⟨by decide, by decide⟩ ?_
  refine g_if_eq (tgt := 19) X dX5_repay_9 (by decide) (fun c_9 => absurd c_9 (bI_1 (inP (by omega) (by decide)))) (fun c_9 => ?_)
  refine g_iload_n X dX5_repay_12 rfl rfl ?_
  refine g_callSi (na := 1) X hj (k_X5_isPerson l γ _ _) gX5_repay_X5_isPerson rfl ⟨rfl, rfl⟩ (by decide +kernel) rfl ⟨by decide, by decide⟩ rfl (Nat.le_of_ble_eq_true rfl) dX5_repay_13 ⟨by decide, by decide⟩ ?_
  refine g_if_ne (tgt := 25) X dX5_repay_16 (by decide) (fun c_16 => ?_) (fun c_16 => absurd c_16 (bI_1 (inP (by omega) (by decide))))
  refine g_iload_n X dX5_repay_25 rfl rfl ?_
  refine g_callSi (na := 1) X hj (k_X5_isMoney l γ _ _) gX5_repay_X5_isMoney rfl ⟨rfl, rfl⟩ (by decide +kernel) rfl ⟨by decide, by decide⟩ rfl (Nat.le_of_ble_eq_true rfl) dX5_repay_26 ⟨by decide, by decide⟩ ?_
  refine g_if_ne (tgt := 38) X dX5_repay_29 (by decide) (fun c_29 => ?_) (fun c_29 => absurd c_29 (bI_1 h1))
  refine g_aload_n X dX5_repay_38 rfl rfl ?_
  refine g_get_23_0 X hi5 (by decide +kernel) dX5_repay_39 ?_
  refine g_iload_n X dX5_repay_42 rfl rfl ?_
  refine g_iload_n X dX5_repay_43 rfl rfl ?_
  refine g_callSi (na := 2) X hj (k_X5_debtAt l γ _ _ _) gX5_repay_X5_debtAt rfl ⟨rfl, rfl⟩ (by decide +kernel) rfl ⟨by decide, by decide⟩ rfl (Nat.le_of_ble_eq_true rfl) dX5_repay_44 ⟨by decide, by decide⟩ ?_
  refine g_ald_24 X rfl (by omega) dX5_repay_47 ?_
  simp only [okM_24]
  refine g_iload_n X dX5_repay_48 rfl rfl ?_
  refine g_icmp_lt (tgt := 65) X dX5_repay_49 (by decide) (fun c_49 => ?_) (fun c_49 => ?_)
  · refine g_aload_n X dX5_repay_65 rfl rfl ?_
    refine g_iconstN X 3 dX5_repay_66 ?_
    refine g_callVi (na := 1) X hj (k_X5_fails l γ _ _) gW_23 rfl gX5_repay_X5_fails rfl ⟨rfl, rfl⟩ (by decide +kernel) rfl ⟨by decide, by decide⟩ rfl (Nat.le_of_ble_eq_true rfl) dX5_repay_67 ⟨by decide, by decide⟩ ?_
    exact g_iret X hr hlk dX5_repay_70 ⟨rfl, sM_ok σ _⟩
  · refine g_aload_n X dX5_repay_52 rfl rfl ?_
    refine g_get_23_0 X hi5 (by decide +kernel) dX5_repay_53 ?_
    refine g_bipush (v := nI 9) X dX5_repay_56 (by decide) ?_
    refine g_iload_n X dX5_repay_58 rfl rfl ?_
    refine g_iaddN X dX5_repay_59 ?_
    refine g_ald_24 X rfl (by omega) dX5_repay_60 ?_
    simp only [okM_24]
    refine g_iload_n X dX5_repay_61 rfl rfl ?_
    refine g_icmp_ge (tgt := 71) X dX5_repay_62 (by decide) (fun c_62 => h.elim (fun w => absurd w c_49) (fun w => absurd c_62 (Int32.not_le.mpr w))) (fun c_62 => ?_)
    refine g_aload_n X dX5_repay_65 rfl rfl ?_
    refine g_iconstN X 3 dX5_repay_66 ?_
    refine g_callVi (na := 1) X hj (k_X5_fails l γ _ _) gW_23 rfl gX5_repay_X5_fails rfl ⟨rfl, rfl⟩ (by decide +kernel) rfl ⟨by decide, by decide⟩ rfl (Nat.le_of_ble_eq_true rfl) dX5_repay_67 ⟨by decide, by decide⟩ ?_
    exact g_iret X hr hlk dX5_repay_70 ⟨rfl, sM_ok σ _⟩
set_option maxRecDepth 20000 in
theorem k_X5_set (l : Launch) (γ : gG) (σ : gS) (k : Nat) (x : Int32) (hk : k < 3) (h1 : maB (nI k) x = true) (n : Nat) (hn : σ.1 23 3 = nI n) (hn6 : n ≤ 6) : gM l γ yX5_set wsX5_set ({ frames := 2, cells := 0, slots := 0, locals := 43 } : Room) [.ref (ad γ 23), .int (nI k), .int x] σ (gis (some (.int (σ.1 24 (6 + k)))) (unM σ n (upd (σ.1 24) (6 + k) x))) 0 0 := by
  refine g_enter (own := RX5) (cc := cX5_set) (nL := 4) (ret := (some .int)) [some (.ref (ad γ 23)), some (.int (nI k)), some (.int x), none] (by decide) rfl rfl (by simp [lg_sl, Value.category]) (by simp [gl_le, glE, Value.category]) (fun hj p e s m args below meth c X hr hlk hnm => ?_)
  have hi5 : ∀ w ∈ wsX50, w ∈ wsX5_set := by decide +kernel
  refine g_aload_n X dX5_set_0 rfl rfl ?_
  refine g_iconstN X 0 dX5_set_1 ?_
  refine g_put_23_6 X hi5 (by decide +kernel) dX5_set_2 ?_
  refine g_eq rfl (σ' := okM σ) rfl ?_
  refine g_iload_n X dX5_set_5 rfl rfl ?_
  refine g_iconstN X 0 dX5_set_6 ?_
  refine g_iconstN X 2 dX5_set_7 ?_
  refine g_callSi (na := 3) X hj (k_X5_in l γ _ _ _ _) gX5_set_X5_in rfl ⟨rfl, rfl⟩ (by decide +kernel) rfl ⟨by decide, by decide⟩ rfl (Nat.le_of_ble_eq_true rfl) dX5_set_8 ⟨by decide, by decide⟩ ?_
  refine g_if_ne (tgt := 20) X dX5_set_11 (by decide) (fun c_11 => ?_) (fun c_11 => absurd c_11 (bI_1 (inP (by omega) (by decide))))
  refine g_iload_n X dX5_set_20 rfl rfl ?_
  refine g_iload_n X dX5_set_21 rfl rfl ?_
  refine g_callSi (na := 2) X hj (k_X5_maySet l γ _ _ _) gX5_set_X5_maySet rfl ⟨rfl, rfl⟩ (by decide +kernel) rfl ⟨by decide, by decide⟩ rfl (Nat.le_of_ble_eq_true rfl) dX5_set_22 ⟨by decide, by decide⟩ ?_
  refine g_if_ne (tgt := 34) X dX5_set_25 (by decide) (fun c_25 => ?_) (fun c_25 => absurd c_25 (bI_1 h1))
  refine g_aload_n X dX5_set_34 rfl rfl ?_
  refine g_callVv (na := 0) X hj (k_X5_save l γ _ n (okM_f hn (by decide)) hn6) gW_23 rfl gX5_set_X5_save rfl ⟨rfl, rfl⟩ (by decide +kernel) rfl ⟨by decide, by decide⟩ rfl (Nat.le_of_ble_eq_true rfl) dX5_set_35 ⟨by decide, by decide⟩ ?_
  refine g_eq rfl (σ' := unM σ n (σ.1 24)) (unM_0 σ n) ?_
  refine g_aload_n X dX5_set_38 rfl rfl ?_
  refine g_get_23_0 X hi5 (by decide +kernel) dX5_set_39 ?_
  refine g_bipush (v := nI 6) X dX5_set_42 (by decide) ?_
  refine g_iload_n X dX5_set_44 rfl rfl ?_
  refine g_iaddN X dX5_set_45 ?_
  refine g_ald_24 X rfl (by omega) dX5_set_46 ?_
  simp only [unM_24]
  refine g_istore_n3 X dX5_set_47 rfl (by decide) rfl ?_
  refine g_aload_n X dX5_set_48 rfl rfl ?_
  refine g_get_23_0 X hi5 (by decide +kernel) dX5_set_49 ?_
  refine g_bipush (v := nI 6) X dX5_set_52 (by decide) ?_
  refine g_iload_n X dX5_set_54 rfl rfl ?_
  refine g_iaddN X dX5_set_55 ?_
  refine g_iload_n X dX5_set_56 rfl rfl ?_
  refine g_ast_24 X rfl (by omega) dX5_set_57 ?_
  simp only [unM_s24]
  refine g_eq rfl (σ' := unM σ n (upd (σ.1 24) (6 + k) x)) rfl ?_
  refine g_iload_n X dX5_set_58 rfl rfl ?_
  exact g_iret X hr hlk dX5_set_59 ⟨rfl, rfl⟩
set_option maxRecDepth 20000 in
theorem k_X5_set_1 (l : Launch) (γ : gG) (σ : gS) (y x : Int32) (h : inB y (nI 0) (nI 2) = false) : gM l γ yX5_set wsX5_set ({ frames := 2, cells := 0, slots := 0, locals := 43 } : Room) [.ref (ad γ 23), .int y, .int x] σ (gis (some (.int (nI 0))) (sM σ 6 (nI 1))) 0 0 := by
  refine g_enter (own := RX5) (cc := cX5_set) (nL := 4) (ret := (some .int)) [some (.ref (ad γ 23)), some (.int y), some (.int x), none] (by decide) rfl rfl (by simp [lg_sl, Value.category]) (by simp [gl_le, glE, Value.category]) (fun hj p e s m args below meth c X hr hlk hnm => ?_)
  have hi5 : ∀ w ∈ wsX50, w ∈ wsX5_set := by decide +kernel
  refine g_aload_n X dX5_set_0 rfl rfl ?_
  refine g_iconstN X 0 dX5_set_1 ?_
  refine g_put_23_6 X hi5 (by decide +kernel) dX5_set_2 ?_
  refine g_eq rfl (σ' := okM σ) rfl ?_
  refine g_iload_n X dX5_set_5 rfl rfl ?_
  refine g_iconstN X 0 dX5_set_6 ?_
  refine g_iconstN X 2 dX5_set_7 ?_
  refine g_callSi (na := 3) X hj (k_X5_in l γ _ _ _ _) gX5_set_X5_in rfl ⟨rfl, rfl⟩ (by decide +kernel) rfl ⟨by decide, by decide⟩ rfl (Nat.le_of_ble_eq_true rfl) dX5_set_8 ⟨by decide, by decide⟩ ?_
  refine g_if_ne (tgt := 20) X dX5_set_11 (by decide) (fun c_11 => absurd (bI_0 h) c_11) (fun c_11 => ?_)
  refine g_aload_n X dX5_set_14 rfl rfl ?_
  refine g_iconstN X 1 dX5_set_15 ?_
  refine g_callVi (na := 1) X hj (k_X5_fails l γ _ _) gW_23 rfl gX5_set_X5_fails rfl ⟨rfl, rfl⟩ (by decide +kernel) rfl ⟨by decide, by decide⟩ rfl (Nat.le_of_ble_eq_true rfl) dX5_set_16 ⟨by decide, by decide⟩ ?_
  exact g_iret X hr hlk dX5_set_19 ⟨rfl, sM_ok σ _⟩
set_option maxRecDepth 20000 in
theorem k_X5_set_2 (l : Launch) (γ : gG) (σ : gS) (k : Nat) (x : Int32) (hk : k < 3) (h1 : maB (nI k) x = false) : gM l γ yX5_set wsX5_set ({ frames := 2, cells := 0, slots := 0, locals := 43 } : Room) [.ref (ad γ 23), .int (nI k), .int x] σ (gis (some (.int (nI 0))) (sM σ 6 (nI 2))) 0 0 := by
  refine g_enter (own := RX5) (cc := cX5_set) (nL := 4) (ret := (some .int)) [some (.ref (ad γ 23)), some (.int (nI k)), some (.int x), none] (by decide) rfl rfl (by simp [lg_sl, Value.category]) (by simp [gl_le, glE, Value.category]) (fun hj p e s m args below meth c X hr hlk hnm => ?_)
  have hi5 : ∀ w ∈ wsX50, w ∈ wsX5_set := by decide +kernel
  refine g_aload_n X dX5_set_0 rfl rfl ?_
  refine g_iconstN X 0 dX5_set_1 ?_
  refine g_put_23_6 X hi5 (by decide +kernel) dX5_set_2 ?_
  refine g_eq rfl (σ' := okM σ) rfl ?_
  refine g_iload_n X dX5_set_5 rfl rfl ?_
  refine g_iconstN X 0 dX5_set_6 ?_
  refine g_iconstN X 2 dX5_set_7 ?_
  refine g_callSi (na := 3) X hj (k_X5_in l γ _ _ _ _) gX5_set_X5_in rfl ⟨rfl, rfl⟩ (by decide +kernel) rfl ⟨by decide, by decide⟩ rfl (Nat.le_of_ble_eq_true rfl) dX5_set_8 ⟨by decide, by decide⟩ ?_
  refine g_if_ne (tgt := 20) X dX5_set_11 (by decide) (fun c_11 => ?_) (fun c_11 => absurd c_11 (bI_1 (inP (by omega) (by decide))))
  refine g_iload_n X dX5_set_20 rfl rfl ?_
  refine g_iload_n X dX5_set_21 rfl rfl ?_
  refine g_callSi (na := 2) X hj (k_X5_maySet l γ _ _ _) gX5_set_X5_maySet rfl ⟨rfl, rfl⟩ (by decide +kernel) rfl ⟨by decide, by decide⟩ rfl (Nat.le_of_ble_eq_true rfl) dX5_set_22 ⟨by decide, by decide⟩ ?_
  refine g_if_ne (tgt := 34) X dX5_set_25 (by decide) (fun c_25 => absurd (bI_0 h1) c_25) (fun c_25 => ?_)
  refine g_aload_n X dX5_set_28 rfl rfl ?_
  refine g_iconstN X 2 dX5_set_29 ?_
  refine g_callVi (na := 1) X hj (k_X5_fails l γ _ _) gW_23 rfl gX5_set_X5_fails rfl ⟨rfl, rfl⟩ (by decide +kernel) rfl ⟨by decide, by decide⟩ rfl (Nat.le_of_ble_eq_true rfl) dX5_set_30 ⟨by decide, by decide⟩ ?_
  exact g_iret X hr hlk dX5_set_33 ⟨rfl, sM_ok σ _⟩
set_option maxRecDepth 20000 in
theorem k_X5_release (l : Launch) (γ : gG) (σ : gS) (b L : Nat) (hb : b < 10) (hL : σ.1 24 (121 + 31 * b + 3) = nI L) (hL4 : L ≤ 4) (x : Int32) : gM l γ yX5_release wsX5_release ({ frames := 4, cells := 0, slots := 0, locals := 88 } : Room) [.ref (ad γ 23), .int (nI b), .int x] σ (gis (some (.int (mn (lfZ (σ.1 24) b) x))) (sA σ 24 (rlZ (σ.1 24) b L (mn (lfZ (σ.1 24) b) x)))) 0 0 := by
  refine g_enter (own := RX5) (cc := cX5_release) (nL := 4) (ret := (some .int)) [some (.ref (ad γ 23)), some (.int (nI b)), some (.int x), none] (by decide) rfl rfl (by simp [lg_sl, Value.category]) (by simp [gl_le, glE, Value.category]) (fun hj p e s m args below meth c X hr hlk hnm => ?_)
  have hi5 : ∀ w ∈ wsX50, w ∈ wsX5_release := by decide +kernel
  refine g_iload_n X dX5_release_0 rfl rfl ?_
  refine g_aload_n X dX5_release_1 rfl rfl ?_
  refine g_iload_n X dX5_release_2 rfl rfl ?_
  refine g_callVi (na := 1) X hj (k_X5_leftOf l γ _ _ (by omega)) gW_23 rfl gX5_release_X5_leftOf rfl ⟨rfl, rfl⟩ (by decide +kernel) rfl ⟨by decide, by decide⟩ rfl (Nat.le_of_ble_eq_true rfl) dX5_release_3 ⟨by decide, by decide⟩ ?_
  refine g_callSi (na := 2) X hj (k_X5_least l γ _ _ _) gX5_release_X5_least rfl ⟨rfl, rfl⟩ (by decide +kernel) rfl ⟨by decide, by decide⟩ rfl (Nat.le_of_ble_eq_true rfl) dX5_release_6 ⟨by decide, by decide⟩ ?_
  refine g_top (y := (mn (lfZ (σ.1 24) b) x)) rfl ?_
  refine g_istore_n3 X dX5_release_9 rfl (by decide) rfl ?_
  refine g_aload_n X dX5_release_10 rfl rfl ?_
  refine g_get_23_0 X hi5 (by decide +kernel) dX5_release_11 ?_
  refine g_iload_n X dX5_release_14 rfl rfl ?_
  refine g_callSi (na := 1) X hj (k_X5_at l γ _ _) gX5_release_X5_at rfl ⟨rfl, rfl⟩ (by decide +kernel) rfl ⟨by decide, by decide⟩ rfl (Nat.le_of_ble_eq_true rfl) dX5_release_15 ⟨by decide, by decide⟩ ?_
  refine g_bipush (v := nI 8) X dX5_release_18 (by decide) ?_
  refine g_iaddN X dX5_release_20 ?_
  refine g_dup2_11 X dX5_release_21 rfl rfl ?_
  refine g_ald_24 X rfl (by omega) dX5_release_22 ?_
  refine g_iload_n X dX5_release_23 rfl rfl ?_
  refine g_iadd X dX5_release_24 ?_
  refine g_ast_24 X rfl (by omega) dX5_release_25 ?_
  refine g_eq rfl (σ' := sA σ 24 (ad1 (σ.1 24) (121 + 31 * b + 8) (mn (lfZ (σ.1 24) b) x))) rfl ?_
  refine g_aload_n X dX5_release_26 rfl rfl ?_
  refine g_get_23_0 X hi5 (by decide +kernel) dX5_release_27 ?_
  refine g_iconstN X 5 dX5_release_30 ?_
  refine g_dup2_11 X dX5_release_31 rfl rfl ?_
  refine g_ald_24 X rfl (by omega) dX5_release_32 ?_
  simp only [sA_eq]
  refine g_iload_n X dX5_release_33 rfl rfl ?_
  refine g_iadd X dX5_release_34 ?_
  refine g_ast_24 X rfl (by omega) dX5_release_35 ?_
  simp only [sA_sA, sA_eq]
  refine g_eq rfl (σ' := sA σ 24 (ad1 (ad1 (σ.1 24) (121 + 31 * b + 8) (mn (lfZ (σ.1 24) b) x)) 5 (mn (lfZ (σ.1 24) b) x))) rfl ?_
  refine g_aload_n X dX5_release_36 rfl rfl ?_
  refine g_iload_n X dX5_release_37 rfl rfl ?_
  refine g_callVv (na := 1) X hj (k_X5_trim l γ _ b L hb (by rw [sA_eq, ad1_ne (by omega), ad1_ne (by omega)]; exact hL) hL4) gW_23 rfl gX5_release_X5_trim rfl ⟨rfl, rfl⟩ (by decide +kernel) rfl ⟨by decide, by decide⟩ rfl (Nat.le_of_ble_eq_true rfl) dX5_release_38 ⟨by decide, by decide⟩ ?_
  simp only [sA_sA, sA_eq]
  refine g_iload_n X dX5_release_41 rfl rfl ?_
  exact g_iret X hr hlk dX5_release_42 ⟨rfl, rfl⟩
theorem isB_1 {z : Nat → Int32} {b N : Nat} (hN : z 0 = nI N) (hb : b < N) (hN10 : N ≤ 10) : inB (nI b) (nI 0) (z 0 - nI 1) = true := by
  rw [hN, pk_sub (by omega)]
  exact inP (by omega) (by omega)
set_option maxRecDepth 20000 in
theorem k_X5_reach (l : Launch) (γ : gG) (σ : gS) (b L : Nat) (hb : b < 10) (hL : σ.1 24 (121 + 31 * b + 3) = nI L) (hL4 : L ≤ 4) (N : Nat) (hN : σ.1 24 0 = nI N) (hN10 : N ≤ 10) (hbN : b < N) (hru : ruB (σ.1 24) b = true) (k w : Nat) (hk : σ.1 24 (121 + 31 * b + 5) = nI k) (hw : σ.1 24 (121 + 31 * b + 4) = nI w) (hkw : k < w) (hw5 : w ≤ 5) (n : Nat) (hn : σ.1 23 3 = nI n) (hn6 : n ≤ 6) : gM l γ yX5_reach wsX5_reach ({ frames := 5, cells := 0, slots := 0, locals := 111 } : Room) [.ref (ad γ 23), .int (nI b)] σ (gis (some (.int (mn (lfZ (upd (σ.1 24) (121 + 31 * b + 5) (nI (k + 1))) b) (reM (σ.1 24) b k)))) (unM σ n (rlZ (upd (σ.1 24) (121 + 31 * b + 5) (nI (k + 1))) b L (mn (lfZ (upd (σ.1 24) (121 + 31 * b + 5) (nI (k + 1))) b) (reM (σ.1 24) b k))))) 0 0 := by
  refine g_enter (own := RX5) (cc := cX5_reach) (nL := 4) (ret := (some .int)) [some (.ref (ad γ 23)), some (.int (nI b)), none, none] (by decide) rfl rfl (by simp [lg_sl, Value.category]) (by simp [gl_le, glE, Value.category]) (fun hj p e s m args below meth c X hr hlk hnm => ?_)
  have hi5 : ∀ w ∈ wsX50, w ∈ wsX5_reach := by decide +kernel
  refine g_aload_n X dX5_reach_0 rfl rfl ?_
  refine g_iconstN X 0 dX5_reach_1 ?_
  refine g_put_23_6 X hi5 (by decide +kernel) dX5_reach_2 ?_
  refine g_eq rfl (σ' := okM σ) rfl ?_
  refine g_aload_n X dX5_reach_5 rfl rfl ?_
  refine g_iload_n X dX5_reach_6 rfl rfl ?_
  refine g_callVi (na := 1) X hj (k_X5_isBond l γ _ _) gW_23 rfl gX5_reach_X5_isBond rfl ⟨rfl, rfl⟩ (by decide +kernel) rfl ⟨by decide, by decide⟩ rfl (Nat.le_of_ble_eq_true rfl) dX5_reach_7 ⟨by decide, by decide⟩ ?_
  refine g_if_ne (tgt := 19) X dX5_reach_10 (by decide) (fun c_10 => ?_) (fun c_10 => absurd c_10 (bI_1 (isB_1 hN hbN hN10)))
  refine g_iload_n X dX5_reach_19 rfl rfl ?_
  refine g_callSi (na := 1) X hj (k_X5_at l γ _ _) gX5_reach_X5_at rfl ⟨rfl, rfl⟩ (by decide +kernel) rfl ⟨by decide, by decide⟩ rfl (Nat.le_of_ble_eq_true rfl) dX5_reach_20 ⟨by decide, by decide⟩ ?_
  refine g_istore_n2 X dX5_reach_23 rfl (by decide) rfl ?_
  refine g_aload_n X dX5_reach_24 rfl rfl ?_
  refine g_iload_n X dX5_reach_25 rfl rfl ?_
  refine g_callVi (na := 1) X hj (k_X5_runs l γ _ _ (by omega)) gW_23 rfl gX5_reach_X5_runs rfl ⟨rfl, rfl⟩ (by decide +kernel) rfl ⟨by decide, by decide⟩ rfl (Nat.le_of_ble_eq_true rfl) dX5_reach_26 ⟨by decide, by decide⟩ ?_
  refine g_if_eq (tgt := 51) X dX5_reach_29 (by decide) (fun c_29 => absurd c_29 (bI_1 hru)) (fun c_29 => ?_)
  refine g_aload_n X dX5_reach_32 rfl rfl ?_
  refine g_get_23_0 X hi5 (by decide +kernel) dX5_reach_33 ?_
  refine g_iload_n X dX5_reach_36 rfl rfl ?_
  refine g_iconstN X 5 dX5_reach_37 ?_
  refine g_iaddN X dX5_reach_38 ?_
  refine g_ald_24 X rfl (by omega) dX5_reach_39 ?_
  refine g_top (y := nI k) hk ?_
  refine g_aload_n X dX5_reach_40 rfl rfl ?_
  refine g_get_23_0 X hi5 (by decide +kernel) dX5_reach_41 ?_
  refine g_iload_n X dX5_reach_44 rfl rfl ?_
  refine g_iconstN X 4 dX5_reach_45 ?_
  refine g_iaddN X dX5_reach_46 ?_
  refine g_ald_24 X rfl (by omega) dX5_reach_47 ?_
  refine g_top (y := nI w) hw ?_
  refine g_icmpN_ne (tgt := 57) X dX5_reach_48 (by decide) (by omega) (by omega) (fun c_48 => ?_) (fun c_48 => absurd c_48 (by omega))
  refine g_aload_n X dX5_reach_57 rfl rfl ?_
  refine g_callVv (na := 0) X hj (k_X5_save l γ _ n (okM_f hn (by decide)) hn6) gW_23 rfl gX5_reach_X5_save rfl ⟨rfl, rfl⟩ (by decide +kernel) rfl ⟨by decide, by decide⟩ rfl (Nat.le_of_ble_eq_true rfl) dX5_reach_58 ⟨by decide, by decide⟩ ?_
  refine g_eq rfl (σ' := unM σ n (σ.1 24)) (unM_0 σ n) ?_
  refine g_aload_n X dX5_reach_61 rfl rfl ?_
  refine g_get_23_0 X hi5 (by decide +kernel) dX5_reach_62 ?_
  refine g_iload_n X dX5_reach_65 rfl rfl ?_
  refine g_iconstN X 1 dX5_reach_66 ?_
  refine g_iaddN X dX5_reach_67 ?_
  refine g_ald_24 X rfl (by omega) dX5_reach_68 ?_
  simp only [unM_24]
  refine g_i2l X dX5_reach_69 rfl ?_
  refine g_aload_n X dX5_reach_70 rfl rfl ?_
  refine g_get_23_0 X hi5 (by decide +kernel) dX5_reach_71 ?_
  refine g_iload_n X dX5_reach_74 rfl rfl ?_
  refine g_bipush (v := nI 10) X dX5_reach_75 (by decide) ?_
  refine g_iaddN X dX5_reach_77 ?_
  refine g_aload_n X dX5_reach_78 rfl rfl ?_
  refine g_get_23_0 X hi5 (by decide +kernel) dX5_reach_79 ?_
  refine g_iload_n X dX5_reach_82 rfl rfl ?_
  refine g_iconstN X 5 dX5_reach_83 ?_
  refine g_iaddN X dX5_reach_84 ?_
  refine g_ald_24 X rfl (by omega) dX5_reach_85 ?_
  refine g_top (y := nI k) hk ?_
  refine g_iaddN X dX5_reach_86 ?_
  refine g_ald_24 X rfl (by omega) dX5_reach_87 ?_
  simp only [unM_24]
  refine g_i2l X dX5_reach_88 rfl ?_
  refine g_lmul X dX5_reach_89 ?_
  refine g_ldc2 (v := 1000) X (by decide +kernel) dX5_reach_90 ?_
  refine g_ldiv X dX5_reach_93 (by decide) ?_
  refine g_l2i X dX5_reach_94 rfl ?_
  refine g_istore_n3 X dX5_reach_95 rfl (by decide) rfl ?_
  refine g_aload_n X dX5_reach_96 rfl rfl ?_
  refine g_get_23_0 X hi5 (by decide +kernel) dX5_reach_97 ?_
  refine g_iload_n X dX5_reach_100 rfl rfl ?_
  refine g_iconstN X 5 dX5_reach_101 ?_
  refine g_iaddN X dX5_reach_102 ?_
  refine g_dup2_11 X dX5_reach_103 rfl rfl ?_
  refine g_ald_24 X rfl (by omega) dX5_reach_104 ?_
  refine g_top (y := nI k) hk ?_
  refine g_iconstN X 1 dX5_reach_105 ?_
  refine g_iaddN X dX5_reach_106 ?_
  refine g_ast_24 X rfl (by omega) dX5_reach_107 ?_
  simp only [unM_s24]
  refine g_eq rfl (σ' := unM σ n (upd (σ.1 24) (121 + 31 * b + 5) (nI (k + 1)))) rfl ?_
  refine g_aload_n X dX5_reach_108 rfl rfl ?_
  refine g_iload_n X dX5_reach_109 rfl rfl ?_
  refine g_iload_n X dX5_reach_110 rfl rfl ?_
  refine g_callVi (na := 2) X hj (k_X5_release l γ _ b L hb (by rw [unM_24, pk_un (by omega)]; exact hL) hL4 _) gW_23 rfl gX5_reach_X5_release rfl ⟨rfl, rfl⟩ (by decide +kernel) rfl ⟨by decide, by decide⟩ rfl (Nat.le_of_ble_eq_true rfl) dX5_reach_111 ⟨by decide, by decide⟩ ?_
  simp only [unM_s24, unM_24]
  exact g_iret X hr hlk dX5_reach_114 ⟨rfl, rfl⟩
set_option maxRecDepth 20000 in
theorem k_X5_reach_1 (l : Launch) (γ : gG) (σ : gS) (y : Int32) (h : inB y (nI 0) (σ.1 24 0 - nI 1) = false) : gM l γ yX5_reach wsX5_reach ({ frames := 5, cells := 0, slots := 0, locals := 111 } : Room) [.ref (ad γ 23), .int y] σ (gis (some (.int (nI 0))) (sM σ 6 (nI 1))) 0 0 := by
  refine g_enter (own := RX5) (cc := cX5_reach) (nL := 4) (ret := (some .int)) [some (.ref (ad γ 23)), some (.int y), none, none] (by decide) rfl rfl (by simp [lg_sl, Value.category]) (by simp [gl_le, glE, Value.category]) (fun hj p e s m args below meth c X hr hlk hnm => ?_)
  have hi5 : ∀ w ∈ wsX50, w ∈ wsX5_reach := by decide +kernel
  refine g_aload_n X dX5_reach_0 rfl rfl ?_
  refine g_iconstN X 0 dX5_reach_1 ?_
  refine g_put_23_6 X hi5 (by decide +kernel) dX5_reach_2 ?_
  refine g_eq rfl (σ' := okM σ) rfl ?_
  refine g_aload_n X dX5_reach_5 rfl rfl ?_
  refine g_iload_n X dX5_reach_6 rfl rfl ?_
  refine g_callVi (na := 1) X hj (k_X5_isBond l γ _ _) gW_23 rfl gX5_reach_X5_isBond rfl ⟨rfl, rfl⟩ (by decide +kernel) rfl ⟨by decide, by decide⟩ rfl (Nat.le_of_ble_eq_true rfl) dX5_reach_7 ⟨by decide, by decide⟩ ?_
  refine g_if_ne (tgt := 19) X dX5_reach_10 (by decide) (fun c_10 => absurd (bI_0 h) c_10) (fun c_10 => ?_)
  refine g_aload_n X dX5_reach_13 rfl rfl ?_
  refine g_iconstN X 1 dX5_reach_14 ?_
  refine g_callVi (na := 1) X hj (k_X5_fails l γ _ _) gW_23 rfl gX5_reach_X5_fails rfl ⟨rfl, rfl⟩ (by decide +kernel) rfl ⟨by decide, by decide⟩ rfl (Nat.le_of_ble_eq_true rfl) dX5_reach_15 ⟨by decide, by decide⟩ ?_
  exact g_iret X hr hlk dX5_reach_18 ⟨rfl, sM_ok σ _⟩
set_option maxRecDepth 20000 in
theorem k_X5_reach_2 (l : Launch) (γ : gG) (σ : gS) (b L : Nat) (hb : b < 10) (hL : σ.1 24 (121 + 31 * b + 3) = nI L) (hL4 : L ≤ 4) (N : Nat) (hN : σ.1 24 0 = nI N) (hN10 : N ≤ 10) (hbN : b < N) (h : ruB (σ.1 24) b = false ∨ σ.1 24 (121 + 31 * b + 5) = σ.1 24 (121 + 31 * b + 4)) : gM l γ yX5_reach wsX5_reach ({ frames := 5, cells := 0, slots := 0, locals := 111 } : Room) [.ref (ad γ 23), .int (nI b)] σ (gis (some (.int (nI 0))) (sM σ 6 (nI 2))) 0 0 := by
  refine g_enter (own := RX5) (cc := cX5_reach) (nL := 4) (ret := (some .int)) [some (.ref (ad γ 23)), some (.int (nI b)), none, none] (by decide) rfl rfl (by simp [lg_sl, Value.category]) (by simp [gl_le, glE, Value.category]) (fun hj p e s m args below meth c X hr hlk hnm => ?_)
  have hi5 : ∀ w ∈ wsX50, w ∈ wsX5_reach := by decide +kernel
  refine g_aload_n X dX5_reach_0 rfl rfl ?_
  refine g_iconstN X 0 dX5_reach_1 ?_
  refine g_put_23_6 X hi5 (by decide +kernel) dX5_reach_2 ?_
  refine g_eq rfl (σ' := okM σ) rfl ?_
  refine g_aload_n X dX5_reach_5 rfl rfl ?_
  refine g_iload_n X dX5_reach_6 rfl rfl ?_
  refine g_callVi (na := 1) X hj (k_X5_isBond l γ _ _) gW_23 rfl gX5_reach_X5_isBond rfl ⟨rfl, rfl⟩ (by decide +kernel) rfl ⟨by decide, by decide⟩ rfl (Nat.le_of_ble_eq_true rfl) dX5_reach_7 ⟨by decide, by decide⟩ ?_
  refine g_if_ne (tgt := 19) X dX5_reach_10 (by decide) (fun c_10 => ?_) (fun c_10 => absurd c_10 (bI_1 (isB_1 hN hbN hN10)))
  refine g_iload_n X dX5_reach_19 rfl rfl ?_
  refine g_callSi (na := 1) X hj (k_X5_at l γ _ _) gX5_reach_X5_at rfl ⟨rfl, rfl⟩ (by decide +kernel) rfl ⟨by decide, by decide⟩ rfl (Nat.le_of_ble_eq_true rfl) dX5_reach_20 ⟨by decide, by decide⟩ ?_
  refine g_istore_n2 X dX5_reach_23 rfl (by decide) rfl ?_
  refine g_aload_n X dX5_reach_24 rfl rfl ?_
  refine g_iload_n X dX5_reach_25 rfl rfl ?_
  refine g_callVi (na := 1) X hj (k_X5_runs l γ _ _ (by omega)) gW_23 rfl gX5_reach_X5_runs rfl ⟨rfl, rfl⟩ (by decide +kernel) rfl ⟨by decide, by decide⟩ rfl (Nat.le_of_ble_eq_true rfl) dX5_reach_26 ⟨by decide, by decide⟩ ?_
  refine g_if_eq (tgt := 51) X dX5_reach_29 (by decide) (fun c_29 => ?_) (fun c_29 => ?_)
  · replace c_29 := bI_f c_29
    refine g_aload_n X dX5_reach_51 rfl rfl ?_
    refine g_iconstN X 2 dX5_reach_52 ?_
    refine g_callVi (na := 1) X hj (k_X5_fails l γ _ _) gW_23 rfl gX5_reach_X5_fails rfl ⟨rfl, rfl⟩ (by decide +kernel) rfl ⟨by decide, by decide⟩ rfl (Nat.le_of_ble_eq_true rfl) dX5_reach_53 ⟨by decide, by decide⟩ ?_
    exact g_iret X hr hlk dX5_reach_56 ⟨rfl, sM_ok σ _⟩
  · replace c_29 := bI_t c_29
    refine g_aload_n X dX5_reach_32 rfl rfl ?_
    refine g_get_23_0 X hi5 (by decide +kernel) dX5_reach_33 ?_
    refine g_iload_n X dX5_reach_36 rfl rfl ?_
    refine g_iconstN X 5 dX5_reach_37 ?_
    refine g_iaddN X dX5_reach_38 ?_
    refine g_ald_24 X rfl (by omega) dX5_reach_39 ?_
    simp only [okM_24]
    refine g_aload_n X dX5_reach_40 rfl rfl ?_
    refine g_get_23_0 X hi5 (by decide +kernel) dX5_reach_41 ?_
    refine g_iload_n X dX5_reach_44 rfl rfl ?_
    refine g_iconstN X 4 dX5_reach_45 ?_
    refine g_iaddN X dX5_reach_46 ?_
    refine g_ald_24 X rfl (by omega) dX5_reach_47 ?_
    simp only [okM_24]
    refine g_icmp_ne (tgt := 57) X dX5_reach_48 (by decide) (fun c_48 => h.elim (fun w => absurd c_29 (Bool.eq_false_iff.mp w)) (fun w => absurd w c_48)) (fun c_48 => ?_)
    refine g_aload_n X dX5_reach_51 rfl rfl ?_
    refine g_iconstN X 2 dX5_reach_52 ?_
    refine g_callVi (na := 1) X hj (k_X5_fails l γ _ _) gW_23 rfl gX5_reach_X5_fails rfl ⟨rfl, rfl⟩ (by decide +kernel) rfl ⟨by decide, by decide⟩ rfl (Nat.le_of_ble_eq_true rfl) dX5_reach_53 ⟨by decide, by decide⟩ ?_
    exact g_iret X hr hlk dX5_reach_56 ⟨rfl, sM_ok σ _⟩
set_option maxRecDepth 20000 in
theorem k_X5_end (l : Launch) (γ : gG) (σ : gS) (b L : Nat) (hb : b < 10) (hL : σ.1 24 (121 + 31 * b + 3) = nI L) (hL4 : L ≤ 4) (N : Nat) (hN : σ.1 24 0 = nI N) (hN10 : N ≤ 10) (hbN : b < N) (hru : ruB (σ.1 24) b = true) (n : Nat) (hn : σ.1 23 3 = nI n) (hn6 : n ≤ 6) : gM l γ yX5_end wsX5_end ({ frames := 5, cells := 0, slots := 0, locals := 111 } : Room) [.ref (ad γ 23), .int (nI b)] σ (gis (some (.int (mn (lfZ (upd (σ.1 24) (121 + 31 * b + 9) (nI 0)) b) (lfZ (upd (σ.1 24) (121 + 31 * b + 9) (nI 0)) b)))) (unM σ n (rlZ (upd (σ.1 24) (121 + 31 * b + 9) (nI 0)) b L (mn (lfZ (upd (σ.1 24) (121 + 31 * b + 9) (nI 0)) b) (lfZ (upd (σ.1 24) (121 + 31 * b + 9) (nI 0)) b))))) 0 0 := by
  refine g_enter (own := RX5) (cc := cX5_end) (nL := 2) (ret := (some .int)) [some (.ref (ad γ 23)), some (.int (nI b))] (by decide) rfl rfl (by simp [lg_sl, Value.category]) (by simp [gl_le, glE, Value.category]) (fun hj p e s m args below meth c X hr hlk hnm => ?_)
  have hi5 : ∀ w ∈ wsX50, w ∈ wsX5_end := by decide +kernel
  refine g_aload_n X dX5_end_0 rfl rfl ?_
  refine g_iconstN X 0 dX5_end_1 ?_
  refine g_put_23_6 X hi5 (by decide +kernel) dX5_end_2 ?_
  refine g_eq rfl (σ' := okM σ) rfl ?_
  refine g_aload_n X dX5_end_5 rfl rfl ?_
  refine g_iload_n X dX5_end_6 rfl rfl ?_
  refine g_callVi (na := 1) X hj (k_X5_isBond l γ _ _) gW_23 rfl gX5_end_X5_isBond rfl ⟨rfl, rfl⟩ (by decide +kernel) rfl ⟨by decide, by decide⟩ rfl (Nat.le_of_ble_eq_true rfl) dX5_end_7 ⟨by decide, by decide⟩ ?_
  refine g_if_ne (tgt := 19) X dX5_end_10 (by decide) (fun c_10 => ?_) (fun c_10 => absurd c_10 (bI_1 (isB_1 hN hbN hN10)))
  refine g_aload_n X dX5_end_19 rfl rfl ?_
  refine g_iload_n X dX5_end_20 rfl rfl ?_
  refine g_callVi (na := 1) X hj (k_X5_runs l γ _ _ (by omega)) gW_23 rfl gX5_end_X5_runs rfl ⟨rfl, rfl⟩ (by decide +kernel) rfl ⟨by decide, by decide⟩ rfl (Nat.le_of_ble_eq_true rfl) dX5_end_21 ⟨by decide, by decide⟩ ?_
  refine g_if_ne (tgt := 33) X dX5_end_24 (by decide) (fun c_24 => ?_) (fun c_24 => absurd c_24 (bI_1 hru))
  refine g_aload_n X dX5_end_33 rfl rfl ?_
  refine g_callVv (na := 0) X hj (k_X5_save l γ _ n (okM_f hn (by decide)) hn6) gW_23 rfl gX5_end_X5_save rfl ⟨rfl, rfl⟩ (by decide +kernel) rfl ⟨by decide, by decide⟩ rfl (Nat.le_of_ble_eq_true rfl) dX5_end_34 ⟨by decide, by decide⟩ ?_
  refine g_eq rfl (σ' := unM σ n (σ.1 24)) (unM_0 σ n) ?_
  refine g_aload_n X dX5_end_37 rfl rfl ?_
  refine g_get_23_0 X hi5 (by decide +kernel) dX5_end_38 ?_
  refine g_iload_n X dX5_end_41 rfl rfl ?_
  refine g_callSi (na := 1) X hj (k_X5_at l γ _ _) gX5_end_X5_at rfl ⟨rfl, rfl⟩ (by decide +kernel) rfl ⟨by decide, by decide⟩ rfl (Nat.le_of_ble_eq_true rfl) dX5_end_42 ⟨by decide, by decide⟩ ?_
  refine g_bipush (v := nI 9) X dX5_end_45 (by decide) ?_
  refine g_iaddN X dX5_end_47 ?_
  refine g_iconstN X 0 dX5_end_48 ?_
  refine g_ast_24 X rfl (by omega) dX5_end_49 ?_
  simp only [unM_s24]
  refine g_eq rfl (σ' := unM σ n (upd (σ.1 24) (121 + 31 * b + 9) (nI 0))) rfl ?_
  refine g_aload_n X dX5_end_50 rfl rfl ?_
  refine g_iload_n X dX5_end_51 rfl rfl ?_
  refine g_aload_n X dX5_end_52 rfl rfl ?_
  refine g_iload_n X dX5_end_53 rfl rfl ?_
  refine g_callVi (na := 1) X hj (k_X5_leftOf l γ _ _ (by omega)) gW_23 rfl gX5_end_X5_leftOf rfl ⟨rfl, rfl⟩ (by decide +kernel) rfl ⟨by decide, by decide⟩ rfl (Nat.le_of_ble_eq_true rfl) dX5_end_54 ⟨by decide, by decide⟩ ?_
  simp only [unM_24]
  refine g_callVi (na := 2) X hj (k_X5_release l γ _ b L hb (by rw [unM_24, pk_un (by omega)]; exact hL) hL4 _) gW_23 rfl gX5_end_X5_release rfl ⟨rfl, rfl⟩ (by decide +kernel) rfl ⟨by decide, by decide⟩ rfl (Nat.le_of_ble_eq_true rfl) dX5_end_57 ⟨by decide, by decide⟩ ?_
  simp only [unM_s24, unM_24]
  exact g_iret X hr hlk dX5_end_60 ⟨rfl, rfl⟩
set_option maxRecDepth 20000 in
theorem k_X5_end_1 (l : Launch) (γ : gG) (σ : gS) (y : Int32) (h : inB y (nI 0) (σ.1 24 0 - nI 1) = false) : gM l γ yX5_end wsX5_end ({ frames := 5, cells := 0, slots := 0, locals := 111 } : Room) [.ref (ad γ 23), .int y] σ (gis (some (.int (nI 0))) (sM σ 6 (nI 1))) 0 0 := by
  refine g_enter (own := RX5) (cc := cX5_end) (nL := 2) (ret := (some .int)) [some (.ref (ad γ 23)), some (.int y)] (by decide) rfl rfl (by simp [lg_sl, Value.category]) (by simp [gl_le, glE, Value.category]) (fun hj p e s m args below meth c X hr hlk hnm => ?_)
  have hi5 : ∀ w ∈ wsX50, w ∈ wsX5_end := by decide +kernel
  refine g_aload_n X dX5_end_0 rfl rfl ?_
  refine g_iconstN X 0 dX5_end_1 ?_
  refine g_put_23_6 X hi5 (by decide +kernel) dX5_end_2 ?_
  refine g_eq rfl (σ' := okM σ) rfl ?_
  refine g_aload_n X dX5_end_5 rfl rfl ?_
  refine g_iload_n X dX5_end_6 rfl rfl ?_
  refine g_callVi (na := 1) X hj (k_X5_isBond l γ _ _) gW_23 rfl gX5_end_X5_isBond rfl ⟨rfl, rfl⟩ (by decide +kernel) rfl ⟨by decide, by decide⟩ rfl (Nat.le_of_ble_eq_true rfl) dX5_end_7 ⟨by decide, by decide⟩ ?_
  refine g_if_ne (tgt := 19) X dX5_end_10 (by decide) (fun c_10 => absurd (bI_0 h) c_10) (fun c_10 => ?_)
  refine g_aload_n X dX5_end_13 rfl rfl ?_
  refine g_iconstN X 1 dX5_end_14 ?_
  refine g_callVi (na := 1) X hj (k_X5_fails l γ _ _) gW_23 rfl gX5_end_X5_fails rfl ⟨rfl, rfl⟩ (by decide +kernel) rfl ⟨by decide, by decide⟩ rfl (Nat.le_of_ble_eq_true rfl) dX5_end_15 ⟨by decide, by decide⟩ ?_
  exact g_iret X hr hlk dX5_end_18 ⟨rfl, sM_ok σ _⟩
set_option maxRecDepth 20000 in
theorem k_X5_end_2 (l : Launch) (γ : gG) (σ : gS) (b L : Nat) (hb : b < 10) (hL : σ.1 24 (121 + 31 * b + 3) = nI L) (hL4 : L ≤ 4) (N : Nat) (hN : σ.1 24 0 = nI N) (hN10 : N ≤ 10) (hbN : b < N) (hru : ruB (σ.1 24) b = false) : gM l γ yX5_end wsX5_end ({ frames := 5, cells := 0, slots := 0, locals := 111 } : Room) [.ref (ad γ 23), .int (nI b)] σ (gis (some (.int (nI 0))) (sM σ 6 (nI 2))) 0 0 := by
  refine g_enter (own := RX5) (cc := cX5_end) (nL := 2) (ret := (some .int)) [some (.ref (ad γ 23)), some (.int (nI b))] (by decide) rfl rfl (by simp [lg_sl, Value.category]) (by simp [gl_le, glE, Value.category]) (fun hj p e s m args below meth c X hr hlk hnm => ?_)
  have hi5 : ∀ w ∈ wsX50, w ∈ wsX5_end := by decide +kernel
  refine g_aload_n X dX5_end_0 rfl rfl ?_
  refine g_iconstN X 0 dX5_end_1 ?_
  refine g_put_23_6 X hi5 (by decide +kernel) dX5_end_2 ?_
  refine g_eq rfl (σ' := okM σ) rfl ?_
  refine g_aload_n X dX5_end_5 rfl rfl ?_
  refine g_iload_n X dX5_end_6 rfl rfl ?_
  refine g_callVi (na := 1) X hj (k_X5_isBond l γ _ _) gW_23 rfl gX5_end_X5_isBond rfl ⟨rfl, rfl⟩ (by decide +kernel) rfl ⟨by decide, by decide⟩ rfl (Nat.le_of_ble_eq_true rfl) dX5_end_7 ⟨by decide, by decide⟩ ?_
  refine g_if_ne (tgt := 19) X dX5_end_10 (by decide) (fun c_10 => ?_) (fun c_10 => absurd c_10 (bI_1 (isB_1 hN hbN hN10)))
  refine g_aload_n X dX5_end_19 rfl rfl ?_
  refine g_iload_n X dX5_end_20 rfl rfl ?_
  refine g_callVi (na := 1) X hj (k_X5_runs l γ _ _ (by omega)) gW_23 rfl gX5_end_X5_runs rfl ⟨rfl, rfl⟩ (by decide +kernel) rfl ⟨by decide, by decide⟩ rfl (Nat.le_of_ble_eq_true rfl) dX5_end_21 ⟨by decide, by decide⟩ ?_
  refine g_if_ne (tgt := 33) X dX5_end_24 (by decide) (fun c_24 => absurd (bI_0 hru) c_24) (fun c_24 => ?_)
  refine g_aload_n X dX5_end_27 rfl rfl ?_
  refine g_iconstN X 2 dX5_end_28 ?_
  refine g_callVi (na := 1) X hj (k_X5_fails l γ _ _) gW_23 rfl gX5_end_X5_fails rfl ⟨rfl, rfl⟩ (by decide +kernel) rfl ⟨by decide, by decide⟩ rfl (Nat.le_of_ble_eq_true rfl) dX5_end_29 ⟨by decide, by decide⟩ ?_
  exact g_iret X hr hlk dX5_end_32 ⟨rfl, sM_ok σ _⟩
set_option maxRecDepth 20000 in
theorem k_X5_call (l : Launch) (γ : gG) (σ : gS) (b prn L : Nat) (su : Nat → Nat) (x pf : Int32) (hb : b < 10) (hC : CH (σ.1 24) b prn L su x) (N : Nat) (hN : σ.1 24 0 = nI N) (hN10 : N ≤ 10) (hbN : b < N) (hru : ruB (σ.1 24) b = true) (h1 : inB x (nI 1) (nI 99999) = true) (hp : inB pf (nI 0) (nI 9) = true) (hp2 : σ.1 24 6 ≤ pf) (n : Nat) (hn : σ.1 23 3 = nI n) (hn6 : n ≤ 6) : gM l γ yX5_call wsX5_call ({ frames := 5, cells := 0, slots := 0, locals := 125 } : Room) [.ref (ad γ 23), .int (nI b), .int x, .int pf] σ (gis (some (.int (cnF (σ.1 24) (upd (upd (σ.1 23) 6 (nI 0)) 3 (nI (min 6 (n + 1)))) (σ.1 28) b prn L su x 7))) (mW (unM σ n (σ.1 24)) (cnZ (σ.1 24) (upd (upd (σ.1 23) 6 (nI 0)) 3 (nI (min 6 (n + 1)))) (σ.1 28) b prn L su x) (cnF (σ.1 24) (upd (upd (σ.1 23) 6 (nI 0)) 3 (nI (min 6 (n + 1)))) (σ.1 28) b prn L su x) (cnSh (σ.1 24) (σ.1 28) b prn L x))) 0 0 := by
  refine g_enter (own := RX5) (cc := cX5_call) (nL := 4) (ret := (some .int)) [some (.ref (ad γ 23)), some (.int (nI b)), some (.int x), some (.int pf)] (by decide) rfl rfl (by simp [lg_sl, Value.category]) (by simp [gl_le, glE, Value.category]) (fun hj p e s m args below meth c X hr hlk hnm => ?_)
  have hi5 : ∀ w ∈ wsX50, w ∈ wsX5_call := by decide +kernel
  refine g_aload_n X dX5_call_0 rfl rfl ?_
  refine g_iconstN X 0 dX5_call_1 ?_
  refine g_put_23_6 X hi5 (by decide +kernel) dX5_call_2 ?_
  refine g_eq rfl (σ' := okM σ) rfl ?_
  refine g_aload_n X dX5_call_5 rfl rfl ?_
  refine g_iload_n X dX5_call_6 rfl rfl ?_
  refine g_callVi (na := 1) X hj (k_X5_isBond l γ _ _) gW_23 rfl gX5_call_X5_isBond rfl ⟨rfl, rfl⟩ (by decide +kernel) rfl ⟨by decide, by decide⟩ rfl (Nat.le_of_ble_eq_true rfl) dX5_call_7 ⟨by decide, by decide⟩ ?_
  refine g_if_ne (tgt := 19) X dX5_call_10 (by decide) (fun c_10 => ?_) (fun c_10 => absurd c_10 (bI_1 (isB_1 hN hbN hN10)))
  refine g_iload_n X dX5_call_19 rfl rfl ?_
  refine g_callSi (na := 1) X hj (k_X5_isMoney l γ _ _) gX5_call_X5_isMoney rfl ⟨rfl, rfl⟩ (by decide +kernel) rfl ⟨by decide, by decide⟩ rfl (Nat.le_of_ble_eq_true rfl) dX5_call_20 ⟨by decide, by decide⟩ ?_
  refine g_if_eq (tgt := 36) X dX5_call_23 (by decide) (fun c_23 => absurd c_23 (bI_1 h1)) (fun c_23 => ?_)
  refine g_iload_n X dX5_call_26 rfl rfl ?_
  refine g_iconstN X 0 dX5_call_27 ?_
  refine g_bipush (v := nI 9) X dX5_call_28 (by decide) ?_
  refine g_callSi (na := 3) X hj (k_X5_in l γ _ _ _ _) gX5_call_X5_in rfl ⟨rfl, rfl⟩ (by decide +kernel) rfl ⟨by decide, by decide⟩ rfl (Nat.le_of_ble_eq_true rfl) dX5_call_30 ⟨by decide, by decide⟩ ?_
  refine g_if_ne (tgt := 42) X dX5_call_33 (by decide) (fun c_33 => ?_) (fun c_33 => absurd c_33 (bI_1 hp))
  refine g_aload_n X dX5_call_42 rfl rfl ?_
  refine g_iload_n X dX5_call_43 rfl rfl ?_
  refine g_callVi (na := 1) X hj (k_X5_runs l γ _ _ (by omega)) gW_23 rfl gX5_call_X5_runs rfl ⟨rfl, rfl⟩ (by decide +kernel) rfl ⟨by decide, by decide⟩ rfl (Nat.le_of_ble_eq_true rfl) dX5_call_44 ⟨by decide, by decide⟩ ?_
  refine g_if_eq (tgt := 61) X dX5_call_47 (by decide) (fun c_47 => absurd c_47 (bI_1 hru)) (fun c_47 => ?_)
  refine g_iload_n X dX5_call_50 rfl rfl ?_
  refine g_aload_n X dX5_call_51 rfl rfl ?_
  refine g_get_23_0 X hi5 (by decide +kernel) dX5_call_52 ?_
  refine g_bipush (v := nI 6) X dX5_call_55 (by decide) ?_
  refine g_ald_24 X rfl (by omega) dX5_call_57 ?_
  simp only [okM_24]
  refine g_icmp_ge (tgt := 67) X dX5_call_58 (by decide) (fun c_58 => ?_) (fun c_58 => absurd hp2 c_58)
  refine g_aload_n X dX5_call_67 rfl rfl ?_
  refine g_callVv (na := 0) X hj (k_X5_save l γ _ n (okM_f hn (by decide)) hn6) gW_23 rfl gX5_call_X5_save rfl ⟨rfl, rfl⟩ (by decide +kernel) rfl ⟨by decide, by decide⟩ rfl (Nat.le_of_ble_eq_true rfl) dX5_call_68 ⟨by decide, by decide⟩ ?_
  refine g_eq rfl (σ' := unM σ n (σ.1 24)) (unM_0 σ n) ?_
  refine g_eq rfl (σ' := mW (unM σ n (σ.1 24)) (σ.1 24) (upd (upd (σ.1 23) 6 (nI 0)) 3 (nI (min 6 (n + 1)))) (σ.1 28)) (mW_id _).symm ?_
  refine g_aload_n X dX5_call_71 rfl rfl ?_
  refine g_iload_n X dX5_call_72 rfl rfl ?_
  refine g_iload_n X dX5_call_73 rfl rfl ?_
  refine g_callVv (na := 2) X hj (k_X5_callNow l γ _ _ _ _ b prn L su x hb hC) gW_23 rfl gX5_call_X5_callNow rfl ⟨rfl, rfl⟩ (by decide +kernel) rfl ⟨by decide, by decide⟩ rfl (Nat.le_of_ble_eq_true rfl) dX5_call_74 ⟨by decide, by decide⟩ ?_
  refine g_aload_n X dX5_call_77 rfl rfl ?_
  refine g_get_23_7 X hi5 (by decide +kernel) dX5_call_78 ?_
  simp only [mW_23]
  exact g_iret X hr hlk dX5_call_81 ⟨rfl, rfl⟩
set_option maxRecDepth 20000 in
theorem k_X5_call_1 (l : Launch) (γ : gG) (σ : gS) (y x pf : Int32) (h : inB y (nI 0) (σ.1 24 0 - nI 1) = false) : gM l γ yX5_call wsX5_call ({ frames := 5, cells := 0, slots := 0, locals := 125 } : Room) [.ref (ad γ 23), .int y, .int x, .int pf] σ (gis (some (.int (nI 0))) (sM σ 6 (nI 1))) 0 0 := by
  refine g_enter (own := RX5) (cc := cX5_call) (nL := 4) (ret := (some .int)) [some (.ref (ad γ 23)), some (.int y), some (.int x), some (.int pf)] (by decide) rfl rfl (by simp [lg_sl, Value.category]) (by simp [gl_le, glE, Value.category]) (fun hj p e s m args below meth c X hr hlk hnm => ?_)
  have hi5 : ∀ w ∈ wsX50, w ∈ wsX5_call := by decide +kernel
  refine g_aload_n X dX5_call_0 rfl rfl ?_
  refine g_iconstN X 0 dX5_call_1 ?_
  refine g_put_23_6 X hi5 (by decide +kernel) dX5_call_2 ?_
  refine g_eq rfl (σ' := okM σ) rfl ?_
  refine g_aload_n X dX5_call_5 rfl rfl ?_
  refine g_iload_n X dX5_call_6 rfl rfl ?_
  refine g_callVi (na := 1) X hj (k_X5_isBond l γ _ _) gW_23 rfl gX5_call_X5_isBond rfl ⟨rfl, rfl⟩ (by decide +kernel) rfl ⟨by decide, by decide⟩ rfl (Nat.le_of_ble_eq_true rfl) dX5_call_7 ⟨by decide, by decide⟩ ?_
  refine g_if_ne (tgt := 19) X dX5_call_10 (by decide) (fun c_10 => absurd (bI_0 h) c_10) (fun c_10 => ?_)
  refine g_aload_n X dX5_call_13 rfl rfl ?_
  refine g_iconstN X 1 dX5_call_14 ?_
  refine g_callVi (na := 1) X hj (k_X5_fails l γ _ _) gW_23 rfl gX5_call_X5_fails rfl ⟨rfl, rfl⟩ (by decide +kernel) rfl ⟨by decide, by decide⟩ rfl (Nat.le_of_ble_eq_true rfl) dX5_call_15 ⟨by decide, by decide⟩ ?_
  exact g_iret X hr hlk dX5_call_18 ⟨rfl, sM_ok σ _⟩
set_option maxRecDepth 20000 in
theorem k_X5_call_2 (l : Launch) (γ : gG) (σ : gS) (b : Nat) (x pf : Int32) (N : Nat) (hN : σ.1 24 0 = nI N) (hN10 : N ≤ 10) (hbN : b < N) (h : inB x (nI 1) (nI 99999) = false ∨ inB pf (nI 0) (nI 9) = false) : gM l γ yX5_call wsX5_call ({ frames := 5, cells := 0, slots := 0, locals := 125 } : Room) [.ref (ad γ 23), .int (nI b), .int x, .int pf] σ (gis (some (.int (nI 0))) (sM σ 6 (nI 2))) 0 0 := by
  refine g_enter (own := RX5) (cc := cX5_call) (nL := 4) (ret := (some .int)) [some (.ref (ad γ 23)), some (.int (nI b)), some (.int x), some (.int pf)] (by decide) rfl rfl (by simp [lg_sl, Value.category]) (by simp [gl_le, glE, Value.category]) (fun hj p e s m args below meth c X hr hlk hnm => ?_)
  have hi5 : ∀ w ∈ wsX50, w ∈ wsX5_call := by decide +kernel
  refine g_aload_n X dX5_call_0 rfl rfl ?_
  refine g_iconstN X 0 dX5_call_1 ?_
  refine g_put_23_6 X hi5 (by decide +kernel) dX5_call_2 ?_
  refine g_eq rfl (σ' := okM σ) rfl ?_
  refine g_aload_n X dX5_call_5 rfl rfl ?_
  refine g_iload_n X dX5_call_6 rfl rfl ?_
  refine g_callVi (na := 1) X hj (k_X5_isBond l γ _ _) gW_23 rfl gX5_call_X5_isBond rfl ⟨rfl, rfl⟩ (by decide +kernel) rfl ⟨by decide, by decide⟩ rfl (Nat.le_of_ble_eq_true rfl) dX5_call_7 ⟨by decide, by decide⟩ ?_
  refine g_if_ne (tgt := 19) X dX5_call_10 (by decide) (fun c_10 => ?_) (fun c_10 => absurd c_10 (bI_1 (isB_1 hN hbN hN10)))
  refine g_iload_n X dX5_call_19 rfl rfl ?_
  refine g_callSi (na := 1) X hj (k_X5_isMoney l γ _ _) gX5_call_X5_isMoney rfl ⟨rfl, rfl⟩ (by decide +kernel) rfl ⟨by decide, by decide⟩ rfl (Nat.le_of_ble_eq_true rfl) dX5_call_20 ⟨by decide, by decide⟩ ?_
  refine g_if_eq (tgt := 36) X dX5_call_23 (by decide) (fun c_23 => ?_) (fun c_23 => ?_)
  · replace c_23 := bI_f c_23
    refine g_aload_n X dX5_call_36 rfl rfl ?_
    refine g_iconstN X 2 dX5_call_37 ?_
    refine g_callVi (na := 1) X hj (k_X5_fails l γ _ _) gW_23 rfl gX5_call_X5_fails rfl ⟨rfl, rfl⟩ (by decide +kernel) rfl ⟨by decide, by decide⟩ rfl (Nat.le_of_ble_eq_true rfl) dX5_call_38 ⟨by decide, by decide⟩ ?_
    exact g_iret X hr hlk dX5_call_41 ⟨rfl, sM_ok σ _⟩
  · replace c_23 := bI_t c_23
    refine g_iload_n X dX5_call_26 rfl rfl ?_
    refine g_iconstN X 0 dX5_call_27 ?_
    refine g_bipush (v := nI 9) X dX5_call_28 (by decide) ?_
    refine g_callSi (na := 3) X hj (k_X5_in l γ _ _ _ _) gX5_call_X5_in rfl ⟨rfl, rfl⟩ (by decide +kernel) rfl ⟨by decide, by decide⟩ rfl (Nat.le_of_ble_eq_true rfl) dX5_call_30 ⟨by decide, by decide⟩ ?_
    refine g_if_ne (tgt := 42) X dX5_call_33 (by decide) (fun c_33 => h.elim (fun w => absurd c_23 (Bool.eq_false_iff.mp w)) (fun w => absurd (bI_0 w) c_33)) (fun c_33 => ?_)
    refine g_aload_n X dX5_call_36 rfl rfl ?_
    refine g_iconstN X 2 dX5_call_37 ?_
    refine g_callVi (na := 1) X hj (k_X5_fails l γ _ _) gW_23 rfl gX5_call_X5_fails rfl ⟨rfl, rfl⟩ (by decide +kernel) rfl ⟨by decide, by decide⟩ rfl (Nat.le_of_ble_eq_true rfl) dX5_call_38 ⟨by decide, by decide⟩ ?_
    exact g_iret X hr hlk dX5_call_41 ⟨rfl, sM_ok σ _⟩
set_option maxRecDepth 20000 in
theorem k_X5_call_3 (l : Launch) (γ : gG) (σ : gS) (b : Nat) (x pf : Int32) (hb : b < 10) (N : Nat) (hN : σ.1 24 0 = nI N) (hN10 : N ≤ 10) (hbN : b < N) (h1 : inB x (nI 1) (nI 99999) = true) (hp : inB pf (nI 0) (nI 9) = true) (h : ruB (σ.1 24) b = false ∨ pf < σ.1 24 6) : gM l γ yX5_call wsX5_call ({ frames := 5, cells := 0, slots := 0, locals := 125 } : Room) [.ref (ad γ 23), .int (nI b), .int x, .int pf] σ (gis (some (.int (nI 0))) (sM σ 6 (nI 3))) 0 0 := by
  refine g_enter (own := RX5) (cc := cX5_call) (nL := 4) (ret := (some .int)) [some (.ref (ad γ 23)), some (.int (nI b)), some (.int x), some (.int pf)] (by decide) rfl rfl (by simp [lg_sl, Value.category]) (by simp [gl_le, glE, Value.category]) (fun hj p e s m args below meth c X hr hlk hnm => ?_)
  have hi5 : ∀ w ∈ wsX50, w ∈ wsX5_call := by decide +kernel
  refine g_aload_n X dX5_call_0 rfl rfl ?_
  refine g_iconstN X 0 dX5_call_1 ?_
  refine g_put_23_6 X hi5 (by decide +kernel) dX5_call_2 ?_
  refine g_eq rfl (σ' := okM σ) rfl ?_
  refine g_aload_n X dX5_call_5 rfl rfl ?_
  refine g_iload_n X dX5_call_6 rfl rfl ?_
  refine g_callVi (na := 1) X hj (k_X5_isBond l γ _ _) gW_23 rfl gX5_call_X5_isBond rfl ⟨rfl, rfl⟩ (by decide +kernel) rfl ⟨by decide, by decide⟩ rfl (Nat.le_of_ble_eq_true rfl) dX5_call_7 ⟨by decide, by decide⟩ ?_
  refine g_if_ne (tgt := 19) X dX5_call_10 (by decide) (fun c_10 => ?_) (fun c_10 => absurd c_10 (bI_1 (isB_1 hN hbN hN10)))
  refine g_iload_n X dX5_call_19 rfl rfl ?_
  refine g_callSi (na := 1) X hj (k_X5_isMoney l γ _ _) gX5_call_X5_isMoney rfl ⟨rfl, rfl⟩ (by decide +kernel) rfl ⟨by decide, by decide⟩ rfl (Nat.le_of_ble_eq_true rfl) dX5_call_20 ⟨by decide, by decide⟩ ?_
  refine g_if_eq (tgt := 36) X dX5_call_23 (by decide) (fun c_23 => absurd c_23 (bI_1 h1)) (fun c_23 => ?_)
  refine g_iload_n X dX5_call_26 rfl rfl ?_
  refine g_iconstN X 0 dX5_call_27 ?_
  refine g_bipush (v := nI 9) X dX5_call_28 (by decide) ?_
  refine g_callSi (na := 3) X hj (k_X5_in l γ _ _ _ _) gX5_call_X5_in rfl ⟨rfl, rfl⟩ (by decide +kernel) rfl ⟨by decide, by decide⟩ rfl (Nat.le_of_ble_eq_true rfl) dX5_call_30 ⟨by decide, by decide⟩ ?_
  refine g_if_ne (tgt := 42) X dX5_call_33 (by decide) (fun c_33 => ?_) (fun c_33 => absurd c_33 (bI_1 hp))
  refine g_aload_n X dX5_call_42 rfl rfl ?_
  refine g_iload_n X dX5_call_43 rfl rfl ?_
  refine g_callVi (na := 1) X hj (k_X5_runs l γ _ _ (by omega)) gW_23 rfl gX5_call_X5_runs rfl ⟨rfl, rfl⟩ (by decide +kernel) rfl ⟨by decide, by decide⟩ rfl (Nat.le_of_ble_eq_true rfl) dX5_call_44 ⟨by decide, by decide⟩ ?_
  refine g_if_eq (tgt := 61) X dX5_call_47 (by decide) (fun c_47 => ?_) (fun c_47 => ?_)
  · replace c_47 := bI_f c_47
    refine g_aload_n X dX5_call_61 rfl rfl ?_
    refine g_iconstN X 3 dX5_call_62 ?_
    refine g_callVi (na := 1) X hj (k_X5_fails l γ _ _) gW_23 rfl gX5_call_X5_fails rfl ⟨rfl, rfl⟩ (by decide +kernel) rfl ⟨by decide, by decide⟩ rfl (Nat.le_of_ble_eq_true rfl) dX5_call_63 ⟨by decide, by decide⟩ ?_
    exact g_iret X hr hlk dX5_call_66 ⟨rfl, sM_ok σ _⟩
  · replace c_47 := bI_t c_47
    refine g_iload_n X dX5_call_50 rfl rfl ?_
    refine g_aload_n X dX5_call_51 rfl rfl ?_
    refine g_get_23_0 X hi5 (by decide +kernel) dX5_call_52 ?_
    refine g_bipush (v := nI 6) X dX5_call_55 (by decide) ?_
    refine g_ald_24 X rfl (by omega) dX5_call_57 ?_
    simp only [okM_24]
    refine g_icmp_ge (tgt := 67) X dX5_call_58 (by decide) (fun c_58 => h.elim (fun w => absurd c_47 (Bool.eq_false_iff.mp w)) (fun w => absurd c_58 (Int32.not_le.mpr w))) (fun c_58 => ?_)
    refine g_aload_n X dX5_call_61 rfl rfl ?_
    refine g_iconstN X 3 dX5_call_62 ?_
    refine g_callVi (na := 1) X hj (k_X5_fails l γ _ _) gW_23 rfl gX5_call_X5_fails rfl ⟨rfl, rfl⟩ (by decide +kernel) rfl ⟨by decide, by decide⟩ rfl (Nat.le_of_ble_eq_true rfl) dX5_call_63 ⟨by decide, by decide⟩ ?_
    exact g_iret X hr hlk dX5_call_66 ⟨rfl, sM_ok σ _⟩
set_option maxRecDepth 20000 in
theorem k_X5_append (l : Launch) (γ : gG) (σ : gS) (x : Int32) (k : Nat) (h1 : inB x (nI 33) (nI 126) = true) (hl : σ.1 23 5 = nI k) (hk : k < 60) : gM l γ yX5_append wsX5_append ({ frames := 1, cells := 0, slots := 0, locals := 22 } : Room) [.ref (ad γ 23), .int x] σ (gis (some (.int (nI (k + 1)))) (sM (sA (okM σ) 27 (upd (σ.1 27) k x)) 5 (nI (k + 1)))) 0 0 := by
  refine g_enter (own := RX5) (cc := cX5_append) (nL := 2) (ret := (some .int)) [some (.ref (ad γ 23)), some (.int x)] (by decide) rfl rfl (by simp [lg_sl, Value.category]) (by simp [gl_le, glE, Value.category]) (fun hj p e s m args below meth c X hr hlk hnm => ?_)
  have hi5 : ∀ w ∈ wsX50, w ∈ wsX5_append := by decide +kernel
  refine g_aload_n X dX5_append_0 rfl rfl ?_
  refine g_iconstN X 0 dX5_append_1 ?_
  refine g_put_23_6 X hi5 (by decide +kernel) dX5_append_2 ?_
  refine g_eq rfl (σ' := okM σ) rfl ?_
  refine g_iload_n X dX5_append_5 rfl rfl ?_
  refine g_bipush (v := nI 33) X dX5_append_6 (by decide) ?_
  refine g_bipush (v := nI 126) X dX5_append_8 (by decide) ?_
  refine g_callSi (na := 3) X hj (k_X5_in l γ _ _ _ _) gX5_append_X5_in rfl ⟨rfl, rfl⟩ (by decide +kernel) rfl ⟨by decide, by decide⟩ rfl (Nat.le_of_ble_eq_true rfl) dX5_append_10 ⟨by decide, by decide⟩ ?_
  refine g_if_ne (tgt := 22) X dX5_append_13 (by decide) (fun c_13 => ?_) (fun c_13 => absurd c_13 (bI_1 h1))
  refine g_aload_n X dX5_append_22 rfl rfl ?_
  refine g_get_23_5 X hi5 (by decide +kernel) dX5_append_23 ?_
  refine g_top (y := nI k) (okM_f hl (by decide)) ?_
  refine g_bipush (v := nI 60) X dX5_append_26 (by decide) ?_
  refine g_icmpN_ne (tgt := 37) X dX5_append_28 (by decide) (by omega) (by omega) (fun c_28 => ?_) (fun c_28 => absurd c_28 (by omega))
  refine g_aload_n X dX5_append_37 rfl rfl ?_
  refine g_get_23_4 X hi5 (by decide +kernel) dX5_append_38 ?_
  refine g_aload_n X dX5_append_41 rfl rfl ?_
  refine g_get_23_5 X hi5 (by decide +kernel) dX5_append_42 ?_
  refine g_top (y := nI k) (okM_f hl (by decide)) ?_
  refine g_iload_n X dX5_append_45 rfl rfl ?_
  refine g_ast_27 X rfl (by omega) dX5_append_46 ?_
  refine g_eq rfl (σ' := sA (okM σ) 27 (upd (σ.1 27) k x)) rfl ?_
  refine g_aload_n X dX5_append_47 rfl rfl ?_
  refine g_dup X dX5_append_48 rfl ?_
  refine g_get_23_5 X hi5 (by decide +kernel) dX5_append_49 ?_
  refine g_top (y := nI k) (by rw [sA_ne _ _ (by decide)]; exact okM_f hl (by decide)) ?_
  refine g_iconstN X 1 dX5_append_52 ?_
  refine g_iaddN X dX5_append_53 ?_
  refine g_put_23_5 X hi5 (by decide +kernel) dX5_append_54 ?_
  refine g_eq rfl (σ' := (sM (sA (okM σ) 27 (upd (σ.1 27) k x)) 5 (nI (k + 1)))) rfl ?_
  refine g_aload_n X dX5_append_57 rfl rfl ?_
  refine g_get_23_5 X hi5 (by decide +kernel) dX5_append_58 ?_
  refine g_top (y := nI (k + 1)) (by unfold sM; rw [sA_eq, pk_us]) ?_
  exact g_iret X hr hlk dX5_append_61 ⟨rfl, rfl⟩
set_option maxRecDepth 20000 in
theorem k_X5_append_1 (l : Launch) (γ : gG) (σ : gS) (x : Int32) (h1 : inB x (nI 33) (nI 126) = false) : gM l γ yX5_append wsX5_append ({ frames := 1, cells := 0, slots := 0, locals := 22 } : Room) [.ref (ad γ 23), .int x] σ (gis (some (.int (nI 0))) (sM σ 6 (nI 1))) 0 0 := by
  refine g_enter (own := RX5) (cc := cX5_append) (nL := 2) (ret := (some .int)) [some (.ref (ad γ 23)), some (.int x)] (by decide) rfl rfl (by simp [lg_sl, Value.category]) (by simp [gl_le, glE, Value.category]) (fun hj p e s m args below meth c X hr hlk hnm => ?_)
  have hi5 : ∀ w ∈ wsX50, w ∈ wsX5_append := by decide +kernel
  refine g_aload_n X dX5_append_0 rfl rfl ?_
  refine g_iconstN X 0 dX5_append_1 ?_
  refine g_put_23_6 X hi5 (by decide +kernel) dX5_append_2 ?_
  refine g_eq rfl (σ' := okM σ) rfl ?_
  refine g_iload_n X dX5_append_5 rfl rfl ?_
  refine g_bipush (v := nI 33) X dX5_append_6 (by decide) ?_
  refine g_bipush (v := nI 126) X dX5_append_8 (by decide) ?_
  refine g_callSi (na := 3) X hj (k_X5_in l γ _ _ _ _) gX5_append_X5_in rfl ⟨rfl, rfl⟩ (by decide +kernel) rfl ⟨by decide, by decide⟩ rfl (Nat.le_of_ble_eq_true rfl) dX5_append_10 ⟨by decide, by decide⟩ ?_
  refine g_if_ne (tgt := 22) X dX5_append_13 (by decide) (fun c_13 => absurd (bI_0 h1) c_13) (fun c_13 => ?_)
  refine g_aload_n X dX5_append_16 rfl rfl ?_
  refine g_iconstN X 1 dX5_append_17 ?_
  refine g_callVi (na := 1) X hj (k_X5_fails l γ _ _) gW_23 rfl gX5_append_X5_fails rfl ⟨rfl, rfl⟩ (by decide +kernel) rfl ⟨by decide, by decide⟩ rfl (Nat.le_of_ble_eq_true rfl) dX5_append_18 ⟨by decide, by decide⟩ ?_
  exact g_iret X hr hlk dX5_append_21 ⟨rfl, sM_ok σ _⟩
set_option maxRecDepth 20000 in
theorem k_X5_append_2 (l : Launch) (γ : gG) (σ : gS) (x : Int32) (h1 : inB x (nI 33) (nI 126) = true) (hl : σ.1 23 5 = nI 60) : gM l γ yX5_append wsX5_append ({ frames := 1, cells := 0, slots := 0, locals := 22 } : Room) [.ref (ad γ 23), .int x] σ (gis (some (.int (nI 0))) (sM σ 6 (nI 2))) 0 0 := by
  refine g_enter (own := RX5) (cc := cX5_append) (nL := 2) (ret := (some .int)) [some (.ref (ad γ 23)), some (.int x)] (by decide) rfl rfl (by simp [lg_sl, Value.category]) (by simp [gl_le, glE, Value.category]) (fun hj p e s m args below meth c X hr hlk hnm => ?_)
  have hi5 : ∀ w ∈ wsX50, w ∈ wsX5_append := by decide +kernel
  refine g_aload_n X dX5_append_0 rfl rfl ?_
  refine g_iconstN X 0 dX5_append_1 ?_
  refine g_put_23_6 X hi5 (by decide +kernel) dX5_append_2 ?_
  refine g_eq rfl (σ' := okM σ) rfl ?_
  refine g_iload_n X dX5_append_5 rfl rfl ?_
  refine g_bipush (v := nI 33) X dX5_append_6 (by decide) ?_
  refine g_bipush (v := nI 126) X dX5_append_8 (by decide) ?_
  refine g_callSi (na := 3) X hj (k_X5_in l γ _ _ _ _) gX5_append_X5_in rfl ⟨rfl, rfl⟩ (by decide +kernel) rfl ⟨by decide, by decide⟩ rfl (Nat.le_of_ble_eq_true rfl) dX5_append_10 ⟨by decide, by decide⟩ ?_
  refine g_if_ne (tgt := 22) X dX5_append_13 (by decide) (fun c_13 => ?_) (fun c_13 => absurd c_13 (bI_1 h1))
  refine g_aload_n X dX5_append_22 rfl rfl ?_
  refine g_get_23_5 X hi5 (by decide +kernel) dX5_append_23 ?_
  refine g_top (y := nI 60) (okM_f hl (by decide)) ?_
  refine g_bipush (v := nI 60) X dX5_append_26 (by decide) ?_
  refine g_icmpN_ne (tgt := 37) X dX5_append_28 (by decide) (by omega) (by omega) (fun c_28 => absurd rfl c_28) (fun c_28 => ?_)
  refine g_aload_n X dX5_append_31 rfl rfl ?_
  refine g_iconstN X 2 dX5_append_32 ?_
  refine g_callVi (na := 1) X hj (k_X5_fails l γ _ _) gW_23 rfl gX5_append_X5_fails rfl ⟨rfl, rfl⟩ (by decide +kernel) rfl ⟨by decide, by decide⟩ rfl (Nat.le_of_ble_eq_true rfl) dX5_append_33 ⟨by decide, by decide⟩ ?_
  exact g_iret X hr hlk dX5_append_36 ⟨rfl, sM_ok σ _⟩
set_option maxRecDepth 20000 in
theorem k_X5_clearBuffer (l : Launch) (γ : gG) (σ : gS) : gM l γ yX5_clearBuffer wsX5_clearBuffer ({ frames := 0, cells := 0, slots := 0, locals := 0 } : Room) [.ref (ad γ 23)] σ (gis (some (.int (σ.1 23 5))) (sM (okM σ) 5 (nI 0))) 0 0 := by
  refine g_enter (own := RX5) (cc := cX5_clearBuffer) (nL := 2) (ret := (some .int)) [some (.ref (ad γ 23)), none] (by decide) rfl rfl (by simp [lg_sl, Value.category]) (by simp [gl_le, glE, Value.category]) (fun hj p e s m args below meth c X hr hlk hnm => ?_)
  have hi5 : ∀ w ∈ wsX50, w ∈ wsX5_clearBuffer := by decide +kernel
  refine g_aload_n X dX5_clearBuffer_0 rfl rfl ?_
  refine g_iconstN X 0 dX5_clearBuffer_1 ?_
  refine g_put_23_6 X hi5 (by decide +kernel) dX5_clearBuffer_2 ?_
  refine g_eq rfl (σ' := okM σ) rfl ?_
  refine g_aload_n X dX5_clearBuffer_5 rfl rfl ?_
  refine g_get_23_5 X hi5 (by decide +kernel) dX5_clearBuffer_6 ?_
  refine g_istore_n1 X dX5_clearBuffer_9 rfl (by decide) rfl ?_
  refine g_aload_n X dX5_clearBuffer_10 rfl rfl ?_
  refine g_iconstN X 0 dX5_clearBuffer_11 ?_
  refine g_put_23_5 X hi5 (by decide +kernel) dX5_clearBuffer_12 ?_
  refine g_iload_n X dX5_clearBuffer_15 rfl rfl ?_
  exact g_iret X hr hlk dX5_clearBuffer_16 ⟨by congr 1, rfl⟩
set_option maxRecDepth 20000 in
theorem k_X5_undo (l : Launch) (γ : gG) (σ : gS) (n : Nat) (hn : σ.1 23 3 = nI n) (hn6 : n ≤ 6) (hn1 : 0 < n) : gM l γ yX5_undo wsX5_undo ({ frames := 1, cells := 0, slots := 0, locals := 21 } : Room) [.ref (ad γ 23)] σ (gis (some (.int (nI (n - 1)))) (sA (sM (okM σ) 3 (nI (n - 1))) 24 (unR (σ.1 24) (σ.1 25) (n - 1) 431))) 0 0 := by
  refine g_enter (own := RX5) (cc := cX5_undo) (nL := 2) (ret := (some .int)) [some (.ref (ad γ 23)), none] (by decide) rfl rfl (by simp [lg_sl, Value.category]) (by simp [gl_le, glE, Value.category]) (fun hj p e s m args below meth c X hr hlk hnm => ?_)
  have hi5 : ∀ w ∈ wsX50, w ∈ wsX5_undo := by decide +kernel
  refine g_aload_n X dX5_undo_0 rfl rfl ?_
  refine g_iconstN X 0 dX5_undo_1 ?_
  refine g_put_23_6 X hi5 (by decide +kernel) dX5_undo_2 ?_
  refine g_eq rfl (σ' := okM σ) rfl ?_
  refine g_aload_n X dX5_undo_5 rfl rfl ?_
  refine g_get_23_3 X hi5 (by decide +kernel) dX5_undo_6 ?_
  have hx := okM_f (k := 3) hn (by decide)
  refine g_if_ne (tgt := 18) X dX5_undo_9 (by decide) (fun c_9 => ?_) (fun c_9 => absurd (hx ▸ c_9) (nI_ne0 hn1 (by omega)))
  refine g_aload_n X dX5_undo_18 rfl rfl ?_
  refine g_dup X dX5_undo_19 rfl ?_
  refine g_get_23_3 X hi5 (by decide +kernel) dX5_undo_20 ?_
  refine g_top (y := nI n) (okM_f hn (by decide)) ?_
  refine g_iconstN X 1 dX5_undo_23 ?_
  refine g_isubN X dX5_undo_24 (by omega) ?_
  refine g_put_23_3 X hi5 (by decide +kernel) dX5_undo_25 ?_
  refine g_eq rfl (σ' := sM (okM σ) 3 (nI (n - 1))) rfl ?_
  refine g_iconstN X 0 dX5_undo_28 ?_
  refine g_istore_n1 X dX5_undo_29 rfl (by decide) rfl ?_
  refine g_up (i0 := 0) (N := 431) (fun i => [some (.ref (ad γ 23)), some (.int (nI i))]) (fun i => sA (sM (okM σ) 3 (nI (n - 1))) 24 (unR (σ.1 24) (σ.1 25) (n - 1) i)) (by simp [gl_le]) (by rw [unR_0]; exact (sA_self _ 24).symm) (by omega) (fun i hi ih30 => ?_)
  refine g_iload_n X dX5_undo_30 rfl rfl ?_
  refine g_sipush (v := nI 431) X dX5_undo_31 (by decide) ?_
  refine g_icmpN_ge (tgt := 64) X dX5_undo_34 (by decide) (by omega) (by omega) (fun c_34 => ?_) (fun c_34 => ?_)
  · refine g_aload_n X dX5_undo_64 rfl rfl ?_
    refine g_get_23_3 X hi5 (by decide +kernel) dX5_undo_65 ?_
    refine g_top (y := nI (n - 1)) (by rw [sA_ne _ _ (by decide)]; unfold sM; rw [sA_eq, pk_us]) ?_
    exact g_iret X hr hlk dX5_undo_68 (by have e : i = 431 := (by omega); subst e; exact ⟨rfl, rfl⟩)
  · refine g_aload_n X dX5_undo_37 rfl rfl ?_
    refine g_get_23_0 X hi5 (by decide +kernel) dX5_undo_38 ?_
    refine g_iload_n X dX5_undo_41 rfl rfl ?_
    refine g_aload_n X dX5_undo_42 rfl rfl ?_
    refine g_get_23_1 X hi5 (by decide +kernel) dX5_undo_43 ?_
    refine g_sipush (v := nI 431) X dX5_undo_46 (by decide) ?_
    refine g_aload_n X dX5_undo_49 rfl rfl ?_
    refine g_get_23_3 X hi5 (by decide +kernel) dX5_undo_50 ?_
    refine g_top (y := nI (n - 1)) (by rw [sA_ne _ _ (by decide)]; unfold sM; rw [sA_eq, pk_us]) ?_
    refine g_imulN X dX5_undo_53 ?_
    refine g_iload_n X dX5_undo_54 rfl rfl ?_
    refine g_iaddN X dX5_undo_55 ?_
    refine g_ald_25 X rfl (by omega) dX5_undo_56 ?_
    refine g_top (y := σ.1 25 (431 * (n - 1) + i)) rfl ?_
    refine g_ast_24 X rfl (by omega) dX5_undo_57 ?_
    refine g_iincN1 (d := 1) X dX5_undo_58 (by decide) rfl ?_
    refine g_goto (tgt := 30) X dX5_undo_61 (by decide) ?_
    simp only [sA_sA, sA_eq, unR_s]
    exact g_le (by simp [gl_le]) (ih30 (by omega))
set_option maxRecDepth 20000 in
theorem k_X5_undo_1 (l : Launch) (γ : gG) (σ : gS) (hn : σ.1 23 3 = nI 0) : gM l γ yX5_undo wsX5_undo ({ frames := 1, cells := 0, slots := 0, locals := 21 } : Room) [.ref (ad γ 23)] σ (gis (some (.int (nI 0))) (sM σ 6 (nI 1))) 0 0 := by
  refine g_enter (own := RX5) (cc := cX5_undo) (nL := 2) (ret := (some .int)) [some (.ref (ad γ 23)), none] (by decide) rfl rfl (by simp [lg_sl, Value.category]) (by simp [gl_le, glE, Value.category]) (fun hj p e s m args below meth c X hr hlk hnm => ?_)
  have hi5 : ∀ w ∈ wsX50, w ∈ wsX5_undo := by decide +kernel
  refine g_aload_n X dX5_undo_0 rfl rfl ?_
  refine g_iconstN X 0 dX5_undo_1 ?_
  refine g_put_23_6 X hi5 (by decide +kernel) dX5_undo_2 ?_
  refine g_eq rfl (σ' := okM σ) rfl ?_
  refine g_aload_n X dX5_undo_5 rfl rfl ?_
  refine g_get_23_3 X hi5 (by decide +kernel) dX5_undo_6 ?_
  refine g_if_ne (tgt := 18) X dX5_undo_9 (by decide) (fun c_9 => absurd (okM_f (k := 3) hn (by decide)) c_9) (fun c_9 => ?_)
  refine g_aload_n X dX5_undo_12 rfl rfl ?_
  refine g_iconstN X 1 dX5_undo_13 ?_
  refine g_callVi (na := 1) X hj (k_X5_fails l γ _ _) gW_23 rfl gX5_undo_X5_fails rfl ⟨rfl, rfl⟩ (by decide +kernel) rfl ⟨by decide, by decide⟩ rfl (Nat.le_of_ble_eq_true rfl) dX5_undo_14 ⟨by decide, by decide⟩ ?_
  exact g_iret X hr hlk dX5_undo_17 ⟨rfl, sM_ok σ _⟩
