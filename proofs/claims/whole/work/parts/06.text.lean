/-! THE TEXT -/
def sP (σ : gS) (f : Nat) (x : Int32) : gS := sA σ 11 (upd (σ.1 11) f x)
abbrev BS : Type := Bool × gS
def aSign (σ : gS) (c s q : Int32) : BS := if c = s then (true, sP σ 5 q) else (false, σ)
def aPrin (σ : gS) (c : Int32) : BS := if isPb (c - nI 48) then (true, sP (sP σ 7 (c - nI 48)) 5 (nI 2)) else (false, σ)
def aSure (σ : gS) (c : Int32) (k : Nat) : BS := if isPb (c - nI 48) ∧ k < 4 then (true, sP (sA σ 13 (upd (σ.1 13) k (c - nI 48))) 5 (nI 5)) else (false, σ)
def longer (σ : gS) (c : Int32) : Int32 := σ.1 11 6 * nI 10 + (c - nI 48)
def aExt (σ : gS) (c most : Int32) : BS := if ¬ c < nI 48 ∧ c ≤ nI 57 ∧ ¬ longer σ c < nI 1 ∧ longer σ c ≤ most then (true, sP σ 6 (longer σ c)) else (false, σ)
def aSum (σ : gS) (c : Int32) : BS := if ¬ σ.1 11 6 = 0 ∧ c = nI 58 then (true, sP (sP (sP σ 6 (nI 0)) 8 (σ.1 11 6)) 5 (nI 4)) else (false, σ)
def aLim (σ : gS) (c : Int32) (k : Nat) : BS :=
  if ¬ σ.1 11 6 = 0 ∧ k < 4 ∧ ((c = nI 43 ∧ k + 1 < 4) ∨ c = nI 64) then
    (true, sP (sP (sA (sP σ 6 (nI 0)) 14 (upd (σ.1 14) k (σ.1 11 6))) 10 (nI (k + 1))) 5 (if c = nI 43 ∧ k + 1 < 4 then nI 4 else nI 7))
  else (false, σ)
def aShr (σ : gS) (c : Int32) (k : Nat) : BS :=
  if ¬ σ.1 11 6 = 0 ∧ k < 5 ∧ ((c = nI 43 ∧ k + 1 < 5) ∨ c = nI 108 ∨ c = nI 101) then
    (true, if c = nI 108 ∨ c = nI 101 then sP (sP (sP (sA (sP σ 6 (nI 0)) 15 (upd (σ.1 15) k (σ.1 11 6))) 11 (nI (k + 1))) 9 (if c = nI 101 then nI 1 else nI 0)) 5 (nI 8)
      else sP (sA (sP σ 6 (nI 0)) 15 (upd (σ.1 15) k (σ.1 11 6))) 11 (nI (k + 1)))
  else (false, σ)
def orB (a b : BS) : BS := if a.1 then a else b
def accS (σ : gS) (c : Int32) (p k q : Nat) : BS := match p with
  | 0 => aSign σ c (nI 112) (nI 1)
  | 1 => aPrin σ c
  | 2 => aSign σ c (nI 115) (nI 3)
  | 3 => orB (aExt σ c (nI 99999)) (aSum σ c)
  | 4 => aSure σ c k
  | 5 => aSign σ c (nI 42) (nI 6)
  | 6 => orB (aExt σ c (nI 99999)) (aLim σ c k)
  | 7 => orB (aExt σ c (nI 1000)) (aShr σ c q)
  | _ => (false, σ)
theorem aExt_f {σ : gS} {c most : Int32} (h : (aExt σ c most).1 = false) : (aExt σ c most).2 = σ := by
  unfold aExt at h ⊢
  split
  · rename_i hc
    rw [if_pos hc] at h
    cases h
  · rfl
/-- a bond's text that was read: layers apart, limits and shares small enough -/
def aheadI (f : Nat → Int32) (j : Nat) : Nat → Bool
  | 0 => false
  | i + 1 => aheadI f j i || decide (f i = f j)
theorem ne43_64 : ¬ nI 43 = nI 64 := by decide
theorem ne43_108 : ¬ nI 43 = nI 108 := by decide
theorem ne43_101 : ¬ nI 43 = nI 101 := by decide
theorem ne64_43 : ¬ nI 64 = nI 43 := by decide
theorem ne64_108 : ¬ nI 64 = nI 108 := by decide
theorem ne64_101 : ¬ nI 64 = nI 101 := by decide
theorem ne108_43 : ¬ nI 108 = nI 43 := by decide
theorem ne108_64 : ¬ nI 108 = nI 64 := by decide
theorem ne108_101 : ¬ nI 108 = nI 101 := by decide
theorem ne101_43 : ¬ nI 101 = nI 43 := by decide
theorem ne101_64 : ¬ nI 101 = nI 64 := by decide
theorem ne101_108 : ¬ nI 101 = nI 108 := by decide
theorem ahead_hit {f : Nat → Int32} {j i : Nat} (h : f i = f j) : ∀ n, i < n → aheadI f j n = true
  | 0, q => absurd q (Nat.not_lt_zero _)
  | n + 1, q => by
    unfold aheadI
    by_cases hi : i = n
    · subst hi; simp [h]
    · simp [ahead_hit h n (by omega)]
def soundL (σ : gS) : Nat → Bool
  | 0 => true
  | i + 1 => soundL σ i && (!decide (σ.1 13 i = σ.1 11 7) && !aheadI (σ.1 13) i i)
theorem soundL_f {σ : gS} {i : Nat} (h : soundL σ (i + 1) = false) : ∀ n, i < n → soundL σ n = false
  | 0, q => absurd q (Nat.not_lt_zero _)
  | n + 1, q => by
    by_cases hi : i = n
    · subst hi; exact h
    · unfold soundL; rw [soundL_f h n (by omega)]; rfl
def tN (x : Int32) : Nat := x.toNatClampNeg
theorem tN_nI {x : Int32} {j : Nat} (h : x = nI j) (hj : j < 2 ^ 31) : tN x = j := by rw [h]; exact nI_clamp hj
def accN (τ : gS) (c : Int32) : BS := accS τ c (tN (τ.1 11 5)) (tN (τ.1 11 10)) (tN (τ.1 11 11))
def rdS (τ : gS) : Nat → gS
  | 0 => τ
  | i + 1 => (accN (rdS τ i) (τ.1 12 i)).2
/-- the first place from i on that isn't accepted, f more to look at -/
def readI (τ : gS) : Nat → Nat → Nat
  | 0, i => i
  | f + 1, i => if (accN (rdS τ i) (τ.1 12 i)).1 then readI τ f (i + 1) else i
/-- what the text's reading numbers are -/
def TOK (σ : gS) : Prop := (∃ w, w ≤ 8 ∧ σ.1 11 5 = nI w) ∧ (∃ k, k ≤ 4 ∧ σ.1 11 10 = nI k) ∧ ∃ q, q ≤ 5 ∧ σ.1 11 11 = nI q
theorem aSign_f {σ : gS} {c s9 q : Int32} (h : (aSign σ c s9 q).1 = false) : (aSign σ c s9 q).2 = σ := by
  unfold aSign at h ⊢
  split
  · rename_i hc; rw [if_pos hc] at h; cases h
  · rfl
theorem aPrin_f {σ : gS} {c : Int32} (h : (aPrin σ c).1 = false) : (aPrin σ c).2 = σ := by
  unfold aPrin at h ⊢
  split
  · rename_i hc; rw [if_pos hc] at h; cases h
  · rfl
theorem aSure_f {σ : gS} {c : Int32} {k : Nat} (h : (aSure σ c k).1 = false) : (aSure σ c k).2 = σ := by
  unfold aSure at h ⊢
  split
  · rename_i hc; rw [if_pos hc] at h; cases h
  · rfl
theorem aSum_f {σ : gS} {c : Int32} (h : (aSum σ c).1 = false) : (aSum σ c).2 = σ := by
  unfold aSum at h ⊢
  split
  · rename_i hc; rw [if_pos hc] at h; cases h
  · rfl
theorem aLim_f {σ : gS} {c : Int32} {k : Nat} (h : (aLim σ c k).1 = false) : (aLim σ c k).2 = σ := by
  unfold aLim at h ⊢
  split
  · rename_i hc; rw [if_pos hc] at h; cases h
  · rfl
theorem aShr_f {σ : gS} {c : Int32} {k : Nat} (h : (aShr σ c k).1 = false) : (aShr σ c k).2 = σ := by
  unfold aShr at h ⊢
  split
  · rename_i hc; rw [if_pos hc] at h; cases h
  · rfl
theorem orB_f {a b : BS} (h : (orB a b).1 = false) : b.1 = false ∧ (orB a b).2 = b.2 := by
  unfold orB at h ⊢
  split
  · rename_i hc; rw [if_pos hc, hc] at h; cases h
  · rename_i hc; rw [if_neg hc] at h; exact ⟨h, rfl⟩
theorem accS_f {σ : gS} {c : Int32} {w k q : Nat} (h : (accS σ c w k q).1 = false) : (accS σ c w k q).2 = σ := by
  match w, h with
  | 0, h => exact aSign_f h
  | 1, h => exact aPrin_f h
  | 2, h => exact aSign_f h
  | 3, h => exact (orB_f h).2.trans (aSum_f (orB_f h).1)
  | 4, h => exact aSure_f h
  | 5, h => exact aSign_f h
  | 6, h => exact (orB_f h).2.trans (aLim_f (orB_f h).1)
  | 7, h => exact (orB_f h).2.trans (aShr_f (orB_f h).1)
  | w + 8, _ => rfl
def rd0 (σ : gS) : gS := sP (sP (sP (sP σ 5 (nI 0)) 6 (nI 0)) 10 (nI 0)) 11 (nI 0)
theorem rd0_12 (σ : gS) : (rd0 σ).1 12 = σ.1 12 := by simp [rd0, sP, sA]
theorem rd0_4 (σ : gS) : (rd0 σ).1 11 4 = σ.1 11 4 := by simp [rd0, sP, sA, upd]
theorem rd0_ok (σ : gS) : TOK (rd0 σ) := ⟨⟨0, by decide, by simp [rd0, sP, sA, upd]⟩, ⟨0, by decide, by simp [rd0, sP, sA, upd]⟩, 0, by decide, by simp [rd0, sP, sA, upd]⟩
/-- behind the reading of n characters -/
def rdE (τ : gS) (n : Nat) : gS := if readI τ n 0 < n then sP (rdS τ (readI τ n 0)) 5 (nI 0) else rdS τ n
theorem rdE_lt {τ : gS} {n i : Nat} (h : readI τ n 0 < n) (hi : readI τ n 0 = i) : rdE τ n = sP (rdS τ i) 5 (nI 0) := by unfold rdE; rw [if_pos h, hi]
theorem rdE_eq {τ : gS} {n : Nat} (h : readI τ n 0 = n) : rdE τ n = rdS τ n := by unfold rdE; rw [if_neg (by omega)]
theorem accN_eq {τ : gS} {c : Int32} {w k q : Nat} (hw : τ.1 11 5 = nI w) (hw8 : w ≤ 8) (hk : τ.1 11 10 = nI k) (hk4 : k ≤ 4) (hq : τ.1 11 11 = nI q) (hq5 : q ≤ 5) : accN τ c = accS τ c w k q := by
  unfold accN
  rw [tN_nI hw (by omega), tN_nI hk (by omega), tN_nI hq (by omega)]
theorem rdS_succ {τ : gS} {i w k q : Nat} (hw : (rdS τ i).1 11 5 = nI w) (hw8 : w ≤ 8) (hk : (rdS τ i).1 11 10 = nI k) (hk4 : k ≤ 4) (hq : (rdS τ i).1 11 11 = nI q) (hq5 : q ≤ 5) : rdS τ (i + 1) = (accS (rdS τ i) (τ.1 12 i) w k q).2 := by
  show (accN (rdS τ i) (τ.1 12 i)).2 = _
  rw [accN_eq hw hw8 hk hk4 hq hq5]
theorem readI_t {τ : gS} {i w k q r : Nat} (hw : (rdS τ i).1 11 5 = nI w) (hw8 : w ≤ 8) (hk : (rdS τ i).1 11 10 = nI k) (hk4 : k ≤ 4) (hq : (rdS τ i).1 11 11 = nI q) (hq5 : q ≤ 5) (h : (accS (rdS τ i) (τ.1 12 i) w k q).1 = true) : readI τ (r + 1) i = readI τ r (i + 1) := by
  show (if (accN (rdS τ i) (τ.1 12 i)).1 then _ else _) = _
  rw [accN_eq hw hw8 hk hk4 hq hq5, if_pos h]
theorem readI_f {τ : gS} {i w k q r : Nat} (hw : (rdS τ i).1 11 5 = nI w) (hw8 : w ≤ 8) (hk : (rdS τ i).1 11 10 = nI k) (hk4 : k ≤ 4) (hq : (rdS τ i).1 11 11 = nI q) (hq5 : q ≤ 5) (hr : 0 < r) (h : (accS (rdS τ i) (τ.1 12 i) w k q).1 = false) : readI τ r i = i := by
  obtain ⟨r, rfl⟩ : ∃ r', r = r' + 1 := ⟨r - 1, by omega⟩
  show (if (accN (rdS τ i) (τ.1 12 i)).1 then _ else _) = _
  rw [accN_eq hw hw8 hk hk4 hq hq5, if_neg (by rw [h]; decide)]
theorem sP_at (σ : gS) (f g : Nat) (x : Int32) : (sP σ f x).1 11 g = if g = f then x else σ.1 11 g := by simp [sP, sA, upd]
theorem sP_ne (σ : gS) (f : Nat) (x : Int32) {o : Nat} (h : o ≠ 11) : (sP σ f x).1 o = σ.1 o := by simp [sP, sA, h]
/-- what every step of the reading keeps -/
def Kp (σ σ' : gS) : Prop := TOK σ' ∧ σ'.1 12 = σ.1 12 ∧ σ'.1 11 4 = σ.1 11 4
theorem accS_ok {σ : gS} {c : Int32} {w k q : Nat} (hw : σ.1 11 5 = nI w) (hw8 : w ≤ 8) (hk : σ.1 11 10 = nI k) (hk4 : k ≤ 4) (hq : σ.1 11 11 = nI q) (hq5 : q ≤ 5) : Kp σ (accS σ c w k q).2 := by
  have h0 : Kp σ σ := ⟨⟨⟨w, hw8, hw⟩, ⟨k, hk4, hk⟩, q, hq5, hq⟩, rfl, rfl⟩
  have hs : ∀ (s9 : Int32) (v : Nat), v ≤ 8 → Kp σ (aSign σ c s9 (nI v)).2 := by
    intro s9 v hv
    unfold aSign
    split
    · exact ⟨⟨⟨v, hv, by simp [sP_at]⟩, ⟨k, hk4, by simp [sP_at, hk]⟩, q, hq5, by simp [sP_at, hq]⟩, sP_ne _ _ _ (by decide), by simp [sP_at]⟩
    · exact h0
  have he : ∀ most : Int32, Kp σ (aExt σ c most).2 := by
    intro most
    unfold aExt
    split
    · exact ⟨⟨⟨w, hw8, by simp [sP_at, hw]⟩, ⟨k, hk4, by simp [sP_at, hk]⟩, q, hq5, by simp [sP_at, hq]⟩, sP_ne _ _ _ (by decide), by simp [sP_at]⟩
    · exact h0
  have ho : ∀ (a b : BS), Kp σ a.2 → Kp σ b.2 → Kp σ (orB a b).2 := by
    intro a b ha hb
    unfold orB
    split
    · exact ha
    · exact hb
  unfold accS
  split
  · exact hs _ 1 (by decide)
  · unfold aPrin
    split
    · exact ⟨⟨⟨2, by decide, by simp [sP_at]⟩, ⟨k, hk4, by simp [sP_at, hk]⟩, q, hq5, by simp [sP_at, hq]⟩, by rw [sP_ne _ _ _ (by decide), sP_ne _ _ _ (by decide)], by simp [sP_at]⟩
    · exact h0
  · exact hs _ 3 (by decide)
  · refine ho _ _ (he _) ?_
    unfold aSum
    split
    · exact ⟨⟨⟨4, by decide, by simp [sP_at]⟩, ⟨k, hk4, by simp [sP_at, hk]⟩, q, hq5, by simp [sP_at, hq]⟩, by rw [sP_ne _ _ _ (by decide), sP_ne _ _ _ (by decide), sP_ne _ _ _ (by decide)], by simp [sP_at]⟩
    · exact h0
  · unfold aSure
    split
    · exact ⟨⟨⟨5, by decide, by simp [sP_at]⟩, ⟨k, hk4, by simp [sP_at, sA_ne, hk]⟩, q, hq5, by simp [sP_at, sA_ne, hq]⟩, by rw [sP_ne _ _ _ (by decide), sA_ne _ _ (by decide)], by simp [sP_at, sA_ne]⟩
    · exact h0
  · exact hs _ 6 (by decide)
  · refine ho _ _ (he _) ?_
    unfold aLim
    split
    · rename_i hc
      refine ⟨⟨?_, ⟨k + 1, hc.2.1, by simp [sP_at]⟩, q, hq5, by simp [sP_at, sA_ne, hq]⟩, by rw [sP_ne _ _ _ (by decide), sP_ne _ _ _ (by decide), sA_ne _ _ (by decide), sP_ne _ _ _ (by decide)], by simp [sP_at, sA_ne]⟩
      by_cases hd : c = nI 43 ∧ k + 1 < 4
      · exact ⟨4, by decide, by simp [sP_at, hd]⟩
      · exact ⟨7, by decide, by rw [sP_at, if_pos rfl, if_neg hd]⟩
    · exact h0
  · refine ho _ _ (he _) ?_
    unfold aShr
    split
    · rename_i hc
      dsimp only
      split
      · exact ⟨⟨⟨8, by decide, by simp [sP_at]⟩, ⟨k, hk4, by simp [sP_at, sA_ne, hk]⟩, q + 1, hc.2.1, by simp [sP_at]⟩, by rw [sP_ne _ _ _ (by decide), sP_ne _ _ _ (by decide), sP_ne _ _ _ (by decide), sA_ne _ _ (by decide), sP_ne _ _ _ (by decide)], by simp [sP_at, sA_ne]⟩
      · exact ⟨⟨⟨7, by decide, by simp [sP_at, sA_ne, hw]⟩, ⟨k, hk4, by simp [sP_at, sA_ne, hk]⟩, q + 1, hc.2.1, by simp [sP_at]⟩, by rw [sP_ne _ _ _ (by decide), sA_ne _ _ (by decide), sP_ne _ _ _ (by decide)], by simp [sP_at, sA_ne]⟩
    · exact h0
  · exact h0
theorem rdS_ok {τ : gS} (h : TOK τ) : ∀ i, Kp τ (rdS τ i)
  | 0 => ⟨h, rfl, rfl⟩
  | i + 1 => by
    obtain ⟨⟨⟨w, hw8, hw⟩, ⟨k, hk4, hk⟩, q, hq5, hq⟩, hcd, hln⟩ := rdS_ok h i
    obtain ⟨h1, h2, h3⟩ := accS_ok (c := τ.1 12 i) hw hw8 hk hk4 hq hq5
    rw [← rdS_succ hw hw8 hk hk4 hq hq5] at h1 h2 h3
    exact ⟨h1, h2.trans hcd, h3.trans hln⟩

set_option maxRecDepth 20000 in
theorem k_X0_length (l : Launch) (γ : gG) (σ : gS) : gM l γ yX0_length wsX0_length ({ frames := 0, cells := 0, slots := 0, locals := 0 } : Room) [.ref (ad γ 11)] σ (gis (some (.int (σ.1 11 4))) σ) 0 0 := by
  refine g_enter (own := RX0) (cc := cX0_length) (nL := 1) (ret := (some .int)) [some (.ref (ad γ 11))] (by decide) rfl rfl (by simp [lg_sl, Value.category]) (by simp [gl_le, glE, Value.category]) (fun hj p e s m args below meth c X hr hlk hnm => ?_)
  have hi0 : ∀ w ∈ wsX00, w ∈ wsX0_length := by decide +kernel
  refine g_aload_n X dX0_length_0 rfl rfl ?_
  refine g_get_11_4 X hi0 (by decide +kernel) dX0_length_1 ?_
  exact g_iret X hr hlk dX0_length_4 ⟨rfl, rfl⟩
set_option maxRecDepth 20000 in
theorem k_X0_principal (l : Launch) (γ : gG) (σ : gS) : gM l γ yX0_principal wsX0_principal ({ frames := 0, cells := 0, slots := 0, locals := 0 } : Room) [.ref (ad γ 11)] σ (gis (some (.int (σ.1 11 7))) σ) 0 0 := by
  refine g_enter (own := RX0) (cc := cX0_principal) (nL := 1) (ret := (some .int)) [some (.ref (ad γ 11))] (by decide) rfl rfl (by simp [lg_sl, Value.category]) (by simp [gl_le, glE, Value.category]) (fun hj p e s m args below meth c X hr hlk hnm => ?_)
  have hi0 : ∀ w ∈ wsX00, w ∈ wsX0_principal := by decide +kernel
  refine g_aload_n X dX0_principal_0 rfl rfl ?_
  refine g_get_11_7 X hi0 (by decide +kernel) dX0_principal_1 ?_
  exact g_iret X hr hlk dX0_principal_4 ⟨rfl, rfl⟩
set_option maxRecDepth 20000 in
theorem k_X0_sum (l : Launch) (γ : gG) (σ : gS) : gM l γ yX0_sum wsX0_sum ({ frames := 0, cells := 0, slots := 0, locals := 0 } : Room) [.ref (ad γ 11)] σ (gis (some (.int (σ.1 11 8))) σ) 0 0 := by
  refine g_enter (own := RX0) (cc := cX0_sum) (nL := 1) (ret := (some .int)) [some (.ref (ad γ 11))] (by decide) rfl rfl (by simp [lg_sl, Value.category]) (by simp [gl_le, glE, Value.category]) (fun hj p e s m args below meth c X hr hlk hnm => ?_)
  have hi0 : ∀ w ∈ wsX00, w ∈ wsX0_sum := by decide +kernel
  refine g_aload_n X dX0_sum_0 rfl rfl ?_
  refine g_get_11_8 X hi0 (by decide +kernel) dX0_sum_1 ?_
  exact g_iret X hr hlk dX0_sum_4 ⟨rfl, rfl⟩
set_option maxRecDepth 20000 in
theorem k_X0_way (l : Launch) (γ : gG) (σ : gS) : gM l γ yX0_way wsX0_way ({ frames := 0, cells := 0, slots := 0, locals := 0 } : Room) [.ref (ad γ 11)] σ (gis (some (.int (σ.1 11 9))) σ) 0 0 := by
  refine g_enter (own := RX0) (cc := cX0_way) (nL := 1) (ret := (some .int)) [some (.ref (ad γ 11))] (by decide) rfl rfl (by simp [lg_sl, Value.category]) (by simp [gl_le, glE, Value.category]) (fun hj p e s m args below meth c X hr hlk hnm => ?_)
  have hi0 : ∀ w ∈ wsX00, w ∈ wsX0_way := by decide +kernel
  refine g_aload_n X dX0_way_0 rfl rfl ?_
  refine g_get_11_9 X hi0 (by decide +kernel) dX0_way_1 ?_
  exact g_iret X hr hlk dX0_way_4 ⟨rfl, rfl⟩
set_option maxRecDepth 20000 in
theorem k_X0_layers (l : Launch) (γ : gG) (σ : gS) : gM l γ yX0_layers wsX0_layers ({ frames := 0, cells := 0, slots := 0, locals := 0 } : Room) [.ref (ad γ 11)] σ (gis (some (.int (σ.1 11 10))) σ) 0 0 := by
  refine g_enter (own := RX0) (cc := cX0_layers) (nL := 1) (ret := (some .int)) [some (.ref (ad γ 11))] (by decide) rfl rfl (by simp [lg_sl, Value.category]) (by simp [gl_le, glE, Value.category]) (fun hj p e s m args below meth c X hr hlk hnm => ?_)
  have hi0 : ∀ w ∈ wsX00, w ∈ wsX0_layers := by decide +kernel
  refine g_aload_n X dX0_layers_0 rfl rfl ?_
  refine g_get_11_10 X hi0 (by decide +kernel) dX0_layers_1 ?_
  exact g_iret X hr hlk dX0_layers_4 ⟨rfl, rfl⟩
set_option maxRecDepth 20000 in
theorem k_X0_milestones (l : Launch) (γ : gG) (σ : gS) : gM l γ yX0_milestones wsX0_milestones ({ frames := 0, cells := 0, slots := 0, locals := 0 } : Room) [.ref (ad γ 11)] σ (gis (some (.int (σ.1 11 11))) σ) 0 0 := by
  refine g_enter (own := RX0) (cc := cX0_milestones) (nL := 1) (ret := (some .int)) [some (.ref (ad γ 11))] (by decide) rfl rfl (by simp [lg_sl, Value.category]) (by simp [gl_le, glE, Value.category]) (fun hj p e s m args below meth c X hr hlk hnm => ?_)
  have hi0 : ∀ w ∈ wsX00, w ∈ wsX0_milestones := by decide +kernel
  refine g_aload_n X dX0_milestones_0 rfl rfl ?_
  refine g_get_11_11 X hi0 (by decide +kernel) dX0_milestones_1 ?_
  exact g_iret X hr hlk dX0_milestones_4 ⟨rfl, rfl⟩
set_option maxRecDepth 20000 in
theorem k_X0_codeAt (l : Launch) (γ : gG) (σ : gS) (j : Nat) (hj60 : j < 60) : gM l γ yX0_codeAt wsX0_codeAt ({ frames := 0, cells := 0, slots := 0, locals := 0 } : Room) [.ref (ad γ 11), .int (nI j)] σ (gis (some (.int (σ.1 12 j))) σ) 0 0 := by
  refine g_enter (own := RX0) (cc := cX0_codeAt) (nL := 2) (ret := (some .int)) [some (.ref (ad γ 11)), some (.int (nI j))] (by decide) rfl rfl (by simp [lg_sl, Value.category]) (by simp [gl_le, glE, Value.category]) (fun hj p e s m args below meth c X hr hlk hnm => ?_)
  have hi0 : ∀ w ∈ wsX00, w ∈ wsX0_codeAt := by decide +kernel
  refine g_aload_n X dX0_codeAt_0 rfl rfl ?_
  refine g_get_11_0 X hi0 (by decide +kernel) dX0_codeAt_1 ?_
  refine g_iload_n X dX0_codeAt_4 rfl rfl ?_
  refine g_ald_12 X rfl (by omega) dX0_codeAt_5 ?_
  exact g_iret X hr hlk dX0_codeAt_6 ⟨rfl, rfl⟩
set_option maxRecDepth 20000 in
theorem k_X0_surety (l : Launch) (γ : gG) (σ : gS) (j : Nat) (hj4 : j < 4) : gM l γ yX0_surety wsX0_surety ({ frames := 0, cells := 0, slots := 0, locals := 0 } : Room) [.ref (ad γ 11), .int (nI j)] σ (gis (some (.int (σ.1 13 j))) σ) 0 0 := by
  refine g_enter (own := RX0) (cc := cX0_surety) (nL := 2) (ret := (some .int)) [some (.ref (ad γ 11)), some (.int (nI j))] (by decide) rfl rfl (by simp [lg_sl, Value.category]) (by simp [gl_le, glE, Value.category]) (fun hj p e s m args below meth c X hr hlk hnm => ?_)
  have hi0 : ∀ w ∈ wsX00, w ∈ wsX0_surety := by decide +kernel
  refine g_aload_n X dX0_surety_0 rfl rfl ?_
  refine g_get_11_1 X hi0 (by decide +kernel) dX0_surety_1 ?_
  refine g_iload_n X dX0_surety_4 rfl rfl ?_
  refine g_ald_13 X rfl (by omega) dX0_surety_5 ?_
  exact g_iret X hr hlk dX0_surety_6 ⟨rfl, rfl⟩
set_option maxRecDepth 20000 in
theorem k_X0_limit (l : Launch) (γ : gG) (σ : gS) (j : Nat) (hj4 : j < 4) : gM l γ yX0_limit wsX0_limit ({ frames := 0, cells := 0, slots := 0, locals := 0 } : Room) [.ref (ad γ 11), .int (nI j)] σ (gis (some (.int (σ.1 14 j))) σ) 0 0 := by
  refine g_enter (own := RX0) (cc := cX0_limit) (nL := 2) (ret := (some .int)) [some (.ref (ad γ 11)), some (.int (nI j))] (by decide) rfl rfl (by simp [lg_sl, Value.category]) (by simp [gl_le, glE, Value.category]) (fun hj p e s m args below meth c X hr hlk hnm => ?_)
  have hi0 : ∀ w ∈ wsX00, w ∈ wsX0_limit := by decide +kernel
  refine g_aload_n X dX0_limit_0 rfl rfl ?_
  refine g_get_11_2 X hi0 (by decide +kernel) dX0_limit_1 ?_
  refine g_iload_n X dX0_limit_4 rfl rfl ?_
  refine g_ald_14 X rfl (by omega) dX0_limit_5 ?_
  exact g_iret X hr hlk dX0_limit_6 ⟨rfl, rfl⟩
set_option maxRecDepth 20000 in
theorem k_X0_share (l : Launch) (γ : gG) (σ : gS) (j : Nat) (hj5 : j < 5) : gM l γ yX0_share wsX0_share ({ frames := 0, cells := 0, slots := 0, locals := 0 } : Room) [.ref (ad γ 11), .int (nI j)] σ (gis (some (.int (σ.1 15 j))) σ) 0 0 := by
  refine g_enter (own := RX0) (cc := cX0_share) (nL := 2) (ret := (some .int)) [some (.ref (ad γ 11)), some (.int (nI j))] (by decide) rfl rfl (by simp [lg_sl, Value.category]) (by simp [gl_le, glE, Value.category]) (fun hj p e s m args below meth c X hr hlk hnm => ?_)
  have hi0 : ∀ w ∈ wsX00, w ∈ wsX0_share := by decide +kernel
  refine g_aload_n X dX0_share_0 rfl rfl ?_
  refine g_get_11_3 X hi0 (by decide +kernel) dX0_share_1 ?_
  refine g_iload_n X dX0_share_4 rfl rfl ?_
  refine g_ald_15 X rfl (by omega) dX0_share_5 ?_
  exact g_iret X hr hlk dX0_share_6 ⟨rfl, rfl⟩
set_option maxRecDepth 20000 in
theorem k_X0_add (l : Launch) (γ : gG) (σ : gS) (j : Nat) (ch : Int32) (hl : σ.1 11 4 = nI j) (hj60 : j < 60) : gM l γ yX0_add wsX0_add ({ frames := 0, cells := 0, slots := 0, locals := 0 } : Room) [.ref (ad γ 11), .int ch] σ (gis none (sP (sA σ 12 (upd (σ.1 12) j ch)) 4 (nI (j + 1)))) 0 0 := by
  refine g_enter (own := RX0) (cc := cX0_add) (nL := 2) (ret := none) [some (.ref (ad γ 11)), some (.int ch)] (by decide) rfl rfl (by simp [lg_sl, Value.category]) (by simp [gl_le, glE, Value.category]) (fun hj p e s m args below meth c X hr hlk hnm => ?_)
  have hi0 : ∀ w ∈ wsX00, w ∈ wsX0_add := by decide +kernel
  refine g_aload_n X dX0_add_0 rfl rfl ?_
  refine g_get_11_0 X hi0 (by decide +kernel) dX0_add_1 ?_
  refine g_aload_n X dX0_add_4 rfl rfl ?_
  refine g_get_11_4 X hi0 (by decide +kernel) dX0_add_5 ?_
  refine g_top hl ?_
  refine g_iload_n X dX0_add_8 rfl rfl ?_
  refine g_ast_12 X rfl (by omega) dX0_add_9 ?_
  refine g_aload_n X dX0_add_10 rfl rfl ?_
  refine g_dup X dX0_add_11 rfl ?_
  refine g_get_11_4 X hi0 (by decide +kernel) dX0_add_12 ?_
  refine g_top (y := nI j) (by rw [sA_ne _ _ (by omega)]; exact hl) ?_
  refine g_iconstN X 1 dX0_add_15 ?_
  refine g_iaddN X dX0_add_16 ?_
  refine g_put_11_4 X hi0 (by decide +kernel) dX0_add_17 ?_
  exact g_vret X hr hlk dX0_add_20 ⟨rfl, rfl⟩
set_option maxRecDepth 20000 in
theorem k_X0_clear (l : Launch) (γ : gG) (σ : gS) : gM l γ yX0_clear wsX0_clear ({ frames := 0, cells := 0, slots := 0, locals := 0 } : Room) [.ref (ad γ 11)] σ (gis none (sP σ 4 (nI 0))) 0 0 := by
  refine g_enter (own := RX0) (cc := cX0_clear) (nL := 1) (ret := none) [some (.ref (ad γ 11))] (by decide) rfl rfl (by simp [lg_sl, Value.category]) (by simp [gl_le, glE, Value.category]) (fun hj p e s m args below meth c X hr hlk hnm => ?_)
  have hi0 : ∀ w ∈ wsX00, w ∈ wsX0_clear := by decide +kernel
  refine g_aload_n X dX0_clear_0 rfl rfl ?_
  refine g_iconstN X 0 dX0_clear_1 ?_
  refine g_put_11_4 X hi0 (by decide +kernel) dX0_clear_2 ?_
  exact g_vret X hr hlk dX0_clear_5 ⟨rfl, rfl⟩
set_option maxRecDepth 20000 in
theorem k_X0_isBond (l : Launch) (γ : gG) (σ : gS) : gM l γ yX0_isBond wsX0_isBond ({ frames := 0, cells := 0, slots := 0, locals := 0 } : Room) [.ref (ad γ 11)] σ (gis (some (.int (bI (decide (σ.1 11 5 = nI 8))))) σ) 0 0 := by
  refine g_enter (own := RX0) (cc := cX0_isBond) (nL := 1) (ret := (some .boolean)) [some (.ref (ad γ 11))] (by decide) rfl rfl (by simp [lg_sl, Value.category]) (by simp [gl_le, glE, Value.category]) (fun hj p e s m args below meth c X hr hlk hnm => ?_)
  have hi0 : ∀ w ∈ wsX00, w ∈ wsX0_isBond := by decide +kernel
  refine g_aload_n X dX0_isBond_0 rfl rfl ?_
  refine g_get_11_5 X hi0 (by decide +kernel) dX0_isBond_1 ?_
  refine g_bipush (v := nI 8) X dX0_isBond_4 (by decide) ?_
  refine g_icmp_ne (tgt := 13) X dX0_isBond_6 (by decide) (fun c_6 => ?_) (fun c_6 => ?_)
  · refine g_iconstN X 0 dX0_isBond_13 ?_
    exact g_zret X hr hlk rfl dX0_isBond_14 ⟨by simp [bI, *], rfl⟩
  · refine g_iconstN X 1 dX0_isBond_9 ?_
    refine g_goto (tgt := 14) X dX0_isBond_10 (by decide) ?_
    exact g_zret X hr hlk rfl dX0_isBond_14 ⟨by simp [bI, *], rfl⟩
set_option maxRecDepth 20000 in
theorem k_X0_takeNumber (l : Launch) (γ : gG) (σ : gS) : gM l γ yX0_takeNumber wsX0_takeNumber ({ frames := 0, cells := 0, slots := 0, locals := 0 } : Room) [.ref (ad γ 11)] σ (gis (some (.int (σ.1 11 6))) (sP σ 6 (nI 0))) 0 0 := by
  refine g_enter (own := RX0) (cc := cX0_takeNumber) (nL := 2) (ret := (some .int)) [some (.ref (ad γ 11)), none] (by decide) rfl rfl (by simp [lg_sl, Value.category]) (by simp [gl_le, glE, Value.category]) (fun hj p e s m args below meth c X hr hlk hnm => ?_)
  have hi0 : ∀ w ∈ wsX00, w ∈ wsX0_takeNumber := by decide +kernel
  refine g_aload_n X dX0_takeNumber_0 rfl rfl ?_
  refine g_get_11_6 X hi0 (by decide +kernel) dX0_takeNumber_1 ?_
  refine g_istore_n1 X dX0_takeNumber_4 rfl (by decide) rfl ?_
  refine g_aload_n X dX0_takeNumber_5 rfl rfl ?_
  refine g_iconstN X 0 dX0_takeNumber_6 ?_
  refine g_put_11_6 X hi0 (by decide +kernel) dX0_takeNumber_7 ?_
  refine g_iload_n X dX0_takeNumber_10 rfl rfl ?_
  exact g_iret X hr hlk dX0_takeNumber_11 ⟨rfl, rfl⟩
set_option maxRecDepth 20000 in
theorem k_X0_acceptsSign (l : Launch) (γ : gG) (σ : gS) (ch s9 q : Int32) : gM l γ yX0_acceptsSign wsX0_acceptsSign ({ frames := 0, cells := 0, slots := 0, locals := 0 } : Room) [.ref (ad γ 11), .int ch, .int s9, .int q] σ (gis (some (.int (bI (aSign σ ch s9 q).1))) (aSign σ ch s9 q).2) 0 0 := by
  refine g_enter (own := RX0) (cc := cX0_acceptsSign) (nL := 4) (ret := (some .boolean)) [some (.ref (ad γ 11)), some (.int ch), some (.int s9), some (.int q)] (by decide) rfl rfl (by simp [lg_sl, Value.category]) (by simp [gl_le, glE, Value.category]) (fun hj p e s m args below meth c X hr hlk hnm => ?_)
  have hi0 : ∀ w ∈ wsX00, w ∈ wsX0_acceptsSign := by decide +kernel
  refine g_iload_n X dX0_acceptsSign_0 rfl rfl ?_
  refine g_iload_n X dX0_acceptsSign_1 rfl rfl ?_
  refine g_icmp_eq (tgt := 7) X dX0_acceptsSign_2 (by decide) (fun c_2 => ?_) (fun c_2 => ?_)
  · refine g_aload_n X dX0_acceptsSign_7 rfl rfl ?_
    refine g_iload_n X dX0_acceptsSign_8 rfl rfl ?_
    refine g_put_11_5 X hi0 (by decide +kernel) dX0_acceptsSign_9 ?_
    refine g_iconstN X 1 dX0_acceptsSign_12 ?_
    exact g_zret X hr hlk rfl dX0_acceptsSign_13 ⟨by simp [aSign, bI, *], by simp [aSign, sP, *]⟩
  · refine g_iconstN X 0 dX0_acceptsSign_5 ?_
    exact g_zret X hr hlk rfl dX0_acceptsSign_6 ⟨by simp [aSign, bI, *], by simp [aSign, sP, *]⟩
set_option maxRecDepth 20000 in
theorem k_X0_acceptsPrincipal (l : Launch) (γ : gG) (σ : gS) (ch : Int32) : gM l γ yX0_acceptsPrincipal wsX0_acceptsPrincipal ({ frames := 1, cells := 0, slots := 0, locals := 20 } : Room) [.ref (ad γ 11), .int ch] σ (gis (some (.int (bI (aPrin σ ch).1))) (aPrin σ ch).2) 0 0 := by
  refine g_enter (own := RX0) (cc := cX0_acceptsPrincipal) (nL := 2) (ret := (some .boolean)) [some (.ref (ad γ 11)), some (.int ch)] (by decide) rfl rfl (by simp [lg_sl, Value.category]) (by simp [gl_le, glE, Value.category]) (fun hj p e s m args below meth c X hr hlk hnm => ?_)
  have hi0 : ∀ w ∈ wsX00, w ∈ wsX0_acceptsPrincipal := by decide +kernel
  refine g_iload_n X dX0_acceptsPrincipal_0 rfl rfl ?_
  refine g_bipush (v := nI 48) X dX0_acceptsPrincipal_1 (by decide) ?_
  refine g_isub X dX0_acceptsPrincipal_3 ?_
  refine g_callSi (na := 1) X hj (k_X3_isPerson l γ _ _) gX0_acceptsPrincipal_X3_isPerson rfl ⟨rfl, rfl⟩ (by decide +kernel) rfl ⟨by decide, by decide⟩ rfl (Nat.le_of_ble_eq_true rfl) dX0_acceptsPrincipal_4 ⟨by decide, by decide⟩ ?_
  refine g_if_ne (tgt := 12) X dX0_acceptsPrincipal_7 (by decide) (fun c_7 => ?_) (fun c_7 => ?_)
  · replace c_7 := bI_t c_7
    refine g_aload_n X dX0_acceptsPrincipal_12 rfl rfl ?_
    refine g_iload_n X dX0_acceptsPrincipal_13 rfl rfl ?_
    refine g_bipush (v := nI 48) X dX0_acceptsPrincipal_14 (by decide) ?_
    refine g_isub X dX0_acceptsPrincipal_16 ?_
    refine g_put_11_7 X hi0 (by decide +kernel) dX0_acceptsPrincipal_17 ?_
    refine g_aload_n X dX0_acceptsPrincipal_20 rfl rfl ?_
    refine g_iconstN X 2 dX0_acceptsPrincipal_21 ?_
    refine g_put_11_5 X hi0 (by decide +kernel) dX0_acceptsPrincipal_22 ?_
    refine g_iconstN X 1 dX0_acceptsPrincipal_25 ?_
    exact g_zret X hr hlk rfl dX0_acceptsPrincipal_26 ⟨by simp [aPrin, bI, *], by simp [aPrin, sP, *]⟩
  · replace c_7 := bI_f c_7
    refine g_iconstN X 0 dX0_acceptsPrincipal_10 ?_
    exact g_zret X hr hlk rfl dX0_acceptsPrincipal_11 ⟨by simp [aPrin, bI, *], by simp [aPrin, sP, *]⟩
set_option maxRecDepth 20000 in
theorem k_X0_acceptsSurety (l : Launch) (γ : gG) (σ : gS) (ch : Int32) (k : Nat) (hk : σ.1 11 10 = nI k) (hk4 : k ≤ 4) : gM l γ yX0_acceptsSurety wsX0_acceptsSurety ({ frames := 1, cells := 0, slots := 0, locals := 20 } : Room) [.ref (ad γ 11), .int ch] σ (gis (some (.int (bI (aSure σ ch k).1))) (aSure σ ch k).2) 0 0 := by
  refine g_enter (own := RX0) (cc := cX0_acceptsSurety) (nL := 2) (ret := (some .boolean)) [some (.ref (ad γ 11)), some (.int ch)] (by decide) rfl rfl (by simp [lg_sl, Value.category]) (by simp [gl_le, glE, Value.category]) (fun hj p e s m args below meth c X hr hlk hnm => ?_)
  have hi0 : ∀ w ∈ wsX00, w ∈ wsX0_acceptsSurety := by decide +kernel
  refine g_iload_n X dX0_acceptsSurety_0 rfl rfl ?_
  refine g_bipush (v := nI 48) X dX0_acceptsSurety_1 (by decide) ?_
  refine g_isub X dX0_acceptsSurety_3 ?_
  refine g_callSi (na := 1) X hj (k_X3_isPerson l γ _ _) gX0_acceptsSurety_X3_isPerson rfl ⟨rfl, rfl⟩ (by decide +kernel) rfl ⟨by decide, by decide⟩ rfl (Nat.le_of_ble_eq_true rfl) dX0_acceptsSurety_4 ⟨by decide, by decide⟩ ?_
  refine g_if_eq (tgt := 18) X dX0_acceptsSurety_7 (by decide) (fun c_7 => ?_) (fun c_7 => ?_)
  · replace c_7 := bI_f c_7
    refine g_iconstN X 0 dX0_acceptsSurety_18 ?_
    exact g_zret X hr hlk rfl dX0_acceptsSurety_19 ⟨by simp [aSure, bI, *, Nat.not_lt_of_le], by simp [aSure, sP, *, Nat.not_lt_of_le]⟩
  · replace c_7 := bI_t c_7
    refine g_aload_n X dX0_acceptsSurety_10 rfl rfl ?_
    refine g_get_11_10 X hi0 (by decide +kernel) dX0_acceptsSurety_11 ?_
    refine g_top hk ?_
    refine g_iconstN X 4 dX0_acceptsSurety_14 ?_
    refine g_icmpN_lt (tgt := 20) X dX0_acceptsSurety_15 (by decide) (by omega) (by omega) (fun c_15 => ?_) (fun c_15 => ?_)
    · refine g_aload_n X dX0_acceptsSurety_20 rfl rfl ?_
      refine g_get_11_1 X hi0 (by decide +kernel) dX0_acceptsSurety_21 ?_
      refine g_aload_n X dX0_acceptsSurety_24 rfl rfl ?_
      refine g_get_11_10 X hi0 (by decide +kernel) dX0_acceptsSurety_25 ?_
      refine g_top hk ?_
      refine g_iload_n X dX0_acceptsSurety_28 rfl rfl ?_
      refine g_bipush (v := nI 48) X dX0_acceptsSurety_29 (by decide) ?_
      refine g_isub X dX0_acceptsSurety_31 ?_
      refine g_ast_13 X rfl (by omega) dX0_acceptsSurety_32 ?_
      refine g_aload_n X dX0_acceptsSurety_33 rfl rfl ?_
      refine g_iconstN X 5 dX0_acceptsSurety_34 ?_
      refine g_put_11_5 X hi0 (by decide +kernel) dX0_acceptsSurety_35 ?_
      refine g_iconstN X 1 dX0_acceptsSurety_38 ?_
      exact g_zret X hr hlk rfl dX0_acceptsSurety_39 ⟨by simp [aSure, bI, *, Nat.not_lt_of_le], by simp [aSure, sP, *, Nat.not_lt_of_le]⟩
    · refine g_iconstN X 0 dX0_acceptsSurety_18 ?_
      exact g_zret X hr hlk rfl dX0_acceptsSurety_19 ⟨by simp [aSure, bI, *, Nat.not_lt_of_le], by simp [aSure, sP, *, Nat.not_lt_of_le]⟩
set_option maxRecDepth 20000 in
theorem k_X0_extendsNumber (l : Launch) (γ : gG) (σ : gS) (ch most : Int32) : gM l γ yX0_extendsNumber wsX0_extendsNumber ({ frames := 0, cells := 0, slots := 0, locals := 0 } : Room) [.ref (ad γ 11), .int ch, .int most] σ (gis (some (.int (bI (aExt σ ch most).1))) (aExt σ ch most).2) 0 0 := by
  refine g_enter (own := RX0) (cc := cX0_extendsNumber) (nL := 4) (ret := (some .boolean)) [some (.ref (ad γ 11)), some (.int ch), some (.int most), none] (by decide) rfl rfl (by simp [lg_sl, Value.category]) (by simp [gl_le, glE, Value.category]) (fun hj p e s m args below meth c X hr hlk hnm => ?_)
  have hi0 : ∀ w ∈ wsX00, w ∈ wsX0_extendsNumber := by decide +kernel
  refine g_iload_n X dX0_extendsNumber_0 rfl rfl ?_
  refine g_bipush (v := nI 48) X dX0_extendsNumber_1 (by decide) ?_
  refine g_icmp_lt (tgt := 12) X dX0_extendsNumber_3 (by decide) (fun c_3 => ?_) (fun c_3 => ?_)
  · refine g_iconstN X 0 dX0_extendsNumber_12 ?_
    exact g_zret X hr hlk rfl dX0_extendsNumber_13 ⟨by simp [aExt, longer, bI, *], by simp [aExt, longer, sP, *]⟩
  · refine g_iload_n X dX0_extendsNumber_6 rfl rfl ?_
    refine g_bipush (v := nI 57) X dX0_extendsNumber_7 (by decide) ?_
    refine g_icmp_le (tgt := 14) X dX0_extendsNumber_9 (by decide) (fun c_9 => ?_) (fun c_9 => ?_)
    · refine g_aload_n X dX0_extendsNumber_14 rfl rfl ?_
      refine g_get_11_6 X hi0 (by decide +kernel) dX0_extendsNumber_15 ?_
      refine g_bipush (v := nI 10) X dX0_extendsNumber_18 (by decide) ?_
      refine g_imul X dX0_extendsNumber_20 ?_
      refine g_iload_n X dX0_extendsNumber_21 rfl rfl ?_
      refine g_bipush (v := nI 48) X dX0_extendsNumber_22 (by decide) ?_
      refine g_isub X dX0_extendsNumber_24 ?_
      refine g_iadd X dX0_extendsNumber_25 ?_
      refine g_istore_n3 X dX0_extendsNumber_26 rfl (by decide) rfl ?_
      refine g_iload_n X dX0_extendsNumber_27 rfl rfl ?_
      refine g_iconstN X 1 dX0_extendsNumber_28 ?_
      refine g_icmp_lt (tgt := 37) X dX0_extendsNumber_29 (by decide) (fun c_29 => ?_) (fun c_29 => ?_)
      · refine g_iconstN X 0 dX0_extendsNumber_37 ?_
        exact g_zret X hr hlk rfl dX0_extendsNumber_38 ⟨by simp [aExt, longer, bI, *], by simp [aExt, longer, sP, *]⟩
      · refine g_iload_n X dX0_extendsNumber_32 rfl rfl ?_
        refine g_iload_n X dX0_extendsNumber_33 rfl rfl ?_
        refine g_icmp_le (tgt := 39) X dX0_extendsNumber_34 (by decide) (fun c_34 => ?_) (fun c_34 => ?_)
        · refine g_aload_n X dX0_extendsNumber_39 rfl rfl ?_
          refine g_iload_n X dX0_extendsNumber_40 rfl rfl ?_
          refine g_put_11_6 X hi0 (by decide +kernel) dX0_extendsNumber_41 ?_
          refine g_iconstN X 1 dX0_extendsNumber_44 ?_
          exact g_zret X hr hlk rfl dX0_extendsNumber_45 ⟨by simp [aExt, longer, bI, *], by simp [aExt, longer, sP, *]⟩
        · refine g_iconstN X 0 dX0_extendsNumber_37 ?_
          exact g_zret X hr hlk rfl dX0_extendsNumber_38 ⟨by simp [aExt, longer, bI, *], by simp [aExt, longer, sP, *]⟩
    · refine g_iconstN X 0 dX0_extendsNumber_12 ?_
      exact g_zret X hr hlk rfl dX0_extendsNumber_13 ⟨by simp [aExt, longer, bI, *], by simp [aExt, longer, sP, *]⟩
set_option maxRecDepth 20000 in
theorem k_X0_endsSum (l : Launch) (γ : gG) (σ : gS) (ch : Int32) : gM l γ yX0_endsSum wsX0_endsSum ({ frames := 1, cells := 0, slots := 0, locals := 21 } : Room) [.ref (ad γ 11), .int ch] σ (gis (some (.int (bI (aSum σ ch).1))) (aSum σ ch).2) 0 0 := by
  refine g_enter (own := RX0) (cc := cX0_endsSum) (nL := 2) (ret := (some .boolean)) [some (.ref (ad γ 11)), some (.int ch)] (by decide) rfl rfl (by simp [lg_sl, Value.category]) (by simp [gl_le, glE, Value.category]) (fun hj p e s m args below meth c X hr hlk hnm => ?_)
  have hi0 : ∀ w ∈ wsX00, w ∈ wsX0_endsSum := by decide +kernel
  refine g_aload_n X dX0_endsSum_0 rfl rfl ?_
  refine g_get_11_6 X hi0 (by decide +kernel) dX0_endsSum_1 ?_
  refine g_if_eq (tgt := 13) X dX0_endsSum_4 (by decide) (fun c_4 => ?_) (fun c_4 => ?_)
  · refine g_iconstN X 0 dX0_endsSum_13 ?_
    exact g_zret X hr hlk rfl dX0_endsSum_14 ⟨by simp [aSum, bI, *], by simp [aSum, sP, *]⟩
  · refine g_iload_n X dX0_endsSum_7 rfl rfl ?_
    refine g_bipush (v := nI 58) X dX0_endsSum_8 (by decide) ?_
    refine g_icmp_eq (tgt := 15) X dX0_endsSum_10 (by decide) (fun c_10 => ?_) (fun c_10 => ?_)
    · refine g_aload_n X dX0_endsSum_15 rfl rfl ?_
      refine g_aload_n X dX0_endsSum_16 rfl rfl ?_
      refine g_callVi (na := 0) X hj (k_X0_takeNumber l γ _) gW_11 rfl gX0_endsSum_X0_takeNumber rfl ⟨rfl, rfl⟩ (by decide +kernel) rfl ⟨by decide, by decide⟩ rfl (Nat.le_of_ble_eq_true rfl) dX0_endsSum_17 ⟨by decide, by decide⟩ ?_
      refine g_put_11_8 X hi0 (by decide +kernel) dX0_endsSum_20 ?_
      refine g_aload_n X dX0_endsSum_23 rfl rfl ?_
      refine g_iconstN X 4 dX0_endsSum_24 ?_
      refine g_put_11_5 X hi0 (by decide +kernel) dX0_endsSum_25 ?_
      refine g_iconstN X 1 dX0_endsSum_28 ?_
      exact g_zret X hr hlk rfl dX0_endsSum_29 ⟨by simp [aSum, bI, *], by simp [aSum, sP, *]⟩
    · refine g_iconstN X 0 dX0_endsSum_13 ?_
      exact g_zret X hr hlk rfl dX0_endsSum_14 ⟨by simp [aSum, bI, *], by simp [aSum, sP, *]⟩
set_option maxRecDepth 20000 in
theorem k_X0_endsLimit (l : Launch) (γ : gG) (σ : gS) (ch : Int32) (k : Nat) (hk : σ.1 11 10 = nI k) (hk4 : k ≤ 4) : gM l γ yX0_endsLimit wsX0_endsLimit ({ frames := 1, cells := 0, slots := 0, locals := 21 } : Room) [.ref (ad γ 11), .int ch] σ (gis (some (.int (bI (aLim σ ch k).1))) (aLim σ ch k).2) 0 0 := by
  refine g_enter (own := RX0) (cc := cX0_endsLimit) (nL := 3) (ret := (some .boolean)) [some (.ref (ad γ 11)), some (.int ch), none] (by decide) rfl rfl (by simp [lg_sl, Value.category]) (by simp [gl_le, glE, Value.category]) (fun hj p e s m args below meth c X hr hlk hnm => ?_)
  have hi0 : ∀ w ∈ wsX00, w ∈ wsX0_endsLimit := by decide +kernel
  refine g_iload_n X dX0_endsLimit_0 rfl rfl ?_
  refine g_bipush (v := nI 43) X dX0_endsLimit_1 (by decide) ?_
  refine g_icmp_ne (tgt := 20) X dX0_endsLimit_3 (by decide) (fun c_3 => ?_) (fun c_3 => ?_)
  · refine g_iconstN X 0 dX0_endsLimit_20 ?_
    refine g_istore_n2 X dX0_endsLimit_21 rfl (by decide) rfl ?_
    refine g_aload_n X dX0_endsLimit_22 rfl rfl ?_
    refine g_get_11_6 X hi0 (by decide +kernel) dX0_endsLimit_23 ?_
    refine g_if_eq (tgt := 47) X dX0_endsLimit_26 (by decide) (fun c_26 => ?_) (fun c_26 => ?_)
    · refine g_iconstN X 0 dX0_endsLimit_47 ?_
      exact g_zret X hr hlk rfl dX0_endsLimit_48 (by first | exact absurd (c_3.symm.trans c_44) ne43_64 | exact ⟨by simp [aLim, bI, *, Nat.not_lt_of_le, ne43_64, ne43_108, ne43_101, ne64_43, ne64_108, ne64_101, ne108_43, ne108_64, ne108_101, ne101_43, ne101_64, ne101_108], by simp [aLim, sP, sA_sA, sA_eq, sA_ne, upd, *, Nat.not_lt_of_le, ne43_64, ne43_108, ne43_101, ne64_43, ne64_108, ne64_101, ne108_43, ne108_64, ne108_101, ne101_43, ne101_64, ne101_108]⟩)
    · refine g_aload_n X dX0_endsLimit_29 rfl rfl ?_
      refine g_get_11_10 X hi0 (by decide +kernel) dX0_endsLimit_30 ?_
      refine g_top hk ?_
      refine g_iconstN X 4 dX0_endsLimit_33 ?_
      refine g_icmpN_ge (tgt := 47) X dX0_endsLimit_34 (by decide) (by omega) (by omega) (fun c_34 => ?_) (fun c_34 => ?_)
      · refine g_iconstN X 0 dX0_endsLimit_47 ?_
        exact g_zret X hr hlk rfl dX0_endsLimit_48 (by first | exact absurd (c_3.symm.trans c_44) ne43_64 | exact ⟨by simp [aLim, bI, *, Nat.not_lt_of_le, ne43_64, ne43_108, ne43_101, ne64_43, ne64_108, ne64_101, ne108_43, ne108_64, ne108_101, ne101_43, ne101_64, ne101_108], by simp [aLim, sP, sA_sA, sA_eq, sA_ne, upd, *, Nat.not_lt_of_le, ne43_64, ne43_108, ne43_101, ne64_43, ne64_108, ne64_101, ne108_43, ne108_64, ne108_101, ne101_43, ne101_64, ne101_108]⟩)
      · refine g_iload_n X dX0_endsLimit_37 rfl rfl ?_
        refine g_if_ne (tgt := 49) X dX0_endsLimit_38 (by decide) (fun c_38 => absurd (by decide) c_38) (fun c_38 => ?_)
        refine g_iload_n X dX0_endsLimit_41 rfl rfl ?_
        refine g_bipush (v := nI 64) X dX0_endsLimit_42 (by decide) ?_
        refine g_icmp_eq (tgt := 49) X dX0_endsLimit_44 (by decide) (fun c_44 => ?_) (fun c_44 => ?_)
        · refine g_aload_n X dX0_endsLimit_49 rfl rfl ?_
          refine g_get_11_2 X hi0 (by decide +kernel) dX0_endsLimit_50 ?_
          refine g_aload_n X dX0_endsLimit_53 rfl rfl ?_
          refine g_get_11_10 X hi0 (by decide +kernel) dX0_endsLimit_54 ?_
          refine g_top hk ?_
          refine g_aload_n X dX0_endsLimit_57 rfl rfl ?_
          refine g_callVi (na := 0) X hj (k_X0_takeNumber l γ _) gW_11 rfl gX0_endsLimit_X0_takeNumber rfl ⟨rfl, rfl⟩ (by decide +kernel) rfl ⟨by decide, by decide⟩ rfl (Nat.le_of_ble_eq_true rfl) dX0_endsLimit_58 ⟨by decide, by decide⟩ ?_
          refine g_ast_14 X rfl (by omega) dX0_endsLimit_61 ?_
          refine g_aload_n X dX0_endsLimit_62 rfl rfl ?_
          refine g_dup X dX0_endsLimit_63 rfl ?_
          refine g_get_11_10 X hi0 (by decide +kernel) dX0_endsLimit_64 ?_
          refine g_top (y := nI k) (by simp [sP, sA_eq, sA_ne, upd, hk]) ?_
          refine g_iconstN X 1 dX0_endsLimit_67 ?_
          refine g_iaddN X dX0_endsLimit_68 ?_
          refine g_put_11_10 X hi0 (by decide +kernel) dX0_endsLimit_69 ?_
          refine g_aload_n X dX0_endsLimit_72 rfl rfl ?_
          refine g_iload_n X dX0_endsLimit_73 rfl rfl ?_
          refine g_if_eq (tgt := 81) X dX0_endsLimit_74 (by decide) (fun c_74 => ?_) (fun c_74 => absurd (by decide) c_74)
          refine g_bipush (v := nI 7) X dX0_endsLimit_81 (by decide) ?_
          refine g_put_11_5 X hi0 (by decide +kernel) dX0_endsLimit_83 ?_
          refine g_iconstN X 1 dX0_endsLimit_86 ?_
          exact g_zret X hr hlk rfl dX0_endsLimit_87 (by first | exact absurd (c_3.symm.trans c_44) ne43_64 | exact ⟨by simp [aLim, bI, *, Nat.not_lt_of_le, ne43_64, ne43_108, ne43_101, ne64_43, ne64_108, ne64_101, ne108_43, ne108_64, ne108_101, ne101_43, ne101_64, ne101_108], by simp [aLim, sP, sA_sA, sA_eq, sA_ne, upd, *, Nat.not_lt_of_le, ne43_64, ne43_108, ne43_101, ne64_43, ne64_108, ne64_101, ne108_43, ne108_64, ne108_101, ne101_43, ne101_64, ne101_108]⟩)
        · refine g_iconstN X 0 dX0_endsLimit_47 ?_
          exact g_zret X hr hlk rfl dX0_endsLimit_48 (by first | exact absurd (c_3.symm.trans c_44) ne43_64 | exact ⟨by simp [aLim, bI, *, Nat.not_lt_of_le, ne43_64, ne43_108, ne43_101, ne64_43, ne64_108, ne64_101, ne108_43, ne108_64, ne108_101, ne101_43, ne101_64, ne101_108], by simp [aLim, sP, sA_sA, sA_eq, sA_ne, upd, *, Nat.not_lt_of_le, ne43_64, ne43_108, ne43_101, ne64_43, ne64_108, ne64_101, ne108_43, ne108_64, ne108_101, ne101_43, ne101_64, ne101_108]⟩)
  · refine g_aload_n X dX0_endsLimit_6 rfl rfl ?_
    refine g_get_11_10 X hi0 (by decide +kernel) dX0_endsLimit_7 ?_
    refine g_top hk ?_
    refine g_iconstN X 1 dX0_endsLimit_10 ?_
    refine g_iaddN X dX0_endsLimit_11 ?_
    refine g_iconstN X 4 dX0_endsLimit_12 ?_
    refine g_icmpN_ge (tgt := 20) X dX0_endsLimit_13 (by decide) (by omega) (by omega) (fun c_13 => ?_) (fun c_13 => ?_)
    · refine g_iconstN X 0 dX0_endsLimit_20 ?_
      refine g_istore_n2 X dX0_endsLimit_21 rfl (by decide) rfl ?_
      refine g_aload_n X dX0_endsLimit_22 rfl rfl ?_
      refine g_get_11_6 X hi0 (by decide +kernel) dX0_endsLimit_23 ?_
      refine g_if_eq (tgt := 47) X dX0_endsLimit_26 (by decide) (fun c_26 => ?_) (fun c_26 => ?_)
      · refine g_iconstN X 0 dX0_endsLimit_47 ?_
        exact g_zret X hr hlk rfl dX0_endsLimit_48 (by first | exact absurd (c_3.symm.trans c_44) ne43_64 | exact ⟨by simp [aLim, bI, *, Nat.not_lt_of_le, ne43_64, ne43_108, ne43_101, ne64_43, ne64_108, ne64_101, ne108_43, ne108_64, ne108_101, ne101_43, ne101_64, ne101_108], by simp [aLim, sP, sA_sA, sA_eq, sA_ne, upd, *, Nat.not_lt_of_le, ne43_64, ne43_108, ne43_101, ne64_43, ne64_108, ne64_101, ne108_43, ne108_64, ne108_101, ne101_43, ne101_64, ne101_108]⟩)
      · refine g_aload_n X dX0_endsLimit_29 rfl rfl ?_
        refine g_get_11_10 X hi0 (by decide +kernel) dX0_endsLimit_30 ?_
        refine g_top hk ?_
        refine g_iconstN X 4 dX0_endsLimit_33 ?_
        refine g_icmpN_ge (tgt := 47) X dX0_endsLimit_34 (by decide) (by omega) (by omega) (fun c_34 => ?_) (fun c_34 => ?_)
        · refine g_iconstN X 0 dX0_endsLimit_47 ?_
          exact g_zret X hr hlk rfl dX0_endsLimit_48 (by first | exact absurd (c_3.symm.trans c_44) ne43_64 | exact ⟨by simp [aLim, bI, *, Nat.not_lt_of_le, ne43_64, ne43_108, ne43_101, ne64_43, ne64_108, ne64_101, ne108_43, ne108_64, ne108_101, ne101_43, ne101_64, ne101_108], by simp [aLim, sP, sA_sA, sA_eq, sA_ne, upd, *, Nat.not_lt_of_le, ne43_64, ne43_108, ne43_101, ne64_43, ne64_108, ne64_101, ne108_43, ne108_64, ne108_101, ne101_43, ne101_64, ne101_108]⟩)
        · refine g_iload_n X dX0_endsLimit_37 rfl rfl ?_
          refine g_if_ne (tgt := 49) X dX0_endsLimit_38 (by decide) (fun c_38 => absurd (by decide) c_38) (fun c_38 => ?_)
          refine g_iload_n X dX0_endsLimit_41 rfl rfl ?_
          refine g_bipush (v := nI 64) X dX0_endsLimit_42 (by decide) ?_
          refine g_icmp_eq (tgt := 49) X dX0_endsLimit_44 (by decide) (fun c_44 => ?_) (fun c_44 => ?_)
          · refine g_aload_n X dX0_endsLimit_49 rfl rfl ?_
            refine g_get_11_2 X hi0 (by decide +kernel) dX0_endsLimit_50 ?_
            refine g_aload_n X dX0_endsLimit_53 rfl rfl ?_
            refine g_get_11_10 X hi0 (by decide +kernel) dX0_endsLimit_54 ?_
            refine g_top hk ?_
            refine g_aload_n X dX0_endsLimit_57 rfl rfl ?_
            refine g_callVi (na := 0) X hj (k_X0_takeNumber l γ _) gW_11 rfl gX0_endsLimit_X0_takeNumber rfl ⟨rfl, rfl⟩ (by decide +kernel) rfl ⟨by decide, by decide⟩ rfl (Nat.le_of_ble_eq_true rfl) dX0_endsLimit_58 ⟨by decide, by decide⟩ ?_
            refine g_ast_14 X rfl (by omega) dX0_endsLimit_61 ?_
            refine g_aload_n X dX0_endsLimit_62 rfl rfl ?_
            refine g_dup X dX0_endsLimit_63 rfl ?_
            refine g_get_11_10 X hi0 (by decide +kernel) dX0_endsLimit_64 ?_
            refine g_top (y := nI k) (by simp [sP, sA_eq, sA_ne, upd, hk]) ?_
            refine g_iconstN X 1 dX0_endsLimit_67 ?_
            refine g_iaddN X dX0_endsLimit_68 ?_
            refine g_put_11_10 X hi0 (by decide +kernel) dX0_endsLimit_69 ?_
            refine g_aload_n X dX0_endsLimit_72 rfl rfl ?_
            refine g_iload_n X dX0_endsLimit_73 rfl rfl ?_
            refine g_if_eq (tgt := 81) X dX0_endsLimit_74 (by decide) (fun c_74 => ?_) (fun c_74 => absurd (by decide) c_74)
            refine g_bipush (v := nI 7) X dX0_endsLimit_81 (by decide) ?_
            refine g_put_11_5 X hi0 (by decide +kernel) dX0_endsLimit_83 ?_
            refine g_iconstN X 1 dX0_endsLimit_86 ?_
            exact g_zret X hr hlk rfl dX0_endsLimit_87 (by first | exact absurd (c_3.symm.trans c_44) ne43_64 | exact ⟨by simp [aLim, bI, *, Nat.not_lt_of_le, ne43_64, ne43_108, ne43_101, ne64_43, ne64_108, ne64_101, ne108_43, ne108_64, ne108_101, ne101_43, ne101_64, ne101_108], by simp [aLim, sP, sA_sA, sA_eq, sA_ne, upd, *, Nat.not_lt_of_le, ne43_64, ne43_108, ne43_101, ne64_43, ne64_108, ne64_101, ne108_43, ne108_64, ne108_101, ne101_43, ne101_64, ne101_108]⟩)
          · refine g_iconstN X 0 dX0_endsLimit_47 ?_
            exact g_zret X hr hlk rfl dX0_endsLimit_48 (by first | exact absurd (c_3.symm.trans c_44) ne43_64 | exact ⟨by simp [aLim, bI, *, Nat.not_lt_of_le, ne43_64, ne43_108, ne43_101, ne64_43, ne64_108, ne64_101, ne108_43, ne108_64, ne108_101, ne101_43, ne101_64, ne101_108], by simp [aLim, sP, sA_sA, sA_eq, sA_ne, upd, *, Nat.not_lt_of_le, ne43_64, ne43_108, ne43_101, ne64_43, ne64_108, ne64_101, ne108_43, ne108_64, ne108_101, ne101_43, ne101_64, ne101_108]⟩)
    · refine g_iconstN X 1 dX0_endsLimit_16 ?_
      refine g_goto (tgt := 21) X dX0_endsLimit_17 (by decide) ?_
      refine g_istore_n2 X dX0_endsLimit_21 rfl (by decide) rfl ?_
      refine g_aload_n X dX0_endsLimit_22 rfl rfl ?_
      refine g_get_11_6 X hi0 (by decide +kernel) dX0_endsLimit_23 ?_
      refine g_if_eq (tgt := 47) X dX0_endsLimit_26 (by decide) (fun c_26 => ?_) (fun c_26 => ?_)
      · refine g_iconstN X 0 dX0_endsLimit_47 ?_
        exact g_zret X hr hlk rfl dX0_endsLimit_48 (by first | exact absurd (c_3.symm.trans c_44) ne43_64 | exact ⟨by simp [aLim, bI, *, Nat.not_lt_of_le, ne43_64, ne43_108, ne43_101, ne64_43, ne64_108, ne64_101, ne108_43, ne108_64, ne108_101, ne101_43, ne101_64, ne101_108], by simp [aLim, sP, sA_sA, sA_eq, sA_ne, upd, *, Nat.not_lt_of_le, ne43_64, ne43_108, ne43_101, ne64_43, ne64_108, ne64_101, ne108_43, ne108_64, ne108_101, ne101_43, ne101_64, ne101_108]⟩)
      · refine g_aload_n X dX0_endsLimit_29 rfl rfl ?_
        refine g_get_11_10 X hi0 (by decide +kernel) dX0_endsLimit_30 ?_
        refine g_top hk ?_
        refine g_iconstN X 4 dX0_endsLimit_33 ?_
        refine g_icmpN_ge (tgt := 47) X dX0_endsLimit_34 (by decide) (by omega) (by omega) (fun c_34 => ?_) (fun c_34 => ?_)
        · refine g_iconstN X 0 dX0_endsLimit_47 ?_
          exact g_zret X hr hlk rfl dX0_endsLimit_48 (by first | exact absurd (c_3.symm.trans c_44) ne43_64 | exact ⟨by simp [aLim, bI, *, Nat.not_lt_of_le, ne43_64, ne43_108, ne43_101, ne64_43, ne64_108, ne64_101, ne108_43, ne108_64, ne108_101, ne101_43, ne101_64, ne101_108], by simp [aLim, sP, sA_sA, sA_eq, sA_ne, upd, *, Nat.not_lt_of_le, ne43_64, ne43_108, ne43_101, ne64_43, ne64_108, ne64_101, ne108_43, ne108_64, ne108_101, ne101_43, ne101_64, ne101_108]⟩)
        · refine g_iload_n X dX0_endsLimit_37 rfl rfl ?_
          refine g_if_ne (tgt := 49) X dX0_endsLimit_38 (by decide) (fun c_38 => ?_) (fun c_38 => absurd c_38 (by decide))
          refine g_aload_n X dX0_endsLimit_49 rfl rfl ?_
          refine g_get_11_2 X hi0 (by decide +kernel) dX0_endsLimit_50 ?_
          refine g_aload_n X dX0_endsLimit_53 rfl rfl ?_
          refine g_get_11_10 X hi0 (by decide +kernel) dX0_endsLimit_54 ?_
          refine g_top hk ?_
          refine g_aload_n X dX0_endsLimit_57 rfl rfl ?_
          refine g_callVi (na := 0) X hj (k_X0_takeNumber l γ _) gW_11 rfl gX0_endsLimit_X0_takeNumber rfl ⟨rfl, rfl⟩ (by decide +kernel) rfl ⟨by decide, by decide⟩ rfl (Nat.le_of_ble_eq_true rfl) dX0_endsLimit_58 ⟨by decide, by decide⟩ ?_
          refine g_ast_14 X rfl (by omega) dX0_endsLimit_61 ?_
          refine g_aload_n X dX0_endsLimit_62 rfl rfl ?_
          refine g_dup X dX0_endsLimit_63 rfl ?_
          refine g_get_11_10 X hi0 (by decide +kernel) dX0_endsLimit_64 ?_
          refine g_top (y := nI k) (by simp [sP, sA_eq, sA_ne, upd, hk]) ?_
          refine g_iconstN X 1 dX0_endsLimit_67 ?_
          refine g_iaddN X dX0_endsLimit_68 ?_
          refine g_put_11_10 X hi0 (by decide +kernel) dX0_endsLimit_69 ?_
          refine g_aload_n X dX0_endsLimit_72 rfl rfl ?_
          refine g_iload_n X dX0_endsLimit_73 rfl rfl ?_
          refine g_if_eq (tgt := 81) X dX0_endsLimit_74 (by decide) (fun c_74 => absurd c_74 (by decide)) (fun c_74 => ?_)
          refine g_iconstN X 4 dX0_endsLimit_77 ?_
          refine g_goto (tgt := 83) X dX0_endsLimit_78 (by decide) ?_
          refine g_put_11_5 X hi0 (by decide +kernel) dX0_endsLimit_83 ?_
          refine g_iconstN X 1 dX0_endsLimit_86 ?_
          exact g_zret X hr hlk rfl dX0_endsLimit_87 (by first | exact absurd (c_3.symm.trans c_44) ne43_64 | exact ⟨by simp [aLim, bI, *, Nat.not_lt_of_le, ne43_64, ne43_108, ne43_101, ne64_43, ne64_108, ne64_101, ne108_43, ne108_64, ne108_101, ne101_43, ne101_64, ne101_108], by simp [aLim, sP, sA_sA, sA_eq, sA_ne, upd, *, Nat.not_lt_of_le, ne43_64, ne43_108, ne43_101, ne64_43, ne64_108, ne64_101, ne108_43, ne108_64, ne108_101, ne101_43, ne101_64, ne101_108]⟩)
set_option maxRecDepth 20000 in
theorem k_X0_endsShare (l : Launch) (γ : gG) (σ : gS) (ch : Int32) (k : Nat) (hk : σ.1 11 11 = nI k) (hk4 : k ≤ 5) : gM l γ yX0_endsShare wsX0_endsShare ({ frames := 1, cells := 0, slots := 0, locals := 21 } : Room) [.ref (ad γ 11), .int ch] σ (gis (some (.int (bI (aShr σ ch k).1))) (aShr σ ch k).2) 0 0 := by
  refine g_enter (own := RX0) (cc := cX0_endsShare) (nL := 4) (ret := (some .boolean)) [some (.ref (ad γ 11)), some (.int ch), none, none] (by decide) rfl rfl (by simp [lg_sl, Value.category]) (by simp [gl_le, glE, Value.category]) (fun hj p e s m args below meth c X hr hlk hnm => ?_)
  have hi0 : ∀ w ∈ wsX00, w ∈ wsX0_endsShare := by decide +kernel
  refine g_iload_n X dX0_endsShare_0 rfl rfl ?_
  refine g_bipush (v := nI 43) X dX0_endsShare_1 (by decide) ?_
  refine g_icmp_ne (tgt := 20) X dX0_endsShare_3 (by decide) (fun c_3 => ?_) (fun c_3 => ?_)
  · refine g_iconstN X 0 dX0_endsShare_20 ?_
    refine g_istore_n2 X dX0_endsShare_21 rfl (by decide) rfl ?_
    refine g_iload_n X dX0_endsShare_22 rfl rfl ?_
    refine g_bipush (v := nI 108) X dX0_endsShare_23 (by decide) ?_
    refine g_icmp_eq (tgt := 34) X dX0_endsShare_25 (by decide) (fun c_25 => ?_) (fun c_25 => ?_)
    · refine g_iconstN X 1 dX0_endsShare_34 ?_
      refine g_goto (tgt := 39) X dX0_endsShare_35 (by decide) ?_
      refine g_istore_n3 X dX0_endsShare_39 rfl (by decide) rfl ?_
      refine g_aload_n X dX0_endsShare_40 rfl rfl ?_
      refine g_get_11_6 X hi0 (by decide +kernel) dX0_endsShare_41 ?_
      refine g_if_eq (tgt := 63) X dX0_endsShare_44 (by decide) (fun c_44 => ?_) (fun c_44 => ?_)
      · refine g_iconstN X 0 dX0_endsShare_63 ?_
        exact g_zret X hr hlk rfl dX0_endsShare_64 (by first | exact absurd (c_3.symm.trans c_25) ne43_108 | exact absurd (c_3.symm.trans c_31) ne43_101 | exact absurd (c_25.symm.trans c_96) ne108_101 | exact absurd c_31 c_96 | exact ⟨by simp [aShr, bI, *, Nat.not_lt_of_le, ne43_64, ne43_108, ne43_101, ne64_43, ne64_108, ne64_101, ne108_43, ne108_64, ne108_101, ne101_43, ne101_64, ne101_108], by simp [aShr, sP, sA_sA, sA_eq, sA_ne, upd, *, Nat.not_lt_of_le, ne43_64, ne43_108, ne43_101, ne64_43, ne64_108, ne64_101, ne108_43, ne108_64, ne108_101, ne101_43, ne101_64, ne101_108]⟩)
      · refine g_aload_n X dX0_endsShare_47 rfl rfl ?_
        refine g_get_11_11 X hi0 (by decide +kernel) dX0_endsShare_48 ?_
        refine g_top hk ?_
        refine g_iconstN X 5 dX0_endsShare_51 ?_
        refine g_icmpN_ge (tgt := 63) X dX0_endsShare_52 (by decide) (by omega) (by omega) (fun c_52 => ?_) (fun c_52 => ?_)
        · refine g_iconstN X 0 dX0_endsShare_63 ?_
          exact g_zret X hr hlk rfl dX0_endsShare_64 (by first | exact absurd (c_3.symm.trans c_25) ne43_108 | exact absurd (c_3.symm.trans c_31) ne43_101 | exact absurd (c_25.symm.trans c_96) ne108_101 | exact absurd c_31 c_96 | exact ⟨by simp [aShr, bI, *, Nat.not_lt_of_le, ne43_64, ne43_108, ne43_101, ne64_43, ne64_108, ne64_101, ne108_43, ne108_64, ne108_101, ne101_43, ne101_64, ne101_108], by simp [aShr, sP, sA_sA, sA_eq, sA_ne, upd, *, Nat.not_lt_of_le, ne43_64, ne43_108, ne43_101, ne64_43, ne64_108, ne64_101, ne108_43, ne108_64, ne108_101, ne101_43, ne101_64, ne101_108]⟩)
        · refine g_iload_n X dX0_endsShare_55 rfl rfl ?_
          refine g_if_ne (tgt := 65) X dX0_endsShare_56 (by decide) (fun c_56 => absurd (by decide) c_56) (fun c_56 => ?_)
          refine g_iload_n X dX0_endsShare_59 rfl rfl ?_
          refine g_if_ne (tgt := 65) X dX0_endsShare_60 (by decide) (fun c_60 => ?_) (fun c_60 => absurd c_60 (by decide))
          refine g_aload_n X dX0_endsShare_65 rfl rfl ?_
          refine g_get_11_3 X hi0 (by decide +kernel) dX0_endsShare_66 ?_
          refine g_aload_n X dX0_endsShare_69 rfl rfl ?_
          refine g_get_11_11 X hi0 (by decide +kernel) dX0_endsShare_70 ?_
          refine g_top hk ?_
          refine g_aload_n X dX0_endsShare_73 rfl rfl ?_
          refine g_callVi (na := 0) X hj (k_X0_takeNumber l γ _) gW_11 rfl gX0_endsShare_X0_takeNumber rfl ⟨rfl, rfl⟩ (by decide +kernel) rfl ⟨by decide, by decide⟩ rfl (Nat.le_of_ble_eq_true rfl) dX0_endsShare_74 ⟨by decide, by decide⟩ ?_
          refine g_ast_15 X rfl (by omega) dX0_endsShare_77 ?_
          refine g_aload_n X dX0_endsShare_78 rfl rfl ?_
          refine g_dup X dX0_endsShare_79 rfl ?_
          refine g_get_11_11 X hi0 (by decide +kernel) dX0_endsShare_80 ?_
          refine g_top (y := nI k) (by simp [sP, sA_eq, sA_ne, upd, hk]) ?_
          refine g_iconstN X 1 dX0_endsShare_83 ?_
          refine g_iaddN X dX0_endsShare_84 ?_
          refine g_put_11_11 X hi0 (by decide +kernel) dX0_endsShare_85 ?_
          refine g_iload_n X dX0_endsShare_88 rfl rfl ?_
          refine g_if_eq (tgt := 113) X dX0_endsShare_89 (by decide) (fun c_89 => absurd c_89 (by decide)) (fun c_89 => ?_)
          refine g_aload_n X dX0_endsShare_92 rfl rfl ?_
          refine g_iload_n X dX0_endsShare_93 rfl rfl ?_
          refine g_bipush (v := nI 101) X dX0_endsShare_94 (by decide) ?_
          refine g_icmp_ne (tgt := 103) X dX0_endsShare_96 (by decide) (fun c_96 => ?_) (fun c_96 => ?_)
          · refine g_iconstN X 0 dX0_endsShare_103 ?_
            refine g_put_11_9 X hi0 (by decide +kernel) dX0_endsShare_104 ?_
            refine g_aload_n X dX0_endsShare_107 rfl rfl ?_
            refine g_bipush (v := nI 8) X dX0_endsShare_108 (by decide) ?_
            refine g_put_11_5 X hi0 (by decide +kernel) dX0_endsShare_110 ?_
            refine g_iconstN X 1 dX0_endsShare_113 ?_
            exact g_zret X hr hlk rfl dX0_endsShare_114 (by first | exact absurd (c_3.symm.trans c_25) ne43_108 | exact absurd (c_3.symm.trans c_31) ne43_101 | exact absurd (c_25.symm.trans c_96) ne108_101 | exact absurd c_31 c_96 | exact ⟨by simp [aShr, bI, *, Nat.not_lt_of_le, ne43_64, ne43_108, ne43_101, ne64_43, ne64_108, ne64_101, ne108_43, ne108_64, ne108_101, ne101_43, ne101_64, ne101_108], by simp [aShr, sP, sA_sA, sA_eq, sA_ne, upd, *, Nat.not_lt_of_le, ne43_64, ne43_108, ne43_101, ne64_43, ne64_108, ne64_101, ne108_43, ne108_64, ne108_101, ne101_43, ne101_64, ne101_108]⟩)
          · refine g_iconstN X 1 dX0_endsShare_99 ?_
            refine g_goto (tgt := 104) X dX0_endsShare_100 (by decide) ?_
            refine g_put_11_9 X hi0 (by decide +kernel) dX0_endsShare_104 ?_
            refine g_aload_n X dX0_endsShare_107 rfl rfl ?_
            refine g_bipush (v := nI 8) X dX0_endsShare_108 (by decide) ?_
            refine g_put_11_5 X hi0 (by decide +kernel) dX0_endsShare_110 ?_
            refine g_iconstN X 1 dX0_endsShare_113 ?_
            exact g_zret X hr hlk rfl dX0_endsShare_114 (by first | exact absurd (c_3.symm.trans c_25) ne43_108 | exact absurd (c_3.symm.trans c_31) ne43_101 | exact absurd (c_25.symm.trans c_96) ne108_101 | exact absurd c_31 c_96 | exact ⟨by simp [aShr, bI, *, Nat.not_lt_of_le, ne43_64, ne43_108, ne43_101, ne64_43, ne64_108, ne64_101, ne108_43, ne108_64, ne108_101, ne101_43, ne101_64, ne101_108], by simp [aShr, sP, sA_sA, sA_eq, sA_ne, upd, *, Nat.not_lt_of_le, ne43_64, ne43_108, ne43_101, ne64_43, ne64_108, ne64_101, ne108_43, ne108_64, ne108_101, ne101_43, ne101_64, ne101_108]⟩)
    · refine g_iload_n X dX0_endsShare_28 rfl rfl ?_
      refine g_bipush (v := nI 101) X dX0_endsShare_29 (by decide) ?_
      refine g_icmp_ne (tgt := 38) X dX0_endsShare_31 (by decide) (fun c_31 => ?_) (fun c_31 => ?_)
      · refine g_iconstN X 0 dX0_endsShare_38 ?_
        refine g_istore_n3 X dX0_endsShare_39 rfl (by decide) rfl ?_
        refine g_aload_n X dX0_endsShare_40 rfl rfl ?_
        refine g_get_11_6 X hi0 (by decide +kernel) dX0_endsShare_41 ?_
        refine g_if_eq (tgt := 63) X dX0_endsShare_44 (by decide) (fun c_44 => ?_) (fun c_44 => ?_)
        · refine g_iconstN X 0 dX0_endsShare_63 ?_
          exact g_zret X hr hlk rfl dX0_endsShare_64 (by first | exact absurd (c_3.symm.trans c_25) ne43_108 | exact absurd (c_3.symm.trans c_31) ne43_101 | exact absurd (c_25.symm.trans c_96) ne108_101 | exact absurd c_31 c_96 | exact ⟨by simp [aShr, bI, *, Nat.not_lt_of_le, ne43_64, ne43_108, ne43_101, ne64_43, ne64_108, ne64_101, ne108_43, ne108_64, ne108_101, ne101_43, ne101_64, ne101_108], by simp [aShr, sP, sA_sA, sA_eq, sA_ne, upd, *, Nat.not_lt_of_le, ne43_64, ne43_108, ne43_101, ne64_43, ne64_108, ne64_101, ne108_43, ne108_64, ne108_101, ne101_43, ne101_64, ne101_108]⟩)
        · refine g_aload_n X dX0_endsShare_47 rfl rfl ?_
          refine g_get_11_11 X hi0 (by decide +kernel) dX0_endsShare_48 ?_
          refine g_top hk ?_
          refine g_iconstN X 5 dX0_endsShare_51 ?_
          refine g_icmpN_ge (tgt := 63) X dX0_endsShare_52 (by decide) (by omega) (by omega) (fun c_52 => ?_) (fun c_52 => ?_)
          · refine g_iconstN X 0 dX0_endsShare_63 ?_
            exact g_zret X hr hlk rfl dX0_endsShare_64 (by first | exact absurd (c_3.symm.trans c_25) ne43_108 | exact absurd (c_3.symm.trans c_31) ne43_101 | exact absurd (c_25.symm.trans c_96) ne108_101 | exact absurd c_31 c_96 | exact ⟨by simp [aShr, bI, *, Nat.not_lt_of_le, ne43_64, ne43_108, ne43_101, ne64_43, ne64_108, ne64_101, ne108_43, ne108_64, ne108_101, ne101_43, ne101_64, ne101_108], by simp [aShr, sP, sA_sA, sA_eq, sA_ne, upd, *, Nat.not_lt_of_le, ne43_64, ne43_108, ne43_101, ne64_43, ne64_108, ne64_101, ne108_43, ne108_64, ne108_101, ne101_43, ne101_64, ne101_108]⟩)
          · refine g_iload_n X dX0_endsShare_55 rfl rfl ?_
            refine g_if_ne (tgt := 65) X dX0_endsShare_56 (by decide) (fun c_56 => absurd (by decide) c_56) (fun c_56 => ?_)
            refine g_iload_n X dX0_endsShare_59 rfl rfl ?_
            refine g_if_ne (tgt := 65) X dX0_endsShare_60 (by decide) (fun c_60 => absurd (by decide) c_60) (fun c_60 => ?_)
            refine g_iconstN X 0 dX0_endsShare_63 ?_
            exact g_zret X hr hlk rfl dX0_endsShare_64 (by first | exact absurd (c_3.symm.trans c_25) ne43_108 | exact absurd (c_3.symm.trans c_31) ne43_101 | exact absurd (c_25.symm.trans c_96) ne108_101 | exact absurd c_31 c_96 | exact ⟨by simp [aShr, bI, *, Nat.not_lt_of_le, ne43_64, ne43_108, ne43_101, ne64_43, ne64_108, ne64_101, ne108_43, ne108_64, ne108_101, ne101_43, ne101_64, ne101_108], by simp [aShr, sP, sA_sA, sA_eq, sA_ne, upd, *, Nat.not_lt_of_le, ne43_64, ne43_108, ne43_101, ne64_43, ne64_108, ne64_101, ne108_43, ne108_64, ne108_101, ne101_43, ne101_64, ne101_108]⟩)
      · refine g_iconstN X 1 dX0_endsShare_34 ?_
        refine g_goto (tgt := 39) X dX0_endsShare_35 (by decide) ?_
        refine g_istore_n3 X dX0_endsShare_39 rfl (by decide) rfl ?_
        refine g_aload_n X dX0_endsShare_40 rfl rfl ?_
        refine g_get_11_6 X hi0 (by decide +kernel) dX0_endsShare_41 ?_
        refine g_if_eq (tgt := 63) X dX0_endsShare_44 (by decide) (fun c_44 => ?_) (fun c_44 => ?_)
        · refine g_iconstN X 0 dX0_endsShare_63 ?_
          exact g_zret X hr hlk rfl dX0_endsShare_64 (by first | exact absurd (c_3.symm.trans c_25) ne43_108 | exact absurd (c_3.symm.trans c_31) ne43_101 | exact absurd (c_25.symm.trans c_96) ne108_101 | exact absurd c_31 c_96 | exact ⟨by simp [aShr, bI, *, Nat.not_lt_of_le, ne43_64, ne43_108, ne43_101, ne64_43, ne64_108, ne64_101, ne108_43, ne108_64, ne108_101, ne101_43, ne101_64, ne101_108], by simp [aShr, sP, sA_sA, sA_eq, sA_ne, upd, *, Nat.not_lt_of_le, ne43_64, ne43_108, ne43_101, ne64_43, ne64_108, ne64_101, ne108_43, ne108_64, ne108_101, ne101_43, ne101_64, ne101_108]⟩)
        · refine g_aload_n X dX0_endsShare_47 rfl rfl ?_
          refine g_get_11_11 X hi0 (by decide +kernel) dX0_endsShare_48 ?_
          refine g_top hk ?_
          refine g_iconstN X 5 dX0_endsShare_51 ?_
          refine g_icmpN_ge (tgt := 63) X dX0_endsShare_52 (by decide) (by omega) (by omega) (fun c_52 => ?_) (fun c_52 => ?_)
          · refine g_iconstN X 0 dX0_endsShare_63 ?_
            exact g_zret X hr hlk rfl dX0_endsShare_64 (by first | exact absurd (c_3.symm.trans c_25) ne43_108 | exact absurd (c_3.symm.trans c_31) ne43_101 | exact absurd (c_25.symm.trans c_96) ne108_101 | exact absurd c_31 c_96 | exact ⟨by simp [aShr, bI, *, Nat.not_lt_of_le, ne43_64, ne43_108, ne43_101, ne64_43, ne64_108, ne64_101, ne108_43, ne108_64, ne108_101, ne101_43, ne101_64, ne101_108], by simp [aShr, sP, sA_sA, sA_eq, sA_ne, upd, *, Nat.not_lt_of_le, ne43_64, ne43_108, ne43_101, ne64_43, ne64_108, ne64_101, ne108_43, ne108_64, ne108_101, ne101_43, ne101_64, ne101_108]⟩)
          · refine g_iload_n X dX0_endsShare_55 rfl rfl ?_
            refine g_if_ne (tgt := 65) X dX0_endsShare_56 (by decide) (fun c_56 => absurd (by decide) c_56) (fun c_56 => ?_)
            refine g_iload_n X dX0_endsShare_59 rfl rfl ?_
            refine g_if_ne (tgt := 65) X dX0_endsShare_60 (by decide) (fun c_60 => ?_) (fun c_60 => absurd c_60 (by decide))
            refine g_aload_n X dX0_endsShare_65 rfl rfl ?_
            refine g_get_11_3 X hi0 (by decide +kernel) dX0_endsShare_66 ?_
            refine g_aload_n X dX0_endsShare_69 rfl rfl ?_
            refine g_get_11_11 X hi0 (by decide +kernel) dX0_endsShare_70 ?_
            refine g_top hk ?_
            refine g_aload_n X dX0_endsShare_73 rfl rfl ?_
            refine g_callVi (na := 0) X hj (k_X0_takeNumber l γ _) gW_11 rfl gX0_endsShare_X0_takeNumber rfl ⟨rfl, rfl⟩ (by decide +kernel) rfl ⟨by decide, by decide⟩ rfl (Nat.le_of_ble_eq_true rfl) dX0_endsShare_74 ⟨by decide, by decide⟩ ?_
            refine g_ast_15 X rfl (by omega) dX0_endsShare_77 ?_
            refine g_aload_n X dX0_endsShare_78 rfl rfl ?_
            refine g_dup X dX0_endsShare_79 rfl ?_
            refine g_get_11_11 X hi0 (by decide +kernel) dX0_endsShare_80 ?_
            refine g_top (y := nI k) (by simp [sP, sA_eq, sA_ne, upd, hk]) ?_
            refine g_iconstN X 1 dX0_endsShare_83 ?_
            refine g_iaddN X dX0_endsShare_84 ?_
            refine g_put_11_11 X hi0 (by decide +kernel) dX0_endsShare_85 ?_
            refine g_iload_n X dX0_endsShare_88 rfl rfl ?_
            refine g_if_eq (tgt := 113) X dX0_endsShare_89 (by decide) (fun c_89 => absurd c_89 (by decide)) (fun c_89 => ?_)
            refine g_aload_n X dX0_endsShare_92 rfl rfl ?_
            refine g_iload_n X dX0_endsShare_93 rfl rfl ?_
            refine g_bipush (v := nI 101) X dX0_endsShare_94 (by decide) ?_
            refine g_icmp_ne (tgt := 103) X dX0_endsShare_96 (by decide) (fun c_96 => ?_) (fun c_96 => ?_)
            · refine g_iconstN X 0 dX0_endsShare_103 ?_
              refine g_put_11_9 X hi0 (by decide +kernel) dX0_endsShare_104 ?_
              refine g_aload_n X dX0_endsShare_107 rfl rfl ?_
              refine g_bipush (v := nI 8) X dX0_endsShare_108 (by decide) ?_
              refine g_put_11_5 X hi0 (by decide +kernel) dX0_endsShare_110 ?_
              refine g_iconstN X 1 dX0_endsShare_113 ?_
              exact g_zret X hr hlk rfl dX0_endsShare_114 (by first | exact absurd (c_3.symm.trans c_25) ne43_108 | exact absurd (c_3.symm.trans c_31) ne43_101 | exact absurd (c_25.symm.trans c_96) ne108_101 | exact absurd c_31 c_96 | exact ⟨by simp [aShr, bI, *, Nat.not_lt_of_le, ne43_64, ne43_108, ne43_101, ne64_43, ne64_108, ne64_101, ne108_43, ne108_64, ne108_101, ne101_43, ne101_64, ne101_108], by simp [aShr, sP, sA_sA, sA_eq, sA_ne, upd, *, Nat.not_lt_of_le, ne43_64, ne43_108, ne43_101, ne64_43, ne64_108, ne64_101, ne108_43, ne108_64, ne108_101, ne101_43, ne101_64, ne101_108]⟩)
            · refine g_iconstN X 1 dX0_endsShare_99 ?_
              refine g_goto (tgt := 104) X dX0_endsShare_100 (by decide) ?_
              refine g_put_11_9 X hi0 (by decide +kernel) dX0_endsShare_104 ?_
              refine g_aload_n X dX0_endsShare_107 rfl rfl ?_
              refine g_bipush (v := nI 8) X dX0_endsShare_108 (by decide) ?_
              refine g_put_11_5 X hi0 (by decide +kernel) dX0_endsShare_110 ?_
              refine g_iconstN X 1 dX0_endsShare_113 ?_
              exact g_zret X hr hlk rfl dX0_endsShare_114 (by first | exact absurd (c_3.symm.trans c_25) ne43_108 | exact absurd (c_3.symm.trans c_31) ne43_101 | exact absurd (c_25.symm.trans c_96) ne108_101 | exact absurd c_31 c_96 | exact ⟨by simp [aShr, bI, *, Nat.not_lt_of_le, ne43_64, ne43_108, ne43_101, ne64_43, ne64_108, ne64_101, ne108_43, ne108_64, ne108_101, ne101_43, ne101_64, ne101_108], by simp [aShr, sP, sA_sA, sA_eq, sA_ne, upd, *, Nat.not_lt_of_le, ne43_64, ne43_108, ne43_101, ne64_43, ne64_108, ne64_101, ne108_43, ne108_64, ne108_101, ne101_43, ne101_64, ne101_108]⟩)
  · refine g_aload_n X dX0_endsShare_6 rfl rfl ?_
    refine g_get_11_11 X hi0 (by decide +kernel) dX0_endsShare_7 ?_
    refine g_top hk ?_
    refine g_iconstN X 1 dX0_endsShare_10 ?_
    refine g_iaddN X dX0_endsShare_11 ?_
    refine g_iconstN X 5 dX0_endsShare_12 ?_
    refine g_icmpN_ge (tgt := 20) X dX0_endsShare_13 (by decide) (by omega) (by omega) (fun c_13 => ?_) (fun c_13 => ?_)
    · refine g_iconstN X 0 dX0_endsShare_20 ?_
      refine g_istore_n2 X dX0_endsShare_21 rfl (by decide) rfl ?_
      refine g_iload_n X dX0_endsShare_22 rfl rfl ?_
      refine g_bipush (v := nI 108) X dX0_endsShare_23 (by decide) ?_
      refine g_icmp_eq (tgt := 34) X dX0_endsShare_25 (by decide) (fun c_25 => ?_) (fun c_25 => ?_)
      · refine g_iconstN X 1 dX0_endsShare_34 ?_
        refine g_goto (tgt := 39) X dX0_endsShare_35 (by decide) ?_
        refine g_istore_n3 X dX0_endsShare_39 rfl (by decide) rfl ?_
        refine g_aload_n X dX0_endsShare_40 rfl rfl ?_
        refine g_get_11_6 X hi0 (by decide +kernel) dX0_endsShare_41 ?_
        refine g_if_eq (tgt := 63) X dX0_endsShare_44 (by decide) (fun c_44 => ?_) (fun c_44 => ?_)
        · refine g_iconstN X 0 dX0_endsShare_63 ?_
          exact g_zret X hr hlk rfl dX0_endsShare_64 (by first | exact absurd (c_3.symm.trans c_25) ne43_108 | exact absurd (c_3.symm.trans c_31) ne43_101 | exact absurd (c_25.symm.trans c_96) ne108_101 | exact absurd c_31 c_96 | exact ⟨by simp [aShr, bI, *, Nat.not_lt_of_le, ne43_64, ne43_108, ne43_101, ne64_43, ne64_108, ne64_101, ne108_43, ne108_64, ne108_101, ne101_43, ne101_64, ne101_108], by simp [aShr, sP, sA_sA, sA_eq, sA_ne, upd, *, Nat.not_lt_of_le, ne43_64, ne43_108, ne43_101, ne64_43, ne64_108, ne64_101, ne108_43, ne108_64, ne108_101, ne101_43, ne101_64, ne101_108]⟩)
        · refine g_aload_n X dX0_endsShare_47 rfl rfl ?_
          refine g_get_11_11 X hi0 (by decide +kernel) dX0_endsShare_48 ?_
          refine g_top hk ?_
          refine g_iconstN X 5 dX0_endsShare_51 ?_
          refine g_icmpN_ge (tgt := 63) X dX0_endsShare_52 (by decide) (by omega) (by omega) (fun c_52 => ?_) (fun c_52 => ?_)
          · refine g_iconstN X 0 dX0_endsShare_63 ?_
            exact g_zret X hr hlk rfl dX0_endsShare_64 (by first | exact absurd (c_3.symm.trans c_25) ne43_108 | exact absurd (c_3.symm.trans c_31) ne43_101 | exact absurd (c_25.symm.trans c_96) ne108_101 | exact absurd c_31 c_96 | exact ⟨by simp [aShr, bI, *, Nat.not_lt_of_le, ne43_64, ne43_108, ne43_101, ne64_43, ne64_108, ne64_101, ne108_43, ne108_64, ne108_101, ne101_43, ne101_64, ne101_108], by simp [aShr, sP, sA_sA, sA_eq, sA_ne, upd, *, Nat.not_lt_of_le, ne43_64, ne43_108, ne43_101, ne64_43, ne64_108, ne64_101, ne108_43, ne108_64, ne108_101, ne101_43, ne101_64, ne101_108]⟩)
          · refine g_iload_n X dX0_endsShare_55 rfl rfl ?_
            refine g_if_ne (tgt := 65) X dX0_endsShare_56 (by decide) (fun c_56 => absurd (by decide) c_56) (fun c_56 => ?_)
            refine g_iload_n X dX0_endsShare_59 rfl rfl ?_
            refine g_if_ne (tgt := 65) X dX0_endsShare_60 (by decide) (fun c_60 => ?_) (fun c_60 => absurd c_60 (by decide))
            refine g_aload_n X dX0_endsShare_65 rfl rfl ?_
            refine g_get_11_3 X hi0 (by decide +kernel) dX0_endsShare_66 ?_
            refine g_aload_n X dX0_endsShare_69 rfl rfl ?_
            refine g_get_11_11 X hi0 (by decide +kernel) dX0_endsShare_70 ?_
            refine g_top hk ?_
            refine g_aload_n X dX0_endsShare_73 rfl rfl ?_
            refine g_callVi (na := 0) X hj (k_X0_takeNumber l γ _) gW_11 rfl gX0_endsShare_X0_takeNumber rfl ⟨rfl, rfl⟩ (by decide +kernel) rfl ⟨by decide, by decide⟩ rfl (Nat.le_of_ble_eq_true rfl) dX0_endsShare_74 ⟨by decide, by decide⟩ ?_
            refine g_ast_15 X rfl (by omega) dX0_endsShare_77 ?_
            refine g_aload_n X dX0_endsShare_78 rfl rfl ?_
            refine g_dup X dX0_endsShare_79 rfl ?_
            refine g_get_11_11 X hi0 (by decide +kernel) dX0_endsShare_80 ?_
            refine g_top (y := nI k) (by simp [sP, sA_eq, sA_ne, upd, hk]) ?_
            refine g_iconstN X 1 dX0_endsShare_83 ?_
            refine g_iaddN X dX0_endsShare_84 ?_
            refine g_put_11_11 X hi0 (by decide +kernel) dX0_endsShare_85 ?_
            refine g_iload_n X dX0_endsShare_88 rfl rfl ?_
            refine g_if_eq (tgt := 113) X dX0_endsShare_89 (by decide) (fun c_89 => absurd c_89 (by decide)) (fun c_89 => ?_)
            refine g_aload_n X dX0_endsShare_92 rfl rfl ?_
            refine g_iload_n X dX0_endsShare_93 rfl rfl ?_
            refine g_bipush (v := nI 101) X dX0_endsShare_94 (by decide) ?_
            refine g_icmp_ne (tgt := 103) X dX0_endsShare_96 (by decide) (fun c_96 => ?_) (fun c_96 => ?_)
            · refine g_iconstN X 0 dX0_endsShare_103 ?_
              refine g_put_11_9 X hi0 (by decide +kernel) dX0_endsShare_104 ?_
              refine g_aload_n X dX0_endsShare_107 rfl rfl ?_
              refine g_bipush (v := nI 8) X dX0_endsShare_108 (by decide) ?_
              refine g_put_11_5 X hi0 (by decide +kernel) dX0_endsShare_110 ?_
              refine g_iconstN X 1 dX0_endsShare_113 ?_
              exact g_zret X hr hlk rfl dX0_endsShare_114 (by first | exact absurd (c_3.symm.trans c_25) ne43_108 | exact absurd (c_3.symm.trans c_31) ne43_101 | exact absurd (c_25.symm.trans c_96) ne108_101 | exact absurd c_31 c_96 | exact ⟨by simp [aShr, bI, *, Nat.not_lt_of_le, ne43_64, ne43_108, ne43_101, ne64_43, ne64_108, ne64_101, ne108_43, ne108_64, ne108_101, ne101_43, ne101_64, ne101_108], by simp [aShr, sP, sA_sA, sA_eq, sA_ne, upd, *, Nat.not_lt_of_le, ne43_64, ne43_108, ne43_101, ne64_43, ne64_108, ne64_101, ne108_43, ne108_64, ne108_101, ne101_43, ne101_64, ne101_108]⟩)
            · refine g_iconstN X 1 dX0_endsShare_99 ?_
              refine g_goto (tgt := 104) X dX0_endsShare_100 (by decide) ?_
              refine g_put_11_9 X hi0 (by decide +kernel) dX0_endsShare_104 ?_
              refine g_aload_n X dX0_endsShare_107 rfl rfl ?_
              refine g_bipush (v := nI 8) X dX0_endsShare_108 (by decide) ?_
              refine g_put_11_5 X hi0 (by decide +kernel) dX0_endsShare_110 ?_
              refine g_iconstN X 1 dX0_endsShare_113 ?_
              exact g_zret X hr hlk rfl dX0_endsShare_114 (by first | exact absurd (c_3.symm.trans c_25) ne43_108 | exact absurd (c_3.symm.trans c_31) ne43_101 | exact absurd (c_25.symm.trans c_96) ne108_101 | exact absurd c_31 c_96 | exact ⟨by simp [aShr, bI, *, Nat.not_lt_of_le, ne43_64, ne43_108, ne43_101, ne64_43, ne64_108, ne64_101, ne108_43, ne108_64, ne108_101, ne101_43, ne101_64, ne101_108], by simp [aShr, sP, sA_sA, sA_eq, sA_ne, upd, *, Nat.not_lt_of_le, ne43_64, ne43_108, ne43_101, ne64_43, ne64_108, ne64_101, ne108_43, ne108_64, ne108_101, ne101_43, ne101_64, ne101_108]⟩)
      · refine g_iload_n X dX0_endsShare_28 rfl rfl ?_
        refine g_bipush (v := nI 101) X dX0_endsShare_29 (by decide) ?_
        refine g_icmp_ne (tgt := 38) X dX0_endsShare_31 (by decide) (fun c_31 => ?_) (fun c_31 => ?_)
        · refine g_iconstN X 0 dX0_endsShare_38 ?_
          refine g_istore_n3 X dX0_endsShare_39 rfl (by decide) rfl ?_
          refine g_aload_n X dX0_endsShare_40 rfl rfl ?_
          refine g_get_11_6 X hi0 (by decide +kernel) dX0_endsShare_41 ?_
          refine g_if_eq (tgt := 63) X dX0_endsShare_44 (by decide) (fun c_44 => ?_) (fun c_44 => ?_)
          · refine g_iconstN X 0 dX0_endsShare_63 ?_
            exact g_zret X hr hlk rfl dX0_endsShare_64 (by first | exact absurd (c_3.symm.trans c_25) ne43_108 | exact absurd (c_3.symm.trans c_31) ne43_101 | exact absurd (c_25.symm.trans c_96) ne108_101 | exact absurd c_31 c_96 | exact ⟨by simp [aShr, bI, *, Nat.not_lt_of_le, ne43_64, ne43_108, ne43_101, ne64_43, ne64_108, ne64_101, ne108_43, ne108_64, ne108_101, ne101_43, ne101_64, ne101_108], by simp [aShr, sP, sA_sA, sA_eq, sA_ne, upd, *, Nat.not_lt_of_le, ne43_64, ne43_108, ne43_101, ne64_43, ne64_108, ne64_101, ne108_43, ne108_64, ne108_101, ne101_43, ne101_64, ne101_108]⟩)
          · refine g_aload_n X dX0_endsShare_47 rfl rfl ?_
            refine g_get_11_11 X hi0 (by decide +kernel) dX0_endsShare_48 ?_
            refine g_top hk ?_
            refine g_iconstN X 5 dX0_endsShare_51 ?_
            refine g_icmpN_ge (tgt := 63) X dX0_endsShare_52 (by decide) (by omega) (by omega) (fun c_52 => ?_) (fun c_52 => ?_)
            · refine g_iconstN X 0 dX0_endsShare_63 ?_
              exact g_zret X hr hlk rfl dX0_endsShare_64 (by first | exact absurd (c_3.symm.trans c_25) ne43_108 | exact absurd (c_3.symm.trans c_31) ne43_101 | exact absurd (c_25.symm.trans c_96) ne108_101 | exact absurd c_31 c_96 | exact ⟨by simp [aShr, bI, *, Nat.not_lt_of_le, ne43_64, ne43_108, ne43_101, ne64_43, ne64_108, ne64_101, ne108_43, ne108_64, ne108_101, ne101_43, ne101_64, ne101_108], by simp [aShr, sP, sA_sA, sA_eq, sA_ne, upd, *, Nat.not_lt_of_le, ne43_64, ne43_108, ne43_101, ne64_43, ne64_108, ne64_101, ne108_43, ne108_64, ne108_101, ne101_43, ne101_64, ne101_108]⟩)
            · refine g_iload_n X dX0_endsShare_55 rfl rfl ?_
              refine g_if_ne (tgt := 65) X dX0_endsShare_56 (by decide) (fun c_56 => absurd (by decide) c_56) (fun c_56 => ?_)
              refine g_iload_n X dX0_endsShare_59 rfl rfl ?_
              refine g_if_ne (tgt := 65) X dX0_endsShare_60 (by decide) (fun c_60 => absurd (by decide) c_60) (fun c_60 => ?_)
              refine g_iconstN X 0 dX0_endsShare_63 ?_
              exact g_zret X hr hlk rfl dX0_endsShare_64 (by first | exact absurd (c_3.symm.trans c_25) ne43_108 | exact absurd (c_3.symm.trans c_31) ne43_101 | exact absurd (c_25.symm.trans c_96) ne108_101 | exact absurd c_31 c_96 | exact ⟨by simp [aShr, bI, *, Nat.not_lt_of_le, ne43_64, ne43_108, ne43_101, ne64_43, ne64_108, ne64_101, ne108_43, ne108_64, ne108_101, ne101_43, ne101_64, ne101_108], by simp [aShr, sP, sA_sA, sA_eq, sA_ne, upd, *, Nat.not_lt_of_le, ne43_64, ne43_108, ne43_101, ne64_43, ne64_108, ne64_101, ne108_43, ne108_64, ne108_101, ne101_43, ne101_64, ne101_108]⟩)
        · refine g_iconstN X 1 dX0_endsShare_34 ?_
          refine g_goto (tgt := 39) X dX0_endsShare_35 (by decide) ?_
          refine g_istore_n3 X dX0_endsShare_39 rfl (by decide) rfl ?_
          refine g_aload_n X dX0_endsShare_40 rfl rfl ?_
          refine g_get_11_6 X hi0 (by decide +kernel) dX0_endsShare_41 ?_
          refine g_if_eq (tgt := 63) X dX0_endsShare_44 (by decide) (fun c_44 => ?_) (fun c_44 => ?_)
          · refine g_iconstN X 0 dX0_endsShare_63 ?_
            exact g_zret X hr hlk rfl dX0_endsShare_64 (by first | exact absurd (c_3.symm.trans c_25) ne43_108 | exact absurd (c_3.symm.trans c_31) ne43_101 | exact absurd (c_25.symm.trans c_96) ne108_101 | exact absurd c_31 c_96 | exact ⟨by simp [aShr, bI, *, Nat.not_lt_of_le, ne43_64, ne43_108, ne43_101, ne64_43, ne64_108, ne64_101, ne108_43, ne108_64, ne108_101, ne101_43, ne101_64, ne101_108], by simp [aShr, sP, sA_sA, sA_eq, sA_ne, upd, *, Nat.not_lt_of_le, ne43_64, ne43_108, ne43_101, ne64_43, ne64_108, ne64_101, ne108_43, ne108_64, ne108_101, ne101_43, ne101_64, ne101_108]⟩)
          · refine g_aload_n X dX0_endsShare_47 rfl rfl ?_
            refine g_get_11_11 X hi0 (by decide +kernel) dX0_endsShare_48 ?_
            refine g_top hk ?_
            refine g_iconstN X 5 dX0_endsShare_51 ?_
            refine g_icmpN_ge (tgt := 63) X dX0_endsShare_52 (by decide) (by omega) (by omega) (fun c_52 => ?_) (fun c_52 => ?_)
            · refine g_iconstN X 0 dX0_endsShare_63 ?_
              exact g_zret X hr hlk rfl dX0_endsShare_64 (by first | exact absurd (c_3.symm.trans c_25) ne43_108 | exact absurd (c_3.symm.trans c_31) ne43_101 | exact absurd (c_25.symm.trans c_96) ne108_101 | exact absurd c_31 c_96 | exact ⟨by simp [aShr, bI, *, Nat.not_lt_of_le, ne43_64, ne43_108, ne43_101, ne64_43, ne64_108, ne64_101, ne108_43, ne108_64, ne108_101, ne101_43, ne101_64, ne101_108], by simp [aShr, sP, sA_sA, sA_eq, sA_ne, upd, *, Nat.not_lt_of_le, ne43_64, ne43_108, ne43_101, ne64_43, ne64_108, ne64_101, ne108_43, ne108_64, ne108_101, ne101_43, ne101_64, ne101_108]⟩)
            · refine g_iload_n X dX0_endsShare_55 rfl rfl ?_
              refine g_if_ne (tgt := 65) X dX0_endsShare_56 (by decide) (fun c_56 => absurd (by decide) c_56) (fun c_56 => ?_)
              refine g_iload_n X dX0_endsShare_59 rfl rfl ?_
              refine g_if_ne (tgt := 65) X dX0_endsShare_60 (by decide) (fun c_60 => ?_) (fun c_60 => absurd c_60 (by decide))
              refine g_aload_n X dX0_endsShare_65 rfl rfl ?_
              refine g_get_11_3 X hi0 (by decide +kernel) dX0_endsShare_66 ?_
              refine g_aload_n X dX0_endsShare_69 rfl rfl ?_
              refine g_get_11_11 X hi0 (by decide +kernel) dX0_endsShare_70 ?_
              refine g_top hk ?_
              refine g_aload_n X dX0_endsShare_73 rfl rfl ?_
              refine g_callVi (na := 0) X hj (k_X0_takeNumber l γ _) gW_11 rfl gX0_endsShare_X0_takeNumber rfl ⟨rfl, rfl⟩ (by decide +kernel) rfl ⟨by decide, by decide⟩ rfl (Nat.le_of_ble_eq_true rfl) dX0_endsShare_74 ⟨by decide, by decide⟩ ?_
              refine g_ast_15 X rfl (by omega) dX0_endsShare_77 ?_
              refine g_aload_n X dX0_endsShare_78 rfl rfl ?_
              refine g_dup X dX0_endsShare_79 rfl ?_
              refine g_get_11_11 X hi0 (by decide +kernel) dX0_endsShare_80 ?_
              refine g_top (y := nI k) (by simp [sP, sA_eq, sA_ne, upd, hk]) ?_
              refine g_iconstN X 1 dX0_endsShare_83 ?_
              refine g_iaddN X dX0_endsShare_84 ?_
              refine g_put_11_11 X hi0 (by decide +kernel) dX0_endsShare_85 ?_
              refine g_iload_n X dX0_endsShare_88 rfl rfl ?_
              refine g_if_eq (tgt := 113) X dX0_endsShare_89 (by decide) (fun c_89 => absurd c_89 (by decide)) (fun c_89 => ?_)
              refine g_aload_n X dX0_endsShare_92 rfl rfl ?_
              refine g_iload_n X dX0_endsShare_93 rfl rfl ?_
              refine g_bipush (v := nI 101) X dX0_endsShare_94 (by decide) ?_
              refine g_icmp_ne (tgt := 103) X dX0_endsShare_96 (by decide) (fun c_96 => ?_) (fun c_96 => ?_)
              · refine g_iconstN X 0 dX0_endsShare_103 ?_
                refine g_put_11_9 X hi0 (by decide +kernel) dX0_endsShare_104 ?_
                refine g_aload_n X dX0_endsShare_107 rfl rfl ?_
                refine g_bipush (v := nI 8) X dX0_endsShare_108 (by decide) ?_
                refine g_put_11_5 X hi0 (by decide +kernel) dX0_endsShare_110 ?_
                refine g_iconstN X 1 dX0_endsShare_113 ?_
                exact g_zret X hr hlk rfl dX0_endsShare_114 (by first | exact absurd (c_3.symm.trans c_25) ne43_108 | exact absurd (c_3.symm.trans c_31) ne43_101 | exact absurd (c_25.symm.trans c_96) ne108_101 | exact absurd c_31 c_96 | exact ⟨by simp [aShr, bI, *, Nat.not_lt_of_le, ne43_64, ne43_108, ne43_101, ne64_43, ne64_108, ne64_101, ne108_43, ne108_64, ne108_101, ne101_43, ne101_64, ne101_108], by simp [aShr, sP, sA_sA, sA_eq, sA_ne, upd, *, Nat.not_lt_of_le, ne43_64, ne43_108, ne43_101, ne64_43, ne64_108, ne64_101, ne108_43, ne108_64, ne108_101, ne101_43, ne101_64, ne101_108]⟩)
              · refine g_iconstN X 1 dX0_endsShare_99 ?_
                refine g_goto (tgt := 104) X dX0_endsShare_100 (by decide) ?_
                refine g_put_11_9 X hi0 (by decide +kernel) dX0_endsShare_104 ?_
                refine g_aload_n X dX0_endsShare_107 rfl rfl ?_
                refine g_bipush (v := nI 8) X dX0_endsShare_108 (by decide) ?_
                refine g_put_11_5 X hi0 (by decide +kernel) dX0_endsShare_110 ?_
                refine g_iconstN X 1 dX0_endsShare_113 ?_
                exact g_zret X hr hlk rfl dX0_endsShare_114 (by first | exact absurd (c_3.symm.trans c_25) ne43_108 | exact absurd (c_3.symm.trans c_31) ne43_101 | exact absurd (c_25.symm.trans c_96) ne108_101 | exact absurd c_31 c_96 | exact ⟨by simp [aShr, bI, *, Nat.not_lt_of_le, ne43_64, ne43_108, ne43_101, ne64_43, ne64_108, ne64_101, ne108_43, ne108_64, ne108_101, ne101_43, ne101_64, ne101_108], by simp [aShr, sP, sA_sA, sA_eq, sA_ne, upd, *, Nat.not_lt_of_le, ne43_64, ne43_108, ne43_101, ne64_43, ne64_108, ne64_101, ne108_43, ne108_64, ne108_101, ne101_43, ne101_64, ne101_108]⟩)
    · refine g_iconstN X 1 dX0_endsShare_16 ?_
      refine g_goto (tgt := 21) X dX0_endsShare_17 (by decide) ?_
      refine g_istore_n2 X dX0_endsShare_21 rfl (by decide) rfl ?_
      refine g_iload_n X dX0_endsShare_22 rfl rfl ?_
      refine g_bipush (v := nI 108) X dX0_endsShare_23 (by decide) ?_
      refine g_icmp_eq (tgt := 34) X dX0_endsShare_25 (by decide) (fun c_25 => ?_) (fun c_25 => ?_)
      · refine g_iconstN X 1 dX0_endsShare_34 ?_
        refine g_goto (tgt := 39) X dX0_endsShare_35 (by decide) ?_
        refine g_istore_n3 X dX0_endsShare_39 rfl (by decide) rfl ?_
        refine g_aload_n X dX0_endsShare_40 rfl rfl ?_
        refine g_get_11_6 X hi0 (by decide +kernel) dX0_endsShare_41 ?_
        refine g_if_eq (tgt := 63) X dX0_endsShare_44 (by decide) (fun c_44 => ?_) (fun c_44 => ?_)
        · refine g_iconstN X 0 dX0_endsShare_63 ?_
          exact g_zret X hr hlk rfl dX0_endsShare_64 (by first | exact absurd (c_3.symm.trans c_25) ne43_108 | exact absurd (c_3.symm.trans c_31) ne43_101 | exact absurd (c_25.symm.trans c_96) ne108_101 | exact absurd c_31 c_96 | exact ⟨by simp [aShr, bI, *, Nat.not_lt_of_le, ne43_64, ne43_108, ne43_101, ne64_43, ne64_108, ne64_101, ne108_43, ne108_64, ne108_101, ne101_43, ne101_64, ne101_108], by simp [aShr, sP, sA_sA, sA_eq, sA_ne, upd, *, Nat.not_lt_of_le, ne43_64, ne43_108, ne43_101, ne64_43, ne64_108, ne64_101, ne108_43, ne108_64, ne108_101, ne101_43, ne101_64, ne101_108]⟩)
        · refine g_aload_n X dX0_endsShare_47 rfl rfl ?_
          refine g_get_11_11 X hi0 (by decide +kernel) dX0_endsShare_48 ?_
          refine g_top hk ?_
          refine g_iconstN X 5 dX0_endsShare_51 ?_
          refine g_icmpN_ge (tgt := 63) X dX0_endsShare_52 (by decide) (by omega) (by omega) (fun c_52 => ?_) (fun c_52 => ?_)
          · refine g_iconstN X 0 dX0_endsShare_63 ?_
            exact g_zret X hr hlk rfl dX0_endsShare_64 (by first | exact absurd (c_3.symm.trans c_25) ne43_108 | exact absurd (c_3.symm.trans c_31) ne43_101 | exact absurd (c_25.symm.trans c_96) ne108_101 | exact absurd c_31 c_96 | exact ⟨by simp [aShr, bI, *, Nat.not_lt_of_le, ne43_64, ne43_108, ne43_101, ne64_43, ne64_108, ne64_101, ne108_43, ne108_64, ne108_101, ne101_43, ne101_64, ne101_108], by simp [aShr, sP, sA_sA, sA_eq, sA_ne, upd, *, Nat.not_lt_of_le, ne43_64, ne43_108, ne43_101, ne64_43, ne64_108, ne64_101, ne108_43, ne108_64, ne108_101, ne101_43, ne101_64, ne101_108]⟩)
          · refine g_iload_n X dX0_endsShare_55 rfl rfl ?_
            refine g_if_ne (tgt := 65) X dX0_endsShare_56 (by decide) (fun c_56 => ?_) (fun c_56 => absurd c_56 (by decide))
            refine g_aload_n X dX0_endsShare_65 rfl rfl ?_
            refine g_get_11_3 X hi0 (by decide +kernel) dX0_endsShare_66 ?_
            refine g_aload_n X dX0_endsShare_69 rfl rfl ?_
            refine g_get_11_11 X hi0 (by decide +kernel) dX0_endsShare_70 ?_
            refine g_top hk ?_
            refine g_aload_n X dX0_endsShare_73 rfl rfl ?_
            refine g_callVi (na := 0) X hj (k_X0_takeNumber l γ _) gW_11 rfl gX0_endsShare_X0_takeNumber rfl ⟨rfl, rfl⟩ (by decide +kernel) rfl ⟨by decide, by decide⟩ rfl (Nat.le_of_ble_eq_true rfl) dX0_endsShare_74 ⟨by decide, by decide⟩ ?_
            refine g_ast_15 X rfl (by omega) dX0_endsShare_77 ?_
            refine g_aload_n X dX0_endsShare_78 rfl rfl ?_
            refine g_dup X dX0_endsShare_79 rfl ?_
            refine g_get_11_11 X hi0 (by decide +kernel) dX0_endsShare_80 ?_
            refine g_top (y := nI k) (by simp [sP, sA_eq, sA_ne, upd, hk]) ?_
            refine g_iconstN X 1 dX0_endsShare_83 ?_
            refine g_iaddN X dX0_endsShare_84 ?_
            refine g_put_11_11 X hi0 (by decide +kernel) dX0_endsShare_85 ?_
            refine g_iload_n X dX0_endsShare_88 rfl rfl ?_
            refine g_if_eq (tgt := 113) X dX0_endsShare_89 (by decide) (fun c_89 => absurd c_89 (by decide)) (fun c_89 => ?_)
            refine g_aload_n X dX0_endsShare_92 rfl rfl ?_
            refine g_iload_n X dX0_endsShare_93 rfl rfl ?_
            refine g_bipush (v := nI 101) X dX0_endsShare_94 (by decide) ?_
            refine g_icmp_ne (tgt := 103) X dX0_endsShare_96 (by decide) (fun c_96 => ?_) (fun c_96 => ?_)
            · refine g_iconstN X 0 dX0_endsShare_103 ?_
              refine g_put_11_9 X hi0 (by decide +kernel) dX0_endsShare_104 ?_
              refine g_aload_n X dX0_endsShare_107 rfl rfl ?_
              refine g_bipush (v := nI 8) X dX0_endsShare_108 (by decide) ?_
              refine g_put_11_5 X hi0 (by decide +kernel) dX0_endsShare_110 ?_
              refine g_iconstN X 1 dX0_endsShare_113 ?_
              exact g_zret X hr hlk rfl dX0_endsShare_114 (by first | exact absurd (c_3.symm.trans c_25) ne43_108 | exact absurd (c_3.symm.trans c_31) ne43_101 | exact absurd (c_25.symm.trans c_96) ne108_101 | exact absurd c_31 c_96 | exact ⟨by simp [aShr, bI, *, Nat.not_lt_of_le, ne43_64, ne43_108, ne43_101, ne64_43, ne64_108, ne64_101, ne108_43, ne108_64, ne108_101, ne101_43, ne101_64, ne101_108], by simp [aShr, sP, sA_sA, sA_eq, sA_ne, upd, *, Nat.not_lt_of_le, ne43_64, ne43_108, ne43_101, ne64_43, ne64_108, ne64_101, ne108_43, ne108_64, ne108_101, ne101_43, ne101_64, ne101_108]⟩)
            · refine g_iconstN X 1 dX0_endsShare_99 ?_
              refine g_goto (tgt := 104) X dX0_endsShare_100 (by decide) ?_
              refine g_put_11_9 X hi0 (by decide +kernel) dX0_endsShare_104 ?_
              refine g_aload_n X dX0_endsShare_107 rfl rfl ?_
              refine g_bipush (v := nI 8) X dX0_endsShare_108 (by decide) ?_
              refine g_put_11_5 X hi0 (by decide +kernel) dX0_endsShare_110 ?_
              refine g_iconstN X 1 dX0_endsShare_113 ?_
              exact g_zret X hr hlk rfl dX0_endsShare_114 (by first | exact absurd (c_3.symm.trans c_25) ne43_108 | exact absurd (c_3.symm.trans c_31) ne43_101 | exact absurd (c_25.symm.trans c_96) ne108_101 | exact absurd c_31 c_96 | exact ⟨by simp [aShr, bI, *, Nat.not_lt_of_le, ne43_64, ne43_108, ne43_101, ne64_43, ne64_108, ne64_101, ne108_43, ne108_64, ne108_101, ne101_43, ne101_64, ne101_108], by simp [aShr, sP, sA_sA, sA_eq, sA_ne, upd, *, Nat.not_lt_of_le, ne43_64, ne43_108, ne43_101, ne64_43, ne64_108, ne64_101, ne108_43, ne108_64, ne108_101, ne101_43, ne101_64, ne101_108]⟩)
      · refine g_iload_n X dX0_endsShare_28 rfl rfl ?_
        refine g_bipush (v := nI 101) X dX0_endsShare_29 (by decide) ?_
        refine g_icmp_ne (tgt := 38) X dX0_endsShare_31 (by decide) (fun c_31 => ?_) (fun c_31 => ?_)
        · refine g_iconstN X 0 dX0_endsShare_38 ?_
          refine g_istore_n3 X dX0_endsShare_39 rfl (by decide) rfl ?_
          refine g_aload_n X dX0_endsShare_40 rfl rfl ?_
          refine g_get_11_6 X hi0 (by decide +kernel) dX0_endsShare_41 ?_
          refine g_if_eq (tgt := 63) X dX0_endsShare_44 (by decide) (fun c_44 => ?_) (fun c_44 => ?_)
          · refine g_iconstN X 0 dX0_endsShare_63 ?_
            exact g_zret X hr hlk rfl dX0_endsShare_64 (by first | exact absurd (c_3.symm.trans c_25) ne43_108 | exact absurd (c_3.symm.trans c_31) ne43_101 | exact absurd (c_25.symm.trans c_96) ne108_101 | exact absurd c_31 c_96 | exact ⟨by simp [aShr, bI, *, Nat.not_lt_of_le, ne43_64, ne43_108, ne43_101, ne64_43, ne64_108, ne64_101, ne108_43, ne108_64, ne108_101, ne101_43, ne101_64, ne101_108], by simp [aShr, sP, sA_sA, sA_eq, sA_ne, upd, *, Nat.not_lt_of_le, ne43_64, ne43_108, ne43_101, ne64_43, ne64_108, ne64_101, ne108_43, ne108_64, ne108_101, ne101_43, ne101_64, ne101_108]⟩)
          · refine g_aload_n X dX0_endsShare_47 rfl rfl ?_
            refine g_get_11_11 X hi0 (by decide +kernel) dX0_endsShare_48 ?_
            refine g_top hk ?_
            refine g_iconstN X 5 dX0_endsShare_51 ?_
            refine g_icmpN_ge (tgt := 63) X dX0_endsShare_52 (by decide) (by omega) (by omega) (fun c_52 => ?_) (fun c_52 => ?_)
            · refine g_iconstN X 0 dX0_endsShare_63 ?_
              exact g_zret X hr hlk rfl dX0_endsShare_64 (by first | exact absurd (c_3.symm.trans c_25) ne43_108 | exact absurd (c_3.symm.trans c_31) ne43_101 | exact absurd (c_25.symm.trans c_96) ne108_101 | exact absurd c_31 c_96 | exact ⟨by simp [aShr, bI, *, Nat.not_lt_of_le, ne43_64, ne43_108, ne43_101, ne64_43, ne64_108, ne64_101, ne108_43, ne108_64, ne108_101, ne101_43, ne101_64, ne101_108], by simp [aShr, sP, sA_sA, sA_eq, sA_ne, upd, *, Nat.not_lt_of_le, ne43_64, ne43_108, ne43_101, ne64_43, ne64_108, ne64_101, ne108_43, ne108_64, ne108_101, ne101_43, ne101_64, ne101_108]⟩)
            · refine g_iload_n X dX0_endsShare_55 rfl rfl ?_
              refine g_if_ne (tgt := 65) X dX0_endsShare_56 (by decide) (fun c_56 => ?_) (fun c_56 => absurd c_56 (by decide))
              refine g_aload_n X dX0_endsShare_65 rfl rfl ?_
              refine g_get_11_3 X hi0 (by decide +kernel) dX0_endsShare_66 ?_
              refine g_aload_n X dX0_endsShare_69 rfl rfl ?_
              refine g_get_11_11 X hi0 (by decide +kernel) dX0_endsShare_70 ?_
              refine g_top hk ?_
              refine g_aload_n X dX0_endsShare_73 rfl rfl ?_
              refine g_callVi (na := 0) X hj (k_X0_takeNumber l γ _) gW_11 rfl gX0_endsShare_X0_takeNumber rfl ⟨rfl, rfl⟩ (by decide +kernel) rfl ⟨by decide, by decide⟩ rfl (Nat.le_of_ble_eq_true rfl) dX0_endsShare_74 ⟨by decide, by decide⟩ ?_
              refine g_ast_15 X rfl (by omega) dX0_endsShare_77 ?_
              refine g_aload_n X dX0_endsShare_78 rfl rfl ?_
              refine g_dup X dX0_endsShare_79 rfl ?_
              refine g_get_11_11 X hi0 (by decide +kernel) dX0_endsShare_80 ?_
              refine g_top (y := nI k) (by simp [sP, sA_eq, sA_ne, upd, hk]) ?_
              refine g_iconstN X 1 dX0_endsShare_83 ?_
              refine g_iaddN X dX0_endsShare_84 ?_
              refine g_put_11_11 X hi0 (by decide +kernel) dX0_endsShare_85 ?_
              refine g_iload_n X dX0_endsShare_88 rfl rfl ?_
              refine g_if_eq (tgt := 113) X dX0_endsShare_89 (by decide) (fun c_89 => ?_) (fun c_89 => absurd (by decide) c_89)
              refine g_iconstN X 1 dX0_endsShare_113 ?_
              exact g_zret X hr hlk rfl dX0_endsShare_114 (by first | exact absurd (c_3.symm.trans c_25) ne43_108 | exact absurd (c_3.symm.trans c_31) ne43_101 | exact absurd (c_25.symm.trans c_96) ne108_101 | exact absurd c_31 c_96 | exact ⟨by simp [aShr, bI, *, Nat.not_lt_of_le, ne43_64, ne43_108, ne43_101, ne64_43, ne64_108, ne64_101, ne108_43, ne108_64, ne108_101, ne101_43, ne101_64, ne101_108], by simp [aShr, sP, sA_sA, sA_eq, sA_ne, upd, *, Nat.not_lt_of_le, ne43_64, ne43_108, ne43_101, ne64_43, ne64_108, ne64_101, ne108_43, ne108_64, ne108_101, ne101_43, ne101_64, ne101_108]⟩)
        · refine g_iconstN X 1 dX0_endsShare_34 ?_
          refine g_goto (tgt := 39) X dX0_endsShare_35 (by decide) ?_
          refine g_istore_n3 X dX0_endsShare_39 rfl (by decide) rfl ?_
          refine g_aload_n X dX0_endsShare_40 rfl rfl ?_
          refine g_get_11_6 X hi0 (by decide +kernel) dX0_endsShare_41 ?_
          refine g_if_eq (tgt := 63) X dX0_endsShare_44 (by decide) (fun c_44 => ?_) (fun c_44 => ?_)
          · refine g_iconstN X 0 dX0_endsShare_63 ?_
            exact g_zret X hr hlk rfl dX0_endsShare_64 (by first | exact absurd (c_3.symm.trans c_25) ne43_108 | exact absurd (c_3.symm.trans c_31) ne43_101 | exact absurd (c_25.symm.trans c_96) ne108_101 | exact absurd c_31 c_96 | exact ⟨by simp [aShr, bI, *, Nat.not_lt_of_le, ne43_64, ne43_108, ne43_101, ne64_43, ne64_108, ne64_101, ne108_43, ne108_64, ne108_101, ne101_43, ne101_64, ne101_108], by simp [aShr, sP, sA_sA, sA_eq, sA_ne, upd, *, Nat.not_lt_of_le, ne43_64, ne43_108, ne43_101, ne64_43, ne64_108, ne64_101, ne108_43, ne108_64, ne108_101, ne101_43, ne101_64, ne101_108]⟩)
          · refine g_aload_n X dX0_endsShare_47 rfl rfl ?_
            refine g_get_11_11 X hi0 (by decide +kernel) dX0_endsShare_48 ?_
            refine g_top hk ?_
            refine g_iconstN X 5 dX0_endsShare_51 ?_
            refine g_icmpN_ge (tgt := 63) X dX0_endsShare_52 (by decide) (by omega) (by omega) (fun c_52 => ?_) (fun c_52 => ?_)
            · refine g_iconstN X 0 dX0_endsShare_63 ?_
              exact g_zret X hr hlk rfl dX0_endsShare_64 (by first | exact absurd (c_3.symm.trans c_25) ne43_108 | exact absurd (c_3.symm.trans c_31) ne43_101 | exact absurd (c_25.symm.trans c_96) ne108_101 | exact absurd c_31 c_96 | exact ⟨by simp [aShr, bI, *, Nat.not_lt_of_le, ne43_64, ne43_108, ne43_101, ne64_43, ne64_108, ne64_101, ne108_43, ne108_64, ne108_101, ne101_43, ne101_64, ne101_108], by simp [aShr, sP, sA_sA, sA_eq, sA_ne, upd, *, Nat.not_lt_of_le, ne43_64, ne43_108, ne43_101, ne64_43, ne64_108, ne64_101, ne108_43, ne108_64, ne108_101, ne101_43, ne101_64, ne101_108]⟩)
            · refine g_iload_n X dX0_endsShare_55 rfl rfl ?_
              refine g_if_ne (tgt := 65) X dX0_endsShare_56 (by decide) (fun c_56 => ?_) (fun c_56 => absurd c_56 (by decide))
              refine g_aload_n X dX0_endsShare_65 rfl rfl ?_
              refine g_get_11_3 X hi0 (by decide +kernel) dX0_endsShare_66 ?_
              refine g_aload_n X dX0_endsShare_69 rfl rfl ?_
              refine g_get_11_11 X hi0 (by decide +kernel) dX0_endsShare_70 ?_
              refine g_top hk ?_
              refine g_aload_n X dX0_endsShare_73 rfl rfl ?_
              refine g_callVi (na := 0) X hj (k_X0_takeNumber l γ _) gW_11 rfl gX0_endsShare_X0_takeNumber rfl ⟨rfl, rfl⟩ (by decide +kernel) rfl ⟨by decide, by decide⟩ rfl (Nat.le_of_ble_eq_true rfl) dX0_endsShare_74 ⟨by decide, by decide⟩ ?_
              refine g_ast_15 X rfl (by omega) dX0_endsShare_77 ?_
              refine g_aload_n X dX0_endsShare_78 rfl rfl ?_
              refine g_dup X dX0_endsShare_79 rfl ?_
              refine g_get_11_11 X hi0 (by decide +kernel) dX0_endsShare_80 ?_
              refine g_top (y := nI k) (by simp [sP, sA_eq, sA_ne, upd, hk]) ?_
              refine g_iconstN X 1 dX0_endsShare_83 ?_
              refine g_iaddN X dX0_endsShare_84 ?_
              refine g_put_11_11 X hi0 (by decide +kernel) dX0_endsShare_85 ?_
              refine g_iload_n X dX0_endsShare_88 rfl rfl ?_
              refine g_if_eq (tgt := 113) X dX0_endsShare_89 (by decide) (fun c_89 => absurd c_89 (by decide)) (fun c_89 => ?_)
              refine g_aload_n X dX0_endsShare_92 rfl rfl ?_
              refine g_iload_n X dX0_endsShare_93 rfl rfl ?_
              refine g_bipush (v := nI 101) X dX0_endsShare_94 (by decide) ?_
              refine g_icmp_ne (tgt := 103) X dX0_endsShare_96 (by decide) (fun c_96 => ?_) (fun c_96 => ?_)
              · refine g_iconstN X 0 dX0_endsShare_103 ?_
                refine g_put_11_9 X hi0 (by decide +kernel) dX0_endsShare_104 ?_
                refine g_aload_n X dX0_endsShare_107 rfl rfl ?_
                refine g_bipush (v := nI 8) X dX0_endsShare_108 (by decide) ?_
                refine g_put_11_5 X hi0 (by decide +kernel) dX0_endsShare_110 ?_
                refine g_iconstN X 1 dX0_endsShare_113 ?_
                exact g_zret X hr hlk rfl dX0_endsShare_114 (by first | exact absurd (c_3.symm.trans c_25) ne43_108 | exact absurd (c_3.symm.trans c_31) ne43_101 | exact absurd (c_25.symm.trans c_96) ne108_101 | exact absurd c_31 c_96 | exact ⟨by simp [aShr, bI, *, Nat.not_lt_of_le, ne43_64, ne43_108, ne43_101, ne64_43, ne64_108, ne64_101, ne108_43, ne108_64, ne108_101, ne101_43, ne101_64, ne101_108], by simp [aShr, sP, sA_sA, sA_eq, sA_ne, upd, *, Nat.not_lt_of_le, ne43_64, ne43_108, ne43_101, ne64_43, ne64_108, ne64_101, ne108_43, ne108_64, ne108_101, ne101_43, ne101_64, ne101_108]⟩)
              · refine g_iconstN X 1 dX0_endsShare_99 ?_
                refine g_goto (tgt := 104) X dX0_endsShare_100 (by decide) ?_
                refine g_put_11_9 X hi0 (by decide +kernel) dX0_endsShare_104 ?_
                refine g_aload_n X dX0_endsShare_107 rfl rfl ?_
                refine g_bipush (v := nI 8) X dX0_endsShare_108 (by decide) ?_
                refine g_put_11_5 X hi0 (by decide +kernel) dX0_endsShare_110 ?_
                refine g_iconstN X 1 dX0_endsShare_113 ?_
                exact g_zret X hr hlk rfl dX0_endsShare_114 (by first | exact absurd (c_3.symm.trans c_25) ne43_108 | exact absurd (c_3.symm.trans c_31) ne43_101 | exact absurd (c_25.symm.trans c_96) ne108_101 | exact absurd c_31 c_96 | exact ⟨by simp [aShr, bI, *, Nat.not_lt_of_le, ne43_64, ne43_108, ne43_101, ne64_43, ne64_108, ne64_101, ne108_43, ne108_64, ne108_101, ne101_43, ne101_64, ne101_108], by simp [aShr, sP, sA_sA, sA_eq, sA_ne, upd, *, Nat.not_lt_of_le, ne43_64, ne43_108, ne43_101, ne64_43, ne64_108, ne64_101, ne108_43, ne108_64, ne108_101, ne101_43, ne101_64, ne101_108]⟩)
set_option maxRecDepth 20000 in
theorem k_X0_accepts (l : Launch) (γ : gG) (σ : gS) (ch : Int32) (w k q : Nat) (hp : σ.1 11 5 = nI w) (hp8 : w ≤ 8) (hk : σ.1 11 10 = nI k) (hk4 : k ≤ 4) (hq : σ.1 11 11 = nI q) (hq5 : q ≤ 5) : gM l γ yX0_accepts wsX0_accepts ({ frames := 2, cells := 0, slots := 0, locals := 44 } : Room) [.ref (ad γ 11), .int ch] σ (gis (some (.int (bI (accS σ ch w k q).1))) (accS σ ch w k q).2) 0 0 := by
  refine g_enter (own := RX0) (cc := cX0_accepts) (nL := 2) (ret := (some .boolean)) [some (.ref (ad γ 11)), some (.int ch)] (by decide) rfl rfl (by simp [lg_sl, Value.category]) (by simp [gl_le, glE, Value.category]) (fun hj p e s m args below meth c X hr hlk hnm => ?_)
  have hi0 : ∀ w ∈ wsX00, w ∈ wsX0_accepts := by decide +kernel
  refine g_aload_n X dX0_accepts_0 rfl rfl ?_
  refine g_get_11_5 X hi0 (by decide +kernel) dX0_accepts_1 ?_
  refine g_top hp ?_
  rcases (show w = 0 ∨ w = 1 ∨ w = 2 ∨ w = 3 ∨ w = 4 ∨ w = 5 ∨ w = 6 ∨ w = 7 ∨ w = 8 by omega) with rfl | rfl | rfl | rfl | rfl | rfl | rfl | rfl | rfl
  · refine g_tableIn (tgt := 52) X dX0_accepts_4 (by decide) (by decide) rfl (by decide) ?_
    refine g_aload_n X dX0_accepts_52 rfl rfl ?_
    refine g_iload_n X dX0_accepts_53 rfl rfl ?_
    refine g_bipush (v := nI 112) X dX0_accepts_54 (by decide) ?_
    refine g_iconstN X 1 dX0_accepts_56 ?_
    refine g_callVi (na := 3) X hj (k_X0_acceptsSign l γ _ _ _ _) gW_11 rfl gX0_accepts_X0_acceptsSign rfl ⟨rfl, rfl⟩ (by decide +kernel) rfl ⟨by decide, by decide⟩ rfl (Nat.le_of_ble_eq_true rfl) dX0_accepts_57 ⟨by decide, by decide⟩ ?_
    exact g_zret X hr hlk (bI_n _) dX0_accepts_60 ⟨rfl, rfl⟩
  · refine g_tableIn (tgt := 61) X dX0_accepts_4 (by decide) (by decide) rfl (by decide) ?_
    refine g_aload_n X dX0_accepts_61 rfl rfl ?_
    refine g_iload_n X dX0_accepts_62 rfl rfl ?_
    refine g_callVi (na := 1) X hj (k_X0_acceptsPrincipal l γ _ _) gW_11 rfl gX0_accepts_X0_acceptsPrincipal rfl ⟨rfl, rfl⟩ (by decide +kernel) rfl ⟨by decide, by decide⟩ rfl (Nat.le_of_ble_eq_true rfl) dX0_accepts_63 ⟨by decide, by decide⟩ ?_
    exact g_zret X hr hlk (bI_n _) dX0_accepts_66 ⟨rfl, rfl⟩
  · refine g_tableIn (tgt := 67) X dX0_accepts_4 (by decide) (by decide) rfl (by decide) ?_
    refine g_aload_n X dX0_accepts_67 rfl rfl ?_
    refine g_iload_n X dX0_accepts_68 rfl rfl ?_
    refine g_bipush (v := nI 115) X dX0_accepts_69 (by decide) ?_
    refine g_iconstN X 3 dX0_accepts_71 ?_
    refine g_callVi (na := 3) X hj (k_X0_acceptsSign l γ _ _ _ _) gW_11 rfl gX0_accepts_X0_acceptsSign rfl ⟨rfl, rfl⟩ (by decide +kernel) rfl ⟨by decide, by decide⟩ rfl (Nat.le_of_ble_eq_true rfl) dX0_accepts_72 ⟨by decide, by decide⟩ ?_
    exact g_zret X hr hlk (bI_n _) dX0_accepts_75 ⟨rfl, rfl⟩
  · refine g_tableIn (tgt := 76) X dX0_accepts_4 (by decide) (by decide) rfl (by decide) ?_
    refine g_aload_n X dX0_accepts_76 rfl rfl ?_
    refine g_iload_n X dX0_accepts_77 rfl rfl ?_
    refine g_ldc (v := nI 99999) X (show Cond.constant RX0 63 99999 ∈ _ by decide +kernel) dX0_accepts_78 ?_
    refine g_callVi (na := 2) X hj (k_X0_extendsNumber l γ _ _ _) gW_11 rfl gX0_accepts_X0_extendsNumber rfl ⟨rfl, rfl⟩ (by decide +kernel) rfl ⟨by decide, by decide⟩ rfl (Nat.le_of_ble_eq_true rfl) dX0_accepts_80 ⟨by decide, by decide⟩ ?_
    refine g_if_ne (tgt := 94) X dX0_accepts_83 (by decide) (fun c_83 => ?_) (fun c_83 => ?_)
    · replace c_83 := bI_t c_83
      refine g_iconstN X 1 dX0_accepts_94 ?_
      refine g_goto (tgt := 99) X dX0_accepts_95 (by decide) ?_
      exact g_zret X hr hlk rfl dX0_accepts_99 ⟨by simp [accS, orB, bI, *], by simp [accS, orB, *]⟩
    · replace c_83 := bI_f c_83
      rw [aExt_f c_83]
      refine g_aload_n X dX0_accepts_86 rfl rfl ?_
      refine g_iload_n X dX0_accepts_87 rfl rfl ?_
      refine g_callVi (na := 1) X hj (k_X0_endsSum l γ _ _) gW_11 rfl gX0_accepts_X0_endsSum rfl ⟨rfl, rfl⟩ (by decide +kernel) rfl ⟨by decide, by decide⟩ rfl (Nat.le_of_ble_eq_true rfl) dX0_accepts_88 ⟨by decide, by decide⟩ ?_
      refine g_if_eq (tgt := 98) X dX0_accepts_91 (by decide) (fun c_91 => ?_) (fun c_91 => ?_)
      · replace c_91 := bI_f c_91
        refine g_iconstN X 0 dX0_accepts_98 ?_
        exact g_zret X hr hlk rfl dX0_accepts_99 ⟨by simp [accS, orB, bI, *], by simp [accS, orB, *]⟩
      · replace c_91 := bI_t c_91
        refine g_iconstN X 1 dX0_accepts_94 ?_
        refine g_goto (tgt := 99) X dX0_accepts_95 (by decide) ?_
        exact g_zret X hr hlk rfl dX0_accepts_99 ⟨by simp [accS, orB, bI, *], by simp [accS, orB, *]⟩
  · refine g_tableIn (tgt := 100) X dX0_accepts_4 (by decide) (by decide) rfl (by decide) ?_
    refine g_aload_n X dX0_accepts_100 rfl rfl ?_
    refine g_iload_n X dX0_accepts_101 rfl rfl ?_
    refine g_callVi (na := 1) X hj (k_X0_acceptsSurety l γ _ _ k hk hk4) gW_11 rfl gX0_accepts_X0_acceptsSurety rfl ⟨rfl, rfl⟩ (by decide +kernel) rfl ⟨by decide, by decide⟩ rfl (Nat.le_of_ble_eq_true rfl) dX0_accepts_102 ⟨by decide, by decide⟩ ?_
    exact g_zret X hr hlk (bI_n _) dX0_accepts_105 ⟨rfl, rfl⟩
  · refine g_tableIn (tgt := 106) X dX0_accepts_4 (by decide) (by decide) rfl (by decide) ?_
    refine g_aload_n X dX0_accepts_106 rfl rfl ?_
    refine g_iload_n X dX0_accepts_107 rfl rfl ?_
    refine g_bipush (v := nI 42) X dX0_accepts_108 (by decide) ?_
    refine g_bipush (v := nI 6) X dX0_accepts_110 (by decide) ?_
    refine g_callVi (na := 3) X hj (k_X0_acceptsSign l γ _ _ _ _) gW_11 rfl gX0_accepts_X0_acceptsSign rfl ⟨rfl, rfl⟩ (by decide +kernel) rfl ⟨by decide, by decide⟩ rfl (Nat.le_of_ble_eq_true rfl) dX0_accepts_112 ⟨by decide, by decide⟩ ?_
    exact g_zret X hr hlk (bI_n _) dX0_accepts_115 ⟨rfl, rfl⟩
  · refine g_tableIn (tgt := 116) X dX0_accepts_4 (by decide) (by decide) rfl (by decide) ?_
    refine g_aload_n X dX0_accepts_116 rfl rfl ?_
    refine g_iload_n X dX0_accepts_117 rfl rfl ?_
    refine g_ldc (v := nI 99999) X (show Cond.constant RX0 63 99999 ∈ _ by decide +kernel) dX0_accepts_118 ?_
    refine g_callVi (na := 2) X hj (k_X0_extendsNumber l γ _ _ _) gW_11 rfl gX0_accepts_X0_extendsNumber rfl ⟨rfl, rfl⟩ (by decide +kernel) rfl ⟨by decide, by decide⟩ rfl (Nat.le_of_ble_eq_true rfl) dX0_accepts_120 ⟨by decide, by decide⟩ ?_
    refine g_if_ne (tgt := 134) X dX0_accepts_123 (by decide) (fun c_123 => ?_) (fun c_123 => ?_)
    · replace c_123 := bI_t c_123
      refine g_iconstN X 1 dX0_accepts_134 ?_
      refine g_goto (tgt := 139) X dX0_accepts_135 (by decide) ?_
      exact g_zret X hr hlk rfl dX0_accepts_139 ⟨by simp [accS, orB, bI, *], by simp [accS, orB, *]⟩
    · replace c_123 := bI_f c_123
      rw [aExt_f c_123]
      refine g_aload_n X dX0_accepts_126 rfl rfl ?_
      refine g_iload_n X dX0_accepts_127 rfl rfl ?_
      refine g_callVi (na := 1) X hj (k_X0_endsLimit l γ _ _ k hk hk4) gW_11 rfl gX0_accepts_X0_endsLimit rfl ⟨rfl, rfl⟩ (by decide +kernel) rfl ⟨by decide, by decide⟩ rfl (Nat.le_of_ble_eq_true rfl) dX0_accepts_128 ⟨by decide, by decide⟩ ?_
      refine g_if_eq (tgt := 138) X dX0_accepts_131 (by decide) (fun c_131 => ?_) (fun c_131 => ?_)
      · replace c_131 := bI_f c_131
        refine g_iconstN X 0 dX0_accepts_138 ?_
        exact g_zret X hr hlk rfl dX0_accepts_139 ⟨by simp [accS, orB, bI, *], by simp [accS, orB, *]⟩
      · replace c_131 := bI_t c_131
        refine g_iconstN X 1 dX0_accepts_134 ?_
        refine g_goto (tgt := 139) X dX0_accepts_135 (by decide) ?_
        exact g_zret X hr hlk rfl dX0_accepts_139 ⟨by simp [accS, orB, bI, *], by simp [accS, orB, *]⟩
  · refine g_tableIn (tgt := 140) X dX0_accepts_4 (by decide) (by decide) rfl (by decide) ?_
    refine g_aload_n X dX0_accepts_140 rfl rfl ?_
    refine g_iload_n X dX0_accepts_141 rfl rfl ?_
    refine g_sipush (v := nI 1000) X dX0_accepts_142 (by decide) ?_
    refine g_callVi (na := 2) X hj (k_X0_extendsNumber l γ _ _ _) gW_11 rfl gX0_accepts_X0_extendsNumber rfl ⟨rfl, rfl⟩ (by decide +kernel) rfl ⟨by decide, by decide⟩ rfl (Nat.le_of_ble_eq_true rfl) dX0_accepts_145 ⟨by decide, by decide⟩ ?_
    refine g_if_ne (tgt := 159) X dX0_accepts_148 (by decide) (fun c_148 => ?_) (fun c_148 => ?_)
    · replace c_148 := bI_t c_148
      refine g_iconstN X 1 dX0_accepts_159 ?_
      refine g_goto (tgt := 164) X dX0_accepts_160 (by decide) ?_
      exact g_zret X hr hlk rfl dX0_accepts_164 ⟨by simp [accS, orB, bI, *], by simp [accS, orB, *]⟩
    · replace c_148 := bI_f c_148
      rw [aExt_f c_148]
      refine g_aload_n X dX0_accepts_151 rfl rfl ?_
      refine g_iload_n X dX0_accepts_152 rfl rfl ?_
      refine g_callVi (na := 1) X hj (k_X0_endsShare l γ _ _ q hq hq5) gW_11 rfl gX0_accepts_X0_endsShare rfl ⟨rfl, rfl⟩ (by decide +kernel) rfl ⟨by decide, by decide⟩ rfl (Nat.le_of_ble_eq_true rfl) dX0_accepts_153 ⟨by decide, by decide⟩ ?_
      refine g_if_eq (tgt := 163) X dX0_accepts_156 (by decide) (fun c_156 => ?_) (fun c_156 => ?_)
      · replace c_156 := bI_f c_156
        refine g_iconstN X 0 dX0_accepts_163 ?_
        exact g_zret X hr hlk rfl dX0_accepts_164 ⟨by simp [accS, orB, bI, *], by simp [accS, orB, *]⟩
      · replace c_156 := bI_t c_156
        refine g_iconstN X 1 dX0_accepts_159 ?_
        refine g_goto (tgt := 164) X dX0_accepts_160 (by decide) ?_
        exact g_zret X hr hlk rfl dX0_accepts_164 ⟨by simp [accS, orB, bI, *], by simp [accS, orB, *]⟩
  · refine g_tableOut (tgt := 165) X dX0_accepts_4 (by decide) (by decide) ?_
    refine g_iconstN X 0 dX0_accepts_165 ?_
    exact g_zret X hr hlk rfl dX0_accepts_166 ⟨rfl, rfl⟩
set_option maxRecDepth 20000 in
theorem k_X0_standsAhead (l : Launch) (γ : gG) (σ : gS) (j : Nat) (hj4 : j < 4) : gM l γ yX0_standsAhead wsX0_standsAhead ({ frames := 0, cells := 0, slots := 0, locals := 0 } : Room) [.ref (ad γ 11), .int (nI j)] σ (gis (some (.int (bI (aheadI (σ.1 13) j j)))) σ) 0 0 := by
  refine g_enter (own := RX0) (cc := cX0_standsAhead) (nL := 3) (ret := (some .boolean)) [some (.ref (ad γ 11)), some (.int (nI j)), none] (by decide) rfl rfl (by simp [lg_sl, Value.category]) (by simp [gl_le, glE, Value.category]) (fun hj p e s m args below meth c X hr hlk hnm => ?_)
  have hi0 : ∀ w ∈ wsX00, w ∈ wsX0_standsAhead := by decide +kernel
  refine g_iconstN X 0 dX0_standsAhead_0 ?_
  refine g_istore_n2 X dX0_standsAhead_1 rfl (by decide) rfl ?_
  refine g_wf (fun r ls σ2 => ∃ (i : Nat), σ2 = σ ∧ i + r = j ∧ ls = [some (.ref (ad γ 11)), some (.int (nI j)), some (.int (nI i))] ∧ aheadI (σ.1 13) j i = false) j ⟨0, rfl, by omega, rfl, rfl⟩ (fun r ls2 σ2 hI ih => ?_)
  obtain ⟨i, rfl, hi, rfl, hah⟩ := hI
  refine g_iload_n X dX0_standsAhead_2 rfl rfl ?_
  refine g_iload_n X dX0_standsAhead_3 rfl rfl ?_
  refine g_icmpN_ge (tgt := 30) X dX0_standsAhead_4 (by decide) (by omega) (by omega) (fun c_4 => ?_) (fun c_4 => ?_)
  · refine g_iconstN X 0 dX0_standsAhead_30 ?_
    exact g_zret X hr hlk (by decide) dX0_standsAhead_31 ⟨by have e : i = j := (by omega); subst e; rw [hah]; rfl, rfl⟩
  · refine g_aload_n X dX0_standsAhead_7 rfl rfl ?_
    refine g_get_11_1 X hi0 (by decide +kernel) dX0_standsAhead_8 ?_
    refine g_iload_n X dX0_standsAhead_11 rfl rfl ?_
    refine g_ald_13 X rfl (by omega) dX0_standsAhead_12 ?_
    refine g_aload_n X dX0_standsAhead_13 rfl rfl ?_
    refine g_get_11_1 X hi0 (by decide +kernel) dX0_standsAhead_14 ?_
    refine g_iload_n X dX0_standsAhead_17 rfl rfl ?_
    refine g_ald_13 X rfl (by omega) dX0_standsAhead_18 ?_
    refine g_icmp_ne (tgt := 24) X dX0_standsAhead_19 (by decide) (fun c_19 => ?_) (fun c_19 => ?_)
    · refine g_iincN2 (d := 1) X dX0_standsAhead_24 (by decide) rfl ?_
      refine g_goto (tgt := 2) X dX0_standsAhead_27 (by decide) ?_
      exact ih (r - 1) (by omega) _ _ ⟨i + 1, rfl, by omega, rfl, by simp [aheadI, hah, c_19]⟩
    · refine g_iconstN X 1 dX0_standsAhead_22 ?_
      exact g_zret X hr hlk (by decide) dX0_standsAhead_23 ⟨by rw [ahead_hit c_19 j (by omega)]; rfl, rfl⟩
set_option maxRecDepth 20000 in
theorem k_X0_isSound (l : Launch) (γ : gG) (σ : gS) (k q : Nat) (hk : σ.1 11 10 = nI k) (hk4 : k ≤ 4) (hq : σ.1 11 11 = nI q) (hq5 : q ≤ 5) : gM l γ yX0_isSound wsX0_isSound ({ frames := 1, cells := 0, slots := 0, locals := 22 } : Room) [.ref (ad γ 11)] σ (gis (some (.int (bI (soundL σ k && (decide (sumI (σ.1 14) k ≤ σ.1 11 8) && decide (sumI (σ.1 15) q ≤ nI 1000)))))) σ) 0 0 := by
  refine g_enter (own := RX0) (cc := cX0_isSound) (nL := 4) (ret := (some .boolean)) [some (.ref (ad γ 11)), none, none, none] (by decide) rfl rfl (by simp [lg_sl, Value.category]) (by simp [gl_le, glE, Value.category]) (fun hj p e s m args below meth c X hr hlk hnm => ?_)
  have hi0 : ∀ w ∈ wsX00, w ∈ wsX0_isSound := by decide +kernel
  refine g_iconstN X 0 dX0_isSound_0 ?_
  refine g_istore_n1 X dX0_isSound_1 rfl (by decide) rfl ?_
  refine g_iconstN X 0 dX0_isSound_2 ?_
  refine g_istore_n2 X dX0_isSound_3 rfl (by decide) rfl ?_
  refine g_wf (fun r ls σ2 => ∃ (i : Nat), σ2 = σ ∧ i + r = k ∧ ls = [some (.ref (ad γ 11)), some (.int (sumI (σ.1 14) i)), some (.int (nI i)), none] ∧ soundL σ i = true) k ⟨0, rfl, by omega, rfl, rfl⟩ (fun r ls2 σ2 hI ih => ?_)
  obtain ⟨i, rfl, hi, rfl, hso⟩ := hI
  refine g_iload_n X dX0_isSound_4 rfl rfl ?_
  refine g_aload_n X dX0_isSound_5 rfl rfl ?_
  refine g_get_11_10 X hi0 (by decide +kernel) dX0_isSound_6 ?_
  refine g_top hk ?_
  refine g_icmpN_ge (tgt := 50) X dX0_isSound_9 (by decide) (by omega) (by omega) (fun c_9 => ?_) (fun c_9 => ?_)
  · have e : i = k := by omega
    subst e
    refine g_iconstN X 0 dX0_isSound_50 ?_
    refine g_istore_n2 X dX0_isSound_51 rfl (by decide) rfl ?_
    refine g_iconstN X 0 dX0_isSound_52 ?_
    refine g_istore_n3 X dX0_isSound_53 rfl (by decide) rfl ?_
    refine g_up (i0 := 0) (N := q) (fun j => [some (.ref (ad γ 11)), some (.int (sumI (σ2.1 14) i)), some (.int (sumI (σ2.1 15) j)), some (.int (nI j))]) (fun j => σ2) (by simp [gl_le, sumI]) rfl (by omega) (fun j hj ih54 => ?_)
    refine g_iload_n X dX0_isSound_54 rfl rfl ?_
    refine g_aload_n X dX0_isSound_55 rfl rfl ?_
    refine g_get_11_11 X hi0 (by decide +kernel) dX0_isSound_56 ?_
    refine g_top hq ?_
    refine g_icmpN_ge (tgt := 77) X dX0_isSound_59 (by decide) (by omega) (by omega) (fun c_59 => ?_) (fun c_59 => ?_)
    · refine g_iload_n X dX0_isSound_77 rfl rfl ?_
      refine g_aload_n X dX0_isSound_78 rfl rfl ?_
      refine g_get_11_8 X hi0 (by decide +kernel) dX0_isSound_79 ?_
      refine g_icmp_gt (tgt := 96) X dX0_isSound_82 (by decide) (fun c_82 => ?_) (fun c_82 => ?_)
      · refine g_iconstN X 0 dX0_isSound_96 ?_
        exact g_zret X hr hlk (by decide) dX0_isSound_97 (by have e : j = q := (by omega); subst e; refine ⟨?_, rfl⟩; rw [hso]; first | (rw [decide_eq_true (Int32.not_lt.mp c_82), decide_eq_true (Int32.not_lt.mp c_89)]; rfl) | (rw [decide_eq_true (Int32.not_lt.mp c_82), decide_eq_false (Int32.not_le.mpr c_89)]; rfl) | (rw [decide_eq_false (Int32.not_le.mpr c_82)]; rfl))
      · refine g_iload_n X dX0_isSound_85 rfl rfl ?_
        refine g_sipush (v := nI 1000) X dX0_isSound_86 (by decide) ?_
        refine g_icmp_gt (tgt := 96) X dX0_isSound_89 (by decide) (fun c_89 => ?_) (fun c_89 => ?_)
        · refine g_iconstN X 0 dX0_isSound_96 ?_
          exact g_zret X hr hlk (by decide) dX0_isSound_97 (by have e : j = q := (by omega); subst e; refine ⟨?_, rfl⟩; rw [hso]; first | (rw [decide_eq_true (Int32.not_lt.mp c_82), decide_eq_true (Int32.not_lt.mp c_89)]; rfl) | (rw [decide_eq_true (Int32.not_lt.mp c_82), decide_eq_false (Int32.not_le.mpr c_89)]; rfl) | (rw [decide_eq_false (Int32.not_le.mpr c_82)]; rfl))
        · refine g_iconstN X 1 dX0_isSound_92 ?_
          refine g_goto (tgt := 97) X dX0_isSound_93 (by decide) ?_
          exact g_zret X hr hlk (by decide) dX0_isSound_97 (by have e : j = q := (by omega); subst e; refine ⟨?_, rfl⟩; rw [hso]; first | (rw [decide_eq_true (Int32.not_lt.mp c_82), decide_eq_true (Int32.not_lt.mp c_89)]; rfl) | (rw [decide_eq_true (Int32.not_lt.mp c_82), decide_eq_false (Int32.not_le.mpr c_89)]; rfl) | (rw [decide_eq_false (Int32.not_le.mpr c_82)]; rfl))
    · refine g_iload_n X dX0_isSound_62 rfl rfl ?_
      refine g_aload_n X dX0_isSound_63 rfl rfl ?_
      refine g_get_11_3 X hi0 (by decide +kernel) dX0_isSound_64 ?_
      refine g_iload_n X dX0_isSound_67 rfl rfl ?_
      refine g_ald_15 X rfl (by omega) dX0_isSound_68 ?_
      refine g_iadd X dX0_isSound_69 ?_
      refine g_istore_n2 X dX0_isSound_70 rfl (by decide) rfl ?_
      refine g_iincN3 (d := 1) X dX0_isSound_71 (by decide) rfl ?_
      refine g_goto (tgt := 54) X dX0_isSound_74 (by decide) ?_
      exact g_le (by simp [gl_le, sumI]) (ih54 (by omega))
  · refine g_aload_n X dX0_isSound_12 rfl rfl ?_
    refine g_get_11_1 X hi0 (by decide +kernel) dX0_isSound_13 ?_
    refine g_iload_n X dX0_isSound_16 rfl rfl ?_
    refine g_ald_13 X rfl (by omega) dX0_isSound_17 ?_
    refine g_aload_n X dX0_isSound_18 rfl rfl ?_
    refine g_get_11_7 X hi0 (by decide +kernel) dX0_isSound_19 ?_
    refine g_icmp_eq (tgt := 33) X dX0_isSound_22 (by decide) (fun c_22 => ?_) (fun c_22 => ?_)
    · refine g_iconstN X 0 dX0_isSound_33 ?_
      exact g_zret X hr hlk (by decide) dX0_isSound_34 (by refine ⟨?_, rfl⟩; first | (have q9 := c_30; have h9 : soundL σ2 (i + 1) = false := (by unfold soundL; rw [q9]; simp); rw [soundL_f h9 k c_9]; rfl) | (have h9 : soundL σ2 (i + 1) = false := (by unfold soundL; rw [decide_eq_true c_22]; simp); rw [soundL_f h9 k c_9]; rfl))
    · refine g_aload_n X dX0_isSound_25 rfl rfl ?_
      refine g_iload_n X dX0_isSound_26 rfl rfl ?_
      refine g_callVi (na := 1) X hj (k_X0_standsAhead l γ _ _ (by omega)) gW_11 rfl gX0_isSound_X0_standsAhead rfl ⟨rfl, rfl⟩ (by decide +kernel) rfl ⟨by decide, by decide⟩ rfl (Nat.le_of_ble_eq_true rfl) dX0_isSound_27 ⟨by decide, by decide⟩ ?_
      refine g_if_eq (tgt := 35) X dX0_isSound_30 (by decide) (fun c_30 => ?_) (fun c_30 => ?_)
      · replace c_30 := bI_f c_30
        refine g_iload_n X dX0_isSound_35 rfl rfl ?_
        refine g_aload_n X dX0_isSound_36 rfl rfl ?_
        refine g_get_11_2 X hi0 (by decide +kernel) dX0_isSound_37 ?_
        refine g_iload_n X dX0_isSound_40 rfl rfl ?_
        refine g_ald_14 X rfl (by omega) dX0_isSound_41 ?_
        refine g_iadd X dX0_isSound_42 ?_
        refine g_istore_n1 X dX0_isSound_43 rfl (by decide) rfl ?_
        refine g_iincN2 (d := 1) X dX0_isSound_44 (by decide) rfl ?_
        refine g_goto (tgt := 4) X dX0_isSound_47 (by decide) ?_
        exact ih (r - 1) (by omega) _ _ ⟨i + 1, rfl, by omega, rfl, by simp [soundL, hso, c_22, c_30]⟩
      · replace c_30 := bI_t c_30
        refine g_iconstN X 0 dX0_isSound_33 ?_
        exact g_zret X hr hlk (by decide) dX0_isSound_34 (by refine ⟨?_, rfl⟩; first | (have q9 := c_30; have h9 : soundL σ2 (i + 1) = false := (by unfold soundL; rw [q9]; simp); rw [soundL_f h9 k c_9]; rfl) | (have h9 : soundL σ2 (i + 1) = false := (by unfold soundL; rw [decide_eq_true c_22]; simp); rw [soundL_f h9 k c_9]; rfl))
set_option maxRecDepth 20000 in
theorem k_X0_read (l : Launch) (γ : gG) (σ : gS) (nl : Nat) (hl : σ.1 11 4 = nI nl) (hl60 : nl ≤ 60) : gM l γ yX0_read wsX0_read ({ frames := 3, cells := 0, slots := 0, locals := 65 } : Room) [.ref (ad γ 11)] σ (gis (some (.int (nI (readI (rd0 σ) nl 0)))) (rdE (rd0 σ) nl)) 0 0 := by
  refine g_enter (own := RX0) (cc := cX0_read) (nL := 2) (ret := (some .int)) [some (.ref (ad γ 11)), none] (by decide) rfl rfl (by simp [lg_sl, Value.category]) (by simp [gl_le, glE, Value.category]) (fun hj p e s m args below meth c X hr hlk hnm => ?_)
  have hi0 : ∀ w ∈ wsX00, w ∈ wsX0_read := by decide +kernel
  refine g_aload_n X dX0_read_0 rfl rfl ?_
  refine g_iconstN X 0 dX0_read_1 ?_
  refine g_put_11_5 X hi0 (by decide +kernel) dX0_read_2 ?_
  refine g_aload_n X dX0_read_5 rfl rfl ?_
  refine g_iconstN X 0 dX0_read_6 ?_
  refine g_put_11_6 X hi0 (by decide +kernel) dX0_read_7 ?_
  refine g_aload_n X dX0_read_10 rfl rfl ?_
  refine g_iconstN X 0 dX0_read_11 ?_
  refine g_put_11_10 X hi0 (by decide +kernel) dX0_read_12 ?_
  refine g_aload_n X dX0_read_15 rfl rfl ?_
  refine g_iconstN X 0 dX0_read_16 ?_
  refine g_put_11_11 X hi0 (by decide +kernel) dX0_read_17 ?_
  refine g_iconstN X 0 dX0_read_20 ?_
  refine g_istore_n1 X dX0_read_21 rfl (by decide) rfl ?_
  have hrd := rd0_ok σ
  refine g_wf (fun r ls σ2 => ∃ (i : Nat), σ2 = rdS (rd0 σ) i ∧ i + r = nl ∧ ls = [some (.ref (ad γ 11)), some (.int (nI i))] ∧ readI (rd0 σ) nl 0 = readI (rd0 σ) r i) nl ⟨0, by unfold rdS rd0 sP; rfl, by omega, rfl, rfl⟩ (fun r ls2 σ2 hI ih => ?_)
  obtain ⟨i, rfl, hi, rfl, hri⟩ := hI
  obtain ⟨⟨⟨w, hw8, hw⟩, ⟨k, hk4, hk⟩, q, hq5, hq⟩, hcd, hln⟩ := rdS_ok hrd i
  refine g_iload_n X dX0_read_22 rfl rfl ?_
  refine g_aload_n X dX0_read_23 rfl rfl ?_
  refine g_get_11_4 X hi0 (by decide +kernel) dX0_read_24 ?_
  refine g_top (y := nI nl) (by rw [hln, rd0_4]; exact hl) ?_
  refine g_icmpN_ge (tgt := 56) X dX0_read_27 (by decide) (by omega) (by omega) (fun c_27 => ?_) (fun c_27 => ?_)
  · refine g_aload_n X dX0_read_56 rfl rfl ?_
    refine g_get_11_4 X hi0 (by decide +kernel) dX0_read_57 ?_
    refine g_top (y := nI nl) (by rw [hln, rd0_4]; exact hl) ?_
    exact g_iret X hr hlk dX0_read_60 (by have e : r = 0 := (by omega); subst e; have e2 : i = nl := (by omega); subst e2; exact ⟨by rw [hri]; rfl, (rdE_eq (by rw [hri]; rfl)).symm⟩)
  · refine g_aload_n X dX0_read_30 rfl rfl ?_
    refine g_aload_n X dX0_read_31 rfl rfl ?_
    refine g_get_11_0 X hi0 (by decide +kernel) dX0_read_32 ?_
    refine g_iload_n X dX0_read_35 rfl rfl ?_
    refine g_ald_12 X rfl (by omega) dX0_read_36 ?_
    rw [hcd, rd0_12]
    refine g_callVi (na := 1) X hj (k_X0_accepts l γ _ _ w k q hw hw8 hk hk4 hq hq5) gW_11 rfl gX0_read_X0_accepts rfl ⟨rfl, rfl⟩ (by decide +kernel) rfl ⟨by decide, by decide⟩ rfl (Nat.le_of_ble_eq_true rfl) dX0_read_37 ⟨by decide, by decide⟩ ?_
    refine g_if_ne (tgt := 50) X dX0_read_40 (by decide) (fun c_40 => ?_) (fun c_40 => ?_)
    · replace c_40 := bI_t c_40
      refine g_iincN1 (d := 1) X dX0_read_50 (by decide) rfl ?_
      refine g_goto (tgt := 22) X dX0_read_53 (by decide) ?_
      exact ih (r - 1) (by omega) _ _ ⟨i + 1, by rw [rdS_succ hw hw8 hk hk4 hq hq5, rd0_12], by omega, rfl, by rw [hri, show r = r - 1 + 1 by omega]; rw [readI_t hw hw8 hk hk4 hq hq5 (by rw [rd0_12]; exact c_40)]; rfl⟩
    · replace c_40 := bI_f c_40
      refine g_aload_n X dX0_read_43 rfl rfl ?_
      refine g_iconstN X 0 dX0_read_44 ?_
      refine g_put_11_5 X hi0 (by decide +kernel) dX0_read_45 ?_
      refine g_iload_n X dX0_read_48 rfl rfl ?_
      exact g_iret X hr hlk dX0_read_49 ⟨by rw [hri, readI_f hw hw8 hk hk4 hq hq5 (show 0 < r by omega) (by rw [rd0_12]; exact c_40)], by rw [accS_f c_40]; exact (rdE_lt (by rw [hri, readI_f hw hw8 hk hk4 hq hq5 (show 0 < r by omega) (by rw [rd0_12]; exact c_40)]; omega) (by rw [hri, readI_f hw hw8 hk hk4 hq hq5 (show 0 < r by omega) (by rw [rd0_12]; exact c_40)])).symm⟩
