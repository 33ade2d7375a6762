/-! WHAT HOLDS OF THE WHOLE WORLD BETWEEN TWO CALLS -/
def HIS (w : Nat → Nat → Int32) (r : Nat → Int32) (s n K : Nat) : Prop := ∀ t, t < n → Rel (w ((s + 6 - n + t) % 6)) (fun k => r (431 * t + k)) K
theorem rwM_new {r z : Nat → Int32} {n k : Nat} (hk : k < 431) : rwM r z n (431 * (min 6 (n + 1) - 1) + k) = if n ≤ 6 then z k else rwM r z n (431 * (min 6 (n + 1) - 1) + k) := by
  by_cases hn : n ≤ 6
  · rw [if_pos hn]
    unfold rwM
    by_cases h6 : n = 6
    · subst h6
      rw [if_pos rfl]
      rw [if_pos (by omega)]
      exact congrArg z (by omega)
    · rw [if_neg h6]
      rw [if_pos (by omega)]
      exact congrArg z (by omega)
  · rw [if_neg hn]
theorem his_save {v z r : Nat → Int32} {s n K : Nat} {w w' : Nat → Nat → Int32} (hR : Rel v z K) (hs : s < 6) (hn : n ≤ 6) (h : HIS w r s n K) (e1 : ∀ k, k < 427 → w' s k = v k) (e2 : ∀ i, i < 6 → i ≠ s → w' i = w i) : HIS w' (rwM r z n) ((s + 1) % 6) (min 6 (n + 1)) K := by
  intro t ht
  by_cases hl : t = min 6 (n + 1) - 1
  · have hi : ((s + 1) % 6 + 6 - min 6 (n + 1) + t) % 6 = s := by omega
    rw [hi]
    refine hR.congr e1 (fun k hk => ?_)
    have := rwM_new (r := r) (z := z) (n := n) hk
    rw [if_pos hn, ← hl] at this
    exact this
  · have hne : ((s + 1) % 6 + 6 - min 6 (n + 1) + t) % 6 ≠ s := by omega
    by_cases h6 : n = 6
    · subst h6
      have hi : ((s + 1) % 6 + 6 - min 6 (6 + 1) + t) % 6 = (s + 6 - 6 + (t + 1)) % 6 := by omega
      rw [e2 _ (by omega) hne, hi]
      refine (h (t + 1) (by omega)).congr (fun k hk => rfl) (fun k hk => ?_)
      unfold rwM
      rw [if_pos rfl]
      rw [if_neg (by omega), if_pos (by omega)]
      exact congrArg r (by omega)
    · have hi : ((s + 1) % 6 + 6 - min 6 (n + 1) + t) % 6 = (s + 6 - n + t) % 6 := by omega
      rw [e2 _ (by omega) hne, hi]
      refine (h t (by omega)).congr (fun k hk => rfl) (fun k hk => ?_)
      unfold rwM
      rw [if_neg h6]
      rw [if_neg (by omega)]
theorem his_back {r : Nat → Int32} {s n K : Nat} {w : Nat → Nat → Int32} (hs : s < 6) (hn : n ≤ 6) (hn1 : 0 < n) (h : HIS w r s n K) : HIS w r ((s + 5) % 6) (n - 1) K := by
  intro t ht
  have hi : ((s + 5) % 6 + 6 - (n - 1) + t) % 6 = (s + 6 - n + t) % 6 := by omega
  rw [hi]
  exact h t (by omega)
theorem his_top {r z v : Nat → Int32} {s n K : Nat} {w : Nat → Nat → Int32} (hs : s < 6) (hn : n ≤ 6) (hn1 : 0 < n) (h : HIS w r s n K) : Rel (cpy427 (w ((s + 5) % 6)) v) (unR z r (n - 1) 431) K := by
  have hi : (s + 6 - n + (n - 1)) % 6 = (s + 5) % 6 := by omega
  have := h (n - 1) (by omega)
  rw [hi] at this
  refine this.congr (fun k hk => ?_) (fun k hk => ?_)
  · unfold cpy427; rw [if_pos hk]
  · unfold unR; rw [if_pos hk]
theorem HIS.mono {w : Nat → Nat → Int32} {r : Nat → Int32} {s n K K' : Nat} (h : HIS w r s n K) (hK : K ≤ K') : HIS w r s n K' := fun t ht => (h t ht).mono hK
def rowsC (σ : gS) : Nat → Nat → Int32 := fun i => σ.1 (5 + i)
def HI (σ : gS) (s n K : Nat) : Prop := s < 6 ∧ n ≤ 6 ∧ σ.1 3 1 = nI s ∧ σ.1 3 2 = nI n ∧ σ.1 23 3 = nI n ∧ HIS (rowsC σ) (σ.1 25) s n K
def BF (σ : gS) (k : Nat) : Prop := k ≤ 60 ∧ σ.1 11 4 = nI k ∧ σ.1 23 5 = nI k ∧ CD (σ.1 12) k ∧ ∀ j, j < k → σ.1 27 j = σ.1 12 j
def INV (σ : gS) (K : Nat) : Prop := Rel (σ.1 2) (σ.1 24) K ∧ (∃ s n, HI σ s n K) ∧ ∃ k, BF σ k
theorem six {P : Nat → Prop} (h0 : P 0) (h1 : P 1) (h2 : P 2) (h3 : P 3) (h4 : P 4) (h5 : P 5) : ∀ i, i < 6 → P i := fun i hi => by
  obtain rfl | rfl | rfl | rfl | rfl | rfl : i = 0 ∨ i = 1 ∨ i = 2 ∨ i = 3 ∨ i = 4 ∨ i = 5 := by omega
  · exact h0
  · exact h1
  · exact h2
  · exact h3
  · exact h4
  · exact h5
theorem HIS.rows {w w' : Nat → Nat → Int32} {r : Nat → Int32} {s n K : Nat} (h : HIS w r s n K) (e : ∀ i, i < 6 → w' i = w i) : HIS w' r s n K := fun t ht => by
  rw [e _ (by omega)]
  exact h t ht
theorem sv_3 (σ : gS) (j z : Nat) : (svS σ j z).1 3 = upd (upd (σ.1 3) 1 (nI ((j + 1) % 6))) 2 (nI (min 6 (z + 1))) := rfl
theorem svs_o (σ : gS) (j z : Nat) {o : Nat} (h3 : o ≠ 3) (hj : o ≠ 5 + j) : (svS σ j z).1 o = σ.1 o := by
  unfold svS
  rw [sA_ne _ _ h3, sA_ne _ _ hj]
theorem sv_row (σ : gS) {j z : Nat} (hj : j < 6) : (∀ k, k < 427 → (svS σ j z).1 (5 + j) k = σ.1 2 k) ∧ ∀ i, i < 6 → i ≠ j → (svS σ j z).1 (5 + i) = σ.1 (5 + i) := by
  refine ⟨fun k hk => ?_, fun i hi hij => svs_o σ j z (by omega) (by omega)⟩
  have e : (svS σ j z).1 (5 + j) = cpy427 (σ.1 2) (σ.1 (5 + j)) := by
    unfold svS
    rw [sA_ne _ _ (by omega)]
    show (if 5 + j = 5 + j then _ else _) = _
    rw [if_pos rfl]
  rw [e]
  unfold cpy427
  rw [if_pos hk]
/-- an undoable call: what was goes into the history -/
theorem INV.save {σ σ2 : gS} {K s n : Nat} (hR : Rel (σ.1 2) (σ.1 24) K) (hH : HI σ s n K) (hR2 : Rel (σ2.1 2) (σ2.1 24) (K + 1)) (hB : ∃ k, BF σ2 k) (e3 : σ2.1 3 = (svS σ s n).1 3) (er : ∀ i, i < 6 → σ2.1 (5 + i) = (svS σ s n).1 (5 + i)) (e23 : σ2.1 23 3 = nI (min 6 (n + 1))) (e25 : σ2.1 25 = rwM (σ.1 25) (σ.1 24) n) : INV σ2 (K + 1) := by
  obtain ⟨hs, hn, h1, h2, h3, h4⟩ := hH
  refine ⟨hR2, ⟨(s + 1) % 6, min 6 (n + 1), by omega, by omega, by rw [e3, sv_3]; rfl, by rw [e3, sv_3]; rfl, e23, ?_⟩, hB⟩
  rw [e25]
  have hr := sv_row σ (z := n) hs
  refine HIS.mono (his_save hR hs hn h4 (w' := rowsC σ2) (fun k hk => ?_) (fun i hi his => ?_)) (Nat.le_succ K)
  · show σ2.1 (5 + s) k = _
    rw [er s hs]
    exact hr.1 k hk
  · show σ2.1 (5 + i) = _
    rw [er i hi]
    exact hr.2 i hi his
/-- a call that changes nothing of it -/
theorem INV.same {σ σ2 : gS} {K K' : Nat} (h : INV σ K) (hK : K ≤ K') (e2 : σ2.1 2 = σ.1 2) (e24 : σ2.1 24 = σ.1 24) (e3 : σ2.1 3 = σ.1 3) (er : ∀ i, i < 6 → σ2.1 (5 + i) = σ.1 (5 + i)) (e33 : σ2.1 23 3 = σ.1 23 3) (e35 : σ2.1 23 5 = σ.1 23 5) (e25 : σ2.1 25 = σ.1 25) (e11 : σ2.1 11 4 = σ.1 11 4) (e12 : σ2.1 12 = σ.1 12) (e27 : σ2.1 27 = σ.1 27) : INV σ2 K' := by
  obtain ⟨hR, ⟨s, n, hs, hn, h1, h2, h3, h4⟩, ⟨k, hk, b1, b2, b3, b4⟩⟩ := h
  refine ⟨by rw [e2, e24]; exact hR.mono hK, ⟨s, n, hs, hn, by rw [e3]; exact h1, by rw [e3]; exact h2, by rw [e33]; exact h3, ?_⟩, ⟨k, hk, by rw [e11]; exact b1, by rw [e35]; exact b2, by rw [e12]; exact b3, fun j hj => by rw [e27, e12]; exact b4 j hj⟩⟩
  rw [e25]
  exact (h4.rows (w' := rowsC σ2) (fun i hi => er i hi)).mono hK
theorem BF.same {σ σ2 : gS} {k : Nat} (h : BF σ k) (e35 : σ2.1 23 5 = σ.1 23 5) (e11 : σ2.1 11 4 = σ.1 11 4) (e12 : σ2.1 12 = σ.1 12) (e27 : σ2.1 27 = σ.1 27) : BF σ2 k := by
  obtain ⟨hk, b1, b2, b3, b4⟩ := h
  exact ⟨hk, by rw [e11]; exact b1, by rw [e35]; exact b2, by rw [e12]; exact b3, fun j hj => by rw [e27, e12]; exact b4 j hj⟩
/-! arguments, told apart alike by both -/
theorem rng (m : Nat) (hm : m < 2 ^ 30) (x : Int32) : (∃ j, j ≤ m ∧ x = nI j ∧ inB x (nI 0) (nI m) = true) ∨ ((x < 0 ∨ nI m < x) ∧ inB x (nI 0) (nI m) = false) := by
  by_cases h0 : x < 0
  · refine Or.inr ⟨Or.inl h0, ?_⟩
    unfold inB
    rw [decide_eq_false (show ¬ nI 0 ≤ x from fun w => absurd (Int32.lt_of_le_of_lt w h0) Int32.lt_irrefl), Bool.false_and]
  · by_cases h1 : nI m < x
    · refine Or.inr ⟨Or.inr h1, ?_⟩
      unfold inB
      rw [decide_eq_false (show ¬ x ≤ nI m from Int32.not_le.mpr h1), Bool.and_false]
    · obtain ⟨j, hj, e⟩ := nI_of2 (M := nI m) (n := m) (nI_toInt (by omega)) h0 (Int32.not_lt.mp h1)
      refine Or.inl ⟨j, hj, e, ?_⟩
      unfold inB
      rw [decide_eq_true (show nI 0 ≤ x from Int32.not_lt.mp h0), decide_eq_true (Int32.not_lt.mp h1)]
      rfl
theorem inB_t {x a b : Int32} (h : inB x a b = true) : a ≤ x ∧ x ≤ b := by
  unfold inB at h
  rw [Bool.and_eq_true] at h
  exact ⟨of_decide_eq_true h.1, of_decide_eq_true h.2⟩
theorem inB_f {x a b : Int32} (h : inB x a b = false) : x < a ∨ b < x := by
  unfold inB at h
  by_cases h1 : a ≤ x
  · refine Or.inr (Int32.not_le.mp (fun w => ?_))
    rw [decide_eq_true h1, decide_eq_true w] at h
    cases h
  · exact Or.inl (Int32.not_le.mp h1)
theorem inB_c (x a b : Int32) : inB x a b = true ∨ inB x a b = false := by cases inB x a b <;> simp
theorem per_c (x : Int32) : (∃ q, q < 8 ∧ x = nI q) ∨ (isPb x = false ∧ inB x (nI 0) (nI 7) = false) := by
  rcases rng 7 (by decide) x with ⟨j, hj, e, -⟩ | ⟨-, h⟩
  · exact Or.inl ⟨j, by omega, e⟩
  · exact Or.inr ⟨by rw [isPb_in]; exact h, h⟩
theorem bnd_c {v z : Nat → Int32} {K : Nat} (h : Rel v z K) (x : Int32) : (∃ b, b < nB v ∧ x = nI b) ∨ ((x < 0 ∨ v 116 ≤ x) ∧ inB x (nI 0) (z 0 - nI 1) = false) := by
  have hn := h.n
  have hz := h.1.n
  rw [hz, hn.1]
  by_cases h0 : nB v = 0
  · right
    rw [h0]
    refine ⟨?_, ?_⟩
    · by_cases hx : x < 0
      · exact Or.inl hx
      · exact Or.inr (Int32.not_lt.mp hx)
    · unfold inB
      by_cases hx : nI 0 ≤ x
      · rw [decide_eq_false (show ¬ x ≤ nI 0 - nI 1 from fun w => absurd (Int32.le_trans hx w) (by decide)), Bool.and_false]
      · rw [decide_eq_false hx, Bool.false_and]
  · rw [pk_sub (by omega)]
    rcases rng (nB v - 1) (by omega) x with ⟨j, hj, e, -⟩ | ⟨hx, h⟩
    · exact Or.inl ⟨j, by omega, e⟩
    · refine Or.inr ⟨hx.imp id (fun w => ?_), h⟩
      refine Int32.not_lt.mp (fun q => ?_)
      have hx0 : ¬ x < 0 := fun q0 => absurd (Int32.lt_trans (Int32.lt_of_le_of_lt (Int32.not_lt.mp (nI_pos (n := nB v - 1) (by omega))) w) q0) Int32.lt_irrefl
      obtain ⟨j, hj, e⟩ := nI_of2 (M := nI (nB v)) (n := nB v) (nI_toInt (by omega)) hx0 (Int32.le_of_lt q)
      subst e
      have a1 := (nI_ltI (by omega) (by omega)).mp w
      have a2 := (nI_ltI (by omega) (by omega)).mp q
      omega
