/-! THE TEXT: both readers alike -/
def At (τ : gS) (m p : Nat) : Prop := p ≤ m ∧ readI τ m 0 = readI τ (m - p) p
/-- the reading numbers -/
def SS (τ : gS) (w nu k q : Nat) : Prop := τ.1 11 5 = nI w ∧ τ.1 11 6 = nI nu ∧ τ.1 11 10 = nI k ∧ τ.1 11 11 = nI q
def Fl (τ : gS) (m p : Nat) : Prop := readI τ m 0 = p ∧ p ≤ m ∧ (p < m ∨ ¬ (rdS τ p).1 11 5 = nI 8)
/-- codes of the buffer -/
def CD (cd : Nat → Int32) (m : Nat) : Prop := ∀ k, k < m → ∃ a, 33 ≤ a ∧ a ≤ 126 ∧ cd k = nI a
section TXT
variable {τ : gS} {m p w nu k q : Nat}
theorem At.step (h : At τ m p) (hp : p < m) (hs : SS (rdS τ p) w nu k q) (hw : w ≤ 8) (hk : k ≤ 4) (hq : q ≤ 5) (ha : (accS (rdS τ p) (τ.1 12 p) w k q).1 = true) : At τ m (p + 1) ∧ rdS τ (p + 1) = (accS (rdS τ p) (τ.1 12 p) w k q).2 := by
  refine ⟨⟨hp, ?_⟩, rdS_succ hs.1 hw hs.2.2.1 hk hs.2.2.2 hq⟩
  rw [h.2, show m - p = (m - (p + 1)) + 1 by omega, readI_t hs.1 hw hs.2.2.1 hk hs.2.2.2 hq ha]
theorem At.stop (h : At τ m p) (hs : SS (rdS τ p) w nu k q) (hw : w ≤ 7) (hk : k ≤ 4) (hq : q ≤ 5) (ha : p < m → (accS (rdS τ p) (τ.1 12 p) w k q).1 = false) : Fl τ m p := by
  refine ⟨?_, h.1, Or.inr (by rw [hs.1]; exact fun e => by have := (nI_eq (by omega) (by omega)).mp e; omega)⟩
  rw [h.2]
  by_cases hp : p < m
  · exact readI_f hs.1 (by omega) hs.2.2.1 hk hs.2.2.2 hq (by omega) (ha hp)
  · rw [show m - p = 0 by omega]; rfl
theorem nx_lt {cd : Nat → Int32} (hp : p < m) : nxT cd m p = cd p := by unfold nxT; rw [if_pos hp]
theorem nx_ge {cd : Nat → Int32} (hp : ¬ p < m) : nxT cd m p = nI 0 := by unfold nxT; rw [if_neg hp]
/-- a sign that is asked for -/
theorem tk_rel {sg w' : Nat} {r : Nat → Int32} (h : At τ m p) (hs : SS (rdS τ p) w nu k q) (hw : w ≤ 7) (hk : k ≤ 4) (hq : q ≤ 5) (hsg : 0 < sg ∧ sg < 2 ^ 31) (ha : accS (rdS τ p) (τ.1 12 p) w k q = aSign (rdS τ p) (τ.1 12 p) (nI sg) (nI w')) :
    ((tk (nxT (τ.1 12) m) (nI sg) p r).1 = true ∧ tk (nxT (τ.1 12) m) (nI sg) p r = (true, p + 1, r) ∧ At τ m (p + 1) ∧ rdS τ (p + 1) = sP (rdS τ p) 5 (nI w')) ∨ ((tk (nxT (τ.1 12) m) (nI sg) p r).1 = false ∧ (tk (nxT (τ.1 12) m) (nI sg) p r).2.1 = p ∧ Fl τ m p) := by
  by_cases hc : nxT (τ.1 12) m p = nI sg
  · have hp : p < m := by
      by_cases hp : p < m
      · exact hp
      · rw [nx_ge hp] at hc
        exact absurd ((nI_eq (by omega) (by omega)).mp hc) (by omega)
    have hc2 : τ.1 12 p = nI sg := by rw [← nx_lt (cd := τ.1 12) hp]; exact hc
    have e : accS (rdS τ p) (τ.1 12 p) w k q = (true, sP (rdS τ p) 5 (nI w')) := by rw [ha]; unfold aSign; rw [if_pos hc2]
    have := h.step hp hs (by omega) hk hq (by rw [e])
    rw [e] at this
    refine Or.inl ⟨?_, ?_, this.1, this.2⟩ <;> unfold tk <;> rw [if_pos hc]
  · refine Or.inr ⟨?_, ?_, h.stop hs hw hk hq (fun hp => ?_)⟩
    · unfold tk; rw [if_neg hc]
    · unfold tk; rw [if_neg hc]
    · rw [ha]; unfold aSign; rw [nx_lt hp] at hc; rw [if_neg hc]
theorem code_p {a x : Nat} (h1 : 33 ≤ a) (h2 : a ≤ 126) (hx : x < 10) : inB (nI a - nI 48) (nI 0) (nI x) = decide (48 ≤ a ∧ a ≤ 48 + x) := by
  unfold inB
  by_cases h3 : 48 ≤ a
  · rw [pk_sub h3, decide_eq_true (nI_le (Nat.zero_le _) (by omega)), Bool.true_and]
    by_cases h4 : a ≤ 48 + x
    · rw [decide_eq_true (nI_le (by omega) (by omega)), decide_eq_true ⟨h3, h4⟩]
    · rw [decide_eq_false (nI_ge (by omega) (by omega)), decide_eq_false (fun e => h4 e.2)]
  · have hn : nI a - nI 48 < 0 := pk_sneg (by decide) (by omega)
    rw [decide_eq_false (show ¬ nI 0 ≤ nI a - nI 48 from Int32.not_le.mpr hn), Bool.false_and, decide_eq_false (show ¬ (48 ≤ a ∧ a ≤ 48 + x) from fun e => h3 e.1)]
theorem isPb_in (x : Int32) : isPb x = inB x (nI 0) (nI 7) := by
  unfold isPb inB
  by_cases h1 : x < 0
  · rw [decide_eq_true h1, decide_eq_false (show ¬ nI 0 ≤ x from Int32.not_le.mpr h1)]; rfl
  · rw [decide_eq_false h1, decide_eq_true (show nI 0 ≤ x from Int32.not_lt.mp h1)]
    obtain ⟨j, hj, rfl⟩ := nI_of h1
    by_cases h2 : j ≤ 7
    · rw [decide_eq_true (nI_le h2 (by decide)), decide_eq_false (nI_ge (by omega) (by decide))]; rfl
    · rw [decide_eq_false (nI_ge (by omega) hj), decide_eq_true (nI_le (by omega) hj)]; rfl
theorem nx_0 {x : Int32} : inB (nI 0 - nI 48) (nI 0) x = false := by
  unfold inB
  rw [decide_eq_false (by decide)]; rfl
/-- a person's digit: the principal's, or a surety's -/
theorem dg_rel {slot : Nat} {r : Nat → Int32} {σ' : Int32 → gS} (hcd : CD (τ.1 12) m) (h : At τ m p) (hs : SS (rdS τ p) w nu k q) (hw : w ≤ 7) (hk : k ≤ 4) (hq : q ≤ 5) (ha : ∀ c, accS (rdS τ p) c w k q = if isPb (c - nI 48) then (true, σ' (c - nI 48)) else (false, rdS τ p)) :
    (∃ y, y < 8 ∧ dg (nxT (τ.1 12) m) slot p r = (true, p + 1, upd r slot (nI y)) ∧ At τ m (p + 1) ∧ rdS τ (p + 1) = σ' (nI y)) ∨ ((dg (nxT (τ.1 12) m) slot p r).1 = false ∧ (dg (nxT (τ.1 12) m) slot p r).2.1 = p ∧ Fl τ m p) := by
  by_cases hd : dgB (nxT (τ.1 12) m) p = true
  · have hp := dgB_le hd
    have hd2 := hd
    unfold dgB at hd2
    rw [nx_lt hp, ← isPb_in] at hd2
    obtain ⟨y, hy, hye⟩ := isP_nat hd2
    have e : accS (rdS τ p) (τ.1 12 p) w k q = (true, σ' (nI y)) := by rw [ha, if_pos hd2, hye]
    have := h.step hp hs (by omega) hk hq (by rw [e])
    rw [e] at this
    refine Or.inl ⟨y, hy, ?_, this.1, this.2⟩
    unfold dg
    rw [hd, if_pos rfl, nx_lt hp, hye]
  · refine Or.inr ⟨Bool.eq_false_iff.mpr hd, ?_, h.stop hs hw hk hq (fun hp => ?_)⟩
    · unfold dg
      rw [if_neg hd]
    · rw [ha]
      have hd2 := hd
      unfold dgB at hd2
      rw [nx_lt hp, ← isPb_in] at hd2
      rw [if_neg hd2]
/-- nothing but the number is another -/
def Sm (τ1 τ2 : gS) : Prop := (∀ j, j ≠ 6 → τ2.1 11 j = τ1.1 11 j) ∧ τ2.1 13 = τ1.1 13 ∧ τ2.1 14 = τ1.1 14 ∧ τ2.1 15 = τ1.1 15
theorem Sm.rf (τ1 : gS) : Sm τ1 τ1 := ⟨fun _ _ => rfl, rfl, rfl, rfl⟩
theorem Sm.tr {τ1 τ2 τ3 : gS} (h : Sm τ1 τ2) (h2 : Sm τ2 τ3) : Sm τ1 τ3 := ⟨fun j hj => (h2.1 j hj).trans (h.1 j hj), h2.2.1.trans h.2.1, h2.2.2.1.trans h.2.2.1, h2.2.2.2.trans h.2.2.2⟩
theorem Sm.num (τ1 : gS) (x : Int32) : Sm τ1 (sP τ1 6 x) := ⟨fun j hj => by rw [sP_at, if_neg hj], rfl, rfl, rfl⟩
/-- the digits of a number, as far as they go -/
theorem nu_rel {most : Nat} {g : gS → Int32 → BS} (hcd : CD (τ.1 12) m) (hm60 : m ≤ 60) (hw : w ≤ 7) (hk : k ≤ 4) (hq : q ≤ 5) (hmo : most ≤ 99999) (ha : ∀ (τ' : gS) (c : Int32), accS τ' c w k q = orB (aExt τ' c (nI most)) (g τ' c)) :
    ∀ (f p nu : Nat), At τ m p → m - p < f → SS (rdS τ p) w nu k q → nu ≤ most →
      ∃ p' nu', nuI (nxT (τ.1 12) m) (nI most) f p (nI nu) = (p', nI nu') ∧ p ≤ p' ∧ At τ m p' ∧ SS (rdS τ p') w nu' k q ∧ nu' ≤ most ∧ Sm (rdS τ p) (rdS τ p') ∧ (p' < m → (aExt (rdS τ p') (τ.1 12 p') (nI most)).1 = false)
  | 0, _, _, _, hf, _, _ => absurd hf (Nat.not_lt_zero _)
  | f + 1, p, nu, h, hf, hs, hnu => by
    by_cases hp : p < m
    · obtain ⟨a, ha1, ha2, hac⟩ := hcd p hp
      have hlong : longer (rdS τ p) (τ.1 12 p) = nI nu * nI 10 + (nI a - nI 48) := by unfold longer; rw [hs.2.1, hac]
      by_cases hd : 48 ≤ a ∧ a ≤ 57
      · have hL : nI nu * nI 10 + (nI a - nI 48) = nI (nu * 10 + (a - 48)) := by rw [pk_mul, pk_sub hd.1, nI_add]
        by_cases hb : 1 ≤ nu * 10 + (a - 48) ∧ nu * 10 + (a - 48) ≤ most
        · have hx : aExt (rdS τ p) (τ.1 12 p) (nI most) = (true, sP (rdS τ p) 6 (nI (nu * 10 + (a - 48)))) := by
            unfold aExt
            rw [hlong, hL, hac, if_pos ⟨nI_nlt hd.1 (by omega), nI_le hd.2 (by decide), nI_nlt hb.1 (by omega), nI_le hb.2 (by omega)⟩]
          have e : accS (rdS τ p) (τ.1 12 p) w k q = (true, sP (rdS τ p) 6 (nI (nu * 10 + (a - 48)))) := by rw [ha]; unfold orB; rw [hx, if_pos rfl]
          obtain ⟨h1, h2⟩ := h.step hp hs (by omega) hk hq (by rw [e])
          rw [e] at h2
          have hs1 : SS (rdS τ (p + 1)) w (nu * 10 + (a - 48)) k q := by
            rw [h2]
            exact ⟨by rw [sP_at, if_neg (by decide)]; exact hs.1, by rw [sP_at, if_pos rfl], by rw [sP_at, if_neg (by decide)]; exact hs.2.2.1, by rw [sP_at, if_neg (by decide)]; exact hs.2.2.2⟩
          obtain ⟨p', nu', g1, g2, g3, g4, g5, g6, g7⟩ := nu_rel hcd hm60 hw hk hq hmo ha f (p + 1) (nu * 10 + (a - 48)) h1 (by omega) hs1 hb.2
          have hB : nuB (nxT (τ.1 12) m) (nI most) p (nI nu) = true := by
            refine nuB_t ?_ ?_
            · rw [nx_lt hp, hac, code_p ha1 ha2 (by decide)]
              exact decide_eq_true hd
            · rw [nx_lt hp, hac, Int32.mul_comm, hL]
              unfold inB
              rw [decide_eq_true (nI_le hb.1 (by omega)), decide_eq_true (nI_le hb.2 (by omega))]; rfl
          refine ⟨p', nu', ?_, by omega, g3, g4, g5, ?_, g7⟩
          · rw [nuI_t hB, nx_lt hp, hac, Int32.mul_comm, hL]
            exact g1
          · rw [h2] at g6
            exact (Sm.num _ _).tr g6
        · have hx : (aExt (rdS τ p) (τ.1 12 p) (nI most)).1 = false := by
            unfold aExt
            rw [hlong, hL, hac, if_neg (fun e => hb ⟨by
              rcases Nat.lt_or_ge (nu * 10 + (a - 48)) 1 with q1 | q1
              · exact absurd (nI_lt q1 (by decide)) e.2.2.1
              · exact q1, by
              rcases Nat.lt_or_ge most (nu * 10 + (a - 48)) with q1 | q1
              · exact absurd e.2.2.2 (nI_ge q1 (by omega))
              · exact q1⟩)]
          have hB : nuB (nxT (τ.1 12) m) (nI most) p (nI nu) = false := by
            refine nuB_2 ?_
            rw [nx_lt hp, hac, Int32.mul_comm, hL]
            unfold inB
            by_cases q1 : 1 ≤ nu * 10 + (a - 48)
            · rw [decide_eq_false (nI_ge (a := most) (by omega) (by omega)), Bool.and_false]
            · rw [decide_eq_false (nI_ge (by omega) (by decide)), Bool.false_and]
          exact ⟨p, nu, nuI_f hB, Nat.le_refl _, h, hs, hnu, Sm.rf _, fun _ => hx⟩
      · have hx : (aExt (rdS τ p) (τ.1 12 p) (nI most)).1 = false := by
          unfold aExt
          rw [hac, if_neg (fun e => hd ⟨by
            rcases Nat.lt_or_ge a 48 with q1 | q1
            · exact absurd (nI_lt q1 (by decide)) e.1
            · exact q1, by
            rcases Nat.lt_or_ge 57 a with q1 | q1
            · exact absurd e.2.1 (nI_ge q1 (by omega))
            · exact q1⟩)]
        have hB : nuB (nxT (τ.1 12) m) (nI most) p (nI nu) = false := by
          refine nuB_1 ?_
          rw [nx_lt hp, hac, code_p ha1 ha2 (by decide)]
          exact decide_eq_false hd
        exact ⟨p, nu, nuI_f hB, Nat.le_refl _, h, hs, hnu, Sm.rf _, fun _ => hx⟩
    · have hB : nuB (nxT (τ.1 12) m) (nI most) p (nI nu) = false := nuB_1 (by rw [nx_ge hp]; exact nx_0)
      exact ⟨p, nu, nuI_f hB, Nat.le_refl _, h, hs, hnu, Sm.rf _, fun q1 => absurd q1 hp⟩
end TXT
