/-! A BOND IS GIVEN: class and reference alike -/
theorem ahead_iff {f : Nat → Int32} {j : Nat} : ∀ n, aheadI f j n = true ↔ ∃ i, i < n ∧ f i = f j
  | 0 => ⟨fun h => (by cases h), fun ⟨i, hi, _⟩ => absurd hi (Nat.not_lt_zero _)⟩
  | n + 1 => by
    rw [aheadI, Bool.or_eq_true, ahead_iff n]
    constructor
    · rintro (⟨i, hi, h⟩ | h)
      · exact ⟨i, by omega, h⟩
      · exact ⟨n, by omega, of_decide_eq_true h⟩
    · rintro ⟨i, hi, h⟩
      by_cases hin : i = n
      · subst hin; exact Or.inr (decide_eq_true h)
      · exact Or.inl ⟨i, by omega, h⟩
theorem sbit : ∀ h, h < 256 → ∀ y, y < 8 → (decide (((nI h >>> (nI y &&& 31)) &&& nI 1) = 0) = !h.testBit y) ∧ (nI h ||| (nI 1 <<< (nI y &&& 31))) = nI (h ||| 2 ^ y) ∧ (h ||| 2 ^ y) < 256 ∧ nI 1 <<< (nI y &&& 31) = nI (2 ^ y) := by decide +kernel
theorem sbit2 : ∀ h, h < 256 → ∀ y, y < 8 → ∀ x, x < 8 → (h ||| 2 ^ y).testBit x = (h.testBit x || decide (x = y)) := by decide +kernel
theorem sbit1 : ∀ y, y < 8 → (2 ^ y < 256 ∧ ∀ x, x < 8 → (2 ^ y).testBit x = decide (x = y)) := by decide +kernel
section GIV
variable {τ : gS} {r : Nat → Int32} {K q : Nat}
/-- sound, as the reference sees it -/
theorem gd_rel {pr : Nat} {su : Nat → Nat} (hp8 : pr < 8) (hp : τ.1 11 7 = nI pr) (hrp : r 0 = nI pr) (hs : ∀ i, i < K → su i < 8 ∧ τ.1 13 i = nI (su i) ∧ r (15 + 4 * i) = nI (su i)) : ∀ i, i ≤ K →
    (gdI r i).1 = soundL τ i ∧ (gdI r i).2.2 = sumI (fun j => r (15 + 4 * j + 1)) i ∧ ∃ h, h < 256 ∧ (gdI r i).2.1 = nI h ∧ ∀ x, x < 8 → (h.testBit x = true ↔ (x = pr ∨ ∃ j, j < i ∧ su j = x))
  | 0, _ => by
    obtain ⟨h1, h2⟩ := sbit1 pr hp8
    refine ⟨rfl, rfl, 2 ^ pr, h1, ?_, fun x hx => ?_⟩
    · show nI 1 <<< (r 0 &&& 31) = _
      rw [hrp]
      exact (sbit 0 (by decide) pr hp8).2.2.2
    · rw [h2 x hx]
      constructor
      · intro q9; exact Or.inl (of_decide_eq_true q9)
      · rintro (q9 | ⟨j, hj, _⟩)
        · exact decide_eq_true q9
        · exact absurd hj (Nat.not_lt_zero _)
  | i + 1, hi => by
    obtain ⟨g1, g2, h, hh, g3, g4⟩ := gd_rel hp8 hp hrp hs i (by omega)
    obtain ⟨hs8, hs13, hsr⟩ := hs i (by omega)
    obtain ⟨b1, b2, b3, -⟩ := sbit h hh (su i) hs8
    have hahead : aheadI (τ.1 13) i i = true ↔ ∃ j, j < i ∧ su j = su i := by
      rw [ahead_iff]
      constructor
      · rintro ⟨j, hj, e⟩
        have := (hs j (by omega)).1
        rw [(hs j (by omega)).2.1, hs13] at e
        exact ⟨j, hj, (nI_eq (by omega) (by omega)).mp e⟩
      · rintro ⟨j, hj, e⟩
        exact ⟨j, hj, by rw [(hs j (by omega)).2.1, hs13, e]⟩
    refine ⟨?_, ?_, h ||| 2 ^ su i, b3, ?_, fun x hx => ?_⟩
    · show ((gdI r i).1 && decide (((gdI r i).2.1 >>> (r (15 + 4 * i) &&& 31)) &&& nI 1 = 0)) = _
      rw [soundL, g1, g3, hsr, b1]
      congr 1
      have e1 : (decide (τ.1 13 i = τ.1 11 7)) = decide (su i = pr) := by
        rw [hs13, hp]
        by_cases e : su i = pr
        · rw [decide_eq_true e, decide_eq_true (by rw [e])]
        · rw [decide_eq_false e, decide_eq_false (fun w => e ((nI_eq (by omega) (by omega)).mp w))]
      rw [e1]
      by_cases e2 : h.testBit (su i) = true
      · rw [e2]
        rcases (g4 (su i) hs8).mp e2 with e3 | e3
        · rw [decide_eq_true e3]; rfl
        · rw [hahead.mpr e3, Bool.not_true, Bool.and_false]
      · have e3 : ¬ (su i = pr ∨ ∃ j, j < i ∧ su j = su i) := fun w => e2 ((g4 (su i) hs8).mpr w)
        rw [Bool.eq_false_iff.mpr e2, decide_eq_false (fun w => e3 (Or.inl w)), Bool.eq_false_iff.mpr (fun w => e3 (Or.inr (hahead.mp w)))]
        rfl
    · show (gdI r i).2.2 + r (15 + 4 * i + 1) = _
      rw [sumI, g2]
    · show (gdI r i).2.1 ||| (nI 1 <<< (r (15 + 4 * i) &&& 31)) = _
      rw [g3, hsr, b2]
    · rw [sbit2 h hh (su i) hs8 x hx, Bool.or_eq_true, g4 x hx]
      constructor
      · rintro ((e | ⟨j, hj, e⟩) | e)
        · exact Or.inl e
        · exact Or.inr ⟨j, by omega, e⟩
        · exact Or.inr ⟨i, by omega, (of_decide_eq_true e).symm⟩
      · rintro (e | ⟨j, hj, e⟩)
        · exact Or.inl (Or.inl e)
        · by_cases hji : j = i
          · subst hji; exact Or.inr (decide_eq_true e.symm)
          · exact Or.inl (Or.inr ⟨j, by omega, e⟩)
theorem TX.pr (h : TX τ r K q) : ∃ pr, pr < 8 ∧ τ.1 11 7 = nI pr ∧ r 0 = nI pr := h.1.1
/-- sureties of the text -/
def suT (r : Nat → Int32) (i : Nat) : Nat := tN (r (15 + 4 * i))
theorem TX.su (h : TX τ r K q) {i : Nat} (hi : i < K) : suT r i < 8 ∧ τ.1 13 i = nI (suT r i) ∧ r (15 + 4 * i) = nI (suT r i) := by
  obtain ⟨y, hy, e1, e2⟩ := (h.1.2.2.1 i hi).1
  have e3 : suT r i = y := tN_nI e2 (by omega)
  rw [e3]
  exact ⟨hy, e1, e2⟩
theorem good_rel (h : TX τ r K q) : gdB r K q = (soundL τ K && (decide (sumI (τ.1 14) K ≤ τ.1 11 8) && decide (sumI (τ.1 15) q ≤ nI 1000))) := by
  obtain ⟨pr, hp8, hp, hrp⟩ := h.pr
  obtain ⟨g1, g2, -⟩ := gd_rel hp8 hp hrp (fun i hi => h.su hi) K (Nat.le_refl K)
  obtain ⟨s, -, -, hs, hrs⟩ := h.1.2.1
  unfold gdB
  rw [g1, g2, hs, hrs, sumI_congr (f := fun j => r (15 + 4 * j + 1)) (g := τ.1 14) K (fun i hi => by obtain ⟨l, -, -, e1, e2⟩ := (h.1.2.2.1 i hi).2; rw [e2, e1]), sumI_congr (f := fun j => r (10 + j)) (g := τ.1 15) q (fun j hj => by obtain ⟨l, -, -, e1, e2⟩ := h.1.2.2.2 j hj; rw [e2, e1])]
theorem cmp_iff {x y : Int64} : decide (lg_cmp x y ≤ 0) = !decide (y < x) := by
  by_cases h : lg_cmp x y ≤ 0
  · rw [decide_eq_true h, decide_eq_false (cmp_le h)]; rfl
  · rw [decide_eq_false h, decide_eq_true (cmp_nle h)]; rfl
theorem l64_mono {a b : Int32} : a.toInt64 < b.toInt64 ↔ a < b := by
  rw [Int64.lt_iff_toInt_lt, Int32.toInt_toInt64, Int32.toInt_toInt64, Int32.lt_iff_toInt_lt]
/-- whom it would be too much for -/
theorem bind_rel {v z : Nat → Int32} {Kc : Nat} (hR : Rel v z Kc) (hKc : Kc ≤ 1024) (h : TX τ r K q) : ∀ k, k ≤ K → cbI z r (nB v) (lB v) (suT r) k = !tooI v (nB v) (lB v) (suT r) (τ.1 14) k
  | 0, _ => rfl
  | k + 1, hk => by
    have ih := bind_rel hR hKc h k (by omega)
    obtain ⟨hs8, -, -⟩ := h.su (i := k) (by omega)
    obtain ⟨l, hl1, hl5, e14, er⟩ := (h.1.2.2.1 k (by omega)).2
    have hc := hR.2.1.2.2.2.1 (suT r k) hs8
    have hcT : tN (v (suT r k * 6 + 0)) ≤ 99999 * 1024 := Nat.le_trans (sN_le (fun q => tN (v (q * 6 + 0))) 8 hs8) (Nat.le_trans hR.2.1.2.2.2.2.1 (Nat.mul_le_mul_left _ hKc))
    have h9 := hR.2.1.2.2.2.2.2.2.1.1
    have hz8 : z 8 = v (112 + 2) := hR.1.s (k := 2) (by decide)
    have h114 : v (112 + 2) = nI (tN (v 114)) := h9.1
    have hm : tN (v (suT r k * 6 + 0)) * tN (v 114) ≤ 99999 * 1024 * 9 := Nat.mul_le_mul hcT h9.2
    have eC : cbC z r (nB v) (lB v) (suT r) k = !tooB v (nB v) (lB v) (suT r) (τ.1 14) k := by
      unfold cbC tooB
      rw [cmp_iff, Bool.not_not, hR.1.bound hR.Sh, hR.1.p0 hs8, hz8, er, e14, h114]
      have e2 : (v (suT r k * 6 + 0)).toInt64 * (nI (tN (v 114))).toInt64 = (v (suT r k * 6 + 0) * nI (tN (v 114))).toInt64 := by
        rw [hc, nI_l64 (by omega), nI_l64 (by have := h9.2; omega), l64_mul, pk_mul, nI_l64 (by omega)]
      rw [e2]
      by_cases hlt : v (suT r k * 6 + 0) * nI (tN (v 114)) < boundFor v (nB v) (lB v) (nI (suT r k)) + nI l
      · rw [decide_eq_true (l64_mono.mpr hlt), decide_eq_false (Int32.not_le.mpr hlt)]; rfl
      · rw [decide_eq_false (fun w => hlt (l64_mono.mp w)), decide_eq_true (Int32.not_lt.mp hlt)]; rfl
    have eT : tooI v (nB v) (lB v) (suT r) (τ.1 14) (k + 1) = (tooI v (nB v) (lB v) (suT r) (τ.1 14) k || tooB v (nB v) (lB v) (suT r) (τ.1 14) k) := by
      unfold tooI
      rw [List.range_succ, List.any_append]
      simp
    rw [cbI, ih, eC, eT, Bool.not_or]
end GIV
/-- the new bond's cells -/
theorem rz_give {v z : Nat → Int32} {t su li sh r : Nat → Int32} {N K q : Nat} (h : RZ v z) (hN : N < 10) (hK : K ≤ 4) (hq : q ≤ 5) (hz : ∀ k, k < 31 → v (117 + N * 31 + k) = nI 0) (h0 : r 0 = t 7) (h1 : r 1 = t 8) (h2 : r 2 = t 9) (h3 : r 3 = t 10) (h4 : r 4 = t 11)
    (hs : ∀ i, i < K → r (15 + 4 * i) = su i ∧ r (15 + 4 * i + 1) = li i) (hm : ∀ j, j < q → r (10 + j) = sh j) : RZ (abV v N t su li sh K q) (gvZ z r N K q) := by
  have g0 : RZ v (gz0 z (121 + 31 * N) 31) := by
    intro k hk
    unfold gz0
    by_cases hb : 121 + 31 * N ≤ mx k ∧ mx k < 121 + 31 * N + 31
    · rw [if_pos hb]
      have hk2 : k = 117 + N * 31 + (mx k - (121 + 31 * N)) := by
        apply mx_inj hk (by omega)
        rw [mx_b hN (by omega)]
        omega
      have := hz (mx k - (121 + 31 * N)) (by omega)
      rw [← hk2] at this
      exact this.symm
    · rw [if_neg hb]; exact h k hk
  have g1 : RZ (ab0 v N t) (gvA z r N) := by
    unfold gvA ab0
    rw [← gz1_s, ← gz1_s, ← gz1_s, ← gz1_s, ← gz1_s, gz1_0, h0, h1, h2, h3, h4]
    exact (((((g0.u (k := 117 + N * 31 + 0) (t 7) (by omega) (mx_b hN (by decide))).u (k := 117 + N * 31 + 1) (t 8) (by omega) (mx_b hN (by decide))).u (k := 117 + N * 31 + 2) (t 9) (by omega) (mx_b hN (by decide))).u (k := 117 + N * 31 + 3) (t 10) (by omega) (mx_b hN (by decide))).u (k := 117 + N * 31 + 4) (t 11) (by omega) (mx_b hN (by decide))).u (k := 117 + N * 31 + 9) (nI 1) (by omega) (mx_b hN (by decide))
  have g2 : ∀ i, i ≤ q → RZ (abS (ab0 v N t) N sh i) (gz3 (gvA z r N) r (121 + 31 * N) i) := by
    intro i
    induction i with
    | zero => intro _; rw [gz3_0]; exact g1
    | succ i ih =>
      intro hi
      rw [abS, ← gz3_s, hm i (by omega)]
      exact (ih (by omega)).u (k := 117 + N * 31 + (10 + i)) (sh i) (by omega) (by rw [mx_b hN (by omega)]; omega)
  have g3 : ∀ i, i ≤ K → RZ (abL (abS (ab0 v N t) N sh q) N su li i) (gz4 (gz3 (gvA z r N) r (121 + 31 * N) q) r (121 + 31 * N) i) := by
    intro i
    induction i with
    | zero => intro _; exact g2 q (Nat.le_refl q)
    | succ i ih =>
      intro hi
      rw [abL, gz4, (hs i (by omega)).1, (hs i (by omega)).2]
      exact (((ih (by omega)).u (k := 117 + N * 31 + 15 + i * 4 + 0) (su i) (by omega) (by rw [mx_l hN (by omega) (by decide)]; omega)).u (k := 117 + N * 31 + 15 + i * 4 + 1) (li i) (by omega) (by rw [mx_l hN (by omega) (by decide)]; omega)).u (k := 117 + N * 31 + 15 + i * 4 + 2) (li i) (by omega) (by rw [mx_l hN (by omega) (by decide)]; omega)
  exact (g3 K (Nat.le_refl K)).u (k := 116) (nI (N + 1)) (by decide) rfl
