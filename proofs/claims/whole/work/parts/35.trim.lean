/-! LIMITS, TRIMMED: in natural numbers -/
theorem trI_nat {b : Nat} : ∀ (i : Nat) (z : Nat → Int32) (e : Nat → Nat) (ov : Nat), i ≤ 4 → ov < 2 ^ 31 → (∀ j, j < i → z (121 + 31 * b + 15 + 4 * j + 2) = nI (e j) ∧ e j < 2 ^ 31) →
    ∃ e' : Nat → Nat, (∀ j, j < i → trI z b i (nI ov) (121 + 31 * b + 15 + 4 * j + 2) = nI (e' j) ∧ e' j ≤ e j) ∧ sN e' i = sN e i - min ov (sN e i)
  | 0, _, e, _, _, _, _ => ⟨e, fun j hj => absurd hj (Nat.not_lt_zero _), by simp [sN]⟩
  | i + 1, z, e, ov, hi, ho, h => by
    by_cases h0 : ov = 0
    · subst h0
      rw [trI, if_pos (by decide)]
      exact ⟨e, fun j hj => ⟨(h j hj).1, Nat.le_refl _⟩, by omega⟩
    · obtain ⟨hei, he31⟩ := h i (by omega)
      obtain ⟨ct, hct⟩ : ∃ ct, min (e i) ov = ct := ⟨_, rfl⟩
      have hm : mn (z (121 + 31 * b + 15 + 4 * i + 2)) (nI ov) = nI ct := by rw [hei, mn_nI he31 ho, hct]
      obtain ⟨e', h1, h2⟩ := trI_nat (b := b) i (upd z (121 + 31 * b + 15 + 4 * i + 2) (nI (e i - ct))) e (ov - ct) (by omega) (by omega) (fun j hj => by rw [pk_un (by omega)]; exact h j (by omega))
      have hT : trI z b (i + 1) (nI ov) = trI (upd z (121 + 31 * b + 15 + 4 * i + 2) (nI (e i - ct))) b i (nI (ov - ct)) := by
        rw [trI, if_neg (nI_nle (by omega) ho), hm, hei, pk_sub (by omega), pk_sub (by omega)]
      refine ⟨updN e' i (e i - ct), fun j hj => ?_, ?_⟩
      · rw [hT]
        by_cases hji : j = i
        · subst hji
          rw [updN_s]
          refine ⟨?_, by omega⟩
          have key : ∀ (n : Nat) (w : Nat → Int32) (x : Int32), n ≤ j → trI w b n x (121 + 31 * b + 15 + 4 * j + 2) = w (121 + 31 * b + 15 + 4 * j + 2) := by
            intro n
            induction n with
            | zero => intro w x _; rfl
            | succ n ih =>
              intro w x hn
              rw [trI]
              split
              · rfl
              · rw [ih _ _ (by omega), pk_un (by omega)]
          rw [key j _ _ (Nat.le_refl j), pk_us]
        · rw [updN_n hji]
          exact h1 j (by omega)
      · rw [sN, sN, updN_s, sN_congr i (fun j hj => updN_n (by omega)), h2]
        omega
/-- trimmed limits come to what is left of the bond, if they came to more -/
theorem trZ_nat {z : Nat → Int32} {b L lf : Nat} {e : Nat → Nat} (hL4 : L ≤ 4) (he : ∀ j, j < L → z (121 + 31 * b + 15 + 4 * j + 2) = nI (e j)) (hs : sN e L < 2 ^ 30) (hlf : lfZ z b = nI lf) (hlf2 : lf < 2 ^ 30) :
    ∃ e' : Nat → Nat, (∀ j, j < L → trZ z b L (121 + 31 * b + 15 + 4 * j + 2) = nI (e' j) ∧ e' j ≤ e j) ∧ sN e' L = min (sN e L) lf := by
  have hlm : lmZ z b L = nI (sN e L) := by unfold lmZ; exact sumI_nI (c := e) L he
  unfold trZ
  rw [hlm, hlf]
  by_cases h : sN e L < lf
  · have hneg : nI (sN e L) - nI lf < 0 := pk_sneg hlf2 h
    refine ⟨e, fun j hj => ⟨?_, Nat.le_refl _⟩, by omega⟩
    cases L with
    | zero => exact absurd hj (Nat.not_lt_zero _)
    | succ L => rw [trI, if_pos (Int32.le_of_lt hneg)]; exact he j hj
  · rw [pk_sub (by omega)]
    obtain ⟨e', h1, h2⟩ := trI_nat (b := b) L z e (sN e L - lf) hL4 (by omega) (fun j hj => ⟨he j hj, by have := sN_le e L hj; omega⟩)
    exact ⟨e', h1, by omega⟩
