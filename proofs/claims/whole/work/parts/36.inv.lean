/-! WHAT HOLDS BETWEEN THE CALLS -/
/-- a bond's own cells: small numbers that fit together -/
def Bq (w : Nat → Int32) : Prop :=
  cN w 0 7 ∧ cN w 1 99999 ∧ cN w 3 4 ∧ cN w 4 5 ∧ cN w 5 (tN (w 4)) ∧ cN w 6 99999 ∧ cN w 7 (tN (w 6)) ∧ cN w 8 99999 ∧ tN (w 6) + tN (w 8) ≤ tN (w 1) ∧
  (w 9 = nI 1 ∨ (w 9 = nI 0 ∧ tN (w 6) + tN (w 8) = tN (w 1))) ∧ (∀ j, j < 5 → cN w (10 + j) 1000) ∧ (∀ i, i < tN (w 3) → cN w (15 + i * 4 + 0) 7 ∧ cN w (15 + i * 4 + 2) 99999) ∧
  sN (fun i => tN (w (15 + i * 4 + 2))) (tN (w 3)) ≤ tN (w 1) - tN (w 6) - tN (w 8)
theorem cN.c {w w' : Nat → Int32} {k m : Nat} (h : cN w k m) (e : w' k = w k) : cN w' k m := by unfold cN at h ⊢; rw [e]; exact h
theorem Bq.congr {w w' : Nat → Int32} (h : Bq w) (e : ∀ k, k < 31 → w' k = w k) : Bq w' := by
  obtain ⟨h0, h1, h3, h4, h5, h6, h7, h8, hs, h9, hm, hl, hL⟩ := h
  have e3 := e 3 (by decide)
  have h34 := h3.2
  unfold Bq
  rw [e 1 (by decide), e 4 (by decide), e 6 (by decide), e 8 (by decide), e 9 (by decide), e3]
  refine ⟨h0.c (e _ (by decide)), h1.c (e _ (by decide)), h3.c (e _ (by decide)), h4.c (e _ (by decide)), h5.c (e _ (by decide)), h6.c (e _ (by decide)), h7.c (e _ (by decide)), h8.c (e _ (by decide)), hs, h9, fun j hj => (hm j hj).c (e _ (by omega)), fun i hi => ⟨(hl i hi).1.c (e _ (by omega)), (hl i hi).2.c (e _ (by omega))⟩, ?_⟩
  rw [sN_congr (d := fun i => tN (w (15 + i * 4 + 2))) (tN (w 3)) (fun i hi => by rw [e _ (by omega)])]
  exact hL
def bq (v : Nat → Int32) (b : Nat) : Nat → Int32 := fun k => v (117 + b * 31 + k)
def nB (v : Nat → Int32) : Nat := tN (v 116)
/-- the chain of counter-guarantors comes down -/
def RK (z : Nat → Int32) : Prop := ∃ ρ : Nat → Nat, ∀ q, q < 8 → z (17 + q) = -1 ∨ ∃ y, y < 8 ∧ z (17 + q) = nI y ∧ ρ y < ρ q
def WF (v z : Nat → Int32) (K : Nat) : Prop :=
  cN v 116 10 ∧ (∀ b, b < nB v → Bq (bq v b)) ∧ (∀ b, nB v ≤ b → b < 10 → ∀ k, k < 31 → bq v b k = nI 0) ∧ (∀ q, q < 8 → v (q * 6 + 0) = nI (tN (v (q * 6 + 0)))) ∧ sN (fun q => tN (v (q * 6 + 0))) 8 ≤ 99999 * K ∧ (∀ q, q < 8 → cN v (q * 6 + 2) 100) ∧ (cN v 114 9 ∧ cN v 113 100) ∧ RK z
def SM (v z : Nat → Int32) : Prop := z 2 = bsum v (nB v) 6 ∧ z 3 = bsum v (nB v) 7 ∧ z 4 = bsum v (nB v) 6 - bsum v (nB v) 7 ∧ z 5 = bsum v (nB v) 8
def Rel (v z : Nat → Int32) (K : Nat) : Prop := RZ v z ∧ WF v z K ∧ SM v z
section RELC
variable {v z v' z' : Nat → Int32} {K K' : Nat}
theorem Rel.mono (h : Rel v z K) (hK : K ≤ K') : Rel v z K' := by
  obtain ⟨h1, ⟨a, b, c, d, e, f, g, r⟩, h3⟩ := h
  exact ⟨h1, ⟨a, b, c, d, Nat.le_trans e (Nat.mul_le_mul_left _ hK), f, g, r⟩, h3⟩
theorem mx_lt {k : Nat} (hk : k < 427) : mx k < 431 := by
  unfold mx
  split
  · omega
  · split
    · omega
    · split
      · omega
      · split
        · omega
        · split <;> omega
theorem bsum_c (hn : nB v ≤ 10) (e : ∀ k, k < 427 → v' k = v k) {j : Nat} (hj : j < 31) : bsum v' (nB v) j = bsum v (nB v) j := by
  unfold bsum
  exact sumI_congr _ (fun b hb => e _ (by omega))
theorem Rel.congr (h : Rel v z K) (e : ∀ k, k < 427 → v' k = v k) (ez : ∀ k, k < 431 → z' k = z k) : Rel v' z' K := by
  obtain ⟨h1, ⟨a, b, c, d, f, g, i, r⟩, ⟨s2, s3, s4, s5⟩⟩ := h
  have hn : nB v' = nB v := by unfold nB; rw [e 116 (by decide)]
  have hn10 : nB v ≤ 10 := a.2
  refine ⟨fun k hk => by rw [ez _ (mx_lt hk), e k hk]; exact h1 k hk, ⟨a.c (e _ (by decide)), fun b' hb => ?_, fun b' hb hb10 k hk => ?_, fun q hq => ?_, ?_, fun q hq => (g q hq).c (e _ (by omega)), ⟨i.1.c (e _ (by decide)), i.2.c (e _ (by decide))⟩, ?_⟩, ?_⟩
  · rw [hn] at hb
    exact (b b' hb).congr (fun k hk => e _ (by omega))
  · rw [hn] at hb
    unfold bq
    rw [e _ (by omega)]
    exact c b' hb hb10 k hk
  · rw [e _ (by omega)]; exact d q hq
  · rw [sN_congr (d := fun q => tN (v (q * 6 + 0))) 8 (fun q hq => by rw [e _ (by omega)])]; exact f
  · obtain ⟨ρ, hρ⟩ := r
    exact ⟨ρ, fun q hq => by rw [ez _ (by omega)]; exact hρ q hq⟩
  · unfold SM
    rw [hn, bsum_c hn10 e (by decide), bsum_c hn10 e (by decide), bsum_c hn10 e (by decide), ez _ (by decide), ez _ (by decide), ez _ (by decide), ez _ (by decide)]
    exact ⟨s2, s3, s4, s5⟩
end RELC
/-! what follows of it -/
def lB (v : Nat → Int32) (b : Nat) : Nat := tN (v (117 + b * 31 + 3))
def pB (v : Nat → Int32) (b : Nat) : Nat := tN (v (117 + b * 31 + 0))
def sB (v : Nat → Int32) (b i : Nat) : Nat := tN (v (117 + b * 31 + 15 + i * 4 + 0))
def eB' (v : Nat → Int32) (b i : Nat) : Nat := tN (v (117 + b * 31 + 15 + i * 4 + 2))
section RELF
variable {v z : Nat → Int32} {K : Nat}
theorem Rel.n (h : Rel v z K) : v 116 = nI (nB v) ∧ nB v ≤ 10 := h.2.1.1
theorem Rel.bd (h : Rel v z K) {b : Nat} (hb : b < nB v) : Bq (bq v b) := h.2.1.2.1 b hb
theorem la_eq (v : Nat → Int32) (b i j : Nat) : v (117 + b * 31 + 15 + i * 4 + j) = bq v b (15 + i * 4 + j) := by unfold bq; rw [show 117 + b * 31 + 15 + i * 4 + j = 117 + b * 31 + (15 + i * 4 + j) by omega]
theorem Rel.Sh (h : Rel v z K) : Sh v (nB v) (lB v) := by
  refine ⟨h.n.1, h.n.2, fun b hb => ?_⟩
  by_cases hbn : b < nB v
  · exact (h.bd hbn).2.2.1
  · have h0 := h.2.1.2.2.1 b (by omega) hb 3 (by decide)
    unfold lB
    rw [show v (117 + b * 31 + 3) = nI 0 from h0]
    exact ⟨by decide, by decide⟩
theorem Rel.BH (h : Rel v z K) {b : Nat} (hb : b < nB v) : BH v b (pB v b) (lB v b) (sB v b) := by
  obtain ⟨h0, h1, h3, h4, h5, h6, h7, h8, hs, h9, hm, hl, hL⟩ := h.bd hb
  refine ⟨h0.1, by have := h0.2; unfold pB; exact Nat.lt_succ_of_le this, h3.1, h3.2, fun i hi => ?_⟩
  have := (hl i hi).1
  refine ⟨?_, ?_⟩
  · unfold sB; rw [la_eq v b i 0]; exact this.1
  · unfold sB; rw [la_eq v b i 0]; exact Nat.lt_succ_of_le this.2
theorem Rel.run (h : Rel v z K) {b : Nat} (hb : b < nB v) : v (117 + b * 31 + 9) = nI 1 ∨ v (117 + b * 31 + 9) = nI 0 := (h.bd hb).2.2.2.2.2.2.2.2.2.1.elim Or.inl (fun q => Or.inr q.1)
def fB (v : Nat → Int32) (b : Nat) : Nat := tN (v (117 + b * 31 + 1)) - tN (v (117 + b * 31 + 6)) - tN (v (117 + b * 31 + 8))
theorem Rel.left (h : Rel v z K) {b : Nat} (hb : b < nB v) : leftOf v b = nI (fB v b) ∧ fB v b ≤ 99999 := by
  obtain ⟨h0, h1, h3, h4, h5, h6, h7, h8, hs, -⟩ := h.bd hb
  have g1 : v (117 + b * 31 + 1) = nI (tN (v (117 + b * 31 + 1))) := h1.1
  have g6 : v (117 + b * 31 + 6) = nI (tN (v (117 + b * 31 + 6))) := h6.1
  have g8 : v (117 + b * 31 + 8) = nI (tN (v (117 + b * 31 + 8))) := h8.1
  have hs' : tN (v (117 + b * 31 + 6)) + tN (v (117 + b * 31 + 8)) ≤ tN (v (117 + b * 31 + 1)) := hs
  have h12 : tN (v (117 + b * 31 + 1)) ≤ 99999 := h1.2
  unfold leftOf fB
  refine ⟨?_, by omega⟩
  have e : v (117 + b * 31 + 1) - v (117 + b * 31 + 6) - v (117 + b * 31 + 8) = nI (tN (v (117 + b * 31 + 1))) - nI (tN (v (117 + b * 31 + 6))) - nI (tN (v (117 + b * 31 + 8))) := by rw [← g1, ← g6, ← g8]
  rw [e, pk_sub (by omega), pk_sub (by omega)]
theorem RK.rank (h : RK z) : ∃ r : Nat → Nat, ∀ q, q < 8 → r q < 8 ∧ (z (17 + q) = -1 ∨ ∃ y, y < 8 ∧ z (17 + q) = nI y ∧ r y < r q) := by
  obtain ⟨ρ, hρ⟩ := h
  have cnt : ∀ (a c : Nat) (n : Nat), (∀ x, x < n → ρ x < a → ρ x < c) → sN (fun x => if ρ x < a then 1 else 0) n ≤ sN (fun x => if ρ x < c then 1 else 0) n := fun a c n hh => sN_mono n (fun x hx => by
    by_cases h1 : ρ x < a
    · rw [if_pos h1, if_pos (hh x hx h1)]; exact Nat.le_refl _
    · rw [if_neg h1]; exact Nat.zero_le _)
  have cnt1 : ∀ (a c y : Nat) (n : Nat), y < n → (∀ x, x < n → ρ x < a → ρ x < c) → ¬ ρ y < a → ρ y < c → sN (fun x => if ρ x < a then 1 else 0) n < sN (fun x => if ρ x < c then 1 else 0) n := by
    intro a c y n
    induction n with
    | zero => intro q; exact absurd q (Nat.not_lt_zero _)
    | succ n ih =>
      intro hy hh h1 h2
      rw [sN, sN]
      by_cases hyn : y = n
      · subst hyn
        have := cnt a c y (fun x hx => hh x (by omega))
        rw [if_neg h1, if_pos h2]
        omega
      · have := ih (by omega) (fun x hx => hh x (by omega)) h1 h2
        have h3 : (if ρ n < a then 1 else 0) ≤ (if ρ n < c then 1 else 0) := by
          by_cases h4 : ρ n < a
          · rw [if_pos h4, if_pos (hh n (by omega) h4)]; exact Nat.le_refl _
          · rw [if_neg h4]; exact Nat.zero_le _
        omega
  have one : ∀ n, sN (fun _ => 1) n = n := by
    intro n
    induction n with
    | zero => rfl
    | succ n ih => rw [sN, ih]
  refine ⟨fun q => sN (fun x => if ρ x < ρ q then 1 else 0) 8, fun q hq => ⟨?_, ?_⟩⟩
  · have h1 := cnt1 (ρ q) (ρ q + 1 + sN ρ 8) q 8 hq (fun x hx hh => by omega) (Nat.lt_irrefl _) (by omega)
    have h2 : sN (fun x => if ρ x < ρ q + 1 + sN ρ 8 then 1 else 0) 8 = 8 := by
      rw [sN_congr (d := fun _ => 1) 8 (fun x hx => by have := sN_le ρ 8 hx; rw [if_pos (by omega)]), one]
    have h3 : sN (fun x => if ρ x < ρ q then 1 else 0) 8 < 8 := by omega
    exact h3
  · rcases hρ q hq with h1 | ⟨y, hy, h1, h2⟩
    · exact Or.inl h1
    · exact Or.inr ⟨y, hy, h1, cnt1 (ρ y) (ρ q) y 8 hy (fun x hx hh => by omega) (Nat.lt_irrefl _) h2⟩
theorem rank_ch {r : Nat → Nat} (h : ∀ q, q < 8 → z (17 + q) = -1 ∨ ∃ y, y < 8 ∧ z (17 + q) = nI y ∧ r y < r q) : ∀ (f q : Nat), q < 8 → r q < f + 1 → chOK z f (z (17 + q))
  | 0, q, hq, hr => by
    rcases h q hq with h1 | ⟨y, hy, h1, h2⟩
    · exact h1
    · omega
  | f + 1, q, hq, hr => by
    rcases h q hq with h1 | ⟨y, hy, h1, h2⟩
    · exact Or.inl h1
    · exact Or.inr ⟨y, hy, h1, rank_ch h f y hy (by omega)⟩
theorem RK.ch (h : RK z) {q : Nat} (hq : q < 8) : chOK z 8 (z (17 + q)) := by
  obtain ⟨r, hr⟩ := h.rank
  exact rank_ch (fun q hq => (hr q hq).2) 8 q hq (by have := (hr q hq).1; omega)
theorem Rel.ch (h : Rel v z K) {q : Nat} (hq : q < 8) : chOK z 8 (z (17 + q)) := h.2.1.2.2.2.2.2.2.2.ch hq
theorem Rel.BK (h : Rel v z K) (hK : K ≤ 1024) {b : Nat} (hb : b < nB v) : BK v z b (pB v b) (lB v b) (fB v b) (sB v b) (eB' v b) (fun q => tN (v (q * 6 + 0))) := by
  obtain ⟨hB0, hB1, hB2, hB3, hB4⟩ := h.BH hb
  obtain ⟨h0, h1, h3, h4, h5, h6, h7, h8, hs, h9, hm, hl, hL⟩ := h.bd hb
  have hf := h.left hb
  have he : ∀ i, i < lB v b → v (117 + b * 31 + 15 + i * 4 + 2) = nI (eB' v b i) := fun i hi => by unfold eB'; rw [la_eq v b i 2]; exact (hl i hi).2.1
  refine ⟨by have := h.n.2; omega, hB0, hB1, hB2, hB3, hB4, he, ?_, hf.1, hf.2, h.2.1.2.2.2.1, Nat.le_trans h.2.1.2.2.2.2.1 (Nat.mul_le_mul_left _ hK), h.2.1.2.2.2.2.2.1, h.ch hB1⟩
  have e : sN (eB' v b) (lB v b) ≤ fB v b := by
    rw [sN_congr (d := fun i => tN (bq v b (15 + i * 4 + 2))) (lB v b) (fun i hi => by unfold eB'; rw [la_eq v b i 2])]
    exact hL
  omega
end RELF
