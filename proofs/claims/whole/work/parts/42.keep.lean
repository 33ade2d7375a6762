/-! WHAT THE CALLS KEEP -/
section KEEP
variable {v z v' z' : Nat → Int32} {K K' : Nat}
/-- calls that touch no bond -/
theorem Rel.pers (h : Rel v z K) (hz : RZ v' z') (hb : ∀ k, 116 ≤ k → k < 427 → v' k = v k) (hc : ∀ q, q < 8 → v' (q * 6 + 0) = nI (tN (v' (q * 6 + 0)))) (hs : sN (fun q => tN (v' (q * 6 + 0))) 8 ≤ 99999 * K') (hp : ∀ q, q < 8 → cN v' (q * 6 + 2) 100) (h4 : cN v' 114 9) (h3 : cN v' 113 100) (hr : RK z') (h25 : ∀ j, 2 ≤ j → j ≤ 5 → z' j = z j) : Rel v' z' K' := by
  obtain ⟨-, ⟨a, b, c, -, -, -, -, -⟩, ⟨s2, s3, s4, s5⟩⟩ := h
  have hn : nB v' = nB v := by unfold nB; rw [hb 116 (by decide) (by decide)]
  have hn10 : nB v ≤ 10 := a.2
  have hbs : ∀ j, j < 31 → bsum v' (nB v) j = bsum v (nB v) j := fun j hj => by
    unfold bsum
    exact sumI_congr _ (fun b hb' => hb _ (by omega) (by omega))
  refine ⟨hz, ⟨a.c (hb _ (by decide) (by decide)), fun b' hb' => ?_, fun b' hb' hb10 k hk => ?_, hc, hs, hp, ⟨h4, h3⟩, hr⟩, ?_⟩
  · rw [hn] at hb'
    exact (b b' hb').congr (fun k hk => hb _ (by omega) (by omega))
  · rw [hn] at hb'
    unfold bq
    rw [hb _ (by omega) (by omega)]
    exact c b' hb' hb10 k hk
  · unfold SM
    rw [hn, hbs 6 (by decide), hbs 7 (by decide), hbs 8 (by decide), h25 2 (by decide) (by decide), h25 3 (by decide) (by decide), h25 4 (by decide) (by decide), h25 5 (by decide) (by decide)]
    exact ⟨s2, s3, s4, s5⟩
theorem sumI_upd {f g : Nat → Int32} {b : Nat} {x : Int32} (hb : g b = f b + x) (ho : ∀ i, i ≠ b → g i = f i) : ∀ n, b < n → sumI g n = sumI f n + x
  | 0, h => absurd h (Nat.not_lt_zero _)
  | n + 1, h => by
    rw [sumI, sumI]
    by_cases hbn : b = n
    · subst hbn
      rw [hb, sumI_congr b (fun i hi => ho i (by omega)), Int32.add_assoc]
    · rw [sumI_upd hb ho n (by omega), ho n (Ne.symm hbn), Int32.add_assoc, Int32.add_assoc, Int32.add_comm x]
/-- calls that touch one bond -/
theorem Rel.bond (h : Rel v z K) {b : Nat} (hbn : b < nB v) (hz : RZ v' z') (hb : ∀ k, 116 ≤ k → k < 427 → (k < 117 + b * 31 ∨ 117 + b * 31 + 31 ≤ k) → v' k = v k) (hq : Bq (bq v' b)) (hc : ∀ q, q < 8 → v' (q * 6 + 0) = nI (tN (v' (q * 6 + 0)))) (hs : sN (fun q => tN (v' (q * 6 + 0))) 8 ≤ 99999 * K') (hp : ∀ q, q < 8 → cN v' (q * 6 + 2) 100) (h4 : cN v' 114 9) (h3 : cN v' 113 100) (hr : RK z')
    {x6 x7 x8 : Int32} (e6 : v' (117 + b * 31 + 6) = v (117 + b * 31 + 6) + x6) (e7 : v' (117 + b * 31 + 7) = v (117 + b * 31 + 7) + x7) (e8 : v' (117 + b * 31 + 8) = v (117 + b * 31 + 8) + x8) (z2 : z' 2 = z 2 + x6) (z3 : z' 3 = z 3 + x7) (z4 : z' 4 = z 4 + (x6 - x7)) (z5 : z' 5 = z 5 + x8) : Rel v' z' K' := by
  obtain ⟨-, ⟨a, b9, c, -, -, -, -, -⟩, ⟨s2, s3, s4, s5⟩⟩ := h
  have hn10 : nB v ≤ 10 := a.2
  have h116 : v' 116 = v 116 := hb 116 (by decide) (by decide) (Or.inl (by omega))
  have hn : nB v' = nB v := by unfold nB; rw [h116]
  have hsum : ∀ (j : Nat) (x : Int32), j < 31 → v' (117 + b * 31 + j) = v (117 + b * 31 + j) + x → bsum v' (nB v) j = bsum v (nB v) j + x := fun j x hj e => by
    unfold bsum
    refine (sumI_congr (g := fun i => if i < 10 then v' (117 + i * 31 + j) else v (117 + i * 31 + j)) (nB v) (fun i hi => by rw [if_pos (by omega)])).trans (sumI_upd (b := b) (f := fun i => v (117 + i * 31 + j)) ?_ (fun i hi => ?_) (nB v) hbn)
    · rw [if_pos (by omega)]; exact e
    · by_cases h10 : i < 10
      · rw [if_pos h10]; exact hb _ (by omega) (by omega) (by omega)
      · rw [if_neg h10]
  refine ⟨hz, ⟨a.c h116, fun b' hb' => ?_, fun b' hb' hb10 k hk => ?_, hc, hs, hp, ⟨h4, h3⟩, hr⟩, ?_⟩
  · rw [hn] at hb'
    by_cases hbb : b' = b
    · subst hbb; exact hq
    · exact (b9 b' hb').congr (fun k hk => hb _ (by omega) (by omega) (by omega))
  · rw [hn] at hb'
    unfold bq
    rw [hb _ (by omega) (by omega) (by omega)]
    exact c b' hb' hb10 k hk
  · unfold SM
    rw [hn, hsum 6 x6 (by decide) e6, hsum 7 x7 (by decide) e7, hsum 8 x8 (by decide) e8, z2, z3, z4, z5, s2, s3, s4, s5]
    refine ⟨rfl, rfl, ?_, rfl⟩
    rw [Int32.sub_eq_add_neg, Int32.sub_eq_add_neg, Int32.sub_eq_add_neg, Int32.neg_add, Int32.add_assoc, Int32.add_assoc]
    congr 1
    rw [← Int32.add_assoc, Int32.add_comm (-bsum v (nB v) 7) x6, Int32.add_assoc, Int32.sub_eq_add_neg (-bsum v (nB v) 7) x7]
theorem tN_n {n : Nat} (h : n < 2 ^ 31) : tN (nI n) = n := tN_nI rfl h
theorem amt {x : Int32} (h1 : nI 1 ≤ x) (h2 : x ≤ nI 99999) : ∃ a, 1 ≤ a ∧ a ≤ 99999 ∧ x = nI a := by
  obtain ⟨j, hj, rfl⟩ := nI_of2 (M := nI 99999) (n := 99999) rfl (fun q => absurd (Int32.lt_of_le_of_lt h1 q) (by decide)) h2
  exact ⟨j, (nI_leI (by decide) (by omega)).mp h1, hj, rfl⟩
/-- cash, by natural numbers -/
theorem cash_of {c : Nat → Nat} {M : Nat} (h : ∀ q, q < 8 → v' (q * 6 + 0) = nI (c q)) (hs : sN c 8 ≤ M) (hM : M < 2 ^ 31) : (∀ q, q < 8 → v' (q * 6 + 0) = nI (tN (v' (q * 6 + 0)))) ∧ sN (fun q => tN (v' (q * 6 + 0))) 8 ≤ M := by
  have hl : ∀ q, q < 8 → tN (v' (q * 6 + 0)) = c q := fun q hq => tN_nI (h q hq) (by have := sN_le c 8 hq; omega)
  exact ⟨fun q hq => by rw [hl q hq]; exact h q hq, by rw [sN_congr (d := c) 8 (fun q hq => hl q hq)]; exact hs⟩
/-- cash so far -/
def cs (v : Nat → Int32) (q : Nat) : Nat := tN (v (q * 6 + 0))
theorem Rel.cash (h : Rel v z K) {q : Nat} (hq : q < 8) : v (q * 6 + 0) = nI (cs v q) := h.2.1.2.2.2.1 q hq
theorem Rel.csum (h : Rel v z K) : sN (cs v) 8 ≤ 99999 * K := h.2.1.2.2.2.2.1
theorem Rel.pct (h : Rel v z K) {q : Nat} (hq : q < 8) : cN v (q * 6 + 2) 100 := h.2.1.2.2.2.2.2.1 q hq
theorem Rel.s4 (h : Rel v z K) : cN v 114 9 := h.2.1.2.2.2.2.2.2.1.1
theorem Rel.s3 (h : Rel v z K) : cN v 113 100 := h.2.1.2.2.2.2.2.2.1.2
theorem Rel.rk (h : Rel v z K) : RK z := h.2.1.2.2.2.2.2.2.2
theorem RK.congr (h : RK z) (e : ∀ q, q < 8 → z' (17 + q) = z (17 + q)) : RK z' := by
  obtain ⟨ρ, hρ⟩ := h
  exact ⟨ρ, fun q hq => by rw [e q hq]; exact hρ q hq⟩
theorem keep_bring (h : Rel v z K) (hK : K ≤ 1000) {q a : Nat} (hq : q < 8) (ha : a ≤ 99999) : Rel (brV v q (nI a)) (ad1 (ad1 z (9 + q) (nI a)) 1 (nI a)) (K + 1) := by
  have hc : ∀ p, p < 8 → brV v q (nI a) (p * 6 + 0) = nI (updN (cs v) q (cs v q + a) p) := fun p hp => by
    unfold brV
    rw [pk_un (by omega)]
    by_cases hpq : p = q
    · subst hpq; rw [pk_us, updN_s, h.cash hp, nI_add]
    · rw [pk_un (by omega), updN_n hpq, h.cash hp]
  have hsum := sN_upd (cs v) (cs v q + a) 8 hq
  have hcs := h.csum
  obtain ⟨c1, c2⟩ := cash_of (M := 99999 * (K + 1)) hc (by omega) (by omega)
  have hk : ∀ k, (k % 6 ≠ 0 ∨ 48 ≤ k) → k ≠ 115 → brV v q (nI a) k = v k := fun k h1 h2 => by unfold brV; rw [pk_un h2, pk_un (by omega)]
  exact h.pers (rz_bring h.1 hq _) (fun k h1 h2 => hk k (by omega) (by omega)) c1 c2 (fun p hp => (h.pct hp).c (hk _ (by omega) (by omega))) (h.s4.c (hk _ (by omega) (by decide))) (h.s3.c (hk _ (by omega) (by decide))) (h.rk.congr (fun p hp => by rw [ad1_ne (by omega), ad1_ne (by omega)])) (fun j h1 h2 => by rw [ad1_ne (by omega), ad1_ne (by omega)])
theorem nI_neg {a b : Nat} (h : b ≤ a) : nI a + -nI b = nI (a - b) := by rw [sub_neg, pk_sub h]
theorem keep_take (h : Rel v z K) (hK : K ≤ 1000) {q a : Nat} (hq : q < 8) (ha : a ≤ cs v q) : Rel (brV v q (-nI a)) (sb1 (sb1 z (9 + q) (nI a)) 1 (nI a)) (K + 1) := by
  have hc : ∀ p, p < 8 → brV v q (-nI a) (p * 6 + 0) = nI (updN (cs v) q (cs v q - a) p) := fun p hp => by
    unfold brV
    rw [pk_un (by omega)]
    by_cases hpq : p = q
    · subst hpq; rw [pk_us, updN_s, h.cash hp, nI_neg ha]
    · rw [pk_un (by omega), updN_n hpq, h.cash hp]
  have hsum := sN_upd (cs v) (cs v q - a) 8 hq
  have hcs := h.csum
  obtain ⟨c1, c2⟩ := cash_of (M := 99999 * (K + 1)) hc (by omega) (by omega)
  have hk : ∀ k, (k % 6 ≠ 0 ∨ 48 ≤ k) → k ≠ 115 → brV v q (-nI a) k = v k := fun k h1 h2 => by unfold brV; rw [pk_un h2, pk_un (by omega)]
  exact h.pers (rz_take h.1 hq _) (fun k h1 h2 => hk k (by omega) (by omega)) c1 c2 (fun p hp => (h.pct hp).c (hk _ (by omega) (by omega))) (h.s4.c (hk _ (by omega) (by decide))) (h.s3.c (hk _ (by omega) (by decide))) (h.rk.congr (fun p hp => by rw [sb1_ne (by omega), sb1_ne (by omega)])) (fun j h1 h2 => by rw [sb1_ne (by omega), sb1_ne (by omega)])
theorem keep_repay (h : Rel v z K) (hK : K ≤ 1000) {q o a : Nat} (hq : q < 8) (ho : o < 8) (ha : a ≤ cs v q) : Rel (rpV v q o (nI a)) (sb1 (ad1 (sb1 z (9 + q) (nI a)) (9 + o) (nI a)) (57 + 8 * q + o) (nI a)) (K + 1) := by
  have hc1 : ∀ p, p < 8 → rpA v q (-nI a) (p * 6 + 0) = nI (updN (cs v) q (cs v q - a) p) := fun p hp => by
    unfold rpA
    by_cases hpq : p = q
    · subst hpq; rw [pk_us, updN_s, h.cash hp, nI_neg ha]
    · rw [pk_un (by omega), updN_n hpq, h.cash hp]
  have hc : ∀ p, p < 8 → rpV v q o (nI a) (p * 6 + 0) = nI (updN (updN (cs v) q (cs v q - a)) o (updN (cs v) q (cs v q - a) o + a) p) := fun p hp => by
    unfold rpV
    rw [pk_un (by omega)]
    by_cases hpo : p = o
    · subst hpo
      rw [updN_s]
      show upd (rpA v q (-nI a)) (p * 6 + 0) (rpA v q (-nI a) (p * 6 + 0) + nI a) (p * 6 + 0) = _
      rw [pk_us, hc1 p hp, nI_add]
    · rw [updN_n hpo]
      show upd (rpA v q (-nI a)) (o * 6 + 0) (rpA v q (-nI a) (o * 6 + 0) + nI a) (p * 6 + 0) = _
      rw [pk_un (by omega), hc1 p hp]
  have s1 := sN_upd (updN (cs v) q (cs v q - a)) (updN (cs v) q (cs v q - a) o + a) 8 ho
  have s2 := sN_upd (cs v) (cs v q - a) 8 hq
  have hcs := h.csum
  obtain ⟨c1, c2⟩ := cash_of (M := 99999 * (K + 1)) hc (by omega) (by omega)
  have hk : ∀ k, (k % 6 ≠ 0 ∨ 112 ≤ k) → (k < 48 ∨ 112 ≤ k) → rpV v q o (nI a) k = v k := fun k h1 h2 => by unfold rpV rpA; rw [pk_un (by omega), pk_un (by omega), pk_un (by omega)]
  exact h.pers (rz_repay h.1 hq ho _) (fun k h1 h2 => hk k (by omega) (by omega)) c1 c2 (fun p hp => (h.pct hp).c (hk _ (by omega) (by omega))) (h.s4.c (hk _ (by omega) (by omega))) (h.s3.c (hk _ (by omega) (by omega))) (h.rk.congr (fun p hp => by rw [sb1_ne (by omega), ad1_ne (by omega), sb1_ne (by omega)])) (fun j h1 h2 => by rw [sb1_ne (by omega), ad1_ne (by omega), sb1_ne (by omega)])
theorem keep_set (h : Rel v z K) {k a : Nat} (hk : k < 3) (h1 : k = 1 → a ≤ 100) (h2 : k = 2 → a ≤ 9) (ha : a ≤ 100) : Rel (upd v (112 + k) (nI a)) (upd z (6 + k) (nI a)) (K + 1) := by
  have hcs := h.csum
  refine h.pers (rz_set h.1 hk _) (fun j q1 q2 => pk_un (by omega)) (fun q hq => by rw [pk_un (by omega)]; exact h.cash hq) ?_ (fun q hq => (h.pct hq).c (pk_un (by omega))) ?_ ?_ (h.rk.congr (fun p hp => pk_un (by omega))) (fun j q1 q2 => pk_un (by omega))
  · rw [sN_congr (d := cs v) 8 (fun q hq => by rw [pk_un (by omega)]; rfl)]
    omega
  · by_cases hk2 : k = 2
    · subst hk2; exact cN.mk (n := a) pk_us (h2 rfl) (by decide)
    · exact h.s4.c (pk_un (by omega))
  · by_cases hk1 : k = 1
    · subst hk1; exact cN.mk (n := a) pk_us (h1 rfl) (by decide)
    · exact h.s3.c (pk_un (by omega))
theorem keep_guar (h : Rel v z K) {q : Nat} (hq : q < 8) (g : Int32) {a : Nat} (ha : a ≤ 100) (hr : RK (upd z (17 + q) g)) : Rel (guV v q g (nI a)) (gtZ z q g (nI a)) (K + 1) := by
  have hcs := h.csum
  have hk : ∀ k, (k % 6 ≠ 1 ∨ 48 ≤ k) → (k % 6 ≠ 2 ∨ 48 ≤ k) → guV v q g (nI a) k = v k := fun k h1 h2 => by unfold guV; rw [pk_un (by omega), pk_un (by omega)]
  refine h.pers (rz_guar h.1 hq g _) (fun j q1 q2 => hk j (by omega) (by omega)) (fun p hp => by rw [hk _ (by omega) (by omega)]; exact h.cash hp) ?_ (fun p hp => ?_) (h.s4.c (hk _ (by omega) (by omega))) (h.s3.c (hk _ (by omega) (by omega))) (hr.congr (fun p hp => by unfold gtZ; rw [pk_un (by omega)])) (fun j q1 q2 => by unfold gtZ; rw [pk_un (by omega), pk_un (by omega)])
  · rw [sN_congr (d := cs v) 8 (fun p hp => by rw [hk _ (by omega) (by omega)]; rfl)]
    omega
  · unfold guV
    by_cases hpq : p = q
    · subst hpq; exact cN.mk (n := a) pk_us ha (by decide)
    · exact (h.pct hp).c (by rw [pk_un (by omega), pk_un (by omega)])
end KEEP
