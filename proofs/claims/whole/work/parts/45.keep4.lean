/-! A BOND GIVEN: what it keeps -/
theorem abS_o {v : Nat → Int32} {N : Nat} {sh : Nat → Int32} {k : Nat} : ∀ i, (∀ j, j < i → k ≠ 117 + N * 31 + (10 + j)) → abS v N sh i k = v k
  | 0, _ => rfl
  | i + 1, h => by rw [abS, pk_un (h i (by omega)), abS_o i (fun j hj => h j (by omega))]
theorem abS_s {v : Nat → Int32} {N : Nat} {sh : Nat → Int32} {j : Nat} : ∀ i, j < i → abS v N sh i (117 + N * 31 + (10 + j)) = sh j
  | 0, h => absurd h (Nat.not_lt_zero _)
  | i + 1, h => by
    rw [abS]
    by_cases hji : j = i
    · subst hji; rw [pk_us]
    · rw [pk_un (by omega), abS_s i (by omega)]
theorem abL_o {v : Nat → Int32} {N : Nat} {su li : Nat → Int32} {k : Nat} : ∀ i, (∀ j, j < i → k ≠ 117 + N * 31 + 15 + j * 4 + 0 ∧ k ≠ 117 + N * 31 + 15 + j * 4 + 1 ∧ k ≠ 117 + N * 31 + 15 + j * 4 + 2) → abL v N su li i k = v k
  | 0, _ => rfl
  | i + 1, h => by rw [abL, pk_un (h i (by omega)).2.2, pk_un (h i (by omega)).2.1, pk_un (h i (by omega)).1, abL_o i (fun j hj => h j (by omega))]
theorem abL_s {v : Nat → Int32} {N : Nat} {su li : Nat → Int32} {j : Nat} : ∀ i, j < i → abL v N su li i (117 + N * 31 + 15 + j * 4 + 0) = su j ∧ abL v N su li i (117 + N * 31 + 15 + j * 4 + 2) = li j
  | 0, h => absurd h (Nat.not_lt_zero _)
  | i + 1, h => by
    rw [abL]
    by_cases hji : j = i
    · subst hji
      exact ⟨by rw [pk_un (by omega), pk_un (by omega), pk_us], pk_us⟩
    · rw [pk_un (by omega), pk_un (by omega), pk_un (by omega), pk_un (by omega), pk_un (by omega), pk_un (by omega)]
      exact abL_s i (by omega)
section ABV
variable {v t su li sh : Nat → Int32} {N K q : Nat}
theorem ab0_o {k : Nat} (h : ∀ j, (j < 5 ∨ j = 9) → k ≠ 117 + N * 31 + j) : ab0 v N t k = v k := by
  unfold ab0
  rw [pk_un (h 9 (Or.inr rfl)), pk_un (h 4 (by omega)), pk_un (h 3 (by omega)), pk_un (h 2 (by omega)), pk_un (h 1 (by omega)), pk_un (h 0 (by omega))]
theorem abV_o (hK : K ≤ 4) (hq : q ≤ 5) {k : Nat} (h6 : k ≠ 116) (h : k < 117 + N * 31 ∨ 117 + N * 31 + 31 ≤ k) : abV v N t su li sh K q k = v k := by
  unfold abV
  rw [pk_un h6, abL_o K (fun j hj => ⟨by omega, by omega, by omega⟩), abS_o q (fun j hj => by omega), ab0_o (fun j hj => by omega)]
theorem abV_lo (hK : K ≤ 4) (hq : q ≤ 5) {k : Nat} (hk : k < 10) : abV v N t su li sh K q (117 + N * 31 + k) = ab0 v N t (117 + N * 31 + k) := by
  unfold abV
  rw [pk_un (by omega), abL_o K (fun j hj => ⟨by omega, by omega, by omega⟩), abS_o q (fun j hj => by omega)]
theorem abV_m (hK : K ≤ 4) (hq : q ≤ 5) {j : Nat} (hj : j < 5) : abV v N t su li sh K q (117 + N * 31 + (10 + j)) = if j < q then sh j else v (117 + N * 31 + (10 + j)) := by
  unfold abV
  rw [pk_un (by omega), abL_o K (fun j hj => ⟨by omega, by omega, by omega⟩)]
  by_cases h : j < q
  · rw [if_pos h, abS_s q h]
  · rw [if_neg h, abS_o q (fun i hi => by omega), ab0_o (fun i hi => by omega)]
theorem abV_l {i : Nat} (hi : i < K) : abV v N t su li sh K q (117 + N * 31 + 15 + i * 4 + 0) = su i ∧ abV v N t su li sh K q (117 + N * 31 + 15 + i * 4 + 2) = li i := by
  unfold abV
  rw [pk_un (by omega), pk_un (by omega)]
  exact abL_s K hi
theorem gz4_o {z r : Nat → Int32} {p k : Nat} (hk : k < p) : ∀ i, gz4 z r p i k = z k
  | 0 => rfl
  | i + 1 => by rw [gz4, pk_un (by omega), pk_un (by omega), pk_un (by omega), gz4_o hk i]
theorem gvZ_o {z r : Nat → Int32} {k : Nat} (h0 : k ≠ 0) (hk : k < 121 + 31 * N) : gvZ z r N K q k = z k := by
  unfold gvZ
  rw [pk_un h0, gz4_o hk]
  unfold gz3
  rw [if_neg (by omega)]
  unfold gvA
  rw [pk_un (by omega)]
  unfold gz1
  rw [if_neg (by omega)]
  unfold gz0
  rw [if_neg (by omega)]
end ABV
theorem keep_give {v z r : Nat → Int32} {Kc K q : Nat} {τ : gS} (h : Rel v z Kc) (hT : TX τ r K q) (hN : nB v < 10) (hg : gdB r K q = true) : Rel (abV v (nB v) (τ.1 11) (τ.1 13) (τ.1 14) (τ.1 15) K q) (gvZ z r (nB v) K q) (Kc + 1) := by
  have hgood := hg
  rw [good_rel hT] at hgood
  obtain ⟨⟨⟨pr, hp8, hp, hrp⟩, ⟨S, hS1, hS5, hSt, hSr⟩, hlay, hmil⟩, ⟨w, hw1, hwt, hwr⟩, r3, r4, t10, t11, t5, hK1, hK4, hq1, hq5⟩ := hT
  obtain ⟨N, hNe⟩ : ∃ N, nB v = N := ⟨_, rfl⟩
  rw [hNe] at hN ⊢
  have hn := h.n
  rw [hNe] at hn
  have hz0 : ∀ k, k < 31 → v (117 + N * 31 + k) = nI 0 := fun k hk => h.2.1.2.2.1 N (by omega) hN k hk
  have hlim : ∃ l : Nat → Nat, ∀ i, i < K → τ.1 14 i = nI (l i) ∧ l i ≤ 99999 := ⟨fun i => tN (τ.1 14 i), fun i hi => by
    obtain ⟨l, hl1, hl2, e1, e2⟩ := (hlay i hi).2
    have e3 : tN (τ.1 14 i) = l := tN_nI e1 (by omega)
    exact ⟨show τ.1 14 i = nI (tN (τ.1 14 i)) by rw [e3]; exact e1, show tN (τ.1 14 i) ≤ 99999 by rw [e3]; exact hl2⟩⟩
  obtain ⟨l, hl⟩ := hlim
  have hsum : sN l K ≤ S := by
    have h1 : sumI (τ.1 14) K ≤ τ.1 11 8 := of_decide_eq_true (Bool.and_eq_true_iff.mp (Bool.and_eq_true_iff.mp hgood).2).1
    rw [sumI_nI (c := l) K (fun i hi => (hl i hi).1), hSt] at h1
    have h2 : sN l K ≤ 4 * 99999 := by
      have : ∀ n, n ≤ K → sN l n ≤ n * 99999 := by
        intro n
        induction n with
        | zero => intro _; exact Nat.zero_le _
        | succ n ih => intro hn; have := ih (by omega); have := (hl n (by omega)).2; rw [sN]; omega
      exact Nat.le_trans (this K (Nat.le_refl K)) (Nat.mul_le_mul_right _ hK4)
    exact (nI_leI (by omega) (by omega)).mp h1
  have hRZ : RZ (abV v N (τ.1 11) (τ.1 13) (τ.1 14) (τ.1 15) K q) (gvZ z r N K q) := by
    refine rz_give h.1 hN hK4 hq5 hz0 (hrp.trans hp.symm) (hSr.trans hSt.symm) (hwr.trans hwt.symm) (r3.trans t10.symm) (r4.trans t11.symm) (fun i hi => ⟨?_, ?_⟩) (fun j hj => ?_)
    · obtain ⟨y, -, e1, e2⟩ := (hlay i hi).1
      exact e2.trans e1.symm
    · obtain ⟨y, -, -, e1, e2⟩ := (hlay i hi).2
      exact e2.trans e1.symm
    · obtain ⟨y, -, -, e1, e2⟩ := hmil j hj
      exact e2.trans e1.symm
  obtain ⟨v', hv'⟩ : ∃ v', abV v N (τ.1 11) (τ.1 13) (τ.1 14) (τ.1 15) K q = v' := ⟨_, rfl⟩
  obtain ⟨z', hz'⟩ : ∃ z', gvZ z r N K q = z' := ⟨_, rfl⟩
  have ho : ∀ k, k ≠ 116 → (k < 117 + N * 31 ∨ 117 + N * 31 + 31 ≤ k) → v' k = v k := fun k q1 q2 => by rw [← hv']; exact abV_o hK4 hq5 q1 q2
  have hzo : ∀ k, k ≠ 0 → k < 121 + 31 * N → z' k = z k := fun k q1 q2 => by rw [← hz']; exact gvZ_o q1 q2
  have h116 : v' 116 = nI (N + 1) := by rw [← hv']; exact pk_us
  have hnB : nB v' = N + 1 := tN_nI h116 (by omega)
  have hlo : ∀ k, k < 10 → v' (117 + N * 31 + k) = ab0 v N (τ.1 11) (117 + N * 31 + k) := fun k hk => by rw [← hv']; exact abV_lo hK4 hq5 hk
  have e0 : v' (117 + N * 31 + 0) = nI pr := by rw [hlo 0 (by decide)]; unfold ab0; rw [pk_un (by omega), pk_un (by omega), pk_un (by omega), pk_un (by omega), pk_un (by omega), pk_us, hp]
  have e1 : v' (117 + N * 31 + 1) = nI S := by rw [hlo 1 (by decide)]; unfold ab0; rw [pk_un (by omega), pk_un (by omega), pk_un (by omega), pk_un (by omega), pk_us, hSt]
  have e3 : v' (117 + N * 31 + 3) = nI K := by rw [hlo 3 (by decide)]; unfold ab0; rw [pk_un (by omega), pk_un (by omega), pk_us, t10]
  have e4 : v' (117 + N * 31 + 4) = nI q := by rw [hlo 4 (by decide)]; unfold ab0; rw [pk_un (by omega), pk_us, t11]
  have e9 : v' (117 + N * 31 + 9) = nI 1 := by rw [hlo 9 (by decide)]; unfold ab0; rw [pk_us]
  have e58 : ∀ k, 5 ≤ k → k ≤ 8 → v' (117 + N * 31 + k) = nI 0 := fun k q1 q2 => by rw [hlo k (by omega), ab0_o (fun j hj => by omega), hz0 k (by omega)]
  have em : ∀ j, j < 5 → cN v' (117 + N * 31 + (10 + j)) 1000 := fun j hj => by
    have e := abV_m (v := v) (N := N) (t := τ.1 11) (su := τ.1 13) (li := τ.1 14) (sh := τ.1 15) hK4 hq5 hj
    rw [hv'] at e
    by_cases hjq : j < q
    · rw [if_pos hjq] at e
      obtain ⟨s, -, hs, e5, -⟩ := hmil j hjq
      exact cN.mk (e.trans e5) hs (by decide)
    · rw [if_neg hjq, hz0 (10 + j) (by omega)] at e
      exact cN.mk e (Nat.zero_le _) (by decide)
  have el : ∀ i, i < K → v' (117 + N * 31 + 15 + i * 4 + 0) = τ.1 13 i ∧ v' (117 + N * 31 + 15 + i * 4 + 2) = nI (l i) := fun i hi => by
    have e := abV_l (v := v) (N := N) (t := τ.1 11) (su := τ.1 13) (li := τ.1 14) (sh := τ.1 15) (K := K) (q := q) hi
    rw [hv', (hl i hi).1] at e
    exact e
  rw [hv', hz']
  rw [hv', hz'] at hRZ
  have hbs : ∀ j, 6 ≤ j → j ≤ 8 → bsum v' (N + 1) j = bsum v N j := fun j q1 q2 => by
    unfold bsum
    rw [sumI, e58 j (by omega) q2, add_nI0]
    exact sumI_congr N (fun b hb => ho _ (by omega) (by omega))
  have hpe : ∀ q, q < 8 → ∀ j, j < 6 → v' (q * 6 + j) = v (q * 6 + j) := fun q hq j hj => ho _ (by omega) (by omega)
  obtain ⟨kc1, kc2⟩ := h.kcash (v' := v') (fun q hq => hpe q hq 0 (by decide))
  have h' := h
  obtain ⟨-, ⟨a, b9, c, -, -, -, -, -⟩, ⟨s2, s3, s4, s5⟩⟩ := h'
  rw [hNe] at s2 s3 s4 s5
  refine ⟨hRZ, ⟨cN.mk h116 (by omega) (by decide), fun b hb => ?_, fun b hb hb10 k hk => ?_, kc1, kc2, fun p hp => (h.pct hp).c (hpe p hp 2 (by decide)), ⟨h.s4.c (ho _ (by decide) (by omega)), h.s3.c (ho _ (by decide) (by omega))⟩, h.rk.congr (fun p hp => hzo _ (by omega) (by omega))⟩, ?_⟩
  · rw [hnB] at hb
    by_cases hbN : b = N
    · subst hbN
      have t3 : tN (bq v' b 3) = K := tN_nI e3 (by omega)
      have t4 : tN (bq v' b 4) = q := tN_nI e4 (by omega)
      have t6 : tN (bq v' b 6) = 0 := tN_nI (e58 6 (by decide) (by decide)) (by decide)
      have t8 : tN (bq v' b 8) = 0 := tN_nI (e58 8 (by decide) (by decide)) (by decide)
      have t1 : tN (bq v' b 1) = S := tN_nI e1 (by omega)
      unfold Bq
      rw [t3, t4, t6, t8, t1]
      refine ⟨cN.mk (n := pr) e0 (by omega) (by decide), cN.mk (n := S) e1 hS5 (by decide), cN.mk (n := K) e3 hK4 (by decide), cN.mk (n := q) e4 hq5 (by decide), cN.mk (n := 0) (e58 5 (by decide) (by decide)) (Nat.zero_le _) (by omega), cN.mk (n := 0) (e58 6 (by decide) (by decide)) (Nat.zero_le _) (by decide), cN.mk (n := 0) (e58 7 (by decide) (by decide)) (Nat.zero_le _) (by decide), cN.mk (n := 0) (e58 8 (by decide) (by decide)) (Nat.zero_le _) (by decide), Nat.zero_le _, Or.inl e9, fun j hj => em j hj, fun i hi => ?_, ?_⟩
      · obtain ⟨y, hy, e5, -⟩ := (hlay i hi).1
        have g := el i hi
        rw [la_eq v' b i 0, la_eq v' b i 2] at g
        exact ⟨cN.mk (n := y) (g.1.trans e5) (by omega) (by decide), cN.mk (n := l i) g.2 (hl i hi).2 (by decide)⟩
      · rw [sN_congr (d := l) K (fun i hi => by have g := (el i hi).2; rw [la_eq v' b i 2] at g; exact tN_nI g (by have := (hl i hi).2; omega))]
        omega
    · exact (b9 b (by omega)).congr (fun k hk => ho _ (by omega) (by omega))
  · rw [hnB] at hb
    unfold bq
    rw [ho _ (by omega) (by omega)]
    exact c b (by omega) hb10 k hk
  · unfold SM
    rw [hnB, hbs 6 (by decide) (by decide), hbs 7 (by decide) (by decide), hbs 8 (by decide) (by decide), hzo 2 (by decide) (by omega), hzo 3 (by decide) (by omega), hzo 4 (by decide) (by omega), hzo 5 (by decide) (by omega)]
    exact ⟨s2, s3, s4, s5⟩
