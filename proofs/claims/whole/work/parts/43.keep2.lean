/-! WHAT THE BONDS' CALLS KEEP -/
theorem Bq.upd {w w' : Nat → Int32} (h : Bq w) {r5 c6 c7 c8 : Nat} {e : Nat → Nat} (e0 : w' 0 = w 0) (e1 : w' 1 = w 1) (e3 : w' 3 = w 3) (e4 : w' 4 = w 4) (h5 : w' 5 = nI r5) (hr5 : r5 ≤ tN (w 4)) (h6 : w' 6 = nI c6) (h7 : w' 7 = nI c7) (h76 : c7 ≤ c6) (h8 : w' 8 = nI c8) (hs : c6 + c8 ≤ tN (w 1))
    (h9 : w' 9 = nI 1 ∨ (w' 9 = nI 0 ∧ c6 + c8 = tN (w 1))) (hm : ∀ j, j < 5 → w' (10 + j) = w (10 + j)) (hl : ∀ i, i < tN (w 3) → w' (15 + i * 4 + 0) = w (15 + i * 4 + 0) ∧ w' (15 + i * 4 + 2) = nI (e i)) (he : sN e (tN (w 3)) ≤ tN (w 1) - c6 - c8) : Bq w' := by
  obtain ⟨a0, a1, a3, a4, a5, a6, a7, a8, as, a9, am, al, aL⟩ := h
  have h1 := a1.2
  have h4 := a4.2
  have h3 := a3.2
  have t6 : tN (w' 6) = c6 := tN_nI h6 (by omega)
  have t8 : tN (w' 8) = c8 := tN_nI h8 (by omega)
  have hel : ∀ i, i < tN (w 3) → tN (w' (15 + i * 4 + 2)) = e i := fun i hi => tN_nI (hl i hi).2 (by have := sN_le e (tN (w 3)) hi; omega)
  unfold Bq
  rw [t6, t8, e1, e3, e4]
  refine ⟨a0.c e0, a1.c e1, a3.c e3, a4.c e4, cN.mk h5 hr5 (by omega), cN.mk h6 (by omega) (by decide), cN.mk h7 h76 (by omega), cN.mk h8 (by omega) (by decide), hs, h9, fun j hj => (am j hj).c (hm j hj), fun i hi => ⟨(al i hi).1.c (hl i hi).1, cN.mk (hl i hi).2 (by have := sN_le e (tN (w 3)) hi; omega) (by decide)⟩, ?_⟩
  rw [sN_congr (d := e) (tN (w 3)) (fun i hi => hel i hi)]
  exact he
theorem sub_add' (a c x : Int32) : a - (c + x) = a - c - x := by
  rw [Int32.sub_eq_add_neg, Int32.sub_eq_add_neg, Int32.sub_eq_add_neg, Int32.neg_add, Int32.sub_eq_add_neg (-c) x, Int32.add_assoc]
/-- what a release does -/
theorem rel_eff {v1 z1 : Nat → Int32} (hz : RZ v1 z1) {b L lf x : Nat} {l : Nat → Nat} (hb : b < 10) (hL4 : L ≤ 4) (hl : ∀ i, i < L → v1 (117 + b * 31 + 15 + i * 4 + 2) = nI (l i)) (hlA : sN l L ≤ 99999) (hlf : leftOf v1 b = nI lf) (hlf5 : lf ≤ 99999) (hx : x ≤ lf) :
    (∃ e : Nat → Nat, (∀ i, i < L → rlV v1 b L (nI x) (117 + b * 31 + 15 + i * 4 + 2) = nI (e i)) ∧ sN e L = min (sN l L) (lf - x)) ∧ rlV v1 b L (nI x) (117 + b * 31 + 8) = v1 (117 + b * 31 + 8) + nI x ∧
    (∀ k, k ≠ 117 + b * 31 + 8 → (∀ j, j < 4 → k ≠ 117 + b * 31 + 15 + j * 4 + 2) → rlV v1 b L (nI x) k = v1 k) ∧ rlZ z1 b L (nI x) 5 = z1 5 + nI x ∧ (∀ k, k ≠ 5 → k < 121 → rlZ z1 b L (nI x) k = z1 k) := by
  have hr := rz_rel hz hb hL4 (nI x)
  refine ⟨?_, ?_, fun k h1 h2 => ?_, ?_, fun k h1 h2 => ?_⟩
  · have h2 : RZ (upd v1 (117 + b * 31 + 8) (v1 (117 + b * 31 + 8) + nI x)) (ad1 (ad1 z1 (121 + 31 * b + 8) (nI x)) 5 (nI x)) := (hz.ad (k := 117 + b * 31 + 8) (nI x) (by omega) (mx_b hb (by decide))).od (nI x) (by decide) (by decide)
    have hle : lfZ (ad1 (ad1 z1 (121 + 31 * b + 8) (nI x)) 5 (nI x)) b = nI (lf - x) := by
      rw [h2.left hb]
      unfold leftOf at hlf ⊢
      rw [pk_un (by omega), pk_un (by omega), pk_us, sub_add', hlf, pk_sub hx]
    obtain ⟨e, g1, g2⟩ := trZ_nat (z := ad1 (ad1 z1 (121 + 31 * b + 8) (nI x)) 5 (nI x)) (b := b) (L := L) (lf := lf - x) (e := l) hL4 (fun i hi => by rw [ad1_ne (by omega), ad1_ne (by omega), hz.l hb (by omega) (by decide)]; exact hl i hi) (by omega) hle (by omega)
    refine ⟨e, fun i hi => ?_, g2⟩
    rw [← hr.l hb (by omega) (by decide)]
    exact (g1 i hi).1
  · unfold rlV trimOf
    rw [trimI_at (fun j hj => by omega) L _ _ hL4, pk_us]
  · unfold rlV trimOf
    rw [trimI_at h2 L _ _ hL4, pk_un h1]
  · unfold rlZ
    rw [trZ_k (fun j hj => by omega) hL4, ad1_s, ad1_ne (by omega)]
  · unfold rlZ
    rw [trZ_k (fun j hj => by omega) hL4, ad1_ne h1, ad1_ne (by omega)]
section KEEP2
variable {v z : Nat → Int32} {K : Nat}
theorem Rel.lim (h : Rel v z K) {b : Nat} (hb : b < nB v) : (∀ i, i < lB v b → v (117 + b * 31 + 15 + i * 4 + 2) = nI (eB' v b i)) ∧ sN (eB' v b) (lB v b) ≤ fB v b := by
  obtain ⟨h0, h1, h3, h4, h5, h6, h7, h8, hs, h9, hm, hl, hL⟩ := h.bd hb
  refine ⟨fun i hi => by unfold eB'; rw [la_eq v b i 2]; exact (hl i hi).2.1, ?_⟩
  rw [sN_congr (d := fun i => tN (bq v b (15 + i * 4 + 2))) (lB v b) (fun i hi => by unfold eB'; rw [la_eq v b i 2])]
  exact hL
theorem Rel.kcash (h : Rel v z K) {v' : Nat → Int32} (e : ∀ q, q < 8 → v' (q * 6 + 0) = v (q * 6 + 0)) : (∀ q, q < 8 → v' (q * 6 + 0) = nI (tN (v' (q * 6 + 0)))) ∧ sN (fun q => tN (v' (q * 6 + 0))) 8 ≤ 99999 * (K + 1) := by
  have hcs := h.csum
  refine ⟨fun q hq => by rw [e q hq]; exact h.cash hq, ?_⟩
  rw [sN_congr (d := cs v) 8 (fun q hq => by rw [e q hq]; rfl)]
  omega
/-- cells of a bond, told by its own numbers -/
theorem Rel.c6 (h : Rel v z K) {b : Nat} (hb : b < nB v) : v (117 + b * 31 + 6) = nI (tN (v (117 + b * 31 + 6))) := (h.bd hb).2.2.2.2.2.1.1
theorem Rel.c7 (h : Rel v z K) {b : Nat} (hb : b < nB v) : v (117 + b * 31 + 7) = nI (tN (v (117 + b * 31 + 7))) := (h.bd hb).2.2.2.2.2.2.1.1
theorem Rel.c8 (h : Rel v z K) {b : Nat} (hb : b < nB v) : v (117 + b * 31 + 8) = nI (tN (v (117 + b * 31 + 8))) := (h.bd hb).2.2.2.2.2.2.2.1.1
theorem Rel.c76 (h : Rel v z K) {b : Nat} (hb : b < nB v) : tN (v (117 + b * 31 + 7)) ≤ tN (v (117 + b * 31 + 6)) := (h.bd hb).2.2.2.2.2.2.1.2
theorem Rel.c68 (h : Rel v z K) {b : Nat} (hb : b < nB v) : tN (v (117 + b * 31 + 6)) + tN (v (117 + b * 31 + 8)) ≤ tN (v (117 + b * 31 + 1)) := (h.bd hb).2.2.2.2.2.2.2.2.1
theorem Rel.c5 (h : Rel v z K) {b : Nat} (hb : b < nB v) : v (117 + b * 31 + 5) = nI (tN (v (117 + b * 31 + 5))) ∧ tN (v (117 + b * 31 + 5)) ≤ tN (v (117 + b * 31 + 4)) := (h.bd hb).2.2.2.2.1
theorem Rel.c4 (h : Rel v z K) {b : Nat} (hb : b < nB v) : v (117 + b * 31 + 4) = nI (tN (v (117 + b * 31 + 4))) ∧ tN (v (117 + b * 31 + 4)) ≤ 5 := (h.bd hb).2.2.2.1
theorem Rel.c1 (h : Rel v z K) {b : Nat} (hb : b < nB v) : v (117 + b * 31 + 1) = nI (tN (v (117 + b * 31 + 1))) ∧ tN (v (117 + b * 31 + 1)) ≤ 99999 := (h.bd hb).2.1
theorem Rel.cm (h : Rel v z K) {b j : Nat} (hb : b < nB v) (hj : j < 5) : v (117 + b * 31 + (10 + j)) = nI (tN (v (117 + b * 31 + (10 + j)))) ∧ tN (v (117 + b * 31 + (10 + j))) ≤ 1000 := (h.bd hb).2.2.2.2.2.2.2.2.2.2.1 j hj
theorem reR_nat (h : Rel v z K) {b k : Nat} (hb : b < nB v) (hk : k < 5) : ∃ x, x ≤ fB v b ∧ reR v b k = nI x := by
  obtain ⟨h1, h1'⟩ := h.c1 hb
  obtain ⟨hm, hm'⟩ := h.cm hb hk
  obtain ⟨hl, hl'⟩ := h.left hb
  have hp : tN (v (117 + b * 31 + 1)) * tN (v (117 + b * 31 + (10 + k))) ≤ 99999 * 1000 := Nat.mul_le_mul h1' hm'
  have hd : tN (v (117 + b * 31 + 1)) * tN (v (117 + b * 31 + (10 + k))) / 1000 ≤ tN (v (117 + b * 31 + 1)) * tN (v (117 + b * 31 + (10 + k))) := Nat.div_le_self _ _
  refine ⟨min (tN (v (117 + b * 31 + 1)) * tN (v (117 + b * 31 + (10 + k))) / 1000) (fB v b), by omega, ?_⟩
  unfold reR
  have e : v (117 + b * 31 + 1) * v (117 + b * 31 + (10 + k)) = nI (tN (v (117 + b * 31 + 1)) * tN (v (117 + b * 31 + (10 + k)))) := by rw [← pk_mul, ← h1, ← hm]
  rw [e, hl, pk_div (by omega) (by decide) (by decide), mn_nI (by omega) (by omega)]
end KEEP2
