/-! MAKING GOOD, LAYER BY LAYER: class and reference alike -/
theorem ad1_s (z : Nat → Int32) (k : Nat) (x : Int32) : ad1 z k x k = z k + x := pk_us
theorem sb1_s (z : Nat → Int32) (k : Nat) (x : Int32) : sb1 z k x k = z k - x := pk_us
theorem add_0 (x : Int32) : x + nI 0 = x := add_nI0 x
theorem sub_0 (x : Int32) : x - nI 0 = x := by
  show x - 0 = x
  exact Int32.sub_zero x
theorem upd_self (z : Nat → Int32) (k : Nat) : upd z k (z k) = z := by
  funext j
  by_cases h : j = k
  · subst h; exact pk_us
  · exact pk_un h
theorem ad1_0 (z : Nat → Int32) (k : Nat) : ad1 z k (nI 0) = z := by unfold ad1; rw [add_0, upd_self]
theorem sb1_0 (z : Nat → Int32) (k : Nat) : sb1 z k (nI 0) = z := by unfold sb1; rw [sub_0, upd_self]
theorem mgY_0 (z : Nat → Int32) (prn su y : Nat) : mgY z prn su y (nI 0) = z := by unfold mgY; rw [sb1_0, ad1_0, sb1_0, ad1_0, ad1_0]
theorem pct {o p : Nat} (ho : o ≤ 99999) (hp : p ≤ 100) : nI o * nI p / nI 100 = nI (o * p / 100) ∧ o * p / 100 ≤ o := by
  have h1 : o * p ≤ 99999 * 100 := Nat.mul_le_mul ho hp
  refine ⟨by rw [pk_mul, pk_div (by omega) (by decide) (by decide)], Nat.div_le_of_le_mul ?_⟩
  rw [Nat.mul_comm]
  exact Nat.mul_le_mul_right _ hp
theorem mgZ_0 {prn su : Nat} : ∀ (f : Nat) (z : Nat → Int32) (x : Int32), (∀ q, q < 8 → ∃ n, n < 2 ^ 31 ∧ z (9 + q) = nI n) → chOK z f x → mgZ prn su f z (nI 0) x = z
  | 0, _, _, _, _ => rfl
  | f + 1, z, x, hc, hx => by
    rw [mgZ]
    by_cases h : x = -1
    · rw [if_pos h]
    · rw [if_neg h]
      obtain ⟨y, hy, rfl, hch⟩ := hx.resolve_left h
      obtain ⟨n, hn, hzn⟩ := hc y hy
      have hq : mgQ z su y (nI 0) = nI 0 := by
        unfold mgQ
        split
        · rfl
        · rw [hzn, mn_nI hn (by decide), Nat.min_eq_right (Nat.zero_le _)]
      rw [nI_clamp (show y < 2 ^ 31 by omega), hq, mgY_0, show (nI 0 - nI 0 : Int32) = 0 from rfl, Int32.zero_mul, show (0 : Int32) / nI 100 = nI 0 from by decide]
      exact mgZ_0 f z _ hc hch
/-- what no making good touches -/
def Oth (prn k : Nat) : Prop := k < 9 ∨ (17 ≤ k ∧ k < 49) ∨ (57 ≤ k ∧ k < 121 ∧ ¬ (57 + 8 * prn ≤ k ∧ k < 65 + 8 * prn)) ∨ 121 ≤ k
/-- the reference's row over what the class has worked out -/
def CR (z0 zr : Nat → Int32) (prn : Nat) (ow mg : Nat → Int32) (c : Nat → Nat) (z : Nat → Int32) : Prop :=
  (∀ q, q < 8 → z (9 + q) = nI (c q)) ∧ (∀ q, q < 8 → z (57 + 8 * prn + q) = z0 (57 + 8 * prn + q) + ow q) ∧ (∀ q, q < 8 → z (49 + q) = z0 (49 + q) + mg q) ∧ ∀ k, Oth prn k → z k = zr k
theorem add_r (a b c : Int32) : a + b + c = a + (b + c) := Int32.add_assoc a b c
theorem sub_r (a b c : Int32) : a + b - c = a + (b - c) := by rw [Int32.sub_eq_add_neg, Int32.sub_eq_add_neg, Int32.add_assoc]
/-- one who makes good: row, cash, debts, made good -/
theorem mgY_rel {z0 zr : Nat → Int32} {prn su y p : Nat} (hp : prn < 8) (hs : su < 8) (hy : y < 8) {ow mg : Nat → Int32} {c : Nat → Nat} {z : Nat → Int32} (hpc : p ≤ c y) (h : CR z0 zr prn ow mg c z) (ca : Nat → Int32) (hca : ∀ q, q < 8 → ca q = nI (c q)) :
    (∀ q, q < 8 → (mgS ca ow mg su y (nI p)).1 q = nI (updN (updN c y (c y - p)) su (updN c y (c y - p) su + p) q)) ∧ CR z0 zr prn (mgS ca ow mg su y (nI p)).2.1 (mgS ca ow mg su y (nI p)).2.2 (updN (updN c y (c y - p)) su (updN c y (c y - p) su + p)) (mgY z prn su y (nI p)) := by
  obtain ⟨h1, h2, h3, h4⟩ := h
  have hc1 : ∀ q, q < 8 → upd ca y (ca y - nI p) q = nI (updN c y (c y - p) q) := fun q hq => by
    by_cases hqy : q = y
    · subst hqy; rw [pk_us, updN_s, hca q hq, pk_sub hpc]
    · rw [pk_un hqy, updN_n hqy, hca q hq]
  have hc2 : ∀ q, q < 8 → (mgS ca ow mg su y (nI p)).1 q = nI (updN (updN c y (c y - p)) su (updN c y (c y - p) su + p) q) := fun q hq => by
    show upd (upd ca y (ca y - nI p)) su (upd ca y (ca y - nI p) su + nI p) q = _
    by_cases hqs : q = su
    · subst hqs; rw [pk_us, updN_s, hc1 q hq, nI_add]
    · rw [pk_un hqs, updN_n hqs, hc1 q hq]
  refine ⟨hc2, fun q hq => ?_, fun q hq => ?_, fun q hq => ?_, fun k hk => ?_⟩
  · unfold mgY
    rw [ad1_ne (by omega), ad1_ne (by omega), sb1_ne (by omega)]
    have hz1 : ∀ q, q < 8 → sb1 z (9 + y) (nI p) (9 + q) = nI (updN c y (c y - p) q) := fun q hq => by
      by_cases hqy : q = y
      · subst hqy; rw [sb1_s, updN_s, h1 q hq, pk_sub hpc]
      · rw [sb1_ne (by omega), updN_n hqy, h1 q hq]
    by_cases hqs : q = su
    · subst hqs; rw [ad1_s, updN_s, hz1 q hq, nI_add]
    · rw [ad1_ne (by omega), updN_n hqs, hz1 q hq]
  · show _ = z0 _ + upd (upd ow su (ow su - nI p)) y (upd ow su (ow su - nI p) y + nI p) q
    unfold mgY
    rw [ad1_ne (by omega)]
    have hz1 : ∀ q, q < 8 → sb1 (ad1 (sb1 z (9 + y) (nI p)) (9 + su) (nI p)) (57 + 8 * prn + su) (nI p) (57 + 8 * prn + q) = z0 (57 + 8 * prn + q) + upd ow su (ow su - nI p) q := fun q hq => by
      by_cases hqs : q = su
      · subst hqs; rw [sb1_s, pk_us, ad1_ne (by omega), sb1_ne (by omega), h2 q hq, sub_r]
      · rw [sb1_ne (by omega), pk_un hqs, ad1_ne (by omega), sb1_ne (by omega), h2 q hq]
    by_cases hqy : q = y
    · subst hqy; rw [ad1_s, pk_us, hz1 q hq, add_r]
    · rw [ad1_ne (by omega), pk_un hqy, hz1 q hq]
  · show _ = z0 _ + upd mg y (mg y + nI p) q
    unfold mgY
    have hz1 : ad1 (sb1 (ad1 (sb1 z (9 + y) (nI p)) (9 + su) (nI p)) (57 + 8 * prn + su) (nI p)) (57 + 8 * prn + y) (nI p) (49 + q) = z0 (49 + q) + mg q := by
      rw [ad1_ne (by omega), sb1_ne (by omega), ad1_ne (by omega), sb1_ne (by omega), h3 q hq]
    by_cases hqy : q = y
    · subst hqy; rw [ad1_s, pk_us, hz1, add_r]
    · rw [ad1_ne (by omega), pk_un hqy, hz1]
  · rw [← h4 k hk]
    unfold Oth at hk
    unfold mgY
    rw [ad1_ne (by omega), ad1_ne (by omega), sb1_ne (by omega), ad1_ne (by omega), sb1_ne (by omega)]
theorem m1_ne {y : Nat} (h : y < 8) : ¬ nI y = -1 := nI_m1 (by omega)
theorem isP_m1 : isPb (-1) = false := by decide
/-- the chain makes good: both alike -/
theorem mg_rel {v z0 zr : Nat → Int32} {prn su T : Nat} (hp : prn < 8) (hs : su < 8) (hT : T < 2 ^ 30) (hby : ∀ q, q < 8 → zr (17 + q) = v (q * 6 + 1)) (hpc : ∀ q, q < 8 → zr (25 + q) = v (q * 6 + 2)) (hpn : ∀ q, q < 8 → cN v (q * 6 + 2) 100) :
    ∀ (f a o : Nat) (ca ow mg : Nat → Int32) (c : Nat → Nat) (z : Nat → Int32), a < 8 → o ≤ 99999 → (∀ q, q < 8 → ca q = nI (c q)) → sN c 8 ≤ T → CR z0 zr prn ow mg c z → chOK z f (z (17 + a)) →
      ∃ c' : Nat → Nat, (∀ q, q < 8 → (mgI v su f a (nI o) (ca, ow, mg)).1 q = nI (c' q)) ∧ sN c' 8 = sN c 8 ∧ CR z0 zr prn (mgI v su f a (nI o) (ca, ow, mg)).2.1 (mgI v su f a (nI o) (ca, ow, mg)).2.2 c' (mgZ prn su f z (nI o * z (25 + a) / nI 100) (z (17 + a)))
  | 0, a, o, ca, ow, mg, c, z, _, _, hca, _, h, _ => ⟨c, hca, rfl, h⟩
  | f + 1, a, o, ca, ow, mg, c, z, ha, ho, hca, hcT, h, hch => by
    have hz17 : ∀ q, q < 8 → z (17 + q) = v (q * 6 + 1) := fun q hq => (h.2.2.2 _ (Or.inr (Or.inl ⟨by omega, by omega⟩))).trans (hby q hq)
    have hz25 : ∀ q, q < 8 → z (25 + q) = v (q * 6 + 2) := fun q hq => (h.2.2.2 _ (Or.inr (Or.inl ⟨by omega, by omega⟩))).trans (hpc q hq)
    have hcl : ∀ q, q < 8 → c q ≤ T := fun q hq => Nat.le_trans (sN_le c 8 hq) hcT
    by_cases ho0 : o = 0
    · subst ho0
      rw [mgI, if_pos (by decide), show nI 0 * z (25 + a) / nI 100 = nI 0 from by rw [show (nI 0 : Int32) = 0 from rfl, Int32.zero_mul]; decide]
      rw [mgZ_0 (f + 1) z _ (fun q hq => ⟨c q, by have := hcl q hq; omega, h.1 q hq⟩) hch]
      exact ⟨c, hca, rfl, h⟩
    · have hop : ¬ nI o ≤ 0 := nI_nle (by omega) (by omega)
      rcases hch with hx | ⟨y, hy, hxy, hch⟩
      · have hv : v (a * 6 + 1) = -1 := by rw [← hz17 a ha]; exact hx
        rw [mgI, if_neg hop, hv, isP_m1, if_neg (by decide), mgZ, if_pos hx]
        exact ⟨c, hca, rfl, h⟩
      · have hv : v (a * 6 + 1) = nI y := by rw [← hz17 a ha]; exact hxy
        obtain ⟨hpv, hp100⟩ := hpn a ha
        obtain ⟨hs1, hs2⟩ := pct ho hp100
        obtain ⟨s, hs9⟩ : ∃ s, o * tN (v (a * 6 + 2)) / 100 = s := ⟨_, rfl⟩
        rw [← hpv] at hs1
        rw [hs9] at hs1 hs2
        have hty : tN (nI y) = y := tN_nI rfl (by omega)
        have hcy := hcl y hy
        obtain ⟨p, hpd⟩ : ∃ p, (if y = su then 0 else min s (c y)) = p := ⟨_, rfl⟩
        have hps : p ≤ s ∧ p ≤ c y := by
          rw [← hpd]
          split <;> omega
        have hysu : (nI y = nI su) ↔ y = su := nI_eq (by omega) (by omega)
        have hP : mgP ca su y (nI s) = nI p := by
          unfold mgP
          rw [hca y hy, mn_nI (by omega) (by omega), ← hpd]
          by_cases e : y = su
          · rw [if_pos (hysu.mpr e), if_pos e]
          · rw [if_neg (fun q => e (hysu.mp q)), if_neg e]
        have hQ : mgQ z su y (nI s) = nI p := by
          unfold mgQ
          rw [h.1 y hy, mn_nI (by omega) (by omega), ← hpd, Nat.min_comm]
          by_cases e : y = su
          · rw [if_pos (hysu.mpr e), if_pos e]
          · rw [if_neg (fun q => e (hysu.mp q)), if_neg e]
        obtain ⟨hc', hCR⟩ := mgY_rel hp hs hy hps.2 h ca hca
        have hsum : sN (updN (updN c y (c y - p)) su (updN c y (c y - p) su + p)) 8 = sN c 8 := by
          have e1 := sN_upd (updN c y (c y - p)) (updN c y (c y - p) su + p) 8 hs
          have e2 := sN_upd c (c y - p) 8 hy
          omega
        have hbyy := mgY_by z (nI p) hp hs hy
        obtain ⟨c2, g1, g2, g3⟩ := mg_rel hp hs hT hby hpc hpn f y (s - p) (mgS ca ow mg su y (nI p)).1 (mgS ca ow mg su y (nI p)).2.1 (mgS ca ow mg su y (nI p)).2.2 _ (mgY z prn su y (nI p)) hy (by omega) hc' (by rw [hsum]; exact hcT) hCR (by rw [hbyy y hy]; exact chOK_c hbyy _ _ hch)
        have eC : mgI v su (f + 1) a (nI o) (ca, ow, mg) = mgI v su f y (nI (s - p)) ((mgS ca ow mg su y (nI p)).1, (mgS ca ow mg su y (nI p)).2.1, (mgS ca ow mg su y (nI p)).2.2) := by
          rw [mgI, if_neg hop, hv, isP_of hy, if_pos rfl, hty, hs1]
          dsimp only
          rw [hP, pk_sub hps.1]
        have eM : mgZ prn su (f + 1) z (nI o * z (25 + a) / nI 100) (z (17 + a)) = mgZ prn su f (mgY z prn su y (nI p)) (nI (s - p) * mgY z prn su y (nI p) (25 + y) / nI 100) (mgY z prn su y (nI p) (17 + y)) := by
          rw [mgZ, hxy, if_neg (m1_ne hy), nI_clamp (show y < 2 ^ 31 by omega), hz25 a ha, hs1, hQ, pk_sub hps.1]
        rw [eC, eM]
        exact ⟨c2, g1, g2.trans hsum, g3⟩
