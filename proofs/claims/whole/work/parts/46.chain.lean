/-! CHAINS, AND WHAT A PERSON CAN SPARE -/
theorem inZ_or {z : Nat → Int32} {s : Int32} : ∀ (f : Nat) (x : Int32) (is : Bool), inZ z s f x is = (is || inZ z s f x false)
  | 0, _, is => by rw [inZ, inZ, Bool.or_false]
  | f + 1, x, is => by
    rw [inZ, inZ]
    by_cases h : x = -1
    · rw [if_pos h, if_pos h, Bool.or_false]
    · rw [if_neg h, if_neg h, inZ_or f _ (is || decide (x = s)), inZ_or f _ (false || decide (x = s)), Bool.false_or, Bool.or_assoc]
theorem inZ_n {z : Nat → Int32} {s : Int32} {y : Nat} (hy : y < 8) (f : Nat) (is : Bool) : inZ z s (f + 1) (nI y) is = inZ z s f (z (17 + y)) (is || decide (nI y = s)) := by
  rw [inZ, if_neg (nI_m1 (by omega)), nI_clamp (by omega)]
theorem inZ_e {z : Nat → Int32} {s : Int32} (f : Nat) (is : Bool) : inZ z s f (-1) is = is := by
  cases f with
  | zero => rfl
  | succ f => rw [inZ, if_pos rfl]
theorem inZ_fuel {z : Nat → Int32} {s : Int32} : ∀ (f : Nat) (x : Int32), chOK z f x → inZ z s (f + 1) x false = inZ z s f x false
  | 0, x, h => by
    have h1 : x = -1 := h
    rw [h1, inZ_e, inZ_e]
  | f + 1, x, h => by
    rcases h with h1 | ⟨y, hy, rfl, h2⟩
    · rw [h1, inZ_e, inZ_e]
    · rw [inZ_n hy, inZ_n hy, inZ_or (f + 1), inZ_or f, inZ_fuel f _ h2]
theorem isPb_nI {y : Nat} (hy : y < 8) : isPb (nI y) = true := isPb_t (nI_pos (by omega)) (nI_lt hy (by decide))
theorem hold_rel {v z : Nat → Int32} {s : Int32} (hv : ∀ y, y < 8 → z (17 + y) = v (y * 6 + 1)) : ∀ (f : Nat) (x : Int32), chOK z f x → inZ z s f x false = holdsI v s f x
  | 0, _, _ => rfl
  | f + 1, x, h => by
    rcases h with rfl | ⟨y, hy, rfl, h2⟩
    · rw [inZ, if_pos rfl, holdsI, if_neg (by decide)]
    · rw [inZ, if_neg (nI_m1 (by omega)), inZ_or, nI_clamp (by omega), hold_rel hv f _ h2, holdsI, if_pos (isPb_nI hy), nxt_nI v hy, hv y hy, Bool.false_or]
      by_cases hs : nI y = s
      · rw [if_pos hs, decide_eq_true hs]; rfl
      · rw [if_neg hs, decide_eq_false hs]; rfl
theorem chain_rel {v z : Nat → Int32} (hv : ∀ y, y < 8 → z (17 + y) = v (y * 6 + 1)) : ∀ (f : Nat) (x : Int32), chOK z f x → chN z f x = chainI v f x
  | 0, _, _ => rfl
  | f + 1, x, h => by
    rcases h with rfl | ⟨y, hy, rfl, h2⟩
    · rw [chN, if_pos rfl, chainI, if_neg (by decide)]
    · rw [chN, if_neg (nI_m1 (by omega)), nI_clamp (by omega), chain_rel hv f _ h2, chainI, if_pos (isPb_nI hy), nxt_nI v hy, hv y hy]
theorem RK.ch7 {z : Nat → Int32} (h : RK z) {q : Nat} (hq : q < 8) : chOK z 7 (z (17 + q)) := by
  obtain ⟨r, hr⟩ := h.rank
  exact rank_ch (fun q hq => (hr q hq).2) 7 q hq (by have := (hr q hq).1; omega)
theorem RK.chg {z : Nat → Int32} (h : RK z) {g : Nat} (hg : g < 8) : chOK z 8 (nI g) := Or.inr ⟨g, hg, rfl, h.ch7 hg⟩
theorem RK.none {z : Nat → Int32} (h : RK z) {q : Nat} : RK (upd z (17 + q) (-1)) := by
  obtain ⟨ρ, hρ⟩ := h
  refine ⟨ρ, fun p hp => ?_⟩
  by_cases hpq : p = q
  · subst hpq; exact Or.inl pk_us
  · rw [pk_un (by omega)]; exact hρ p hp
theorem RK.bind {z : Nat → Int32} (h : RK z) {q g : Nat} (hq : q < 8) (hg : g < 8) (hin : inZ z (nI q) 8 (nI g) false = false) : RK (upd z (17 + q) (nI g)) := by
  have h' := h
  obtain ⟨ρ, hρ⟩ := h
  have step : ∀ p, p < 8 → p ≠ q → ∀ y, y < 8 → z (17 + p) = nI y → inZ z (nI q) 8 (nI p) false = inZ z (nI q) 8 (nI y) false := by
    intro p hp hpq y hy e
    have hc : chOK z 7 (nI y) := e ▸ h'.ch7 hp
    rw [show inZ z (nI q) 8 (nI y) false = inZ z (nI q) 7 (nI y) false from inZ_fuel 7 _ hc, inZ, if_neg (nI_m1 (by omega)), nI_clamp (by omega), e, decide_eq_false (fun w => hpq ?_), Bool.false_or]
    have := congrArg tN w
    rwa [tN_n (by omega), tN_n (by omega)] at this
  have hself : inZ z (nI q) 8 (nI q) false = true := by
    rw [inZ, if_neg (nI_m1 (by omega)), inZ_or, decide_eq_true rfl]; rfl
  refine ⟨fun p => if inZ z (nI q) 8 (nI p) false = true then ρ p + (ρ g + 1) else ρ p, fun p hp => ?_⟩
  dsimp only
  by_cases hpq : p = q
  · subst hpq
    refine Or.inr ⟨g, hg, pk_us, ?_⟩
    rw [if_pos hself, hin, if_neg (by decide)]
    omega
  · rw [pk_un (by omega)]
    rcases hρ p hp with h1 | ⟨y, hy, e, hr⟩
    · exact Or.inl h1
    · refine Or.inr ⟨y, hy, e, ?_⟩
      rw [step p hp hpq y hy e]
      by_cases hb : inZ z (nI q) 8 (nI y) false = true
      · rw [if_pos hb, if_pos hb]; omega
      · rw [if_neg hb, if_neg hb]; exact hr
section SPARE
variable {v z : Nat → Int32} {K : Nat}
theorem Rel.nx (h : Rel v z K) : ∀ y, y < 8 → z (17 + y) = v (y * 6 + 1) := fun _ hy => h.1.p1 hy
theorem Rel.hold (h : Rel v z K) {q g : Nat} (hg : g < 8) : inZ z (nI q) 8 (nI g) false = holdsI v (nI q) 8 (nI g) := hold_rel h.nx 8 _ (h.rk.chg hg)
theorem Rel.chain (h : Rel v z K) {q : Nat} (hq : q < 8) : chN z 8 (z (17 + q)) = chainI v 8 (v (q * 6 + 1)) := by rw [chain_rel h.nx 8 _ (h.ch hq), h.nx q hq]
/-- what is bound of a person, in natural numbers -/
theorem Rel.bound (h : Rel v z K) (x : Int32) : ∃ B, B ≤ 999990 ∧ boundFor v (nB v) (lB v) x = nI B := by
  have hn := h.n.2
  refine ⟨sN (fun b => if b < nB v then sN (fun i => if v (117 + b * 31 + 15 + i * 4 + 0) = x then eB' v b i else 0) (lB v b) else 0) (nB v), ?_, ?_⟩
  · have : ∀ n, n ≤ nB v → sN (fun b => if b < nB v then sN (fun i => if v (117 + b * 31 + 15 + i * 4 + 0) = x then eB' v b i else 0) (lB v b) else 0) n ≤ n * 99999 := by
      intro n
      induction n with
      | zero => intro _; exact Nat.zero_le _
      | succ n ih =>
        intro hn
        have h1 := ih (by omega)
        have h2 := h.lim (b := n) (by omega)
        have h3 := h.left (b := n) (by omega)
        have h4 : sN (fun i => if v (117 + n * 31 + 15 + i * 4 + 0) = x then eB' v n i else 0) (lB v n) ≤ sN (eB' v n) (lB v n) := sN_mono _ (fun i hi => by
          by_cases e : v (117 + n * 31 + 15 + i * 4 + 0) = x
          · rw [if_pos e]; exact Nat.le_refl _
          · rw [if_neg e]; exact Nat.zero_le _)
        rw [sN, if_pos (by omega)]
        omega
    have h5 := this (nB v) (Nat.le_refl _)
    have h6 : nB v * 99999 ≤ 10 * 99999 := Nat.mul_le_mul_right _ hn
    omega
  · unfold boundFor
    refine sumI_nI (nB v) (fun b hb => ?_)
    rw [if_pos hb]
    refine sumI_nI (lB v b) (fun i hi => ?_)
    by_cases e : v (117 + b * 31 + 15 + i * 4 + 0) = x
    · rw [if_pos e, if_pos e]; exact (h.lim hb).1 i hi
    · rw [if_neg e, if_neg e]
theorem Rel.take (h : Rel v z K) (hK : K ≤ 1000) {q a : Nat} (hq : q < 8) (ha : 1 ≤ a) (ha2 : a ≤ 99999) (h3 : nI a ≤ spareOf v (nB v) (lB v) q) : a ≤ cs v q := by
  obtain ⟨B, hB, eB⟩ := h.bound (nI q)
  have hc := h.cash hq
  have hcl : cs v q ≤ 99999 * K := Nat.le_trans (sN_le (cs v) 8 hq) h.csum
  have h113 : v (112 + 1) = nI (tN (v 113)) := h.s3.1
  have hp : B * tN (v 113) ≤ 999990 * 100 := Nat.mul_le_mul hB h.s3.2
  have hd : B * tN (v 113) / 100 ≤ B * tN (v 113) := Nat.div_le_self _ _
  unfold spareOf at h3
  rw [eB, hc, h113, pk_mul, pk_div (by omega) (by decide) (by decide)] at h3
  by_cases hlt : cs v q < B * tN (v 113) / 100
  · have hneg : nI (cs v q) - nI (B * tN (v 113) / 100) < 0 := pk_sneg (by omega) hlt
    rw [if_neg (show ¬ nI 0 < nI (cs v q) - nI (B * tN (v 113) / 100) from fun w => absurd (Int32.lt_trans w hneg) Int32.lt_irrefl)] at h3
    have := (nI_leI (a := a) (b := 0) (by omega) (by decide)).mp h3
    omega
  · rw [pk_sub (by omega)] at h3
    by_cases h0 : nI 0 < nI (cs v q - B * tN (v 113) / 100)
    · rw [if_pos h0] at h3
      have := (nI_leI (by omega) (by omega)).mp h3
      omega
    · rw [if_neg h0] at h3
      have := (nI_leI (a := a) (b := 0) (by omega) (by decide)).mp h3
      omega
end SPARE
