/-! SHARES: their bits -/
theorem fp_nan {x : UInt64} (h : FP.Core.val64 x ≠ .nan) : vf_n64 x := by
  have h1 := (FP.Core.ne_nan x).mp h
  unfold vf_n64
  rw [UInt64.le_iff_toNat_le, UInt64.toNat_and]
  show x.toNat &&& 9223372036854775807 ≤ 9218868437227405312
  rw [show (9223372036854775807 : Nat) = 2 ^ 63 - 1 from rfl, Nat.and_two_pow_sub_one_eq_mod]
  exact h1
/-- a double of 53 digits, without sign -/
def DV (d : UInt64) (c : Nat) (q : Int) : Prop := FP.Core.val64 d = .fin false c q ∧ 2 ^ 52 ≤ c ∧ c < 2 ^ 53 ∧ -1074 ≤ q ∧ q ≤ -52
theorem DV.bits {d : UInt64} {c : Nat} {q : Int} (h : DV d c q) : d.toNat = (q + 1075).toNat * 2 ^ 52 + (c - 2 ^ 52) := by
  obtain ⟨h1, h2, h3, h4, h5⟩ := h
  have hf := FP.Core.val64_fits d
  have e := FP.Core.of64_val64 (a := d) (by rw [h1]; exact fun w => by cases w)
  have e2 : FP.Core.encode FP.Core.b64 (.fin false c q) = FP.Core.assemble FP.Core.b64 false ((q - FP.Core.b64.qmin).toNat + 1) (c - FP.Core.b64.tails) := if_neg (by rw [FP.Core.tails_b64]; omega)
  rw [← e, FP.Core.toNat_of64 hf, h1, e2]
  unfold FP.Core.assemble
  rw [FP.Core.qmin_b64, FP.Core.tails_b64]
  simp only [Bool.toNat_false, Nat.zero_mul, Nat.zero_add]
  omega
theorem fits_dv {s : Bool} {c : Nat} {q : Int} (h2 : 2 ^ 52 ≤ c) (h3 : c < 2 ^ 53) (h4 : -1074 ≤ q) (h5 : q ≤ 971) : FP.Core.fits FP.Core.b64 (.fin s c q) :=
  ⟨h3, by rw [FP.Core.qmin_b64]; exact h4, by rw [show FP.Core.b64.qmax = 971 by decide]; exact h5, Or.inr (by rw [FP.Core.tails_b64]; exact h2)⟩
theorem v_two : FP.Core.val64 bTwo = .fin false (2 ^ 52) (-51) := by decide +kernel
theorem v_max : FP.Core.val64 bMax = .fin false (2 ^ 52) 0 := by decide +kernel
theorem DV.dbl {d : UInt64} {c : Nat} {q : Int} (h : DV d c q) (hq : q < -52) : DV (FP.dmul d bTwo) c (q + 1) := by
  obtain ⟨h1, h2, h3, h4, h5⟩ := h
  refine ⟨?_, h2, h3, by omega, by omega⟩
  show FP.Core.val64 (FP.Core.dmul d bTwo) = _
  rw [FP.Core.val64_dmul, h1, v_two]
  show FP.Core.roundRatio FP.Core.b64 false (c * 2 ^ 52) 1 (q + -51) = _
  refine FP.Core.roundRatio_exact FP.Core.good_b64 (by decide) (fits_dv h2 h3 (by omega) (by omega)) ?_
  rw [show (q + -51 - (q + 1)).toNat = 0 by omega, show (q + 1 - (q + -51)).toNat = 52 by omega]
  omega
theorem DV.cmp {d : UInt64} {c : Nat} {q : Int} (h : DV d c q) : Op.cmpValue (FP.dcmp d FP.dconst1) .g ≥ 0 ↔ q = -52 := by
  obtain ⟨h1, h2, h3, h4, h5⟩ := h
  have e : FP.dcmp d FP.dconst1 = some (compare (FP.Core.signed false (FP.Core.inUnits c q (min q (-52)))) (FP.Core.signed false (FP.Core.inUnits (2 ^ 52) (-52) (min q (-52))))) := by
    show FP.Core.order (FP.Core.val64 d) (FP.Core.val64 FP.dconst1) = _
    rw [h1, show FP.Core.val64 FP.dconst1 = .fin false (2 ^ 52) (-52) from FP.Core.val64_dconst1]
    rfl
  rw [e, Int.min_eq_left h5]
  unfold FP.Core.signed FP.Core.inUnits
  rw [Int.sub_self]
  simp only [Bool.false_eq_true, if_false]
  by_cases hq : q = -52
  · subst hq
    refine ⟨fun _ => rfl, fun _ => ?_⟩
    have : ((c * 2 ^ (0 : Int).toNat : Nat) : Int) = (2 ^ 52 : Nat) ∨ ((2 ^ 52 : Nat) : Int) < ((c * 2 ^ (0 : Int).toNat : Nat) : Int) := by
      simp only [Int.toNat_zero, Nat.pow_zero, Nat.mul_one]; omega
    rcases this with w | w
    · rw [show ((2 ^ 52 * 2 ^ ((-52 : Int) - -52).toNat : Nat) : Int) = (2 ^ 52 : Nat) by decide, w, Int.compare_eq_eq.mpr rfl]; decide
    · rw [show ((2 ^ 52 * 2 ^ ((-52 : Int) - -52).toNat : Nat) : Int) = (2 ^ 52 : Nat) by decide, Int.compare_eq_gt.mpr w]; decide
  · refine ⟨fun w => ?_, fun w => absurd w hq⟩
    obtain ⟨n, hn⟩ : ∃ n : Nat, (-52 - q).toNat = n + 1 := ⟨(-52 - q).toNat - 1, by omega⟩
    have hp : 2 ^ 52 * 2 ≤ 2 ^ 52 * 2 ^ (n + 1) := Nat.mul_le_mul_left _ (by rw [Nat.pow_succ]; have := Nat.two_pow_pos n; omega)
    have hlt : ((c * 2 ^ (0 : Int).toNat : Nat) : Int) < ((2 ^ 52 * 2 ^ (-52 - q).toNat : Nat) : Int) := by
      rw [hn]
      simp only [Int.toNat_zero, Nat.pow_zero, Nat.mul_one]
      omega
    rw [Int.compare_eq_lt.mpr hlt] at w
    exact absurd w (by decide)
/-- the class's own way to the exponent -/
theorem bs_dv {c : Nat} : ∀ (r j : Nat) (d : UInt64) (e : Int64), j ≤ r → j ≤ 1000 → DV d c (-52 - (j : Int)) → DV (bsI r d e).1 c (-52) ∧ (bsI r d e).2 = e - Int64.ofNat j ∧ bsOK r d
  | 0, j, d, e, hj, _, h => by
    have h0 : j = 0 := by omega
    subst h0
    exact ⟨by show DV d c (-52); simpa using h, by rw [bsI]; exact (Int64.sub_zero e).symm, trivial⟩
  | r + 1, j, d, e, hj, hj2, h => by
    by_cases h0 : j = 0
    · subst h0
      have hc := h.cmp.mpr (by simp)
      refine ⟨?_, ?_, ?_⟩
      · rw [bsI, if_pos hc]; simpa using h
      · rw [bsI, if_pos hc]; exact (Int64.sub_zero e).symm
      · rw [bsOK]; exact Or.inl hc
    · have hc : ¬ Op.cmpValue (FP.dcmp d FP.dconst1) .g ≥ 0 := fun w => by have := h.cmp.mp w; omega
      have h2 : DV (FP.dmul d bTwo) c (-52 - ((j - 1 : Nat) : Int)) := by
        have := h.dbl (by omega)
        rw [show -52 - (j : Int) + 1 = -52 - ((j - 1 : Nat) : Int) by omega] at this
        exact this
      obtain ⟨g1, g2, g3⟩ := bs_dv r (j - 1) (FP.dmul d bTwo) (e - 1) (by omega) (by omega) h2
      refine ⟨by rw [bsI, if_neg hc]; exact g1, ?_, ?_⟩
      · rw [bsI, if_neg hc, g2]
        rw [show Int64.ofNat j = 1 + Int64.ofNat (j - 1) by rw [show (1 : Int64) = Int64.ofNat 1 from rfl, ← Int64.ofNat_add]; congr 1; omega]
        rw [Int64.sub_eq_add_neg, Int64.sub_eq_add_neg, Int64.sub_eq_add_neg, Int64.neg_add, Int64.sub_eq_add_neg, Int64.add_assoc]
      · rw [bsOK]
        refine Or.inr ⟨fp_nan ?_, g3⟩
        rw [h2.1]
        exact fun w => by cases w
theorem mul_key {M W Q R c t : Nat} (h0 : 0 < M) (h : c * (M * W * Q) = t * M * R) : c * W * Q = t * R := by
  apply Nat.eq_of_mul_eq_mul_left h0
  calc M * (c * W * Q) = c * (M * W * Q) := by ac_rfl
    _ = t * M * R := h
    _ = M * (t * R) := by ac_rfl
theorem sub_dv {d : UInt64} {c : Nat} (h : DV d c (-52)) : FP.Core.val64 (FP.Core.dsub d FP.dconst1) = FP.Core.round FP.Core.b64 (.fin false (c - 2 ^ 52) (-52)) := by
  obtain ⟨h1, h2, h3, h4, h5⟩ := h
  rw [FP.Core.val64_dsub, h1, show FP.Core.val64 FP.dconst1 = .fin false (2 ^ 52) (-52) from FP.Core.val64_dconst1]
  have e2 : FP.Core.sumUnits false c (-52) true (2 ^ 52) (-52) (min (-52) (-52)) = ((c - 2 ^ 52 : Nat) : Int) := by
    unfold FP.Core.sumUnits FP.Core.signed FP.Core.inUnits
    simp
    omega
  have hs : FP.Core.sumSign false true ((c - 2 ^ 52 : Nat) : Int) = false := by
    unfold FP.Core.sumSign
    by_cases h0 : ((c - 2 ^ 52 : Nat) : Int) = 0
    · rw [if_pos h0]; rfl
    · rw [if_neg h0]; exact decide_eq_false (by omega)
  have e3 : FP.Core.exactSum (.fin false c (-52)) (FP.Core.negate (.fin false (2 ^ 52) (-52))) = .fin (FP.Core.sumSign false true (FP.Core.sumUnits false c (-52) true (2 ^ 52) (-52) (min (-52) (-52)))) (FP.Core.sumUnits false c (-52) true (2 ^ 52) (-52) (min (-52) (-52))).natAbs (min (-52) (-52)) := rfl
  rw [e3, e2, hs, Int.natAbs_natCast, Int.min_self]
theorem whole_dv {c t n : Nat} {q : Int} (hn : n = 1022) (hq : -1074 ≤ q) (g : c * 2 ^ (q - -1074).toNat = t * 2 ^ n) : FP.Core.Whole (t : Int) (.fin false (c * 2 ^ 52) (q + 0)) := by
  have e : c * 2 ^ 52 * 2 ^ q.toNat = t * 2 ^ (-q).toNat := by
    have ex : (q - -1074).toNat + (-q).toNat = (n + 52) + q.toNat := by omega
    have e3 : c * 2 ^ (q - -1074).toNat * 2 ^ (-q).toNat = t * 2 ^ n * 2 ^ (-q).toNat := by rw [g]
    rw [Nat.mul_assoc, ← Nat.pow_add, ex, Nat.pow_add, Nat.pow_add] at e3
    exact mul_key (Nat.two_pow_pos n) e3
  rw [Int.add_zero]
  show FP.Core.signed false (c * 2 ^ 52 * 2 ^ q.toNat) = _
  rw [e, ← Int.natCast_mul]
  rfl
/-- and the rest of it -/
theorem rest_dv {d : UInt64} {c : Nat} (h : DV d c (-52)) : vf_n64 (FP.dsub d FP.dconst1) ∧ vf_n64 (FP.dmul (FP.dsub d FP.dconst1) bMax) ∧ FP.d2l (FP.dmul (FP.dsub d FP.dconst1) bMax) = Int64.ofNat (c - 2 ^ 52) := by
  have e1 := sub_dv h
  obtain ⟨h1, h2, h3, h4, h5⟩ := h
  obtain ⟨t, ht, ht2⟩ : ∃ t, c - 2 ^ 52 = t ∧ t < 2 ^ 53 := ⟨_, rfl, by omega⟩
  rw [ht] at e1 ⊢
  obtain ⟨c', q', g1, g2⟩ := FP.Core.round_exact FP.Core.good_b64 false (c := t) (q := -52) ht2 (by rw [FP.Core.qmin_b64]; decide) (by decide)
  rw [g1] at e1
  have hfit := FP.Core.val64_fits (FP.Core.dsub d FP.dconst1)
  rw [e1] at hfit
  have hq' : -1074 ≤ q' := by have := hfit.2.1; rw [FP.Core.qmin_b64] at this; exact this
  rw [FP.Core.qmin_b64] at g2
  unfold FP.Core.inUnits at g2
  have hD : FP.Core.DInt (t : Int) (FP.Core.dmul (FP.Core.dsub d FP.dconst1) bMax) := by
    unfold FP.Core.DInt
    rw [FP.Core.val64_dmul, e1, v_max]
    exact FP.Core.whole_round FP.Core.good_b64 FP.Core.wide_b64 (show _ ≤ 2 ^ 53 by omega) (whole_dv (n := ((-52 : Int) - -1074).toNat) rfl hq' g2)
  refine ⟨fp_nan (by show FP.Core.val64 (FP.Core.dsub d FP.dconst1) ≠ _; rw [e1]; exact fun w => by cases w), fp_nan (fun w => ?_), ?_⟩
  · unfold FP.Core.DInt at hD
    rw [show FP.Core.val64 (FP.Core.dmul (FP.Core.dsub d FP.dconst1) bMax) = .nan from w] at hD
    exact hD
  · refine FP.Core.d2l_int (a := Int64.ofNat t) ?_
    rw [Int64.toInt_ofNat_of_lt (by omega)]
    exact hD
/-- the bits of a share -/
theorem shl52 : ∀ e, e < 1024 → (Int64.ofNat e <<< ((nI 52).toInt64 &&& 63)) = Int64.ofNat (e * 2 ^ 52) := by decide +kernel
theorem u64_i64 (d : UInt64) : d.toInt64 = Int64.ofNat d.toNat := by
  apply Int64.toBitVec_inj.mp
  show d.toBitVec = BitVec.ofNat 64 d.toNat
  exact (BitVec.ofNat_toNat _ _).symm ▸ (by simp)
theorem sub_of {a b : Nat} (h : b ≤ a) : Int64.ofNat a - Int64.ofNat b = Int64.ofNat (a - b) := by
  have e : Int64.ofNat a = Int64.ofNat (a - b) + Int64.ofNat b := by rw [← Int64.ofNat_add]; congr 1; omega
  rw [e, Int64.add_sub_cancel]
theorem bits_dv {d : UInt64} {c : Nat} {q : Int} (h : DV d c q) (hq : -112 ≤ q) : bitsI d = d.toInt64 ∧ bitsOK d := by
  obtain ⟨j, hj⟩ : ∃ j : Nat, q = -52 - (j : Int) := ⟨(-52 - q).toNat, by have := h.2.2.2.2; omega⟩
  have h' : DV d c (-52 - (j : Int)) := hj ▸ h
  obtain ⟨g1, g2, g3⟩ := bs_dv 60 j d 1023 (by omega) (by omega) h'
  obtain ⟨r1, r2, r3⟩ := rest_dv g1
  refine ⟨?_, g3, r1, r2⟩
  have hpos : Op.cmpValue (FP.dcmp d FP.dconst0) .l > 0 := by
    have e : FP.dcmp d FP.dconst0 = some (compare (FP.Core.signed false (FP.Core.inUnits c q (min q (-1074)))) (FP.Core.signed false (FP.Core.inUnits 0 (-1074) (min q (-1074))))) := by
      show FP.Core.order (FP.Core.val64 d) (FP.Core.val64 FP.dconst0) = _
      rw [h.1, show FP.Core.val64 FP.dconst0 = .fin false 0 (-1074) from FP.Core.val64_dconst0]
      rfl
    have hlt : FP.Core.signed false (FP.Core.inUnits 0 (-1074) (min q (-1074))) < FP.Core.signed false (FP.Core.inUnits c q (min q (-1074))) := by
      unfold FP.Core.signed FP.Core.inUnits
      simp only [Bool.false_eq_true, if_false, Nat.zero_mul]
      have h1 := h.2.1
      have := Nat.mul_pos (show 0 < c by omega) (Nat.two_pow_pos (q - min q (-1074)).toNat)
      omega
    rw [e, Int.compare_eq_gt.mpr hlt]
    decide
  have h1 := h.2.1
  have h2 := h.2.2.1
  unfold bitsI
  rw [if_pos hpos, g2, r3, u64_i64, h.bits, show (1023 : Int64) = Int64.ofNat 1023 from rfl, sub_of (by omega), shl52 _ (by omega), ← Int64.ofNat_add, show 1023 - j = (q + 1075).toNat by omega]
