/-! SHARES: their quotients -/
theorem val_nI {n : Nat} (h1 : 1 ≤ n) (h2 : n < 2 ^ 31) : ∃ c q, FP.Core.val64 (FP.Core.i2d (nI n)) = .fin false c q ∧ c * 2 ^ q.toNat = n * 2 ^ (-q).toNat ∧ 0 < c := by
  have hi := FP.Core.i2d_int (nI n)
  rw [nI_toInt h2] at hi
  unfold FP.Core.DInt at hi
  match hv : FP.Core.val64 (FP.Core.i2d (nI n)), hi with
  | .nan, hi => exact hi.elim
  | .inf _, hi => exact hi.elim
  | .fin s c q, hi =>
    have hs := FP.Core.whole_sign hi (by omega)
    have h0 := FP.Core.whole_zero hi
    rw [decide_eq_false (by omega)] at hs
    subst hs
    refine ⟨c, q, rfl, ?_, by omega⟩
    have e : FP.Core.signed false (c * 2 ^ q.toNat) = (n : Int) * ((2 ^ (-q).toNat : Nat) : Int) := hi
    rw [← Int.natCast_mul] at e
    exact Int.ofNat.inj e
theorem quo_nat {p c : Nat} (hp : 1 ≤ p) (hp2 : p < 2 ^ 31) (hc : 1 ≤ c) (hc2 : c < 2 ^ 31) : FP.Core.val64 (FP.Core.ddiv (FP.Core.i2d (nI p)) (FP.Core.i2d (nI c))) = FP.Core.roundRatio FP.Core.b64 false p c 0 := by
  obtain ⟨a, q, e1, f1, a0⟩ := val_nI hp hp2
  obtain ⟨b, r, e2, f2, b0⟩ := val_nI hc hc2
  rw [FP.Core.val64_ddiv, e1, e2]
  have e3 : FP.Core.quotient FP.Core.b64 (.fin false a q) (.fin false b r) = FP.Core.roundRatio FP.Core.b64 false a b (q - r) := by
    show (if b = 0 then _ else _) = _
    rw [if_neg (by omega)]
    rfl
  rw [e3]
  refine FP.Core.roundRatio_congr b0 (by omega) ?_
  have hx : q.toNat + (-r).toNat + (-(q - r)).toNat + 0 = (-q).toNat + r.toNat + (q - r).toNat := by omega
  rw [Int.sub_zero, Int.zero_sub]
  have key : ∀ (x y u w X Y : Nat), a * x = p * u → b * y = c * w → 0 < x → 0 < y → 0 < u → 0 < w → x * w * Y = u * y * X → a * c * X = p * b * Y := by
    intro x y u w X Y g1 g2 p1 p2 p3 p4 g3
    have hm : 0 < x * w * y := Nat.mul_pos (Nat.mul_pos p1 p4) p2
    apply Nat.eq_of_mul_eq_mul_left hm
    calc x * w * y * (a * c * X) = (a * x) * (c * w) * y * X := by ac_rfl
      _ = (p * u) * (b * y) * y * X := by rw [g1, g2]
      _ = p * b * y * (u * y * X) := by ac_rfl
      _ = p * b * y * (x * w * Y) := by rw [g3]
      _ = x * w * y * (p * b * Y) := by ac_rfl
  refine key (2 ^ q.toNat) (2 ^ r.toNat) (2 ^ (-q).toNat) (2 ^ (-r).toNat) _ _ f1 f2 (Nat.two_pow_pos _) (Nat.two_pow_pos _) (Nat.two_pow_pos _) (Nat.two_pow_pos _) ?_
  rw [← Nat.pow_add, ← Nat.pow_add, ← Nat.pow_add, ← Nat.pow_add]
  congr 1
theorem dv_bits {d : UInt64} (h1 : 963 * 2 ^ 52 ≤ d.toNat) (h2 : d.toNat ≤ 1023 * 2 ^ 52) : ∃ c q, DV d c q ∧ -112 ≤ q := by
  have ht : FP.Core.fieldT FP.Core.b64 d.toNat = d.toNat % 2 ^ 52 := by unfold FP.Core.fieldT; rw [FP.Core.tails_b64]
  have he : FP.Core.fieldE FP.Core.b64 d.toNat = d.toNat / 2 ^ 52 := by
    unfold FP.Core.fieldE
    rw [FP.Core.tails_b64, show FP.Core.b64.exps = 2048 by decide]
    omega
  have hs : FP.Core.fieldS FP.Core.b64 d.toNat = false := by
    unfold FP.Core.fieldS
    rw [FP.Core.tails_b64, show FP.Core.b64.exps = 2048 by decide]
    have : d.toNat / 2 ^ 52 / 2048 % 2 = 0 := by omega
    rw [this]
    rfl
  refine ⟨2 ^ 52 + d.toNat % 2 ^ 52, -1074 + ((d.toNat / 2 ^ 52 : Nat) - 1), ⟨?_, by omega, by omega, by omega, by omega⟩, by omega⟩
  show FP.Core.decode FP.Core.b64 d.toNat = _
  unfold FP.Core.decode
  rw [he, ht, hs, if_neg (by rw [FP.Core.exps_b64]; omega), if_neg (by omega), FP.Core.tails_b64, FP.Core.qmin_b64]
theorem share_dv {p c : Nat} (hp : 1 ≤ p) (hpc : p ≤ c) (hc : c < 2 ^ 20) : ∃ m q, DV (FP.ddiv (FP.i2d (nI p)) (FP.i2d (nI c))) m q ∧ -112 ≤ q := by
  have hv := quo_nat hp (show p < 2 ^ 31 by omega) (show 1 ≤ c by omega) (show c < 2 ^ 31 by omega)
  obtain ⟨d, hd⟩ : ∃ d, FP.ddiv (FP.i2d (nI p)) (FP.i2d (nI c)) = d := ⟨_, rfl⟩
  rw [show FP.Core.ddiv (FP.Core.i2d (nI p)) (FP.Core.i2d (nI c)) = d from hd] at hv
  rw [hd]
  have hne : FP.Core.val64 d ≠ .nan := by rw [hv]; exact FP.Core.roundRatio_ne_nan _ _ _ _ _
  have hsg := FP.Core.sgn_bits hne
  rw [hv, FP.Core.sgn_roundRatio] at hsg
  have hlt : d.toNat < 2 ^ 63 := by
    have := of_decide_eq_false hsg.symm
    omega
  have hmod : FP.Core.mag FP.Core.b64 d.toNat = d.toNat := by rw [FP.Core.mag_toNat64]; exact Nat.mod_eq_of_lt hlt
  have g1 := FP.Core.mag_le FP.Core.good_b64 (n := d.toNat) (m := 1023 * 2 ^ 52) (e0 := -1074) hv (by omega) (by rw [FP.Core.qmin_b64]; exact Int.le_refl _) (by decide) (by
    have e : FP.Core.unitsOf FP.Core.b64 (1023 * 2 ^ 52) = 2 ^ 1074 := by decide +kernel
    rw [e, FP.Core.qmin_b64]
    unfold FP.Core.inUnits
    rw [show ((0 : Int) - -1074).toNat = 1074 from rfl, show ((-1074 : Int) - -1074).toNat = 0 from rfl, Nat.pow_zero, Nat.mul_one, Nat.mul_comm (2 ^ 1074) c]
    exact Nat.mul_le_mul_right _ hpc)
  have g2 := FP.Core.mag_ge FP.Core.good_b64 (n := d.toNat) (m := 1003 * 2 ^ 52) (e0 := -1074) hv (by omega) (by rw [FP.Core.qmin_b64]; exact Int.le_refl _) (by decide) (by rw [FP.Core.infBits_b64]; decide) (by
    have e : FP.Core.unitsOf FP.Core.b64 (1003 * 2 ^ 52) = 2 ^ 1054 := by decide +kernel
    rw [e, FP.Core.qmin_b64]
    unfold FP.Core.inUnits
    rw [show ((0 : Int) - -1074).toNat = 1054 + 20 from rfl, show ((-1074 : Int) - -1074).toNat = 0 from rfl, Nat.pow_zero, Nat.mul_one, Nat.mul_comm (2 ^ 1054) c, Nat.pow_add, ← Nat.mul_assoc, Nat.mul_right_comm]
    refine Nat.mul_le_mul_right _ ?_
    omega)
  rw [hmod] at g1 g2
  exact dv_bits (by omega) g1
theorem one_dv : DV FP.dconst1 (2 ^ 52) (-52) := ⟨FP.Core.val64_dconst1, by decide, by decide, by decide, by decide⟩
theorem zero_two : FP.dmul FP.dconst0 bTwo = FP.dconst0 := by decide +kernel
theorem vf_0 : vf_n64 FP.dconst0 := by unfold vf_n64; decide +kernel
theorem zero_bs : ∀ r e, (bsI r FP.dconst0 e).1 = FP.dconst0 ∧ bsOK r FP.dconst0
  | 0, _ => ⟨rfl, trivial⟩
  | r + 1, e => by
    rw [bsI, bsOK, zero_two]
    obtain ⟨g1, g2⟩ := zero_bs r (e - 1)
    refine ⟨?_, Or.inr ⟨vf_0, g2⟩⟩
    split
    · rfl
    · exact g1
theorem zero_bits : bitsI FP.dconst0 = FP.dconst0.toInt64 ∧ bitsOK FP.dconst0 := by
  refine ⟨?_, (zero_bs 60 1023).2, ?_, ?_⟩
  · unfold bitsI
    rw [if_neg (by decide +kernel)]
    rfl
  · rw [(zero_bs 60 1023).1]; unfold vf_n64; decide +kernel
  · rw [(zero_bs 60 1023).1]; unfold vf_n64; decide +kernel
theorem zero_quo {c : Nat} (hc : 1 ≤ c) (hc2 : c < 2 ^ 31) : FP.ddiv (FP.i2d (nI 0)) (FP.i2d (nI c)) = FP.dconst0 := by
  obtain ⟨b, r, e2, f2, b0⟩ := val_nI hc hc2
  have e1 : FP.Core.val64 (FP.Core.i2d (nI 0)) = .fin false 0 (-1074) := by decide +kernel
  have e3 : FP.Core.quotient FP.Core.b64 (.fin false 0 (-1074)) (.fin false b r) = .fin false 0 (-1074) := by
    show (if b = 0 then _ else _) = _
    rw [if_neg (by omega)]
    rfl
  have e4 : FP.Core.val64 (FP.Core.ddiv (FP.Core.i2d (nI 0)) (FP.Core.i2d (nI c))) = .fin false 0 (-1074) := by rw [FP.Core.val64_ddiv, e1, e2, e3]
  exact FP.Core.val64_inj (by rw [e4]; exact fun w => by cases w) (e4.trans FP.Core.val64_dconst0.symm)
/-- the share, whole -/
theorem psd_all {p c : Nat} (hpc : p ≤ c) (hc : c < 2 ^ 20) : bitsI (psD (nI c) (nI p)) = (psD (nI c) (nI p)).toInt64 ∧ bitsOK (psD (nI c) (nI p)) ∧ (nI c = 0 ∨ vf_n64 (FP.ddiv (FP.i2d (nI p)) (FP.i2d (nI c)))) ∧ Op.cmpValue (FP.dcmp (psD (nI c) (nI p)) (psD (nI c) (nI p))) .l = 0 := by
  have hself : ∀ d : UInt64, FP.Core.val64 d ≠ .nan → Op.cmpValue (FP.dcmp d d) .l = 0 := fun d hd => by
    rw [show FP.dcmp d d = some .eq from FP.Core.dcmp_self hd]; rfl
  unfold psD
  by_cases h0 : c = 0
  · subst h0
    rw [if_pos (show nI 0 = 0 from rfl)]
    obtain ⟨g1, g2⟩ := bits_dv one_dv (by decide)
    exact ⟨g1, g2, Or.inl rfl, hself _ (by rw [one_dv.1]; exact fun w => by cases w)⟩
  · have hc0 : ¬ nI c = 0 := fun w => by
      have := congrArg tN w
      rw [tN_n (by omega)] at this
      exact h0 this
    rw [if_neg hc0]
    by_cases hp0 : p = 0
    · subst hp0
      rw [zero_quo (by omega) (by omega)]
      exact ⟨zero_bits.1, zero_bits.2, Or.inr vf_0, hself _ (by rw [show FP.Core.val64 FP.dconst0 = .fin false 0 FP.Core.b64.qmin from FP.Core.val64_dconst0]; exact fun w => by cases w)⟩
    · obtain ⟨m, q, hd, hq⟩ := share_dv (p := p) (c := c) (by omega) hpc hc
      obtain ⟨g1, g2⟩ := bits_dv hd hq
      have hn : FP.Core.val64 (FP.ddiv (FP.i2d (nI p)) (FP.i2d (nI c))) ≠ .nan := by rw [hd.1]; exact fun w => by cases w
      exact ⟨g1, g2, Or.inr (fp_nan hn), hself _ hn⟩
