/-! THE START -/
theorem law_ts {s : State} {args : Array Value} (hts : ∀ w ∈ lw_tbl, w.before args s = true) : ∀ w ∈ wsL_law, w.before args s = true := fun w h => hts w (wsL_law_in w h)
theorem law_K {s : State} {args : Array Value} (hts : ∀ w ∈ lw_tbl, w.before args s = true) : ∃ (D : va_G) (yT : TY3), va_K D vwCl (ty3 yT) s ∧ va_AOA .int s := by
  have hin : ∀ w ∈ wsL_law, w ∈ lw_tbl := wsL_law_in
  obtain ⟨c4, i4, k4⟩ := u_known (n := 4) hts in_wsX40 (hts _ (hin _ (show Cond.instantiable RX4 4 ∈ wsL_law by decide +kernel)))
  obtain ⟨c5, i5, k5⟩ := u_known (n := 14) hts in_wsX50 (hts _ (hin _ (show Cond.instantiable RX5 14 ∈ wsL_law by decide +kernel)))
  obtain ⟨c3, i3, k3⟩ := u_known (n := 1) hts in_wsX30 (hts _ (hin _ (show Cond.instantiable RX3 1 ∈ wsL_law by decide +kernel)))
  obtain ⟨c1, i1, k1⟩ := u_known (n := 3) hts in_wsX10 (hts _ (hin _ (show Cond.instantiable RX1 3 ∈ wsL_law by decide +kernel)))
  obtain ⟨c0, i0, k0⟩ := u_known (n := 12) hts in_wsX00 (hts _ (hin _ (show Cond.instantiable RX0 12 ∈ wsL_law by decide +kernel)))
  obtain ⟨c2, i2, k2⟩ := u_known (n := 12) hts in_wsX20 (hts _ (hin _ (show Cond.instantiable RX2 12 ∈ wsL_law by decide +kernel)))
  have hAO : (Cond.arrayOver (.array .int)).before args s = true := hts _ (by decide +kernel)
  have hI : (Cond.arrayClass .int).before args s = true := hts _ (hin _ (by decide +kernel))
  have hJ : (Cond.arrayClass .long).before args s = true := hts _ (hin _ (by decide +kernel))
  obtain ⟨cI, kI, pI, e1, e2, e3⟩ := Cond.arrayClass_spec hI
  obtain ⟨cJ, kJ, pJ, f1, f2, f3⟩ := Cond.arrayClass_spec hJ
  obtain ⟨pM, cM, kM, g0, g1, g2, g3⟩ := Cond.arrayOver_specA hAO
  refine ⟨(fun c => match c with | 0 => c0 | 1 => c1 | 2 => c2 | 3 => c3 | 4 => c4 | _ => c5, fun c => match c with | 0 => i0 | 1 => i1 | 2 => i2 | 3 => i3 | 4 => i4 | _ => i5), (cI, cJ, cM), ⟨fun c q hq => ?_, fun k q hk => ?_⟩, over_moved (Vm.Alike.refl s.vm) hAO⟩
  · match c, hq with
    | 0, hq => cases hq; exact k0
    | 1, hq => cases hq; exact k1
    | 2, hq => cases hq; exact k2
    | 3, hq => cases hq; exact k3
    | 4, hq => cases hq; exact k4
    | 5, hq => cases hq; exact k5
    | n + 6, hq => cases hq
  · match k, hk with
    | 0, hk => cases hk; exact ⟨fun n z => ⟨fun k h => (by cases h), kI, e2, pI, e3⟩, e1⟩
    | 1, hk => cases hk; exact ⟨fun n z => ⟨fun k h => (by cases h), kJ, f2, pJ, f3⟩, f1⟩
    | 2, hk => cases hk; exact ⟨fun n z => ⟨fun k h => (by cases h), kM, g1, pM, g2⟩, g3⟩
    | n + 3, hk => cases hk
/-- the numbers at the start -/
def σ00 : gS := (fun o => if o = 2 then cV3 8 else if o = 24 then cV5 8 else zI, fun _ _ => 0)
theorem rel0 : Rel (cV3 8) (cV5 8) 0 := by
  refine ⟨by unfold RZ; decide +kernel, ⟨cN.mk (n := 0) (by decide +kernel) (by decide) (by decide), fun b hb => absurd hb (by rw [show nB (cV3 8) = 0 by decide +kernel]; omega), fun b _ hb k hk => ?_, by decide +kernel, by decide +kernel, fun q hq => cN.mk (n := 0) ?_ (by decide) (by decide), ⟨cN.mk (n := 5) (by decide +kernel) (by decide) (by decide), cN.mk (n := 20) (by decide +kernel) (by decide) (by decide)⟩, ⟨fun _ => 0, fun q hq => Or.inl ?_⟩⟩, ?_⟩
  · exact (show ∀ b, b < 10 → ∀ k, k < 31 → bq (cV3 8) b k = nI 0 by decide +kernel) b hb k hk
  · exact (show ∀ q, q < 8 → cV3 8 (q * 6 + 2) = nI 0 by decide +kernel) q hq
  · exact (show ∀ q, q < 8 → cV5 8 (17 + q) = -1 by decide +kernel) q hq
  · unfold SM; decide +kernel
theorem inv0 : INV σ00 0 := by
  refine ⟨rel0, ⟨0, 0, by decide, by decide, rfl, rfl, rfl, fun t ht => absurd ht (Nat.not_lt_zero _)⟩, 0, by decide, rfl, rfl, fun j hj => absurd hj (Nat.not_lt_zero _), fun j hj => absurd hj (Nat.not_lt_zero _)⟩
