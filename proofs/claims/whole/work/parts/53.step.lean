/-! THE STEPS: persons and settings -/
theorem amt2 {m : Nat} (hm : m < 2 ^ 30) {x : Int32} (h : inB x (nI 1) (nI m) = true) : ∃ a, 1 ≤ a ∧ a ≤ m ∧ x = nI a := by
  obtain ⟨h1, h2⟩ := inB_t h
  obtain ⟨j, hj, rfl⟩ := nI_of2 (M := nI m) (n := m) (nI_toInt (by omega)) (fun q => absurd (Int32.lt_of_le_of_lt h1 q) (by decide)) h2
  exact ⟨j, (nI_leI (by decide) (by omega)).mp h1, hj, rfl⟩
theorem s_bring (l : Launch) (γ : gG) {σ : gS} {K : Nat} (hI : INV σ K) (hK : K ≤ 999) (x y : Int32) : STP l γ σ K yL_bring wsL_bring ({ frames := 9, cells := 1, slots := 6, locals := 264 } : Room) [.ref (ad γ 0), .int x, .int y, .ref (ad γ 30)] yX5_bring wsX5_bring ({ frames := 2, cells := 0, slots := 0, locals := 42 } : Room) [.ref (ad γ 23), .int x, .int y] := by
  obtain ⟨hR, ⟨s, n, hH⟩, -⟩ := id hI
  rcases per_c x with ⟨q, hq, rfl⟩ | ⟨h1, h2⟩
  · rcases inB_c y (nI 1) (nI 99999) with ha | ha
    · obtain ⟨a, ha1, ha5, rfl⟩ := amt2 (by decide) ha
      obtain ⟨b1, b2⟩ := inB_t ha
      obtain ⟨σ1, hσ⟩ : ∃ σ1, outS (sA (svS σ s n) 2 (brV (σ.1 2) q (nI a))) (brV (σ.1 2) q (nI a) (q * 6 + 0)) = σ1 := ⟨_, rfl⟩
      have d := do_ok hH.1 hσ
      have hm := k_X5_bring l γ σ1 q (nI a) hq ha n (by rw [d.e23]; exact hH.2.2.2.2.1) hH.2.1
      rw [d.e24] at hm
      exact ⟨0, σ1, by decide, hσ ▸ h_bring_ok l γ σ _ _ _ _ (k_X4_bring l γ σ q (nI a) hq b1 b2 s n hH.1 hH.2.2.1 hH.2.2.2.1 hH.2.1), fin_do hI hH d (keep_bring hR (by omega) hq ha5) hm ((rz_bring hR.1 hq (nI a)).p0 hq).symm⟩
    · exact ⟨2, σ, by decide, h_bring_t2 l γ σ σ _ _ (t_X4_bring_a l γ σ q y hq (inB_f ha)), fin_fail hI (k_X5_bring_2 l γ σ q y hq ha) (by decide)⟩
  · exact ⟨1, σ, by decide, h_bring_t1 l γ σ σ _ _ (t_X4_bring_p l γ σ x y h1), fin_fail hI (k_X5_bring_1 l γ σ x y h2) (by decide)⟩
theorem s_takeOut (l : Launch) (γ : gG) {σ : gS} {K : Nat} (hI : INV σ K) (hK : K ≤ 999) (x y : Int32) : STP l γ σ K yL_takeOut wsL_takeOut ({ frames := 9, cells := 1, slots := 6, locals := 264 } : Room) [.ref (ad γ 0), .int x, .int y, .ref (ad γ 30)] yX5_takeOut wsX5_takeOut ({ frames := 4, cells := 0, slots := 0, locals := 87 } : Room) [.ref (ad γ 23), .int x, .int y] := by
  obtain ⟨hR, ⟨s, n, hH⟩, -⟩ := id hI
  rcases per_c x with ⟨q, hq, rfl⟩ | ⟨h1, h2⟩
  · rcases inB_c y (nI 1) (nI 99999) with ha | ha
    · obtain ⟨a, ha1, ha5, rfl⟩ := amt2 (by decide) ha
      obtain ⟨b1, b2⟩ := inB_t ha
      have hsp := hR.1.spare hR.Sh hq
      by_cases hs : spareOf (σ.1 2) (nB (σ.1 2)) (lB (σ.1 2)) q < nI a
      · exact ⟨3, σ, by decide, h_takeOut_t3 l γ σ σ _ _ (t_X4_takeOut_s l γ σ q (nI a) _ _ hR.Sh hq b1 b2 hs), fin_fail hI (k_X5_takeOut_3 l γ σ q (nI a) hq ha _ _ (hR.1.SZ hR.Sh) (by rw [hsp]; exact hs)) (by decide)⟩
      · have hs' := Int32.not_lt.mp hs
        obtain ⟨σ1, hσ⟩ : ∃ σ1, outS (sA (svS σ s n) 2 (brV (σ.1 2) q (-nI a))) (brV (σ.1 2) q (-nI a) (q * 6 + 0)) = σ1 := ⟨_, rfl⟩
        have d := do_ok hH.1 hσ
        have hm := k_X5_takeOut l γ σ1 q (nI a) hq ha _ _ (by rw [d.e24]; exact hR.1.SZ hR.Sh) (by rw [d.e24, hsp]; exact hs') n (by rw [d.e23]; exact hH.2.2.2.2.1) hH.2.1
        rw [d.e24] at hm
        exact ⟨0, σ1, by decide, hσ ▸ h_takeOut_ok l γ σ _ _ _ _ (k_X4_takeOut l γ σ q (nI a) _ _ hR.Sh hq b1 b2 hs' s n hH.1 hH.2.2.1 hH.2.2.2.1 hH.2.1), fin_do hI hH d (keep_take hR (by omega) hq (hR.take (by omega) hq ha1 ha5 hs')) hm ((rz_take hR.1 hq (nI a)).p0 hq).symm⟩
    · exact ⟨2, σ, by decide, h_takeOut_t2 l γ σ σ _ _ (t_X4_takeOut_a l γ σ q y hq (inB_f ha)), fin_fail hI (k_X5_takeOut_2 l γ σ q y hq ha) (by decide)⟩
  · exact ⟨1, σ, by decide, h_takeOut_t1 l γ σ σ _ _ (t_X4_takeOut_p l γ σ x y h1), fin_fail hI (k_X5_takeOut_1 l γ σ x y h2) (by decide)⟩
theorem s_guarantee (l : Launch) (γ : gG) {σ : gS} {K : Nat} (hI : INV σ K) (hK : K ≤ 999) (x y w : Int32) : STP l γ σ K yL_guarantee wsL_guarantee ({ frames := 8, cells := 1, slots := 6, locals := 246 } : Room) [.ref (ad γ 0), .int x, .int y, .int w, .ref (ad γ 30)] yX5_guarantee wsX5_guarantee ({ frames := 2, cells := 0, slots := 0, locals := 42 } : Room) [.ref (ad γ 23), .int x, .int y, .int w] := by
  obtain ⟨hR, ⟨s, n, hH⟩, -⟩ := id hI
  rcases per_c x with ⟨q, hq, rfl⟩ | ⟨h1, h2⟩
  · by_cases hg1 : y = -1
    · subst hg1
      obtain ⟨σ1, hσ⟩ : ∃ σ1, outS (sA (svS σ s n) 2 (guV (σ.1 2) q (-1) (nI 0))) (σ.1 2 (q * 6 + 1)) = σ1 := ⟨_, rfl⟩
      have d := do_ok hH.1 hσ
      have hm := k_X5_guarantee_n l γ σ1 q w hq n (by rw [d.e23]; exact hH.2.2.2.2.1) hH.2.1
      rw [d.e24] at hm
      exact ⟨0, σ1, by decide, hσ ▸ h_guarantee_ok l γ σ _ _ _ _ _ (k_X4_guarantee_0 l γ σ q w hq s n hH.1 hH.2.2.1 hH.2.2.2.1 hH.2.1), fin_do hI hH d (keep_guar hR hq (-1) (a := 0) (by decide) hR.rk.none) hm (hR.1.p1 hq).symm⟩
    · rcases per_c y with ⟨g, hg, rfl⟩ | ⟨h1, h2⟩
      · rcases inB_c w (nI 1) (nI 100) with ha | ha
        · obtain ⟨a, ha1, ha5, rfl⟩ := amt2 (by decide) ha
          obtain ⟨b1, b2⟩ := inB_t ha
          have hh := hR.hold (q := q) hg
          cases hx : holdsI (σ.1 2) (nI q) 8 (nI g) with
          | true => exact ⟨3, σ, by decide, h_guarantee_t3 l γ σ σ _ _ _ (t_X4_guarantee_s l γ σ q g (nI a) hq hg b1 b2 hx), fin_fail hI (k_X5_guarantee_3 l γ σ q g (nI a) hq hg ha (hR.rk.chg hg) (by rw [hh]; exact hx)) (by decide)⟩
          | false =>
            obtain ⟨σ1, hσ⟩ : ∃ σ1, outS (sA (svS σ s n) 2 (guV (σ.1 2) q (nI g) (nI a))) (σ.1 2 (q * 6 + 1)) = σ1 := ⟨_, rfl⟩
            have d := do_ok hH.1 hσ
            rw [hx] at hh
            have hm := k_X5_guarantee_g l γ σ1 q g (nI a) hq hg ha (by rw [d.e24]; exact hR.rk.chg hg) (by rw [d.e24]; exact hh) n (by rw [d.e23]; exact hH.2.2.2.2.1) hH.2.1
            rw [d.e24] at hm
            exact ⟨0, σ1, by decide, hσ ▸ h_guarantee_ok l γ σ _ _ _ _ _ (k_X4_guarantee_1 l γ σ q g (nI a) hq hg b1 b2 hx s n hH.1 hH.2.2.1 hH.2.2.2.1 hH.2.1), fin_do hI hH d (keep_guar hR hq (nI g) ha5 (hR.rk.bind hq hg hh)) hm (hR.1.p1 hq).symm⟩
        · exact ⟨2, σ, by decide, h_guarantee_t2 l γ σ σ _ _ _ (t_X4_guarantee_a l γ σ q g w hq hg (inB_f ha)), fin_fail hI (k_X5_guarantee_2 l γ σ q g w hq hg ha) (by decide)⟩
      · exact ⟨1, σ, by decide, h_guarantee_t1 l γ σ σ _ _ _ (t_X4_guarantee_g l γ σ q y w hq hg1 h1), fin_fail hI (k_X5_guarantee_1g l γ σ q y w hq hg1 h2) (by decide)⟩
  · exact ⟨1, σ, by decide, h_guarantee_t1 l γ σ σ _ _ _ (t_X4_guarantee_p l γ σ x y w h1), fin_fail hI (k_X5_guarantee_1 l γ σ x y w h2) (by decide)⟩
theorem s_repay (l : Launch) (γ : gG) {σ : gS} {K : Nat} (hI : INV σ K) (hK : K ≤ 999) (x y w : Int32) : STP l γ σ K yL_repay wsL_repay ({ frames := 9, cells := 1, slots := 6, locals := 265 } : Room) [.ref (ad γ 0), .int x, .int y, .int w, .ref (ad γ 30)] yX5_repay wsX5_repay ({ frames := 2, cells := 0, slots := 0, locals := 42 } : Room) [.ref (ad γ 23), .int x, .int y, .int w] := by
  obtain ⟨hR, ⟨s, n, hH⟩, -⟩ := id hI
  rcases per_c x with ⟨q, hq, rfl⟩ | ⟨h1, h2⟩
  · rcases per_c y with ⟨o, ho, rfl⟩ | ⟨h1, h2⟩
    · rcases inB_c w (nI 1) (nI 99999) with ha | ha
      · obtain ⟨a, ha1, ha5, rfl⟩ := amt2 (by decide) ha
        obtain ⟨b1, b2⟩ := inB_t ha
        have ed := hR.1.d hq ho
        have ep := hR.1.p0 hq
        by_cases hs : σ.1 2 (48 + q * 8 + o) < nI a ∨ σ.1 2 (q * 6 + 0) < nI a
        · exact ⟨3, σ, by decide, h_repay_t3 l γ σ σ _ _ _ (t_X4_repay_s l γ σ q o (nI a) hq ho b1 b2 hs), fin_fail hI (k_X5_repay_3 l γ σ q o (nI a) hq ho ha (by rw [ed, ep]; exact hs)) (by decide)⟩
        · have hd := Int32.not_lt.mp (fun w => hs (Or.inl w))
          have hc := Int32.not_lt.mp (fun w => hs (Or.inr w))
          have hac : a ≤ cs (σ.1 2) q := by
            have h9 := hc
            rw [hR.cash hq] at h9
            have hcl : cs (σ.1 2) q ≤ 99999 * K := Nat.le_trans (sN_le (cs (σ.1 2)) 8 hq) hR.csum
            exact (nI_leI (by omega) (by omega)).mp h9
          obtain ⟨σ1, hσ⟩ : ∃ σ1, outS (sA (svS σ s n) 2 (rpV (σ.1 2) q o (nI a))) (rpV (σ.1 2) q o (nI a) (48 + q * 8 + o)) = σ1 := ⟨_, rfl⟩
          have d := do_ok hH.1 hσ
          have hm := k_X5_repay l γ σ1 q o (nI a) hq ho ha (by rw [d.e24, ed]; exact hd) (by rw [d.e24, ep]; exact hc) n (by rw [d.e23]; exact hH.2.2.2.2.1) hH.2.1
          rw [d.e24] at hm
          exact ⟨0, σ1, by decide, hσ ▸ h_repay_ok l γ σ _ _ _ _ _ (k_X4_repay l γ σ q o (nI a) hq ho b1 b2 hd hc s n hH.1 hH.2.2.1 hH.2.2.2.1 hH.2.1), fin_do hI hH d (keep_repay hR (by omega) hq ho hac) hm ((rz_repay hR.1 hq ho (nI a)).d hq ho).symm⟩
      · exact ⟨2, σ, by decide, h_repay_t2 l γ σ σ _ _ _ (t_X4_repay_a l γ σ q o w hq ho (inB_f ha)), fin_fail hI (k_X5_repay_2 l γ σ q o w hq ho ha) (by decide)⟩
    · exact ⟨1, σ, by decide, h_repay_t1 l γ σ σ _ _ _ (t_X4_repay_o l γ σ q y w hq h1), fin_fail hI (k_X5_repay_1o l γ σ q y w hq h2) (by decide)⟩
  · exact ⟨1, σ, by decide, h_repay_t1 l γ σ σ _ _ _ (t_X4_repay_p l γ σ x y w h1), fin_fail hI (k_X5_repay_1 l γ σ x y w h2) (by decide)⟩
theorem set_c (x : Int32) : (∃ k, k < 3 ∧ x = nI k) ∨ ((x < 0 ∨ nI 3 ≤ x) ∧ inB x (nI 0) (nI 2) = false) := by
  rcases rng 2 (by decide) x with ⟨j, hj, e, -⟩ | ⟨hx, h⟩
  · exact Or.inl ⟨j, by omega, e⟩
  · refine Or.inr ⟨hx.imp id (fun w => ?_), h⟩
    rw [Int32.lt_iff_toInt_lt] at w
    rw [Int32.le_iff_toInt_le]
    rw [show (nI 2).toInt = 2 by decide] at w
    rw [show (nI 3).toInt = 3 by decide]
    omega
theorem mab_eq {k : Nat} (hk : k < 3) (x : Int32) : maB (nI k) x = inB x (nI (stLo k)) (nI (stHi k)) := by
  obtain rfl | rfl | rfl : k = 0 ∨ k = 1 ∨ k = 2 := by omega
  · rfl
  · rfl
  · rfl
theorem s_set (l : Launch) (γ : gG) {σ : gS} {K : Nat} (hI : INV σ K) (hK : K ≤ 999) (x y : Int32) : STP l γ σ K yL_set wsL_set ({ frames := 8, cells := 1, slots := 6, locals := 245 } : Room) [.ref (ad γ 0), .int x, .int y, .ref (ad γ 30)] yX5_set wsX5_set ({ frames := 2, cells := 0, slots := 0, locals := 43 } : Room) [.ref (ad γ 23), .int x, .int y] := by
  obtain ⟨hR, ⟨s, n, hH⟩, -⟩ := id hI
  rcases set_c x with ⟨k, hk, rfl⟩ | ⟨h1, h2⟩
  · have em := mab_eq hk y
    rcases inB_c y (nI (stLo k)) (nI (stHi k)) with ha | ha
    · obtain ⟨b1, b2⟩ := inB_t ha
      have hhi : stHi k ≤ 100 := by unfold stHi; split <;> omega
      have hlo : nI 0 ≤ nI (stLo k) := by unfold stLo; split <;> decide
      obtain ⟨a, ha5, rfl⟩ := nI_of2 (M := nI (stHi k)) (n := stHi k) (nI_toInt (by omega)) (fun q => absurd (Int32.lt_of_le_of_lt (Int32.le_trans hlo b1) q) (by decide)) b2
      obtain ⟨σ1, hσ⟩ : ∃ σ1, outS (sA (svS σ s n) 2 (upd (σ.1 2) (112 + k) (nI a))) (σ.1 2 (112 + k)) = σ1 := ⟨_, rfl⟩
      have d := do_ok hH.1 hσ
      have hm := k_X5_set l γ σ1 k (nI a) hk (em.trans ha) n (by rw [d.e23]; exact hH.2.2.2.2.1) hH.2.1
      rw [d.e24] at hm
      refine ⟨0, σ1, by decide, hσ ▸ h_set_ok l γ σ _ _ _ _ (k_X4_set l γ σ k (nI a) hk b1 b2 s n hH.1 hH.2.2.1 hH.2.2.2.1 hH.2.1), fin_do hI hH d (keep_set hR hk (fun e => by omega) (fun e => ?_) (by omega)) hm (hR.1.s hk).symm⟩
      subst e
      exact ha5
    · exact ⟨2, σ, by decide, h_set_t2 l γ σ σ _ _ (t_X4_set_a l γ σ k y hk (inB_f ha)), fin_fail hI (k_X5_set_2 l γ σ k y hk (em.trans ha)) (by decide)⟩
  · exact ⟨1, σ, by decide, h_set_t1 l γ σ σ _ _ (t_X4_set_p l γ σ x y h1), fin_fail hI (k_X5_set_1 l γ σ x y h2) (by decide)⟩
