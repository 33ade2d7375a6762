/-! THE STEPS: bonds -/
theorem cnt_c {N : Nat} (hN : N ≤ 10) (x : Int32) : (∃ b, b < N ∧ x = nI b) ∨ ((x < 0 ∨ nI N ≤ x) ∧ inB x (nI 0) (nI N - nI 1) = false) := by
  by_cases h0 : N = 0
  · right
    subst h0
    refine ⟨?_, ?_⟩
    · by_cases hx : x < 0
      · exact Or.inl hx
      · exact Or.inr (Int32.not_lt.mp hx)
    · unfold inB
      by_cases hx : nI 0 ≤ x
      · rw [decide_eq_false (show ¬ x ≤ nI 0 - nI 1 from fun w => absurd (Int32.le_trans hx w) (by decide)), Bool.and_false]
      · rw [decide_eq_false hx, Bool.false_and]
  · rw [pk_sub (by omega)]
    rcases rng (N - 1) (by omega) x with ⟨j, hj, e, -⟩ | ⟨hx, h⟩
    · exact Or.inl ⟨j, by omega, e⟩
    · refine Or.inr ⟨hx.imp id (fun w => ?_), h⟩
      refine Int32.not_lt.mp (fun q => ?_)
      have hx0 : ¬ x < 0 := fun q0 => absurd (Int32.lt_trans (Int32.lt_of_le_of_lt (Int32.not_lt.mp (nI_pos (n := N - 1) (by omega))) w) q0) Int32.lt_irrefl
      obtain ⟨j, hj, e⟩ := nI_of2 (M := nI N) (n := N) (nI_toInt (by omega)) hx0 (Int32.le_of_lt q)
      subst e
      have a1 := (nI_ltI (by omega) (by omega)).mp w
      have a2 := (nI_ltI (by omega) (by omega)).mp q
      omega
section BST
variable {v z : Nat → Int32} {K : Nat}
theorem Rel.zn (h : Rel v z K) : z 0 = nI (nB v) := by rw [h.1.n]; exact h.n.1
theorem Rel.zL (h : Rel v z K) {b : Nat} (hb : b < nB v) : z (121 + 31 * b + 3) = nI (lB v b) ∧ lB v b ≤ 4 := by
  have hn := h.n.2
  have hB := h.BH hb
  exact ⟨by rw [h.1.b (by omega) (by decide)]; exact hB.2.2.1, hB.2.2.2.1⟩
theorem Rel.nrun (h : Rel v z K) {b : Nat} (hb : b < nB v) (hr : ¬ v (117 + b * 31 + 9) = nI 1) : v (117 + b * 31 + 9) = nI 0 ∧ ruB z b = false := ⟨(h.run hb).resolve_left hr, by rw [h.runB hb, decide_eq_false hr]⟩
end BST
theorem s_reach (l : Launch) (γ : gG) {σ : gS} {K : Nat} (hI : INV σ K) (hK : K ≤ 999) (x : Int32) : STP l γ σ K yL_reach wsL_reach ({ frames := 8, cells := 1, slots := 6, locals := 245 } : Room) [.ref (ad γ 0), .int x, .ref (ad γ 30)] yX5_reach wsX5_reach ({ frames := 5, cells := 0, slots := 0, locals := 111 } : Room) [.ref (ad γ 23), .int x] := by
  obtain ⟨hR, ⟨s, n, hH⟩, -⟩ := id hI
  have hn := hR.n
  rcases bnd_c hR x with ⟨b, hb, rfl⟩ | ⟨h1, h2⟩
  · have hb10 : b < 10 := by omega
    obtain ⟨zL, hL4⟩ := hR.zL hb
    have hvL : σ.1 2 (117 + b * 31 + 3) = nI (lB (σ.1 2) b) := (hR.BH hb).2.2.1
    by_cases hr : σ.1 2 (117 + b * 31 + 9) = nI 1
    · have h4 := hR.c4 hb
      have h5 := hR.c5 hb
      have z4 := hR.1.b hb10 (k := 4) (by decide)
      have z5 := hR.1.b hb10 (k := 5) (by decide)
      by_cases hk : tN (σ.1 2 (117 + b * 31 + 5)) < tN (σ.1 2 (117 + b * 31 + 4))
      · obtain ⟨k, hk5⟩ : ∃ k, tN (σ.1 2 (117 + b * 31 + 5)) = k := ⟨_, rfl⟩
        rw [hk5] at h5 hk
        obtain ⟨σ1, hσ⟩ : ∃ σ1, outS (sA (svS σ s n) 2 (reV (σ.1 2) b (lB (σ.1 2) b) k)) (reR (σ.1 2) b k) = σ1 := ⟨_, rfl⟩
        have d := do_ok hH.1 hσ
        have e1 := hR.c1 hb
        have em := hR.cm hb (j := k) (by omega)
        have esame := reach_same hR.1 hb10 (k := k) (by omega) e1.1 em.1 e1.2 em.2 (nI (k + 1))
        have hm := k_X5_reach l γ σ1 b (lB (σ.1 2) b) hb10 (by rw [d.e24]; exact zL) hL4 (nB (σ.1 2)) (by rw [d.e24]; exact hR.zn) hn.2 hb (by rw [d.e24, hR.runB hb, decide_eq_true hr]) k _ (by rw [d.e24, z5]; exact h5.1) (by rw [d.e24, z4]; exact h4.1) hk h4.2 n (by rw [d.e23]; exact hH.2.2.2.2.1) hH.2.1
        rw [d.e24, esame] at hm
        exact ⟨0, σ1, by decide, hσ ▸ h_reach_ok l γ σ _ _ _ (k_X4_reach l γ σ b _ hb hn.1 hn.2 _ k _ hr hvL hL4 h5.1 h4.1 h4.2 hk s n hH.1 hH.2.2.1 hH.2.2.2.1 hH.2.1), fin_do hI hH d (keep_reach hR hb hr h5.1 hk) hm rfl⟩
      · have he : tN (σ.1 2 (117 + b * 31 + 5)) = tN (σ.1 2 (117 + b * 31 + 4)) := by omega
        have ev : σ.1 2 (117 + b * 31 + 5) = σ.1 2 (117 + b * 31 + 4) := by rw [h5.1, he, ← h4.1]
        exact ⟨2, σ, by decide, h_reach_t2 l γ σ σ _ (t_X4_reach_s l γ σ b _ hb hn.1 hn.2 hr (by rw [ev]; exact Int32.le_refl _)), fin_fail hI (k_X5_reach_2 l γ σ b _ hb10 zL hL4 _ hR.zn hn.2 hb (Or.inr (by rw [z4, z5, ev]))) (by decide)⟩
    · obtain ⟨g1, g2⟩ := hR.nrun hb hr
      exact ⟨2, σ, by decide, h_reach_t2 l γ σ σ _ (t_X4_reach_r l γ σ b _ hb hn.1 hn.2 g1), fin_fail hI (k_X5_reach_2 l γ σ b _ hb10 zL hL4 _ hR.zn hn.2 hb (Or.inl g2)) (by decide)⟩
  · exact ⟨1, σ, by decide, h_reach_t1 l γ σ σ _ (t_X4_reach_b l γ σ x h1), fin_fail hI (k_X5_reach_1 l γ σ x h2) (by decide)⟩
theorem s_end (l : Launch) (γ : gG) {σ : gS} {K : Nat} (hI : INV σ K) (hK : K ≤ 999) (x : Int32) : STP l γ σ K yL_end wsL_end ({ frames := 8, cells := 1, slots := 6, locals := 243 } : Room) [.ref (ad γ 0), .int x, .ref (ad γ 30)] yX5_end wsX5_end ({ frames := 5, cells := 0, slots := 0, locals := 111 } : Room) [.ref (ad γ 23), .int x] := by
  obtain ⟨hR, ⟨s, n, hH⟩, -⟩ := id hI
  have hn := hR.n
  rcases bnd_c hR x with ⟨b, hb, rfl⟩ | ⟨h1, h2⟩
  · have hb10 : b < 10 := by omega
    obtain ⟨zL, hL4⟩ := hR.zL hb
    have hvL : σ.1 2 (117 + b * 31 + 3) = nI (lB (σ.1 2) b) := (hR.BH hb).2.2.1
    by_cases hr : σ.1 2 (117 + b * 31 + 9) = nI 1
    · obtain ⟨σ1, hσ⟩ : ∃ σ1, outS (sA (svS σ s n) 2 (enV (σ.1 2) b (lB (σ.1 2) b))) (leftOf (σ.1 2) b) = σ1 := ⟨_, rfl⟩
      have d := do_ok hH.1 hσ
      have esame : mn (lfZ (upd (σ.1 24) (121 + 31 * b + 9) (nI 0)) b) (lfZ (upd (σ.1 24) (121 + 31 * b + 9) (nI 0)) b) = leftOf (σ.1 2) b := by
        rw [mn_self, left_z_upd _ (by omega) (by omega) (by omega), hR.1.left hb10]
      have hm := k_X5_end l γ σ1 b (lB (σ.1 2) b) hb10 (by rw [d.e24]; exact zL) hL4 (nB (σ.1 2)) (by rw [d.e24]; exact hR.zn) hn.2 hb (by rw [d.e24, hR.runB hb, decide_eq_true hr]) n (by rw [d.e23]; exact hH.2.2.2.2.1) hH.2.1
      rw [d.e24, esame] at hm
      exact ⟨0, σ1, by decide, hσ ▸ h_end_ok l γ σ _ _ _ (k_X4_end l γ σ b _ hb hn.1 hn.2 _ hr hvL hL4 s n hH.1 hH.2.2.1 hH.2.2.2.1 hH.2.1), fin_do hI hH d (keep_end hR hb) hm rfl⟩
    · obtain ⟨g1, g2⟩ := hR.nrun hb hr
      exact ⟨2, σ, by decide, h_end_t2 l γ σ σ _ (t_X4_end_r l γ σ b _ hb hn.1 hn.2 g1), fin_fail hI (k_X5_end_2 l γ σ b _ hb10 zL hL4 _ hR.zn hn.2 hb g2) (by decide)⟩
  · exact ⟨1, σ, by decide, h_end_t1 l γ σ σ _ (t_X4_end_b l γ σ x h1), fin_fail hI (k_X5_end_1 l γ σ x h2) (by decide)⟩
theorem call_end {σ σ1 : gS} {K s n b A : Nat} (hI : INV σ K) (hK : K ≤ 999) (hH : HI σ s n K) (hb : b < nB (σ.1 2)) (hr : σ.1 2 (117 + b * 31 + 9) = nI 1) (hA : A ≤ 99999)
    (hσ : outS (caS (svS σ s n) b (pB (σ.1 2) b) (lB (σ.1 2) b) (sB (σ.1 2) b) (nI A)) (drT (svS σ s n) b (pB (σ.1 2) b) (lB (σ.1 2) b) (nI A)).1 = σ1) :
    σ1.1 24 = σ.1 24 ∧ σ1.1 23 = σ.1 23 ∧ ∀ sh : Nat → Int32, CH (σ.1 24) b (pB (σ.1 2) b) (lB (σ.1 2) b) (sB (σ.1 2) b) (nI A) ∧ (cnF (σ.1 24) (upd (upd (σ.1 23) 6 (nI 0)) 3 (nI (min 6 (n + 1)))) sh b (pB (σ.1 2) b) (lB (σ.1 2) b) (sB (σ.1 2) b) (nI A) 7 = (drT (svS σ s n) b (pB (σ.1 2) b) (lB (σ.1 2) b) (nI A)).1) ∧
      ∀ sh2 : Nat → Int32, (INV (mW (unM σ1 n (σ.1 24)) (cnZ (σ.1 24) (upd (upd (σ.1 23) 6 (nI 0)) 3 (nI (min 6 (n + 1)))) sh b (pB (σ.1 2) b) (lB (σ.1 2) b) (sB (σ.1 2) b) (nI A)) (cnF (σ.1 24) (upd (upd (σ.1 23) 6 (nI 0)) 3 (nI (min 6 (n + 1)))) sh b (pB (σ.1 2) b) (lB (σ.1 2) b) (sB (σ.1 2) b) (nI A)) sh2) (K + 1)) := by
  obtain ⟨hR, -, ⟨k0, hB⟩⟩ := hI
  subst hσ
  have e24 : (svS σ s n).1 24 = σ.1 24 := svs_o σ s n (by decide) (by have := hH.1; omega)
  have e23 : (svS σ s n).1 23 = σ.1 23 := svs_o σ s n (by decide) (by have := hH.1; omega)
  have e25 : (svS σ s n).1 25 = σ.1 25 := svs_o σ s n (by decide) (by have := hH.1; omega)
  refine ⟨e24, e23, fun sh => ?_⟩
  obtain ⟨g1, ⟨g2, -, -⟩, g3⟩ := keep_call (σ := svS σ s n) hR (by omega) (sv_2 σ s n) hb hr hA (upd (upd (σ.1 23) 6 (nI 0)) 3 (nI (min 6 (n + 1)))) sh
  refine ⟨g1, g2, fun sh2 => INV.save hR hH (s := s) (n := n) g3 ⟨k0, hB.same ?_ ?_ ?_ ?_⟩ rfl (six rfl rfl rfl rfl rfl rfl) ?_ ?_⟩
  · show cnF _ _ _ _ _ _ _ _ 5 = _
    rw [cnF_k (by decide) (by decide) (by decide)]
    rfl
  · exact congrFun (svs_o (o := 11) σ s n (by decide) (by have := hH.1; omega)) 4
  · exact svs_o (o := 12) σ s n (by decide) (by have := hH.1; omega)
  · exact svs_o (o := 27) σ s n (by decide) (by have := hH.1; omega)
  · show cnF _ _ _ _ _ _ _ _ 3 = _
    rw [cnF_k (by decide) (by decide) (by decide)]
    rfl
  · show rwM ((svS σ s n).1 25) ((svS σ s n).1 24) n = _
    rw [e25, e24]
theorem s_call (l : Launch) (γ : gG) {σ : gS} {K : Nat} (hI : INV σ K) (hK : K ≤ 999) (x y w : Int32) : STP l γ σ K yL_call wsL_call ({ frames := 9, cells := 1, slots := 6, locals := 265 } : Room) [.ref (ad γ 0), .int x, .int y, .int w, .ref (ad γ 30)] yX5_call wsX5_call ({ frames := 5, cells := 0, slots := 0, locals := 125 } : Room) [.ref (ad γ 23), .int x, .int y, .int w] := by
  obtain ⟨hR, ⟨s, n, hH⟩, -⟩ := id hI
  have hn := hR.n
  rcases bnd_c hR x with ⟨b, hb, rfl⟩ | ⟨h1, h2⟩
  · have hb10 : b < 10 := by omega
    rcases inB_c y (nI 1) (nI 99999) with ha | ha
    · obtain ⟨b1, b2⟩ := inB_t ha
      rcases inB_c w (nI 0) (nI 9) with hw | hw
      · obtain ⟨w1, w2⟩ := inB_t hw
        obtain ⟨a, ha1, ha5, rfl⟩ := amt2 (by decide) ha
        by_cases hr : σ.1 2 (117 + b * 31 + 9) = nI 1
        · have z6 : σ.1 24 6 = σ.1 2 (112 + 0) := hR.1.s (k := 0) (by decide)
          by_cases hp : w < σ.1 2 (112 + 0)
          · exact ⟨3, σ, by decide, h_call_t3 l γ σ σ _ _ _ (t_X4_call_s l γ σ (nI a) w b _ hb hn.1 hn.2 b1 b2 w1 w2 hr hp), fin_fail hI (k_X5_call_3 l γ σ b (nI a) w hb10 _ hR.zn hn.2 hb ha hw (Or.inr (by rw [z6]; exact hp))) (by decide)⟩
          · have hp' := Int32.not_lt.mp hp
            obtain ⟨σ1, hσ⟩ : ∃ σ1, outS (caS (svS σ s n) b (pB (σ.1 2) b) (lB (σ.1 2) b) (sB (σ.1 2) b) (nI a)) (drT (svS σ s n) b (pB (σ.1 2) b) (lB (σ.1 2) b) (nI a)).1 = σ1 := ⟨_, rfl⟩
            obtain ⟨e24, e23, he⟩ := call_end hI hK hH hb hr ha5 hσ
            obtain ⟨g1, g2, g3⟩ := he (σ1.1 28)
            have hm := k_X5_call l γ σ1 b (pB (σ.1 2) b) (lB (σ.1 2) b) (sB (σ.1 2) b) (nI a) w hb10 (by rw [e24]; exact g1) (nB (σ.1 2)) (by rw [e24]; exact hR.zn) hn.2 hb (by rw [e24, hR.runB hb, decide_eq_true hr]) ha hw (by rw [e24, z6]; exact hp') n (by rw [e23]; exact hH.2.2.2.2.1) hH.2.1
            rw [e24, e23] at hm
            obtain ⟨hB0, hB1, hB2, hB3, hB4⟩ := hR.BH hb
            refine ⟨0, σ1, by decide, hσ ▸ h_call_ok l γ σ _ _ _ _ _ (k_X4_call l γ σ (nI a) w _ b _ _ _ hB0 hB1 hB2 hB3 hB4 hb hn.1 hn.2 hr b1 b2 w1 w2 hp' s n hH.1 hH.2.2.1 hH.2.2.2.1 hH.2.1), _, hm, fun v9 σ9 h9 => ?_⟩
            obtain ⟨rfl, rfl⟩ := h9
            refine ⟨_, rfl, ?_, fun _ => ?_, g3 _⟩
            · show cnF _ _ _ _ _ _ _ _ 6 = _
              rw [cnF_k (by decide) (by decide) (by decide)]
              rfl
            · rw [g2, ← hσ]
              exact out_30 (caS (svS σ s n) b (pB (σ.1 2) b) (lB (σ.1 2) b) (sB (σ.1 2) b) (nI a)) _
        · obtain ⟨g1, g2⟩ := hR.nrun hb hr
          exact ⟨3, σ, by decide, h_call_t3 l γ σ σ _ _ _ (t_X4_call_r l γ σ (nI a) w b _ hb hn.1 hn.2 b1 b2 w1 w2 g1), fin_fail hI (k_X5_call_3 l γ σ b (nI a) w hb10 _ hR.zn hn.2 hb ha hw (Or.inl g2)) (by decide)⟩
      · exact ⟨2, σ, by decide, h_call_t2 l γ σ σ _ _ _ (t_X4_call_w l γ σ y w b _ hb hn.1 hn.2 b1 b2 (inB_f hw)), fin_fail hI (k_X5_call_2 l γ σ b y w _ hR.zn hn.2 hb (Or.inr hw)) (by decide)⟩
    · exact ⟨2, σ, by decide, h_call_t2 l γ σ σ _ _ _ (t_X4_call_a l γ σ y w b _ hb hn.1 hn.2 (inB_f ha)), fin_fail hI (k_X5_call_2 l γ σ b y w _ hR.zn hn.2 hb (Or.inl ha)) (by decide)⟩
  · exact ⟨1, σ, by decide, h_call_t1 l γ σ σ _ _ _ (t_X4_call_b l γ σ x y w h1), fin_fail hI (k_X5_call_1 l γ σ x y w h2) (by decide)⟩
