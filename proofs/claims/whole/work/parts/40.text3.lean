/-! THE TEXT, WHOLE -/
/-- what the buffer says, where it is a bond's text -/
def TX (τ' : gS) (r : Nat → Int32) (K q : Nat) : Prop := MR τ' r K q ∧ (∃ w, w ≤ 1 ∧ τ'.1 11 9 = nI w ∧ r 2 = nI w) ∧ r 3 = nI K ∧ r 4 = nI q ∧ τ'.1 11 10 = nI K ∧ τ'.1 11 11 = nI q ∧ τ'.1 11 5 = nI 8 ∧ 1 ≤ K ∧ K ≤ 4 ∧ 1 ≤ q ∧ q ≤ 5
section TXT3
variable {τ : gS} {m : Nat}
theorem tk_is {nx : Nat → Int32} {p : Nat} {sg : Int32} {r : Nat → Int32} (h : nx p = sg) : tk nx sg p r = (true, p + 1, r) := by unfold tk; rw [if_pos h]
theorem tk_no {nx : Nat → Int32} {p : Nat} {sg : Int32} {r : Nat → Int32} (h : ¬ nx p = sg) : tk nx sg p r = (false, p, r) := by unfold tk; rw [if_neg h]
/-- ahead of the layers -/
theorem isA_rel (hcd : CD (τ.1 12) m) (hm60 : m ≤ 60) (h0 : SS (rdS τ 0) 0 0 0 0) (r : Nat → Int32) :
    ((isA (nxT (τ.1 12) m) r).1 = true ∧ ∃ n3 k', LE τ m (isA (nxT (τ.1 12) m) r).2.1 n3 k' (isA (nxT (τ.1 12) m) r).2.2) ∨ ((isA (nxT (τ.1 12) m) r).1 = false ∧ Fl τ m (isA (nxT (τ.1 12) m) r).2.1) := by
  have hA0 : At τ m 0 := ⟨Nat.zero_le _, rfl⟩
  rcases tk_rel (sg := 112) (w' := 1) (r := r) hA0 h0 (by decide) (by decide) (by decide) ⟨by decide, by decide⟩ rfl with ⟨-, e1, h1, d1⟩ | ⟨e1, e1', hF⟩
  · have s1 : SS (rdS τ (0 + 1)) 1 0 0 0 := by
      rw [d1]
      exact ⟨by rw [sP_at, if_pos rfl], by rw [sP_at, if_neg (by decide)]; exact h0.2.1, by rw [sP_at, if_neg (by decide)]; exact h0.2.2.1, by rw [sP_at, if_neg (by decide)]; exact h0.2.2.2⟩
    rcases dg_rel (slot := 0) (r := r) (σ' := fun x => sP (sP (rdS τ (0 + 1)) 7 x) 5 (nI 2)) hcd h1 s1 (by decide) (by decide) (by decide) (fun c => rfl) with ⟨y, hy, e2, h2, d2⟩ | ⟨e2, e2', hF⟩
    · have s2 : SS (rdS τ (0 + 1 + 1)) 2 0 0 0 := by
        rw [d2]
        exact ⟨by rw [sP_at, if_pos rfl], by rw [sP_at, if_neg (by decide), sP_at, if_neg (by decide)]; exact s1.2.1, by rw [sP_at, if_neg (by decide), sP_at, if_neg (by decide)]; exact s1.2.2.1, by rw [sP_at, if_neg (by decide), sP_at, if_neg (by decide)]; exact s1.2.2.2⟩
      rcases tk_rel (sg := 115) (w' := 3) (r := upd r 0 (nI y)) h2 s2 (by decide) (by decide) (by decide) ⟨by decide, by decide⟩ rfl with ⟨-, e3, h3, d3⟩ | ⟨e3, e3', hF⟩
      · have s3 : SS (rdS τ (0 + 1 + 1 + 1)) 3 0 0 0 := by
          rw [d3]
          exact ⟨by rw [sP_at, if_pos rfl], by rw [sP_at, if_neg (by decide)]; exact s2.2.1, by rw [sP_at, if_neg (by decide)]; exact s2.2.2.1, by rw [sP_at, if_neg (by decide)]; exact s2.2.2.2⟩
        have hp3 := h3.1
        obtain ⟨p4, n4, g1, g2, h4, s4, hn4, hSm, hx⟩ := nu_rel (most := 99999) (g := fun τ' c => aSum τ' c) hcd hm60 (by decide) (by decide) (by decide) (Nat.le_refl _) (fun τ' c => rfl) (61 - (0 + 1 + 1 + 1)) (0 + 1 + 1 + 1) 0 h3 (by omega) s3 (by decide)
        obtain ⟨R4, hR4⟩ : ∃ R4, upd (upd r 0 (nI y)) 1 (nI n4) = R4 := ⟨_, rfl⟩
        have e4 := nu_eq g1 (by omega) hR4
        obtain ⟨q1, q2⟩ := end_sum (r := R4) h4 s4 (by decide) (by decide) hn4 hx
        have hhead : isA (nxT (τ.1 12) m) r = tb (nu (nxT (τ.1 12) m) 1 (nI 99999) (0 + 1 + 1 + 1) (upd r 0 (nI y))) fun p r => tb (tk (nxT (τ.1 12) m) (nI 58) p r) fun p r => ly (nxT (τ.1 12) m) p r := by
          unfold isA
          rw [e1, tb_t rfl]
          dsimp only
          rw [e2, tb_t rfl]
          dsimp only
          rw [e3, tb_t rfl]
        by_cases hn0 : n4 = 0
        · refine Or.inr ?_
          rw [hhead, e4, tb_f (by dsimp only; rw [hn0]; rfl)]
          exact ⟨by dsimp only; rw [hn0]; rfl, q1 hn0⟩
        · have et : decide (0 < n4) = true := decide_eq_true (by omega)
          rcases q2 (by omega) with ⟨e5, h5, d5⟩ | ⟨e5, e5', hF⟩
          · have s5 : SS (rdS τ (p4 + 1)) 4 0 0 0 := by
              rw [d5]
              exact ⟨by rw [sP_at, if_pos rfl], by rw [sP_at, if_neg (by decide), sP_at, if_neg (by decide), sP_at, if_pos rfl], by rw [sP_at, if_neg (by decide), sP_at, if_neg (by decide), sP_at, if_neg (by decide)]; exact s4.2.2.1, by rw [sP_at, if_neg (by decide), sP_at, if_neg (by decide), sP_at, if_neg (by decide)]; exact s4.2.2.2⟩
            have h7 : (rdS τ p4).1 11 7 = nI y := by rw [hSm.1 7 (by decide), d3, sP_at, if_neg (by decide), d2, sP_at, if_neg (by decide), sP_at, if_pos rfl]
            have hM : MR (rdS τ (p4 + 1)) (upd R4 3 (nI 0)) 0 0 := by
              refine ⟨⟨y, hy, ?_, ?_⟩, ⟨n4, by omega, hn4, ?_, ?_⟩, fun i hi => absurd hi (Nat.not_lt_zero _), fun j hj => absurd hj (Nat.not_lt_zero _)⟩
              · rw [d5, sP_at, if_neg (by decide), sP_at, if_neg (by decide), sP_at, if_neg (by decide)]; exact h7
              · rw [pk_un (by decide), ← hR4, pk_un (by decide), pk_us]
              · rw [d5, sP_at, if_neg (by decide), sP_at, if_pos rfl]
              · rw [pk_un (by decide), ← hR4, pk_us]
            have e6 : isA (nxT (τ.1 12) m) r = lyI (nxT (τ.1 12) m) 4 0 (p4 + 1) (upd R4 3 (nI 0)) := by
              rw [hhead, e4, tb_t et]
              dsimp only
              rw [e5, tb_t rfl]
              rfl
            rw [e6]
            exact ly_rel hcd hm60 4 0 (p4 + 1) (upd R4 3 (nI 0)) rfl (by decide) h5 s5 hM pk_us
          · refine Or.inr ?_
            have e6 : isA (nxT (τ.1 12) m) r = tk (nxT (τ.1 12) m) (nI 58) p4 R4 := by
              rw [hhead, e4, tb_t et]
              dsimp only
              rw [tb_f e5]
            rw [e6]
            exact ⟨e5, by rw [e5']; exact hF⟩
      · refine Or.inr ?_
        have e6 : isA (nxT (τ.1 12) m) r = tk (nxT (τ.1 12) m) (nI 115) (0 + 1 + 1) (upd r 0 (nI y)) := by
          unfold isA
          rw [e1, tb_t rfl]
          dsimp only
          rw [e2, tb_t rfl]
          dsimp only
          rw [tb_f e3]
        rw [e6]
        exact ⟨e3, by rw [e3']; exact hF⟩
    · refine Or.inr ?_
      have e6 : isA (nxT (τ.1 12) m) r = dg (nxT (τ.1 12) m) 0 (0 + 1) r := by
        unfold isA
        rw [e1, tb_t rfl]
        dsimp only
        rw [tb_f e2]
      rw [e6]
      exact ⟨e2, by rw [e2']; exact hF⟩
  · refine Or.inr ?_
    have e6 : isA (nxT (τ.1 12) m) r = tk (nxT (τ.1 12) m) (nI 112) 0 r := by unfold isA; rw [tb_f e1]
    rw [e6]
    exact ⟨e1, by rw [e1']; exact hF⟩
theorem Fl.of_tb {p : Nat} (h : Fl τ m p) : readI τ m 0 = p ∧ (p < m ∨ ¬ (rdS τ m).1 11 5 = nI 8) := by
  refine ⟨h.1, ?_⟩
  rcases h.2.2 with q | q
  · exact Or.inl q
  · by_cases hp : p < m
    · exact Or.inl hp
    · rw [show p = m by have := h.2.1; omega] at q
      exact Or.inr q
/-- the whole text: where it errs, or what it says -/
theorem text_rel (hcd : CD (τ.1 12) m) (hm60 : m ≤ 60) (h0 : SS (rdS τ 0) 0 0 0 0) (r : Nat → Int32) :
    ((isT (nxT (τ.1 12) m) m r).1 = true ∧ readI τ m 0 = m ∧ ∃ K q, TX (rdS τ m) (isT (nxT (τ.1 12) m) m r).2.2 K q) ∨
    ((isT (nxT (τ.1 12) m) m r).1 = false ∧ readI τ m 0 = (isT (nxT (τ.1 12) m) m r).2.1 ∧ ((isT (nxT (τ.1 12) m) m r).2.1 < m ∨ ¬ (rdS τ m).1 11 5 = nI 8)) := by
  rcases isA_rel hcd hm60 h0 r with ⟨eA, n3, k, hL⟩ | ⟨eA, hF⟩
  · obtain ⟨t, ht⟩ : ∃ t, isA (nxT (τ.1 12) m) r = t := ⟨_, rfl⟩
    rw [ht] at eA hL
    obtain ⟨b, p, R⟩ := t
    dsimp only at eA hL
    subst eA
    obtain ⟨hAt, hs, hk4, hn1, hn5, hx, hno, hM, ⟨y, hy, hs13, hRs⟩, hRl, hR3⟩ := hL
    have hnz : ¬ nI n3 = 0 := fun e => by have := (nI_n0 (by omega)).mp e; omega
    by_cases hc : nxT (τ.1 12) m p = nI 64
    · have hp : p < m := by
        by_cases hp : p < m
        · exact hp
        · rw [nx_ge hp] at hc; exact absurd hc (by decide)
      have hc2 := hc
      rw [nx_lt hp] at hc2
      have hne : ¬ (τ.1 12 p = nI 43 ∧ k + 1 < 4) := fun e => by rw [hc2] at e; exact absurd e.1 (by decide)
      have e : accS (rdS τ p) (τ.1 12 p) 6 k 0 = (true, sP (sP (sA (sP (rdS τ p) 6 (nI 0)) 14 (upd ((rdS τ p).1 14) k (nI n3))) 10 (nI (k + 1))) 5 (nI 7)) := by
        rw [acc6 (hx hp)]
        unfold aLim
        rw [hs.2.1, if_pos ⟨hnz, hk4, Or.inr hc2⟩, if_neg hne]
      obtain ⟨h4, d4⟩ := hAt.step hp hs (by decide) (by omega) (by decide) (by rw [e])
      rw [e] at d4
      have s4 : SS (rdS τ (p + 1)) 7 0 (k + 1) 0 := by
        rw [d4]
        exact ⟨by rw [sP_at, if_pos rfl], by rw [sP_at, if_neg (by decide), sP_at, if_neg (by decide), sA_ne _ _ (by decide), sP_at, if_pos rfl], by rw [sP_at, if_neg (by decide), sP_at, if_pos rfl], by rw [sP_at, if_neg (by decide), sP_at, if_neg (by decide), sA_ne _ _ (by decide), sP_at, if_neg (by decide)]; exact hs.2.2.2⟩
      have hM4 : MR (rdS τ (p + 1)) (upd R 4 (nI 0)) (k + 1) 0 := by
        rw [d4]
        obtain ⟨a9, b9, c9, d9⟩ := hM
        refine ⟨?_, ?_, fun i hi => ?_, fun j hj => absurd hj (Nat.not_lt_zero _)⟩
        · rw [sP_at, if_neg (by decide), sP_at, if_neg (by decide), sA_ne _ _ (by decide), sP_at, if_neg (by decide), pk_un (by decide)]; exact a9
        · rw [sP_at, if_neg (by decide), sP_at, if_neg (by decide), sA_ne _ _ (by decide), sP_at, if_neg (by decide), pk_un (by decide)]; exact b9
        · rw [sP_ne _ _ _ (by decide), sP_ne _ _ _ (by decide), sA_ne _ _ (by decide), sP_ne _ _ _ (by decide), sP_ne _ _ _ (by decide), sP_ne _ _ _ (by decide), sA_eq, show upd R 4 (nI 0) (15 + 4 * i) = R (15 + 4 * i) from pk_un (by omega), show upd R 4 (nI 0) (15 + 4 * i + 1) = R (15 + 4 * i + 1) from pk_un (by omega)]
          by_cases hik : i = k
          · subst hik
            rw [pk_us, hs13, hRs, hRl]
            exact ⟨⟨y, hy, rfl, rfl⟩, n3, hn1, hn5, rfl, rfl⟩
          · rw [pk_un hik]
            exact c9 i (by omega)
      have hme := me_rel (K := k + 1) hcd hm60 (by omega) 5 0 (p + 1) (upd R 4 (nI 0)) rfl (by decide) h4 s4 hM4 pk_us (by rw [pk_un (by decide)]; exact hR3)
      have hhead : isT (nxT (τ.1 12) m) m r = tb (meI (nxT (τ.1 12) m) 5 0 (p + 1) (upd R 4 (nI 0))) fun p r => tb (wy (nxT (τ.1 12) m) p r) fun p r => (decide (p = m), p, r) := by
        unfold isT
        rw [ht, tb_t rfl]
        dsimp only
        rw [tk_is hc, tb_t rfl]
        rfl
      rw [hhead]
      obtain ⟨u, hu⟩ : ∃ u, meI (nxT (τ.1 12) m) 5 0 (p + 1) (upd R 4 (nI 0)) = u := ⟨_, rfl⟩
      rw [hu] at hme ⊢
      obtain ⟨b5, p5, R5⟩ := u
      rcases hme with ⟨eM, n5, q, hE⟩ | ⟨eM, hF⟩
      · dsimp only at eM hE
        subst eM
        rw [tb_t rfl]
        dsimp only
        obtain ⟨hAt5, hs5, hq5, hn51, hn53, hx5, hno5, hM5, hR10, hR4, hR33⟩ := hE
        have hnz5 : ¬ nI n5 = 0 := fun e => by have := (nI_n0 (by omega)).mp e; omega
        -- the way
        have fin : ∀ (w : Nat) (ch : Nat), w ≤ 1 → ((w = 0 ∧ ch = 108) ∨ (w = 1 ∧ ch = 101)) → nxT (τ.1 12) m p5 = nI ch → At τ m (p5 + 1) ∧ ∃ q', TX (rdS τ (p5 + 1)) (upd R5 2 (nI w)) (k + 1) q' := by
          intro w ch hw hwc hc5
          have hp5 : p5 < m := by
            by_cases hp : p5 < m
            · exact hp
            · rw [nx_ge hp] at hc5
              rcases hwc with ⟨-, rfl⟩ | ⟨-, rfl⟩ <;> exact absurd hc5 (by decide)
          rw [nx_lt hp5] at hc5
          have hor : τ.1 12 p5 = nI 108 ∨ τ.1 12 p5 = nI 101 := by
            rcases hwc with ⟨-, rfl⟩ | ⟨-, rfl⟩
            · exact Or.inl hc5
            · exact Or.inr hc5
          have hwy : (if τ.1 12 p5 = nI 101 then nI 1 else nI 0) = nI w := by
            rcases hwc with ⟨rfl, rfl⟩ | ⟨rfl, rfl⟩
            · rw [if_neg (by rw [hc5]; decide)]
            · rw [if_pos hc5]
          have e5 : accS (rdS τ p5) (τ.1 12 p5) 7 (k + 1) q = (true, sP (sP (sP (sA (sP (rdS τ p5) 6 (nI 0)) 15 (upd ((rdS τ p5).1 15) q (nI n5))) 11 (nI (q + 1))) 9 (nI w)) 5 (nI 8)) := by
            rw [acc7 (hx5 hp5)]
            unfold aShr
            rw [hs5.2.1, if_pos ⟨hnz5, hq5, Or.inr hor⟩, if_pos hor, hwy]
          obtain ⟨h6, d6⟩ := hAt5.step hp5 hs5 (by decide) (by omega) (by omega) (by rw [e5])
          rw [e5] at d6
          refine ⟨h6, q + 1, ?_, ⟨w, hw, ?_, pk_us⟩, ?_, ?_, ?_, ?_, ?_, by omega, by omega, by omega, by omega⟩
          · rw [d6]
            obtain ⟨a9, b9, c9, d9⟩ := hM5
            refine ⟨?_, ?_, fun i hi => ?_, fun j hj => ?_⟩
            · rw [sP_at, if_neg (by decide), sP_at, if_neg (by decide), sP_at, if_neg (by decide), sA_ne _ _ (by decide), sP_at, if_neg (by decide), pk_un (by decide)]; exact a9
            · rw [sP_at, if_neg (by decide), sP_at, if_neg (by decide), sP_at, if_neg (by decide), sA_ne _ _ (by decide), sP_at, if_neg (by decide), pk_un (by decide)]; exact b9
            · rw [sP_ne _ _ _ (by decide), sP_ne _ _ _ (by decide), sP_ne _ _ _ (by decide), sA_ne _ _ (by decide), sP_ne _ _ _ (by decide), sP_ne _ _ _ (by decide), sP_ne _ _ _ (by decide), sP_ne _ _ _ (by decide), sA_ne _ _ (by decide), sP_ne _ _ _ (by decide), show upd R5 2 (nI w) (15 + 4 * i) = R5 (15 + 4 * i) from pk_un (by omega), show upd R5 2 (nI w) (15 + 4 * i + 1) = R5 (15 + 4 * i + 1) from pk_un (by omega)]; exact c9 i hi
            · rw [sP_ne _ _ _ (by decide), sP_ne _ _ _ (by decide), sP_ne _ _ _ (by decide), sA_eq, show upd R5 2 (nI w) (10 + j) = R5 (10 + j) from pk_un (by omega)]
              by_cases hjq : j = q
              · subst hjq
                rw [pk_us, hR10]
                exact ⟨n5, hn51, hn53, rfl, rfl⟩
              · rw [pk_un hjq]
                exact d9 j (by omega)
          · rw [d6, sP_at, if_neg (by decide), sP_at, if_pos rfl]
          · rw [pk_un (by decide)]; exact hR33
          · rw [pk_un (by decide)]; exact hR4
          · rw [d6, sP_at, if_neg (by decide), sP_at, if_neg (by decide), sP_at, if_neg (by decide), sA_ne _ _ (by decide), sP_at, if_neg (by decide)]; exact hs5.2.2.1
          · rw [d6, sP_at, if_neg (by decide), sP_at, if_neg (by decide), sP_at, if_pos rfl]
          · rw [d6, sP_at, if_pos rfl]
        have last : ∀ (w : Nat), At τ m (p5 + 1) → (∃ q', TX (rdS τ (p5 + 1)) (upd R5 2 (nI w)) (k + 1) q') → wy (nxT (τ.1 12) m) p5 R5 = (true, p5 + 1, upd R5 2 (nI w)) →
            ((tb (wy (nxT (τ.1 12) m) p5 R5) fun p r => (decide (p = m), p, r)).1 = true ∧ readI τ m 0 = m ∧ ∃ K q, TX (rdS τ m) (tb (wy (nxT (τ.1 12) m) p5 R5) fun p r => (decide (p = m), p, r)).2.2 K q) ∨
            ((tb (wy (nxT (τ.1 12) m) p5 R5) fun p r => (decide (p = m), p, r)).1 = false ∧ readI τ m 0 = (tb (wy (nxT (τ.1 12) m) p5 R5) fun p r => (decide (p = m), p, r)).2.1 ∧ ((tb (wy (nxT (τ.1 12) m) p5 R5) fun p r => (decide (p = m), p, r)).2.1 < m ∨ ¬ (rdS τ m).1 11 5 = nI 8)) := by
          intro w hA6 hT6 hwy6
          rw [hwy6, tb_t rfl]
          dsimp only
          by_cases hpm : p5 + 1 = m
          · refine Or.inl ⟨decide_eq_true hpm, ?_, ?_⟩
            · have := hA6.2
              rw [hpm, Nat.sub_self] at this
              exact this
            · obtain ⟨q', hT6⟩ := hT6
              rw [hpm] at hT6
              exact ⟨k + 1, q', hT6⟩
          · have hlt : p5 + 1 < m := by have := hA6.1; omega
            refine Or.inr ⟨decide_eq_false hpm, ?_, Or.inl hlt⟩
            obtain ⟨q', hT6⟩ := hT6
            rw [hA6.2]
            exact readI_f hT6.2.2.2.2.2.2.1 (by decide) hT6.2.2.2.2.1 hT6.2.2.2.2.2.2.2.2.1 hT6.2.2.2.2.2.1 hT6.2.2.2.2.2.2.2.2.2.2 (by omega) rfl
        by_cases c1 : nxT (τ.1 12) m p5 = nI 108
        · obtain ⟨hA6, hT6⟩ := fin 0 108 (by decide) (Or.inl ⟨rfl, rfl⟩) c1
          refine last 0 hA6 hT6 ?_
          unfold wy
          rw [tk_is c1, if_pos rfl]
        · by_cases c2 : nxT (τ.1 12) m p5 = nI 101
          · obtain ⟨hA6, hT6⟩ := fin 1 101 (by decide) (Or.inr ⟨rfl, rfl⟩) c2
            refine last 1 hA6 hT6 ?_
            unfold wy
            rw [tk_no c1, if_neg (fun e => Bool.noConfusion e), tk_is c2]
          · have hF : Fl τ m p5 := hAt5.stop hs5 (by decide) (by omega) (by omega) (fun hp5 => by
              rw [acc7 (hx5 hp5)]
              unfold aShr
              rw [nx_lt hp5] at c1 c2
              rw [if_neg (fun e => e.2.2.elim (fun w => hno5 w.2 (by rw [nx_lt hp5]; exact w.1)) (fun w => w.elim c1 c2))])
            have hwy6 : wy (nxT (τ.1 12) m) p5 R5 = (false, p5, upd R5 2 (nI 1)) := by
              unfold wy
              rw [tk_no c1, if_neg (fun e => Bool.noConfusion e), tk_no c2]
            rw [hwy6, tb_f rfl]
            exact Or.inr ⟨rfl, hF.of_tb⟩
      · dsimp only at eM hF
        subst eM
        rw [tb_f rfl]
        exact Or.inr ⟨rfl, hF.of_tb⟩
    · have hF : Fl τ m p := hAt.stop hs (by decide) (by omega) (by decide) (fun hp => by
        rw [acc6 (hx hp)]
        unfold aLim
        rw [nx_lt hp] at hc
        rw [if_neg (fun e => e.2.2.elim (fun w => hno w.2 (by rw [nx_lt hp]; exact w.1)) hc)])
      have hhead : isT (nxT (τ.1 12) m) m r = (false, p, R) := by
        unfold isT
        rw [ht, tb_t rfl]
        dsimp only
        rw [tk_no hc, tb_f rfl]
      rw [hhead]
      exact Or.inr ⟨rfl, hF.of_tb⟩
  · have hhead : isT (nxT (τ.1 12) m) m r = isA (nxT (τ.1 12) m) r := by unfold isT; rw [tb_f eA]
    rw [hhead]
    exact Or.inr ⟨eA, hF.of_tb⟩
end TXT3
