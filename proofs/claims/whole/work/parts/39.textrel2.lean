/-! THE TEXT: layers, milestones, way -/
def MR (τ' : gS) (r : Nat → Int32) (k q : Nat) : Prop :=
  (∃ y, y < 8 ∧ τ'.1 11 7 = nI y ∧ r 0 = nI y) ∧ (∃ s, 1 ≤ s ∧ s ≤ 99999 ∧ τ'.1 11 8 = nI s ∧ r 1 = nI s) ∧
  (∀ i, i < k → (∃ y, y < 8 ∧ τ'.1 13 i = nI y ∧ r (15 + 4 * i) = nI y) ∧ ∃ l, 1 ≤ l ∧ l ≤ 99999 ∧ τ'.1 14 i = nI l ∧ r (15 + 4 * i + 1) = nI l) ∧
  ∀ j, j < q → ∃ s, 1 ≤ s ∧ s ≤ 1000 ∧ τ'.1 15 j = nI s ∧ r (10 + j) = nI s
theorem MR.congr {τ1 τ2 : gS} {r1 r2 : Nat → Int32} {k q : Nat} (h : MR τ1 r1 k q) (h7 : τ2.1 11 7 = τ1.1 11 7) (h8 : τ2.1 11 8 = τ1.1 11 8) (h13 : ∀ i, i < k → τ2.1 13 i = τ1.1 13 i) (h14 : ∀ i, i < k → τ2.1 14 i = τ1.1 14 i) (h15 : ∀ j, j < q → τ2.1 15 j = τ1.1 15 j)
    (r0 : r2 0 = r1 0) (r1' : r2 1 = r1 1) (rl : ∀ i, i < k → r2 (15 + 4 * i) = r1 (15 + 4 * i) ∧ r2 (15 + 4 * i + 1) = r1 (15 + 4 * i + 1)) (rm : ∀ j, j < q → r2 (10 + j) = r1 (10 + j)) : MR τ2 r2 k q := by
  obtain ⟨a, b, c, d⟩ := h
  refine ⟨?_, ?_, fun i hi => ?_, fun j hj => ?_⟩
  · rw [h7, r0]; exact a
  · rw [h8, r1']; exact b
  · rw [h13 i hi, h14 i hi, (rl i hi).1, (rl i hi).2]; exact c i hi
  · rw [h15 j hj, rm j hj]; exact d j hj
section TXT2
variable {τ : gS} {m p w nv k q : Nat}
theorem nI_n0 {n : Nat} (h : n < 2 ^ 31) : (nI n = 0) ↔ n = 0 := by
  rw [show (0 : Int32) = nI 0 from rfl]
  exact nI_eq h (by decide)
theorem nu_ok {n : Nat} (h : n < 2 ^ 31) : (!decide (nI n ≤ 0)) = decide (0 < n) := by
  by_cases h0 : n = 0
  · subst h0; rfl
  · rw [decide_eq_false (nI_nle (by omega) h), decide_eq_true (show 0 < n by omega)]; rfl
/-- behind a number: not ended by its sign -/
theorem end_sum {r : Nat → Int32} (h : At τ m p) (hs : SS (rdS τ p) 3 nv k q) (hk : k ≤ 4) (hq : q ≤ 5) (hnv : nv ≤ 99999) (hx : p < m → (aExt (rdS τ p) (τ.1 12 p) (nI 99999)).1 = false) :
    (nv = 0 → Fl τ m p) ∧ (0 < nv → (tk (nxT (τ.1 12) m) (nI 58) p r = (true, p + 1, r) ∧ At τ m (p + 1) ∧ rdS τ (p + 1) = sP (sP (sP (rdS τ p) 6 (nI 0)) 8 (nI nv)) 5 (nI 4)) ∨ ((tk (nxT (τ.1 12) m) (nI 58) p r).1 = false ∧ (tk (nxT (τ.1 12) m) (nI 58) p r).2.1 = p ∧ Fl τ m p)) := by
  have hacc : p < m → accS (rdS τ p) (τ.1 12 p) 3 k q = aSum (rdS τ p) (τ.1 12 p) := fun hp => by
    show orB (aExt (rdS τ p) (τ.1 12 p) (nI 99999)) (aSum (rdS τ p) (τ.1 12 p)) = _
    unfold orB
    rw [if_neg (by rw [hx hp]; decide)]
  refine ⟨fun h0 => h.stop hs (by decide) hk hq (fun hp => ?_), fun h0 => ?_⟩
  · rw [hacc hp]
    unfold aSum
    rw [hs.2.1, if_neg (fun e => e.1 (by rw [h0]; rfl))]
  · by_cases hc : nxT (τ.1 12) m p = nI 58
    · have hp : p < m := by
        by_cases hp : p < m
        · exact hp
        · rw [nx_ge hp] at hc; exact absurd hc (by decide)
      rw [nx_lt hp] at hc
      have e : accS (rdS τ p) (τ.1 12 p) 3 k q = (true, sP (sP (sP (rdS τ p) 6 (nI 0)) 8 (nI nv)) 5 (nI 4)) := by
        rw [hacc hp]
        unfold aSum
        rw [hs.2.1, if_pos ⟨fun e => by have := (nI_n0 (by omega)).mp e; omega, hc⟩]
      have := h.step hp hs (by decide) hk hq (by rw [e])
      rw [e] at this
      refine Or.inl ⟨?_, this.1, this.2⟩
      unfold tk
      rw [nx_lt hp, if_pos hc]
    · refine Or.inr ⟨?_, ?_, h.stop hs (by decide) hk hq (fun hp => ?_)⟩
      · unfold tk; rw [if_neg hc]
      · unfold tk; rw [if_neg hc]
      · rw [hacc hp]
        unfold aSum
        rw [nx_lt hp] at hc
        rw [if_neg (fun e => hc e.2)]
/-- behind the layers: in a limit that may be ended -/
def LE (τ : gS) (m p nu k : Nat) (r : Nat → Int32) : Prop :=
  At τ m p ∧ SS (rdS τ p) 6 nu k 0 ∧ k < 4 ∧ 1 ≤ nu ∧ nu ≤ 99999 ∧ (p < m → (aExt (rdS τ p) (τ.1 12 p) (nI 99999)).1 = false) ∧ (k + 1 < 4 → ¬ nxT (τ.1 12) m p = nI 43) ∧ MR (rdS τ p) r k 0 ∧ (∃ y, y < 8 ∧ (rdS τ p).1 13 k = nI y ∧ r (15 + 4 * k) = nI y) ∧ r (15 + 4 * k + 1) = nI nu ∧ r 3 = nI (k + 1)
theorem acc6 {τ' : gS} {c : Int32} {k q : Nat} (hx : (aExt τ' c (nI 99999)).1 = false) : accS τ' c 6 k q = aLim τ' c k := by
  show orB (aExt τ' c (nI 99999)) (aLim τ' c k) = _
  unfold orB
  rw [if_neg (by rw [hx]; decide)]
theorem acc7 {τ' : gS} {c : Int32} {k q : Nat} (hx : (aExt τ' c (nI 1000)).1 = false) : accS τ' c 7 k q = aShr τ' c q := by
  show orB (aExt τ' c (nI 1000)) (aShr τ' c q) = _
  unfold orB
  rw [if_neg (by rw [hx]; decide)]
theorem ne_43_64 : ¬ nI 43 = nI 64 := by decide
theorem nu_eq {nx : Nat → Int32} {slot p p3 n3 : Nat} {most : Int32} {r R3 : Nat → Int32} (g1 : nuI nx most (61 - p) p (nI 0) = (p3, nI n3)) (hn : n3 < 2 ^ 31) (hR : upd r slot (nI n3) = R3) : nu nx slot most p r = (decide (0 < n3), p3, R3) := by
  show (!decide ((nuI nx most (61 - p) p (nI 0)).2 ≤ 0), (nuI nx most (61 - p) p (nI 0)).1, upd r slot (nuI nx most (61 - p) p (nI 0)).2) = _
  rw [g1, nu_ok hn, hR]
theorem ly_rel (hcd : CD (τ.1 12) m) (hm60 : m ≤ 60) : ∀ (f k p : Nat) (r : Nat → Int32), f + k = 4 → k < 4 → At τ m p → SS (rdS τ p) 4 0 k 0 → MR (rdS τ p) r k 0 → r 3 = nI k →
    (((lyI (nxT (τ.1 12) m) f k p r).1 = true ∧ ∃ n3 k', LE τ m (lyI (nxT (τ.1 12) m) f k p r).2.1 n3 k' (lyI (nxT (τ.1 12) m) f k p r).2.2) ∨ ((lyI (nxT (τ.1 12) m) f k p r).1 = false ∧ Fl τ m (lyI (nxT (τ.1 12) m) f k p r).2.1))
  | 0, _, _, _, hf, hk, _, _, _, _ => by omega
  | f + 1, k, p, r, hf, hk, h, hs, hM, hr3 => by
    -- the digit
    rcases dg_rel (slot := 15 + 4 * k) (r := r) (σ' := fun x => sP (sA (rdS τ p) 13 (upd ((rdS τ p).1 13) k x)) 5 (nI 5)) hcd h hs (by decide) (by omega) (by decide) (fun c => by
        show aSure (rdS τ p) c k = _
        unfold aSure
        by_cases hi : isPb (c - nI 48) = true
        · rw [if_pos ⟨hi, hk⟩, if_pos hi]
        · rw [if_neg (fun e => hi e.1), if_neg hi]) with ⟨y, hy, e1, h1, hd1⟩ | ⟨e1, e1', hF⟩
    · -- the star
      have hs1 : SS (rdS τ (p + 1)) 5 0 k 0 := by
        rw [hd1]
        exact ⟨by rw [sP_at, if_pos rfl], by rw [sP_at, if_neg (by decide), sA_ne _ _ (by decide)]; exact hs.2.1, by rw [sP_at, if_neg (by decide), sA_ne _ _ (by decide)]; exact hs.2.2.1, by rw [sP_at, if_neg (by decide), sA_ne _ _ (by decide)]; exact hs.2.2.2⟩
      rcases tk_rel (sg := 42) (w' := 6) (r := upd r (15 + 4 * k) (nI y)) h1 hs1 (by decide) (by omega) (by decide) ⟨by decide, by decide⟩ rfl with ⟨-, e2, h2, hd2⟩ | ⟨e2, e2', hF⟩
      · -- the limit
        have hs2 : SS (rdS τ (p + 1 + 1)) 6 0 k 0 := by
          rw [hd2]
          exact ⟨by rw [sP_at, if_pos rfl], by rw [sP_at, if_neg (by decide)]; exact hs1.2.1, by rw [sP_at, if_neg (by decide)]; exact hs1.2.2.1, by rw [sP_at, if_neg (by decide)]; exact hs1.2.2.2⟩
        have hp60 := h2.1
        obtain ⟨p3, n3, g1, g2, h3, hs3, hnu, hSm, hx⟩ := nu_rel (most := 99999) (g := fun τ' c => aLim τ' c k) hcd hm60 (by decide) (by omega) (by decide) (Nat.le_refl _) (fun τ' c => rfl) (61 - (p + 1 + 1)) (p + 1 + 1) 0 h2 (by omega) hs2 (by decide)
        obtain ⟨R3, hR3⟩ : ∃ R3, upd (upd r (15 + 4 * k) (nI y)) (15 + 4 * k + 1) (nI n3) = R3 := ⟨_, rfl⟩
        have e3 := nu_eq g1 (by omega) hR3
        have eS : lyS (nxT (τ.1 12) m) k p r = (decide (0 < n3), p3, R3) := by
          unfold lyS
          rw [e1, tb_t rfl]
          dsimp only
          rw [e2, tb_t rfl]
          exact e3
        have hRk : ∀ j, j ≠ 15 + 4 * k → j ≠ 15 + 4 * k + 1 → R3 j = r j := fun j q1 q2 => by rw [← hR3, pk_un q2, pk_un q1]
        have hRl : R3 (15 + 4 * k + 1) = nI n3 := by rw [← hR3, pk_us]
        have hRs : R3 (15 + 4 * k) = nI y := by rw [← hR3, pk_un (by omega), pk_us]
        have h13 : ∀ i, (rdS τ p3).1 13 i = upd ((rdS τ p).1 13) k (nI y) i := fun i => by rw [hSm.2.1, hd2, sP_ne _ _ _ (by decide), hd1, sP_ne _ _ _ (by decide), sA_eq]
        have h14 : (rdS τ p3).1 14 = (rdS τ p).1 14 := by rw [hSm.2.2.1, hd2, sP_ne _ _ _ (by decide), hd1, sP_ne _ _ _ (by decide), sA_ne _ _ (by decide)]
        have h15 : (rdS τ p3).1 15 = (rdS τ p).1 15 := by rw [hSm.2.2.2, hd2, sP_ne _ _ _ (by decide), hd1, sP_ne _ _ _ (by decide), sA_ne _ _ (by decide)]
        have h7 : ∀ j, 7 ≤ j → j ≤ 8 → (rdS τ p3).1 11 j = (rdS τ p).1 11 j := fun j q1 q2 => by rw [hSm.1 j (by omega), hd2, sP_at, if_neg (by omega), hd1, sP_at, if_neg (by omega), sA_ne _ _ (by decide)]
        have hM3 : MR (rdS τ p3) R3 k 0 := hM.congr (h7 7 (by decide) (by decide)) (h7 8 (by decide) (by decide)) (fun i hi => by rw [h13, pk_un (by omega)]) (fun i hi => by rw [h14]) (fun j hj => absurd hj (Nat.not_lt_zero _)) (hRk _ (by omega) (by omega)) (hRk _ (by omega) (by omega)) (fun i hi => ⟨hRk _ (by omega) (by omega), hRk _ (by omega) (by omega)⟩) (fun j hj => absurd hj (Nat.not_lt_zero _))
        by_cases hn0 : n3 = 0
        · -- no number
          have hF : Fl τ m p3 := h3.stop hs3 (by decide) (by omega) (by decide) (fun hp => by
            rw [acc6 (hx hp)]
            unfold aLim
            rw [hs3.2.1, if_neg (fun e => e.1 (by rw [hn0]; rfl))])
          refine Or.inr ?_
          rw [lyI_f eS (by rw [hn0]; rfl)]
          exact ⟨rfl, hF⟩
        · have et : decide (0 < n3) = true := decide_eq_true (by omega)
          have hnz : ¬ nI n3 = 0 := fun e => hn0 ((nI_n0 (by omega)).mp e)
          have hMk : MR (sP (sP (sA (sP (rdS τ p3) 6 (nI 0)) 14 (upd ((rdS τ p3).1 14) k (nI n3))) 10 (nI (k + 1))) 5 (nI 4)) (upd R3 3 (nI (k + 1))) (k + 1) 0 := by
            obtain ⟨a9, b9, c9, d9⟩ := hM3
            refine ⟨?_, ?_, fun i hi => ?_, fun j hj => absurd hj (Nat.not_lt_zero _)⟩
            · rw [sP_at, if_neg (by decide), sP_at, if_neg (by decide), sA_ne _ _ (by decide), sP_at, if_neg (by decide), pk_un (by decide)]; exact a9
            · rw [sP_at, if_neg (by decide), sP_at, if_neg (by decide), sA_ne _ _ (by decide), sP_at, if_neg (by decide), pk_un (by decide)]; exact b9
            · rw [sP_ne _ _ _ (by decide), sP_ne _ _ _ (by decide), sA_ne _ _ (by decide), sP_ne _ _ _ (by decide), sP_ne _ _ _ (by decide), sP_ne _ _ _ (by decide), sA_eq, show upd R3 3 (nI (k + 1)) (15 + 4 * i) = R3 (15 + 4 * i) from pk_un (by omega), show upd R3 3 (nI (k + 1)) (15 + 4 * i + 1) = R3 (15 + 4 * i + 1) from pk_un (by omega)]
              by_cases hik : i = k
              · subst hik
                rw [pk_us, h13, pk_us, hRs, hRl]
                exact ⟨⟨y, hy, rfl, rfl⟩, n3, by omega, hnu, rfl, rfl⟩
              · rw [pk_un hik]
                exact c9 i (by omega)
          by_cases hk1 : k + 1 < 4
          · by_cases hc : nxT (τ.1 12) m p3 = nI 43
            · -- another layer
              have hp : p3 < m := by
                by_cases hp : p3 < m
                · exact hp
                · rw [nx_ge hp] at hc; exact absurd hc (by decide)
              have hc2 := hc
              rw [nx_lt hp] at hc2
              have e4 : tk (nxT (τ.1 12) m) (nI 43) p3 (upd R3 3 (nI (k + 1))) = (true, p3 + 1, upd R3 3 (nI (k + 1))) := by unfold tk; rw [if_pos hc]
              have e : accS (rdS τ p3) (τ.1 12 p3) 6 k 0 = (true, sP (sP (sA (sP (rdS τ p3) 6 (nI 0)) 14 (upd ((rdS τ p3).1 14) k (nI n3))) 10 (nI (k + 1))) 5 (nI 4)) := by
                rw [acc6 (hx hp)]
                unfold aLim
                rw [hs3.2.1, if_pos ⟨hnz, hk, Or.inl ⟨hc2, hk1⟩⟩, if_pos ⟨hc2, hk1⟩]
              obtain ⟨h4, hd4⟩ := h3.step hp hs3 (by decide) (by omega) (by decide) (by rw [e])
              rw [e] at hd4
              have hs4 : SS (rdS τ (p3 + 1)) 4 0 (k + 1) 0 := by
                rw [hd4]
                exact ⟨by rw [sP_at, if_pos rfl], by rw [sP_at, if_neg (by decide), sP_at, if_neg (by decide), sA_ne _ _ (by decide), sP_at, if_pos rfl], by rw [sP_at, if_neg (by decide), sP_at, if_pos rfl], by rw [sP_at, if_neg (by decide), sP_at, if_neg (by decide), sA_ne _ _ (by decide), sP_at, if_neg (by decide)]; exact hs3.2.2.2⟩
              have ih := ly_rel hcd hm60 f (k + 1) (p3 + 1) (upd R3 3 (nI (k + 1))) (by omega) hk1 h4 hs4 (by rw [hd4]; exact hMk) pk_us
              rw [lyI_g eS et hk1 e4 rfl]
              exact ih
            · have e4 : tk (nxT (τ.1 12) m) (nI 43) p3 (upd R3 3 (nI (k + 1))) = (false, p3, upd R3 3 (nI (k + 1))) := by unfold tk; rw [if_neg hc]
              refine Or.inl ?_
              rw [lyI_h eS et hk1 e4 rfl]
              exact ⟨rfl, n3, k, h3, hs3, hk, by omega, hnu, hx, fun _ => hc, hM3.congr (τ2 := rdS τ p3) (r2 := upd R3 3 (nI (k + 1))) rfl rfl (fun _ _ => rfl) (fun _ _ => rfl) (fun _ _ => rfl) (pk_un (by decide)) (pk_un (by decide)) (fun i hi => ⟨pk_un (by omega), pk_un (by omega)⟩) (fun j hj => pk_un (by omega)), ⟨y, hy, by rw [h13, pk_us], by dsimp only; rw [pk_un (by omega)]; exact hRs⟩, by dsimp only; rw [pk_un (by omega)]; exact hRl, by dsimp only; exact pk_us⟩
          · refine Or.inl ?_
            rw [lyI_e eS et hk1]
            exact ⟨rfl, n3, k, h3, hs3, hk, by omega, hnu, hx, fun q1 => absurd q1 hk1, hM3.congr (τ2 := rdS τ p3) (r2 := upd R3 3 (nI (k + 1))) rfl rfl (fun _ _ => rfl) (fun _ _ => rfl) (fun _ _ => rfl) (pk_un (by decide)) (pk_un (by decide)) (fun i hi => ⟨pk_un (by omega), pk_un (by omega)⟩) (fun j hj => pk_un (by omega)), ⟨y, hy, by rw [h13, pk_us], by dsimp only; rw [pk_un (by omega)]; exact hRs⟩, by dsimp only; rw [pk_un (by omega)]; exact hRl, by dsimp only; exact pk_us⟩
      · refine Or.inr ?_
        have eS : lyS (nxT (τ.1 12) m) k p r = tk (nxT (τ.1 12) m) (nI 42) (p + 1) (upd r (15 + 4 * k) (nI y)) := by
          unfold lyS
          rw [e1, tb_t rfl]
          dsimp only
          rw [tb_f e2]
        rw [lyI_f eS e2]
        exact ⟨rfl, by dsimp only; rw [e2']; exact hF⟩
    · refine Or.inr ?_
      have eS : lyS (nxT (τ.1 12) m) k p r = dg (nxT (τ.1 12) m) (15 + 4 * k) p r := by unfold lyS; rw [tb_f e1]
      rw [lyI_f eS e1]
      exact ⟨rfl, by dsimp only; rw [e1']; exact hF⟩
/-- behind the milestones: in a share that may be ended -/
def ME (τ : gS) (m p n3 K q : Nat) (r : Nat → Int32) : Prop :=
  At τ m p ∧ SS (rdS τ p) 7 n3 K q ∧ q < 5 ∧ 1 ≤ n3 ∧ n3 ≤ 1000 ∧ (p < m → (aExt (rdS τ p) (τ.1 12 p) (nI 1000)).1 = false) ∧ (q + 1 < 5 → ¬ nxT (τ.1 12) m p = nI 43) ∧ MR (rdS τ p) r K q ∧ r (10 + q) = nI n3 ∧ r 4 = nI (q + 1) ∧ r 3 = nI K
theorem me_rel {K : Nat} (hcd : CD (τ.1 12) m) (hm60 : m ≤ 60) (hK : K ≤ 4) : ∀ (f q p : Nat) (r : Nat → Int32), f + q = 5 → q < 5 → At τ m p → SS (rdS τ p) 7 0 K q → MR (rdS τ p) r K q → r 4 = nI q → r 3 = nI K →
    (((meI (nxT (τ.1 12) m) f q p r).1 = true ∧ ∃ n3 q', ME τ m (meI (nxT (τ.1 12) m) f q p r).2.1 n3 K q' (meI (nxT (τ.1 12) m) f q p r).2.2) ∨ ((meI (nxT (τ.1 12) m) f q p r).1 = false ∧ Fl τ m (meI (nxT (τ.1 12) m) f q p r).2.1))
  | 0, _, _, _, hf, hq, _, _, _, _, _ => by omega
  | f + 1, q, p, r, hf, hq, h, hs, hM, hr4, hr3 => by
    have hp60 := h.1
    obtain ⟨p3, n3, g1, g2, h3, hs3, hnu, hSm, hx⟩ := nu_rel (most := 1000) (g := fun τ' c => aShr τ' c q) hcd hm60 (by decide) hK (by omega) (by decide) (fun τ' c => rfl) (61 - p) p 0 h (by omega) hs (by decide)
    obtain ⟨R3, hR3⟩ : ∃ R3, upd r (10 + q) (nI n3) = R3 := ⟨_, rfl⟩
    have e3 := nu_eq g1 (by omega) hR3
    have hRk : ∀ j, j ≠ 10 + q → R3 j = r j := fun j q1 => by rw [← hR3, pk_un q1]
    have hRl : R3 (10 + q) = nI n3 := by rw [← hR3, pk_us]
    have hM3 : MR (rdS τ p3) R3 K q := hM.congr (hSm.1 7 (by decide)) (hSm.1 8 (by decide)) (fun i hi => by rw [hSm.2.1]) (fun i hi => by rw [hSm.2.2.1]) (fun j hj => by rw [hSm.2.2.2]) (hRk _ (by omega)) (hRk _ (by omega)) (fun i hi => ⟨hRk _ (by omega), hRk _ (by omega)⟩) (fun j hj => hRk _ (by omega))
    by_cases hn0 : n3 = 0
    · have hF : Fl τ m p3 := h3.stop hs3 (by decide) hK (by omega) (fun hp => by
        rw [acc7 (hx hp)]
        unfold aShr
        rw [hs3.2.1, if_neg (fun e => e.1 (by rw [hn0]; rfl))])
      refine Or.inr ?_
      rw [meI_f e3 (by rw [hn0]; rfl)]
      exact ⟨rfl, hF⟩
    · have et : decide (0 < n3) = true := decide_eq_true (by omega)
      have hnz : ¬ nI n3 = 0 := fun e => hn0 ((nI_n0 (by omega)).mp e)
      by_cases hk1 : q + 1 < 5
      · by_cases hc : nxT (τ.1 12) m p3 = nI 43
        · have hp : p3 < m := by
            by_cases hp : p3 < m
            · exact hp
            · rw [nx_ge hp] at hc; exact absurd hc (by decide)
          have hc2 := hc
          rw [nx_lt hp] at hc2
          have e4 : tk (nxT (τ.1 12) m) (nI 43) p3 (upd R3 4 (nI (q + 1))) = (true, p3 + 1, upd R3 4 (nI (q + 1))) := by unfold tk; rw [if_pos hc]
          have e : accS (rdS τ p3) (τ.1 12 p3) 7 K q = (true, sP (sA (sP (rdS τ p3) 6 (nI 0)) 15 (upd ((rdS τ p3).1 15) q (nI n3))) 11 (nI (q + 1))) := by
            rw [acc7 (hx hp)]
            unfold aShr
            rw [hs3.2.1, if_pos ⟨hnz, hq, Or.inl ⟨hc2, hk1⟩⟩, if_neg (by rw [hc2]; decide)]
          obtain ⟨h4, hd4⟩ := h3.step hp hs3 (by decide) hK (by omega) (by rw [e])
          rw [e] at hd4
          have hs4 : SS (rdS τ (p3 + 1)) 7 0 K (q + 1) := by
            rw [hd4]
            exact ⟨by rw [sP_at, if_neg (by decide), sA_ne _ _ (by decide), sP_at, if_neg (by decide)]; exact hs3.1, by rw [sP_at, if_neg (by decide), sA_ne _ _ (by decide), sP_at, if_pos rfl], by rw [sP_at, if_neg (by decide), sA_ne _ _ (by decide), sP_at, if_neg (by decide)]; exact hs3.2.2.1, by rw [sP_at, if_pos rfl]⟩
          have hM4 : MR (rdS τ (p3 + 1)) (upd R3 4 (nI (q + 1))) K (q + 1) := by
            rw [hd4]
            obtain ⟨a9, b9, c9, d9⟩ := hM3
            refine ⟨?_, ?_, fun i hi => ?_, fun j hj => ?_⟩
            · rw [sP_at, if_neg (by decide), sA_ne _ _ (by decide), sP_at, if_neg (by decide), pk_un (by decide)]; exact a9
            · rw [sP_at, if_neg (by decide), sA_ne _ _ (by decide), sP_at, if_neg (by decide), pk_un (by decide)]; exact b9
            · rw [sP_ne _ _ _ (by decide), sA_ne _ _ (by decide), sP_ne _ _ _ (by decide), sP_ne _ _ _ (by decide), sA_ne _ _ (by decide), sP_ne _ _ _ (by decide), show upd R3 4 (nI (q + 1)) (15 + 4 * i) = R3 (15 + 4 * i) from pk_un (by omega), show upd R3 4 (nI (q + 1)) (15 + 4 * i + 1) = R3 (15 + 4 * i + 1) from pk_un (by omega)]; exact c9 i hi
            · rw [sP_ne _ _ _ (by decide), sA_eq, show upd R3 4 (nI (q + 1)) (10 + j) = R3 (10 + j) from pk_un (by omega)]
              by_cases hjq : j = q
              · subst hjq
                rw [pk_us, hRl]
                exact ⟨n3, by omega, hnu, rfl, rfl⟩
              · rw [pk_un hjq]
                exact d9 j (by omega)
          have ih := me_rel hcd hm60 hK f (q + 1) (p3 + 1) (upd R3 4 (nI (q + 1))) (by omega) hk1 h4 hs4 hM4 pk_us (by rw [pk_un (by decide), hRk _ (by omega)]; exact hr3)
          rw [meI_g e3 et hk1 e4 rfl]
          exact ih
        · have e4 : tk (nxT (τ.1 12) m) (nI 43) p3 (upd R3 4 (nI (q + 1))) = (false, p3, upd R3 4 (nI (q + 1))) := by unfold tk; rw [if_neg hc]
          refine Or.inl ?_
          rw [meI_h e3 et hk1 e4 rfl]
          exact ⟨rfl, n3, q, h3, hs3, hq, by omega, hnu, hx, fun _ => hc, hM3.congr (τ2 := rdS τ p3) (r2 := upd R3 4 (nI (q + 1))) rfl rfl (fun _ _ => rfl) (fun _ _ => rfl) (fun _ _ => rfl) (pk_un (by decide)) (pk_un (by decide)) (fun i hi => ⟨pk_un (by omega), pk_un (by omega)⟩) (fun j hj => pk_un (by omega)), by dsimp only; rw [pk_un (by omega)]; exact hRl, by dsimp only; exact pk_us, by dsimp only; rw [pk_un (by decide), hRk _ (by omega)]; exact hr3⟩
      · refine Or.inl ?_
        rw [meI_e e3 et hk1]
        exact ⟨rfl, n3, q, h3, hs3, hq, by omega, hnu, hx, fun q1 => absurd q1 hk1, hM3.congr (τ2 := rdS τ p3) (r2 := upd R3 4 (nI (q + 1))) rfl rfl (fun _ _ => rfl) (fun _ _ => rfl) (fun _ _ => rfl) (pk_un (by decide)) (pk_un (by decide)) (fun i hi => ⟨pk_un (by omega), pk_un (by omega)⟩) (fun j hj => pk_un (by omega)), by dsimp only; rw [pk_un (by omega)]; exact hRl, by dsimp only; exact pk_us, by dsimp only; rw [pk_un (by decide), hRk _ (by omega)]; exact hr3⟩
end TXT2
