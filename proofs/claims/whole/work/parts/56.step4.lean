/-! THE STEPS: a text, and what answers without a helper -/
/-- both halves answer the same value -/
def STQ (l : Launch) (γ : gG) (σ : gS) (K : Nat) (cy : MethodName) (cws : List Cond) (crm : Room) (my : MethodName) (mws : List Cond) (mrm : Room) (P : Value → Prop) : Prop :=
  ∃ val, P val ∧ ∃ pC, gM l γ cy cws crm [.ref (ad γ 0)] σ pC 0 0 ∧ ∀ v σ1, pC v σ1 → v = some val ∧ ∃ pM, gM l γ my mws mrm [.ref (ad γ 23)] σ1 pM 0 0 ∧ ∀ v2 σ2, pM v2 σ2 → v2 = some val ∧ INV σ2 (K + 1)
theorem s_clearBuffer (l : Launch) (γ : gG) {σ : gS} {K : Nat} (hI : INV σ K) : STQ l γ σ K yX4_clearBuffer wsX4_clearBuffer ({ frames := 1, cells := 0, slots := 0, locals := 20 } : Room) yX5_clearBuffer wsX5_clearBuffer ({ frames := 0, cells := 0, slots := 0, locals := 0 } : Room) (fun v => ∃ r : Int32, v = .int r) := by
  obtain ⟨hR, ⟨s, n, q1, q2, q3, q4, q5, q6⟩, ⟨k, hk, b1, b2, b3, b4⟩⟩ := id hI
  refine ⟨.int (σ.1 11 4), ⟨_, rfl⟩, _, k_X4_clearBuffer l γ σ, fun v σ1 h => ?_⟩
  obtain ⟨rfl, rfl⟩ := h
  refine ⟨rfl, _, k_X5_clearBuffer l γ (sP σ 4 (nI 0)), fun v2 σ2 h2 => ?_⟩
  obtain ⟨rfl, rfl⟩ := h2
  refine ⟨?_, hR.mono (Nat.le_succ K), ⟨s, n, q1, q2, q3, q4, q5, q6.to (six rfl rfl rfl rfl rfl rfl) rfl⟩, 0, by decide, rfl, rfl, fun j hj => absurd hj (Nat.not_lt_zero _), fun j hj => absurd hj (Nat.not_lt_zero _)⟩
  show some (Value.int (σ.1 23 5)) = some (Value.int (σ.1 11 4))
  rw [b1, b2]
theorem nxT_eq {a b : Nat → Int32} {m : Nat} (h : ∀ j, j < m → a j = b j) : nxT a m = nxT b m := by
  funext p
  unfold nxT
  by_cases hp : p < m
  · rw [if_pos hp, if_pos hp, h p hp]
  · rw [if_neg hp, if_neg hp]
/-- reading the buffer, both ways -/
theorem read_both {σ : gS} {k : Nat} (hB : BF σ k) {σ1 : gS} (hσ : rdE (rd0 σ) k = σ1) : σ1.1 23 5 = nI k ∧ nxT (σ1.1 27) k = nxT ((rd0 σ).1 12) k ∧ σ1.1 29 = σ.1 29 ∧ σ1.1 11 4 = nI k ∧ TOK σ1 ∧ Fr σ σ1 ∧
    (((isT (nxT (σ1.1 27) k) k (σ1.1 29)).1 = true ∧ readI (rd0 σ) k 0 = k ∧ σ1 = rdS (rd0 σ) k ∧ ∃ K q, TX σ1 (isT (nxT (σ1.1 27) k) k (σ1.1 29)).2.2 K q) ∨
     ((isT (nxT (σ1.1 27) k) k (σ1.1 29)).1 = false ∧ readI (rd0 σ) k 0 = (isT (nxT (σ1.1 27) k) k (σ1.1 29)).2.1 ∧ σ1.1 11 5 ≠ nI 8)) := by
  obtain ⟨hk, b1, b2, b3, b4⟩ := hB
  have hF := Fr.rdEnd σ k
  have hK := rdE_k σ k
  rw [hσ] at hF hK
  have e27 := hF.1 27 (by decide) (by decide) (by decide) (by decide)
  have e29 := hF.1 29 (by decide) (by decide) (by decide) (by decide)
  have e23 := hF.1 23 (by decide) (by decide) (by decide) (by decide)
  have en : nxT (σ1.1 27) k = nxT ((rd0 σ).1 12) k := nxT_eq (fun j hj => by rw [e27, rd0_12]; exact b4 j hj)
  refine ⟨by rw [e23]; exact b2, en, e29, by rw [hK.2]; exact b1, hK.1, hF, ?_⟩
  have ht := text_rel (τ := rd0 σ) (m := k) (by rw [rd0_12]; exact b3) hk (rd0_ss σ) (σ.1 29)
  rw [en, e29]
  rcases ht with ⟨t1, t2, K, q, t3⟩ | ⟨t1, t2, t3⟩
  · have e : σ1 = rdS (rd0 σ) k := by rw [← hσ]; exact rdE_eq t2
    exact Or.inl ⟨t1, t2, e, K, q, by rw [e]; exact t3⟩
  · refine Or.inr ⟨t1, t2, ?_⟩
    rw [← hσ]
    by_cases hlt : readI (rd0 σ) k 0 < k
    · rw [rdE_lt hlt rfl, sP_at, if_pos rfl]
      decide
    · unfold rdE
      rw [if_neg hlt]
      exact t3.resolve_left (by rw [← t2]; exact hlt)
theorem s_firstError (l : Launch) (γ : gG) {σ : gS} {K : Nat} (hI : INV σ K) : STQ l γ σ K yX4_firstError wsX4_firstError ({ frames := 4, cells := 0, slots := 0, locals := 86 } : Room) yX5_firstError wsX5_firstError ({ frames := 4, cells := 0, slots := 0, locals := 91 } : Room) (fun v => ∃ r : Int32, v = .int r) := by
  obtain ⟨hR, hH, ⟨k, hB⟩⟩ := id hI
  refine ⟨.int (nI (readI (rd0 σ) k 0)), ⟨_, rfl⟩, _, k_X4_firstError l γ σ k hB.2.1 hB.1, fun v σ1 h => ?_⟩
  obtain ⟨rfl, h⟩ := h
  obtain ⟨e5, en, e29, e4, -, hF, hc⟩ := read_both hB h.symm
  refine ⟨rfl, _, k_X5_firstError l γ σ1 k e5 hB.1, fun v2 σ2 h2 => ?_⟩
  obtain ⟨rfl, rfl⟩ := h2
  have hI1 : INV σ1 K := hI.fr hF (by rw [e4, hB.2.1])
  refine ⟨?_, hI1.same (Nat.le_succ K) rfl rfl rfl (six rfl rfl rfl rfl rfl rfl) rfl rfl rfl rfl rfl rfl⟩
  rcases hc with ⟨t1, t2, -, -⟩ | ⟨t1, t2, -⟩
  · rw [if_pos t1, t2]
  · rw [if_neg (by rw [t1]; decide), t2]
theorem s_worst (l : Launch) (γ : gG) {σ : gS} {K : Nat} (hI : INV σ K) (hK : K ≤ 999) : STQ l γ σ K yX4_worst wsX4_worst ({ frames := 4, cells := 0, slots := 0, locals := 102 } : Room) yX5_worst wsX5_worst ({ frames := 7, cells := 0, slots := 0, locals := 173 } : Room) (fun v => ∃ r : Int32, v = .int r) := by
  obtain ⟨hR, -, -⟩ := id hI
  have hn := hR.n
  refine ⟨.int (woI (loV (σ.1 2) (σ.1 24)) (nB (σ.1 2))).1, ⟨_, rfl⟩, _, k_X4_worst l γ σ (nB (σ.1 2)) (lB (σ.1 2)) (pB (σ.1 2)) (sB (σ.1 2)) (loV (σ.1 2) (σ.1 24)) hn.1 hn.2 (fun b hb => hR.BH hb) (fun b hb τ hτ => ((dr_ok hR (by omega) rfl hb) τ hτ).2.2), fun v σ1 h => ?_⟩
  obtain ⟨rfl, hQ⟩ := h
  obtain ⟨hI1, e2, e24⟩ := hI.pq hQ
  refine ⟨rfl, _, k_X5_worst l γ σ1 (nB (σ.1 2)) (lB (σ.1 2)) (pB (σ.1 2)) (sB (σ.1 2)) (efV (σ.1 2) (σ.1 24)) (thV (σ.1 2) (σ.1 24)) (loV (σ.1 2) (σ.1 24)) (by rw [e24]; exact hR.zn) hn.2 (fun b hb => by rw [e24]; exact bz_ok hR (by omega) (σ := σ) rfl hb), fun v2 σ2 h2 => ?_⟩
  obtain ⟨rfl, hQ2⟩ := h2
  exact ⟨rfl, (hI1.qm hQ2).1.mono (Nat.le_succ K)⟩
theorem s_paidShare (l : Launch) (γ : gG) {σ : gS} {K : Nat} (hI : INV σ K) : STQ l γ σ K yX4_paidShare wsX4_paidShare ({ frames := 2, cells := 0, slots := 0, locals := 45 } : Room) yX5_paidShare wsX5_paidShare ({ frames := 1, cells := 0, slots := 0, locals := 20 } : Room) (fun v => ∃ d : UInt64, v = .double d ∧ Op.cmpValue (FP.dcmp d d) .l = 0) := by
  obtain ⟨hR, -, -⟩ := id hI
  have hn := hR.n
  obtain ⟨e1, -, -, h1, h2, h3⟩ := hR.share
  refine ⟨.double (psD (bsum (σ.1 2) (nB (σ.1 2)) 6) (bsum (σ.1 2) (nB (σ.1 2)) 7)), ⟨_, rfl, by rw [← e1]; exact h3⟩, _, k_X4_paidShare l γ σ (nB (σ.1 2)) hn.1 hn.2 h1, fun v σ1 h => ?_⟩
  obtain ⟨rfl, rfl⟩ := h
  refine ⟨rfl, _, k_X5_paidShare l γ σ1 h2, fun v2 σ2 h9 => ?_⟩
  obtain ⟨rfl, rfl⟩ := h9
  exact ⟨by rw [e1], (hI.sM6 _).mono (Nat.le_succ K)⟩
theorem s_digest (l : Launch) (γ : gG) {σ : gS} {K : Nat} (hI : INV σ K) (hK : K ≤ 999) : STQ l γ σ K yX4_digest wsX4_digest ({ frames := 9, cells := 0, slots := 0, locals := 272 } : Room) yX5_digest wsX5_digest ({ frames := 7, cells := 0, slots := 0, locals := 221 } : Room) (fun v => ∃ r : Int64, v = .long r) := by
  obtain ⟨hR, ⟨s, n, q1, q2, q3, q4, q5, q6⟩, ⟨k, hk, b1, b2, b3, b4⟩⟩ := id hI
  have hn := hR.n
  obtain ⟨e1, -, hbO, h1, h2, h3⟩ := hR.share
  refine ⟨.long (dgI (σ.1 2) (σ.1 3 2) (nB (σ.1 2)) (lB (σ.1 2)) (efV (σ.1 2) (σ.1 24)) (thV (σ.1 2) (σ.1 24)) (loV (σ.1 2) (σ.1 24)) k (σ.1 12)), ⟨_, rfl⟩, _, k_X4_digest l γ σ (nB (σ.1 2)) (lB (σ.1 2)) (pB (σ.1 2)) (sB (σ.1 2)) (efV (σ.1 2) (σ.1 24)) (thV (σ.1 2) (σ.1 24)) (loV (σ.1 2) (σ.1 24)) k hR.Sh (fun b hb => hR.BH hb) (fun b hb => dr_ok hR (by omega) rfl hb) b1 hk h1 hbO, fun v σ1 h => ?_⟩
  obtain ⟨rfl, hQ⟩ := h
  obtain ⟨hI1, e2, e24⟩ := hI.pq hQ
  have e23 : σ1.1 23 = σ.1 23 := by obtain ⟨bo, pr, am, bp, pd, th, ca, ow, mg, du, bl, re, rfl⟩ := hQ; rfl
  have e27 : σ1.1 27 = σ.1 27 := by obtain ⟨bo, pr, am, bp, pd, th, ca, ow, mg, du, bl, re, rfl⟩ := hQ; rfl
  refine ⟨rfl, _, k_X5_digest l γ σ1 (nB (σ.1 2)) (lB (σ.1 2)) (pB (σ.1 2)) (sB (σ.1 2)) (efV (σ.1 2) (σ.1 24)) (thV (σ.1 2) (σ.1 24)) (loV (σ.1 2) (σ.1 24)) (by rw [e24]; exact hR.1.SZ hR.Sh) (fun b hb => by rw [e24]; exact bz_ok hR (by omega) (σ := σ) rfl hb) (fun q hq => by rw [e24]; exact hR.ch hq) k (by rw [e23]; exact b2) hk (by rw [e24]; exact h2) (by rw [e24]; exact h3), fun v2 σ2 h9 => ?_⟩
  obtain ⟨rfl, h8, hQ2⟩ := h9
  refine ⟨?_, (hI1.qm hQ2).1.mono (Nat.le_succ K)⟩
  have ex : (okM σ1).1 23 3 = σ.1 3 2 := by
    show σ1.1 23 3 = _
    rw [e23, q5, q4]
  rw [ex, e24, dgt_rel hR (co := σ.1 12) (fun j hj => by rw [e27]; exact b4 j hj)]
theorem s_give (l : Launch) (γ : gG) {σ : gS} {K : Nat} (hI : INV σ K) (hK : K ≤ 999) : STP l γ σ K yL_give wsL_give ({ frames := 7, cells := 1, slots := 6, locals := 221 } : Room) [.ref (ad γ 0), .ref (ad γ 30)] yX5_give wsX5_give ({ frames := 4, cells := 0, slots := 0, locals := 91 } : Room) [.ref (ad γ 23)] := by
  obtain ⟨hR, ⟨s, n, hH⟩, ⟨k, hB⟩⟩ := id hI
  obtain ⟨σ1, hσ⟩ : ∃ σ1, rdE (rd0 σ) k = σ1 := ⟨_, rfl⟩
  obtain ⟨e5, en, e29, e4, hTOK, hF, hc⟩ := read_both hB hσ
  have hI1 : INV σ1 K := hI.fr hF (by rw [e4, hB.2.1])
  obtain ⟨-, ⟨k4, hk4, ek⟩, q5, hq5, eq⟩ := hTOK
  have f2 := hF.1 2 (by decide) (by decide) (by decide) (by decide)
  have f3 := hF.1 3 (by decide) (by decide) (by decide) (by decide)
  have f23 := hF.1 23 (by decide) (by decide) (by decide) (by decide)
  have f24 := hF.1 24 (by decide) (by decide) (by decide) (by decide)
  have hR1 : Rel (σ1.1 2) (σ1.1 24) K := hI1.1
  have hn := hR1.n
  -- a fault of both: nothing but the reading is left behind
  have bad : ∀ (j : Nat) (r : Int32) (t : TR), j ≠ 0 → gM l γ yX5_give wsX5_give ({ frames := 4, cells := 0, slots := 0, locals := 91 } : Room) [.ref (ad γ 23)] σ1 (gis (some (.int r)) (sM (tW (okM σ1) t.2.1 t.2.2) 6 (nI j))) 0 0 → MP l γ yX5_give wsX5_give ({ frames := 4, cells := 0, slots := 0, locals := 91 } : Room) [.ref (ad γ 23)] σ1 j (K + 1) := fun j r t hj hM => ⟨_, hM, fun v9 σ9 h9 => by
    obtain ⟨rfl, rfl⟩ := h9
    exact ⟨r, rfl, rfl, fun q => absurd q hj, hI1.same (Nat.le_succ K) rfl rfl rfl (six rfl rfl rfl rfl rfl rfl) rfl rfl rfl rfl rfl rfl⟩⟩
  rcases hc with ⟨t1, t2, -, kk, qq, hTX⟩ | ⟨t1, t2, t3⟩
  · obtain ⟨t, ht⟩ : ∃ t, isT (nxT (σ1.1 27) k) k (σ1.1 29) = t := ⟨_, rfl⟩
    rw [ht] at t1 hTX
    have hgood := good_rel hTX
    have hbind := bind_rel hR1 (by omega) hTX kk (Nat.le_refl kk)
    obtain ⟨-, -, r3, r4, t10, t11, t5, hkk1, hkk4, hqq1, hqq5⟩ := id hTX
    cases hg : gdB t.2.2 kk qq with
    | false =>
      rw [hg] at hgood
      exact ⟨1, σ1, by decide, h_give_t1 l γ σ σ1 (t_X4_give_a l γ σ σ1 k kk qq 0 (fun _ => 0) (fun _ => 0) hB.2.1 hB.1 hσ t10 hkk4 t11 hqq5 (Or.inr hgood.symm)), bad 1 _ t (by decide) (k_X5_give_1g l γ σ1 k e5 hB.1 t ht kk qq r3 hkk4 r4 hqq5 t1 hg)⟩
    | true =>
      rw [hg] at hgood
      have hsuC : ∀ i, i < kk → σ1.1 13 i = nI (suT t.2.2 i) ∧ suT t.2.2 i < 8 := fun i hi => ⟨(hTX.su hi).2.1, (hTX.su hi).1⟩
      have hsuM : ∀ i, i < kk → t.2.2 (15 + 4 * i) = nI (suT t.2.2 i) ∧ suT t.2.2 i < 8 := fun i hi => ⟨(hTX.su hi).2.2, (hTX.su hi).1⟩
      by_cases hful : nB (σ1.1 2) = 10 ∨ tooI (σ1.1 2) (nB (σ1.1 2)) (lB (σ1.1 2)) (suT t.2.2) (σ1.1 14) kk = true
      · exact ⟨2, σ1, by decide, h_give_t2 l γ σ σ1 (t_X4_give_s l γ σ σ1 k kk qq _ _ _ hB.2.1 hB.1 hσ t10 hkk4 t11 hqq5 t5 hgood.symm hR1.Sh hsuC hful), bad 2 _ t (by decide) (k_X5_give_2 l γ σ1 k e5 hB.1 t ht kk qq r3 hkk4 r4 hqq5 _ _ (hR1.1.SZ hR1.Sh) _ hsuM t1 hg (hful.imp id (fun w => by rw [hbind, w]; rfl)))⟩
      · have hN9 : nB (σ1.1 2) < 10 := by
          have := hn.2
          have : nB (σ1.1 2) ≠ 10 := fun w => hful (Or.inl w)
          omega
        have hto : tooI (σ1.1 2) (nB (σ1.1 2)) (lB (σ1.1 2)) (suT t.2.2) (σ1.1 14) kk = false := by
          cases hx : tooI (σ1.1 2) (nB (σ1.1 2)) (lB (σ1.1 2)) (suT t.2.2) (σ1.1 14) kk with
          | true => exact absurd (Or.inr hx) hful
          | false => rfl
        obtain ⟨s1, n1, hH1⟩ := hI1.2.1
        obtain ⟨σ2, hσ2⟩ : ∃ σ2, outS (sP (sA (svS σ1 s1 n1) 2 (abV (σ1.1 2) (nB (σ1.1 2)) (σ1.1 11) (σ1.1 13) (σ1.1 14) (σ1.1 15) kk qq)) 4 (nI 0)) (nI (nB (σ1.1 2))) = σ2 := ⟨_, rfl⟩
        have hs1 := hH1.1
        have g24 : σ2.1 24 = σ1.1 24 := by rw [← hσ2]; exact svs_o (o := 24) σ1 s1 n1 (by decide) (by omega)
        have g23 : σ2.1 23 = σ1.1 23 := by rw [← hσ2]; exact svs_o (o := 23) σ1 s1 n1 (by decide) (by omega)
        have g25 : σ2.1 25 = σ1.1 25 := by rw [← hσ2]; exact svs_o (o := 25) σ1 s1 n1 (by decide) (by omega)
        have g27 : σ2.1 27 = σ1.1 27 := by rw [← hσ2]; exact svs_o (o := 27) σ1 s1 n1 (by decide) (by omega)
        have g29 : σ2.1 29 = σ1.1 29 := by rw [← hσ2]; exact svs_o (o := 29) σ1 s1 n1 (by decide) (by omega)
        have hm := k_X5_give_ok l γ σ2 k (by rw [g23]; exact e5) hB.1 t (by rw [g27, g29]; exact ht) kk qq r3 hkk4 r4 hqq5 (nB (σ1.1 2)) (lB (σ1.1 2)) (by rw [g24]; exact hR1.1.SZ hR1.Sh) (suT t.2.2) hsuM t1 hg hN9 (by rw [g24, hbind, hto]; rfl) n1 (by rw [g23]; exact hH1.2.2.2.2.1) hH1.2.1
        refine ⟨0, σ2, by decide, hσ2 ▸ h_give_ok l γ σ _ _ (k_X4_give l γ σ σ1 k kk qq _ _ _ hB.2.1 hB.1 hσ t10 hkk4 t11 hqq5 t5 hgood.symm hR1.Sh hN9 hsuC hto s1 n1 hH1.1 hH1.2.2.1 hH1.2.2.2.1 hH1.2.1), _, hm, fun v9 σ9 h9 => ?_⟩
        obtain ⟨rfl, rfl⟩ := h9
        refine ⟨_, rfl, rfl, fun _ => by rw [← hσ2]; exact out_30 (sP (sA (svS σ1 s1 n1) 2 (abV (σ1.1 2) (nB (σ1.1 2)) (σ1.1 11) (σ1.1 13) (σ1.1 14) (σ1.1 15) kk qq)) 4 (nI 0)) _, INV.save hR1 hH1 (s := s1) (n := n1) ?_ ⟨0, by decide, ?_, rfl, fun j hj => absurd hj (Nat.not_lt_zero _), fun j hj => absurd hj (Nat.not_lt_zero _)⟩ ?_ ?_ rfl ?_⟩
        · show Rel (σ2.1 2) (gvZ (σ2.1 24) t.2.2 (nB (σ1.1 2)) kk qq) (K + 1)
          rw [g24, ← hσ2]
          exact keep_give hR1 hTX hN9 hg
        · rw [← hσ2]; rfl
        · rw [← hσ2]; rfl
        · rw [← hσ2]
          exact six rfl rfl rfl rfl rfl rfl
        · show rwM (σ2.1 25) (σ2.1 24) n1 = _
          rw [g25, g24]
  · exact ⟨1, σ1, by decide, h_give_t1 l γ σ σ1 (t_X4_give_a l γ σ σ1 k k4 q5 0 (fun _ => 0) (fun _ => 0) hB.2.1 hB.1 hσ ek hk4 eq hq5 (Or.inl t3)), bad 1 _ _ (by decide) (k_X5_give_1t l γ σ1 k e5 hB.1 _ rfl t1)⟩
