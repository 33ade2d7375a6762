/-! THE STEPS: the buffer, the history, the looks -/
section FIN2
variable {l : Launch} {γ : gG} {my : MethodName} {mws : List Cond} {mrm : Room} {margs : List Value} {σ σ1 : gS} {K : Nat}
theorem INV.qm {σ2 : gS} {h : Int64} (hI : INV σ K) (hQ : QM (okM σ) h σ2) : INV σ2 K ∧ σ2.1 23 6 = nI 0 ∧ σ2.2 30 = σ.2 30 := by
  obtain ⟨as, f, sh, rfl, hf⟩ := hQ
  refine ⟨hI.same (Nat.le_refl K) rfl rfl rfl (six rfl rfl rfl rfl rfl rfl) ?_ ?_ rfl rfl rfl rfl, ?_, rfl⟩
  · show f 3 = _
    rw [hf 3 (by decide) (by decide) (by decide)]; rfl
  · show f 5 = _
    rw [hf 5 (by decide) (by decide) (by decide)]; rfl
  · show f 6 = _
    rw [hf 6 (by decide) (by decide) (by decide)]; rfl
theorem INV.pq {σ2 : gS} (hI : INV σ K) (hQ : PQ σ σ2) : INV σ2 K ∧ σ2.1 2 = σ.1 2 ∧ σ2.1 24 = σ.1 24 := by
  obtain ⟨bo, pr, am, bp, pd, th, ca, ow, mg, du, bl, re, rfl⟩ := hQ
  exact ⟨hI.same (Nat.le_refl K) rfl rfl rfl (six rfl rfl rfl rfl rfl rfl) rfl rfl rfl rfl rfl rfl, rfl, rfl⟩
theorem HIS.to {σ2 : gS} {s n : Nat} (h : HIS (rowsC σ) (σ.1 25) s n K) (er : ∀ i, i < 6 → σ2.1 (5 + i) = σ.1 (5 + i)) (e25 : σ2.1 25 = σ.1 25) : HIS (rowsC σ2) (σ2.1 25) s n (K + 1) := by
  rw [e25]
  exact (h.rows (w' := rowsC σ2) (fun i hi => er i hi)).mono (Nat.le_succ K)
theorem INV.drs (hI : INV σ K) (b prn L : Nat) (x : Int32) : INV (drS σ b prn L x) K := hI.same (Nat.le_refl K) rfl rfl rfl (six rfl rfl rfl rfl rfl rfl) rfl rfl rfl rfl rfl rfl
theorem fin_qm {r r' : Int32} {h : Int64} (hI : INV σ1 K) (e30 : σ1.2 30 0 = r.toInt64) (hM : gM l γ my mws mrm margs σ1 (fun v2 σ2 => v2 = some (.int r') ∧ QM (okM σ1) h σ2) 0 0) (er : r = r') : MP l γ my mws mrm margs σ1 0 (K + 1) :=
  ⟨_, hM, fun v σ2 h => by
    obtain ⟨rfl, hQ⟩ := h
    obtain ⟨g1, g2, g3⟩ := hI.qm hQ
    exact ⟨r', rfl, g2, fun _ => by rw [g3, ← er]; exact e30, g1.mono (Nat.le_succ K)⟩⟩
end FIN2
theorem s_append (l : Launch) (γ : gG) {σ : gS} {K : Nat} (hI : INV σ K) (hK : K ≤ 999) (x : Int32) : STP l γ σ K yL_append wsL_append ({ frames := 8, cells := 1, slots := 6, locals := 243 } : Room) [.ref (ad γ 0), .int x, .ref (ad γ 30)] yX5_append wsX5_append ({ frames := 1, cells := 0, slots := 0, locals := 22 } : Room) [.ref (ad γ 23), .int x] := by
  obtain ⟨hR, hHH, ⟨k, hk, b1, b2, b3, b4⟩⟩ := id hI
  rcases inB_c x (nI 33) (nI 126) with ha | ha
  · obtain ⟨c1, c2⟩ := inB_t ha
    by_cases h60 : k = 60
    · subst h60
      exact ⟨2, σ, by decide, h_append_t2 l γ σ σ _ (t_X4_append_s l γ σ x c1 c2 b1), fin_fail hI (k_X5_append_2 l γ σ x ha b2) (by decide)⟩
    · obtain ⟨a, ha5, rfl⟩ := nI_of2 (M := nI 126) (n := 126) rfl (fun q => absurd (Int32.lt_of_le_of_lt c1 q) (by decide)) c2
      have ha1 : 33 ≤ a := (nI_leI (by decide) (by omega)).mp c1
      obtain ⟨σ1, hσ⟩ : ∃ σ1, outS (sP (sA σ 12 (upd (σ.1 12) k (nI a))) 4 (nI (k + 1))) (nI (k + 1)) = σ1 := ⟨_, rfl⟩
      have hm := k_X5_append l γ σ1 (nI a) k ha (by rw [← hσ]; exact b2) (by omega)
      refine ⟨0, σ1, by decide, hσ ▸ h_append_ok l γ σ _ _ _ (k_X4_append l γ σ (nI a) k c1 c2 b1 (by omega)), _, hm, fun v9 σ9 h9 => ?_⟩
      obtain ⟨rfl, rfl⟩ := h9
      subst hσ
      refine ⟨_, rfl, rfl, fun _ => out_30 (sP (sA σ 12 (upd (σ.1 12) k (nI a))) 4 (nI (k + 1))) _, ?_⟩
      obtain ⟨s, n, q1, q2, q3, q4, q5, q6⟩ := hHH
      refine ⟨hR.mono (Nat.le_succ K), ⟨s, n, q1, q2, q3, q4, q5, q6.to (six rfl rfl rfl rfl rfl rfl) rfl⟩, k + 1, by omega, rfl, rfl, fun j hj => ?_, fun j hj => ?_⟩
      · show ∃ a', 33 ≤ a' ∧ a' ≤ 126 ∧ upd (σ.1 12) k (nI a) j = nI a'
        by_cases hjk : j = k
        · subst hjk; exact ⟨a, ha1, ha5, pk_us⟩
        · rw [pk_un hjk]; exact b3 j (by omega)
      · show upd (σ.1 27) k (nI a) j = upd (σ.1 12) k (nI a) j
        by_cases hjk : j = k
        · subst hjk; rw [pk_us, pk_us]
        · rw [pk_un hjk, pk_un hjk]; exact b4 j (by omega)
  · exact ⟨1, σ, by decide, h_append_t1 l γ σ σ _ (t_X4_append_a l γ σ x (inB_f ha)), fin_fail hI (k_X5_append_1 l γ σ x ha) (by decide)⟩
theorem s_undo (l : Launch) (γ : gG) {σ : gS} {K : Nat} (hI : INV σ K) (hK : K ≤ 999) : STP l γ σ K yL_undo wsL_undo ({ frames := 7, cells := 1, slots := 6, locals := 220 } : Room) [.ref (ad γ 0), .ref (ad γ 30)] yX5_undo wsX5_undo ({ frames := 1, cells := 0, slots := 0, locals := 21 } : Room) [.ref (ad γ 23)] := by
  obtain ⟨hR, ⟨s, n, hH⟩, ⟨k, hB⟩⟩ := id hI
  obtain ⟨q1, q2, q3, q4, q5, q6⟩ := id hH
  by_cases h0 : n = 0
  · subst h0
    exact ⟨1, σ, by decide, h_undo_t1 l γ σ σ (t_X4_undo l γ σ q4), fin_fail hI (k_X5_undo_1 l γ σ q5) (by decide)⟩
  · obtain ⟨σ1, hσ⟩ : ∃ σ1, outS (rsS σ s n) (nI (n - 1)) = σ1 := ⟨_, rfl⟩
    have hm := k_X5_undo l γ σ1 n (by rw [← hσ]; exact q5) q2 (by omega)
    refine ⟨0, σ1, by decide, hσ ▸ h_undo_ok l γ σ _ _ (k_X4_undo l γ σ s n q1 q3 q4 q2 (by omega)), _, hm, fun v9 σ9 h9 => ?_⟩
    obtain ⟨rfl, rfl⟩ := h9
    subst hσ
    refine ⟨_, rfl, rfl, fun _ => out_30 (rsS σ s n) _, ?_⟩
    refine ⟨(his_top (v := σ.1 2) (z := σ.1 24) q1 q2 (by omega) q6).mono (Nat.le_succ K), ⟨(s + 5) % 6, n - 1, by omega, by omega, rfl, rfl, rfl, (his_back q1 q2 (by omega) q6).to (six rfl rfl rfl rfl rfl rfl) rfl⟩, k, hB.same rfl rfl rfl rfl⟩
theorem s_person (l : Launch) (γ : gG) {σ : gS} {K : Nat} (hI : INV σ K) (hK : K ≤ 999) (x y : Int32) : STP l γ σ K yL_person wsL_person ({ frames := 8, cells := 1, slots := 6, locals := 244 } : Room) [.ref (ad γ 0), .int x, .int y, .ref (ad γ 30)] yX5_person wsX5_person ({ frames := 4, cells := 0, slots := 0, locals := 87 } : Room) [.ref (ad γ 23), .int x, .int y] := by
  obtain ⟨hR, -, -⟩ := id hI
  rcases per_c x with ⟨q, hq, rfl⟩ | ⟨h1, h2⟩
  · rcases rng 10 (by decide) y with ⟨w, hw, rfl, -⟩ | ⟨h1, h2⟩
    · exact ⟨0, _, by decide, h_person_ok l γ σ _ _ _ _ (k_X4_person l γ σ q w hq hw _ _ hR.Sh), fin_look hI (k_X5_person l γ (outS σ _) q w hq hw _ _ (hR.1.SZ hR.Sh) (hR.ch hq)) (hR.per hq hw).symm⟩
    · exact ⟨2, σ, by decide, h_person_t2 l γ σ σ _ _ (t_X4_person_w l γ σ q y hq h1), fin_fail hI (k_X5_person_2 l γ σ q y hq h2) (by decide)⟩
  · exact ⟨1, σ, by decide, h_person_t1 l γ σ σ _ _ (t_X4_person_p l γ σ x y h1), fin_fail hI (k_X5_person_1 l γ σ x y h2) (by decide)⟩
theorem s_bond (l : Launch) (γ : gG) {σ : gS} {K : Nat} (hI : INV σ K) (hK : K ≤ 999) (x y : Int32) : STP l γ σ K yL_bond wsL_bond ({ frames := 8, cells := 1, slots := 6, locals := 244 } : Room) [.ref (ad γ 0), .int x, .int y, .ref (ad γ 30)] yX5_bond wsX5_bond ({ frames := 4, cells := 0, slots := 0, locals := 86 } : Room) [.ref (ad γ 23), .int x, .int y] := by
  obtain ⟨hR, -, -⟩ := id hI
  have hn := hR.n
  rcases bnd_c hR x with ⟨b, hb, rfl⟩ | ⟨h1, h2⟩
  · have hb10 : b < 10 := by omega
    obtain ⟨zL, hL4⟩ := hR.zL hb
    have hvL : σ.1 2 (117 + b * 31 + 3) = nI (lB (σ.1 2) b) := (hR.BH hb).2.2.1
    rcases rng 11 (by decide) y with ⟨w, hw, rfl, -⟩ | ⟨h1, h2⟩
    · exact ⟨0, _, by decide, h_bond_ok l γ σ _ _ _ _ (k_X4_bond l γ σ b w _ _ hb hn.1 hn.2 hw hvL hL4), fin_look hI (k_X5_bond l γ (outS σ _) b _ hb10 zL hL4 _ hR.zn hn.2 hb w hw) (hR.bon hb hw).symm⟩
    · exact ⟨2, σ, by decide, h_bond_t2 l γ σ σ _ _ (t_X4_bond_w l γ σ y b _ hb hn.1 hn.2 h1), fin_fail hI (k_X5_bond_2 l γ σ b _ hR.zn hn.2 hb y h2) (by decide)⟩
  · exact ⟨1, σ, by decide, h_bond_t1 l γ σ σ _ _ (t_X4_bond_b l γ σ x y h1), fin_fail hI (k_X5_bond_1 l γ σ x y h2) (by decide)⟩
theorem s_layer (l : Launch) (γ : gG) {σ : gS} {K : Nat} (hI : INV σ K) (hK : K ≤ 999) (x y w : Int32) : STP l γ σ K yL_layer wsL_layer ({ frames := 8, cells := 1, slots := 6, locals := 245 } : Room) [.ref (ad γ 0), .int x, .int y, .int w, .ref (ad γ 30)] yX5_layer wsX5_layer ({ frames := 2, cells := 0, slots := 0, locals := 43 } : Room) [.ref (ad γ 23), .int x, .int y, .int w] := by
  obtain ⟨hR, -, -⟩ := id hI
  have hn := hR.n
  rcases bnd_c hR x with ⟨b, hb, rfl⟩ | ⟨h1, h2⟩
  · have hb10 : b < 10 := by omega
    obtain ⟨zL, hL4⟩ := hR.zL hb
    have hvL : σ.1 2 (117 + b * 31 + 3) = nI (lB (σ.1 2) b) := (hR.BH hb).2.2.1
    rcases cnt_c (N := lB (σ.1 2) b) (by omega) y with ⟨k, hk, rfl⟩ | ⟨h1, h2⟩
    · rcases rng 3 (by decide) w with ⟨j, hw, rfl, -⟩ | ⟨h1, h2⟩
      · exact ⟨0, _, by decide, h_layer_ok l γ σ _ _ _ _ _ (k_X4_layer l γ σ b k j _ _ hb hn.1 hn.2 hk hw hvL hL4), fin_look hI (k_X5_layer l γ (outS σ _) b _ hb10 zL hL4 _ hR.zn hn.2 hb k j hk hw) (hR.1.l hb10 (by omega) (by omega)).symm⟩
      · exact ⟨2, σ, by decide, h_layer_t2 l γ σ σ _ _ _ (t_X4_layer_w l γ σ k _ w b _ hb hn.1 hn.2 hk hvL hL4 h1), fin_fail hI (k_X5_layer_2 l γ σ b _ hb10 zL hL4 _ hR.zn hn.2 hb k w hk h2) (by decide)⟩
    · exact ⟨1, σ, by decide, h_layer_t1 l γ σ σ _ _ _ (t_X4_layer_k l γ σ y w b _ hb hn.1 hn.2 (by rw [hvL]; exact h1)), fin_fail hI (k_X5_layer_1k l γ σ b _ hb10 zL hL4 _ hR.zn hn.2 hb y w (by rw [zL]; exact h2)) (by decide)⟩
  · exact ⟨1, σ, by decide, h_layer_t1 l γ σ σ _ _ _ (t_X4_layer_b l γ σ x y w h1), fin_fail hI (k_X5_layer_1 l γ σ x y w h2) (by decide)⟩
theorem s_debt (l : Launch) (γ : gG) {σ : gS} {K : Nat} (hI : INV σ K) (hK : K ≤ 999) (x y : Int32) : STP l γ σ K yL_debt wsL_debt ({ frames := 8, cells := 1, slots := 6, locals := 242 } : Room) [.ref (ad γ 0), .int x, .int y, .ref (ad γ 30)] yX5_debt wsX5_debt ({ frames := 2, cells := 0, slots := 0, locals := 42 } : Room) [.ref (ad γ 23), .int x, .int y] := by
  obtain ⟨hR, -, -⟩ := id hI
  rcases per_c x with ⟨q, hq, rfl⟩ | ⟨h1, h2⟩
  · rcases per_c y with ⟨o, ho, rfl⟩ | ⟨h1, h2⟩
    · exact ⟨0, _, by decide, h_debt_ok l γ σ _ _ _ _ (k_X4_debt l γ σ q o hq ho), fin_look hI (k_X5_debt l γ _ q o hq ho) (hR.1.d hq ho).symm⟩
    · exact ⟨1, σ, by decide, h_debt_t1 l γ σ σ _ _ (t_X4_debt_o l γ σ q y hq h1), fin_fail hI (k_X5_debt_1o l γ σ q y hq h2) (by decide)⟩
  · exact ⟨1, σ, by decide, h_debt_t1 l γ σ σ _ _ (t_X4_debt_p l γ σ x y h1), fin_fail hI (k_X5_debt_1 l γ σ x y h2) (by decide)⟩
theorem s_count (l : Launch) (γ : gG) {σ : gS} {K : Nat} (hI : INV σ K) (hK : K ≤ 999) (x : Int32) : STP l γ σ K yL_count wsL_count ({ frames := 8, cells := 1, slots := 6, locals := 243 } : Room) [.ref (ad γ 0), .int x, .ref (ad γ 30)] yX5_count wsX5_count ({ frames := 6, cells := 0, slots := 0, locals := 131 } : Room) [.ref (ad γ 23), .int x] := by
  obtain ⟨hR, ⟨s, n, hH⟩, -⟩ := id hI
  have hn := hR.n
  rcases rng 9 (by decide) x with ⟨w, hw, rfl, -⟩ | ⟨h1, h2⟩
  · refine ⟨0, _, by decide, h_count_ok l γ σ _ _ _ (k_X4_count l γ σ w _ hw hn.1 hn.2), fin_look hI (k_X5_count l γ (outS σ _) w hw _ _ (hR.1.SZ hR.Sh) (fun q hq => hR.ch hq)) ?_⟩
    show cntI (σ.1 2) (σ.1 3 2) (nB (σ.1 2)) w = cntZ (σ.1 24) (σ.1 23 3) (nB (σ.1 2)) (lB (σ.1 2)) w
    rw [hR.cnt hw, hH.2.2.2.1, hH.2.2.2.2.1]
  · exact ⟨1, σ, by decide, h_count_t1 l γ σ σ _ (t_X4_count_w l γ σ x h1), fin_fail hI (k_X5_count_1 l γ σ x h2) (by decide)⟩
theorem s_setting (l : Launch) (γ : gG) {σ : gS} {K : Nat} (hI : INV σ K) (hK : K ≤ 999) (x : Int32) : STP l γ σ K yL_setting wsL_setting ({ frames := 8, cells := 1, slots := 6, locals := 241 } : Room) [.ref (ad γ 0), .int x, .ref (ad γ 30)] yX5_setting wsX5_setting ({ frames := 1, cells := 0, slots := 0, locals := 22 } : Room) [.ref (ad γ 23), .int x] := by
  obtain ⟨hR, -, -⟩ := id hI
  rcases set_c x with ⟨k, hk, rfl⟩ | ⟨h1, h2⟩
  · exact ⟨0, _, by decide, h_setting_ok l γ σ _ _ _ (k_X4_setting l γ σ k hk), fin_look hI (k_X5_setting l γ _ k hk) (hR.1.s hk).symm⟩
  · exact ⟨1, σ, by decide, h_setting_t1 l γ σ σ _ (t_X4_setting_p l γ σ x h1), fin_fail hI (k_X5_setting_1 l γ σ x h2) (by decide)⟩
theorem s_spare (l : Launch) (γ : gG) {σ : gS} {K : Nat} (hI : INV σ K) (hK : K ≤ 999) (x : Int32) : STP l γ σ K yL_spare wsL_spare ({ frames := 8, cells := 1, slots := 6, locals := 241 } : Room) [.ref (ad γ 0), .int x, .ref (ad γ 30)] yX5_spare wsX5_spare ({ frames := 4, cells := 0, slots := 0, locals := 87 } : Room) [.ref (ad γ 23), .int x] := by
  obtain ⟨hR, -, -⟩ := id hI
  rcases per_c x with ⟨q, hq, rfl⟩ | ⟨h1, h2⟩
  · exact ⟨0, _, by decide, h_spare_ok l γ σ _ _ _ (k_X4_spare l γ σ q hq _ _ hR.Sh), fin_look hI (k_X5_spare l γ (outS σ _) q hq _ _ (hR.1.SZ hR.Sh)) (hR.1.spare hR.Sh hq).symm⟩
  · exact ⟨1, σ, by decide, h_spare_t1 l γ σ σ _ (t_X4_spare_p l γ σ x h1), fin_fail hI (k_X5_spare_1 l γ σ x h2) (by decide)⟩
theorem s_ifCalled (l : Launch) (γ : gG) {σ : gS} {K : Nat} (hI : INV σ K) (hK : K ≤ 999) (x y w : Int32) : STP l γ σ K yL_ifCalled wsL_ifCalled ({ frames := 9, cells := 1, slots := 6, locals := 265 } : Room) [.ref (ad γ 0), .int x, .int y, .int w, .ref (ad γ 30)] yX5_ifCalled wsX5_ifCalled ({ frames := 6, cells := 0, slots := 0, locals := 149 } : Room) [.ref (ad γ 23), .int x, .int y, .int w] := by
  obtain ⟨hR, -, -⟩ := id hI
  have hn := hR.n
  rcases bnd_c hR x with ⟨b, hb, rfl⟩ | ⟨h1, h2⟩
  · have hb10 : b < 10 := by omega
    rcases inB_c y (nI 1) (nI 99999) with ha | ha
    · obtain ⟨b1, b2⟩ := inB_t ha
      obtain ⟨a, ha1, ha5, rfl⟩ := amt2 (by decide) ha
      rcases rng 10 (by decide) w with ⟨j, hw, rfl, -⟩ | ⟨h1, h2⟩
      · obtain ⟨hB0, hB1, hB2, hB3, hB4⟩ := hR.BH hb
        have hl := fun f sh => look_rel hR (by omega) (σ := σ) rfl hb ha5 f sh
        obtain ⟨σ1, hσ⟩ : ∃ σ1, outS (drS σ b (pB (σ.1 2) b) (lB (σ.1 2) b) (nI a)) (drE σ b (pB (σ.1 2) b) (lB (σ.1 2) b) (nI a) j) = σ1 := ⟨_, rfl⟩
        have hI1 : INV σ1 K := by rw [← hσ]; exact (hI.drs _ _ _ _).out _
        have e24 : σ1.1 24 = σ.1 24 := by rw [← hσ]; rfl
        have hm := k_X5_ifCalled l γ σ1 b (pB (σ.1 2) b) (lB (σ.1 2) b) (sB (σ.1 2) b) hb10 (nI a) (nB (σ.1 2)) (by rw [e24]; exact hR.zn) hn.2 hb j hw (fun _ => by rw [e24]; exact (hl nul nul).1) ha
        rw [e24] at hm
        exact ⟨0, σ1, by decide, hσ ▸ h_ifCalled_ok l γ σ _ _ _ _ _ (k_X4_ifCalled l γ σ (nI a) j _ b _ _ _ hB0 hB1 hB2 hB3 hB4 hb hn.1 hn.2 b1 b2 hw), fin_qm hI1 (by rw [← hσ]; exact out_30 (drS σ b (pB (σ.1 2) b) (lB (σ.1 2) b) (nI a)) _) hm ((hl _ _).2.1 j hw)⟩
      · exact ⟨2, σ, by decide, h_ifCalled_t2 l γ σ σ _ _ _ (t_X4_ifCalled_w l γ σ (nI a) w b _ hb hn.1 hn.2 b1 b2 h1), fin_fail hI (k_X5_ifCalled_2 l γ σ b (nI a) w _ hR.zn hn.2 hb (Or.inr h2)) (by decide)⟩
    · exact ⟨2, σ, by decide, h_ifCalled_t2 l γ σ σ _ _ _ (t_X4_ifCalled_a l γ σ y w b _ hb hn.1 hn.2 (inB_f ha)), fin_fail hI (k_X5_ifCalled_2 l γ σ b y w _ hR.zn hn.2 hb (Or.inl ha)) (by decide)⟩
  · exact ⟨1, σ, by decide, h_ifCalled_t1 l γ σ σ _ _ _ (t_X4_ifCalled_b l γ σ x y w h1), fin_fail hI (k_X5_ifCalled_1 l γ σ x y w h2) (by decide)⟩
theorem s_thin (l : Launch) (γ : gG) {σ : gS} {K : Nat} (hI : INV σ K) (hK : K ≤ 999) (x : Int32) : STP l γ σ K yL_thin wsL_thin ({ frames := 8, cells := 1, slots := 6, locals := 242 } : Room) [.ref (ad γ 0), .int x, .ref (ad γ 30)] yX5_thin wsX5_thin ({ frames := 6, cells := 0, slots := 0, locals := 146 } : Room) [.ref (ad γ 23), .int x] := by
  obtain ⟨hR, -, -⟩ := id hI
  have hn := hR.n
  rcases bnd_c hR x with ⟨b, hb, rfl⟩ | ⟨h1, h2⟩
  · have hb10 : b < 10 := by omega
    obtain ⟨hB0, hB1, hB2, hB3, hB4⟩ := hR.BH hb
    have hlf := hR.left hb
    have hl := fun f sh => look_rel hR (by omega) (σ := σ) rfl hb hlf.2 f sh
    obtain ⟨σ1, hσ⟩ : ∃ σ1, outS (drS σ b (pB (σ.1 2) b) (lB (σ.1 2) b) (leftOf (σ.1 2) b)) (drT σ b (pB (σ.1 2) b) (lB (σ.1 2) b) (leftOf (σ.1 2) b)).2.1 = σ1 := ⟨_, rfl⟩
    have hI1 : INV σ1 K := by rw [← hσ]; exact (hI.drs _ _ _ _).out _
    have e24 : σ1.1 24 = σ.1 24 := by rw [← hσ]; rfl
    have hm := k_X5_thin l γ σ1 b (pB (σ.1 2) b) (lB (σ.1 2) b) (sB (σ.1 2) b) hb10 (nI (fB (σ.1 2) b)) (by rw [e24]; exact hR.lfz hb) (nB (σ.1 2)) (by rw [e24]; exact hR.zn) hn.2 hb (fun _ => by rw [e24]; exact (hl nul nul).1)
    rw [e24] at hm
    exact ⟨0, σ1, by decide, hσ ▸ h_thin_ok l γ σ _ _ _ (k_X4_thin l γ σ _ b _ _ _ hB0 hB1 hB2 hB3 hB4 hb hn.1 hn.2), fin_qm hI1 (by rw [← hσ]; exact out_30 (drS σ b (pB (σ.1 2) b) (lB (σ.1 2) b) (leftOf (σ.1 2) b)) _) hm (by rw [hlf.1]; exact (hl _ _).2.2)⟩
  · exact ⟨1, σ, by decide, h_thin_t1 l γ σ σ _ (t_X4_thin_b l γ σ x h1), fin_fail hI (k_X5_thin_1 l γ σ x h2) (by decide)⟩
