/-! WHAT A READING LEAVES ALONE; HOW A STEP ENDS -/
def Fr (σ σ' : gS) : Prop := (∀ o, o ≠ 11 → o ≠ 13 → o ≠ 14 → o ≠ 15 → σ'.1 o = σ.1 o) ∧ σ'.2 = σ.2
theorem Fr.rf (σ : gS) : Fr σ σ := ⟨fun _ _ _ _ _ => rfl, rfl⟩
theorem Fr.p {σ σ' : gS} (h : Fr σ σ') (f : Nat) (x : Int32) : Fr σ (sP σ' f x) := ⟨fun o h1 h2 h3 h4 => by
  unfold sP
  rw [sA_ne _ _ h1]
  exact h.1 o h1 h2 h3 h4, h.2⟩
theorem Fr.a {σ σ' : gS} (h : Fr σ σ') {o' : Nat} (ho : o' = 13 ∨ o' = 14 ∨ o' = 15) (f : Nat → Int32) : Fr σ (sA σ' o' f) := ⟨fun o h1 h2 h3 h4 => by
  rw [sA_ne _ _ (by omega)]
  exact h.1 o h1 h2 h3 h4, h.2⟩
theorem Fr.ite {σ : gS} {p : Prop} [Decidable p] {a b : BS} (h1 : Fr σ a.2) (h2 : Fr σ b.2) : Fr σ (if p then a else b).2 := by
  split
  · exact h1
  · exact h2
theorem Fr.acc (σ : gS) (c : Int32) (p k q : Nat) : Fr σ (accS σ c p k q).2 := by
  have r := Fr.rf σ
  have hs : ∀ s w : Int32, Fr σ (aSign σ c s w).2 := fun s w => Fr.ite (r.p _ _) r
  have he : ∀ m : Int32, Fr σ (aExt σ c m).2 := fun m => Fr.ite (r.p _ _) r
  have ho : ∀ a b : BS, Fr σ a.2 → Fr σ b.2 → Fr σ (orB a b).2 := fun a b h1 h2 => by
    unfold orB
    exact Fr.ite h1 h2
  match p with
  | 0 => exact hs _ _
  | 1 => exact Fr.ite ((r.p _ _).p _ _) r
  | 2 => exact hs _ _
  | 3 => exact ho _ _ (he _) (Fr.ite (((r.p _ _).p _ _).p _ _) r)
  | 4 => exact Fr.ite ((r.a (Or.inl rfl) _).p _ _) r
  | 5 => exact hs _ _
  | 6 => exact ho _ _ (he _) (Fr.ite ((((r.p _ _).a (Or.inr (Or.inl rfl)) _).p _ _).p _ _) r)
  | 7 =>
    refine ho _ _ (he _) (Fr.ite ?_ r)
    dsimp only
    split
    · exact ((((r.p _ _).a (Or.inr (Or.inr rfl)) _).p _ _).p _ _).p _ _
    · exact ((r.p _ _).a (Or.inr (Or.inr rfl)) _).p _ _
  | n + 8 => exact r
theorem Fr.tr {σ σ1 σ2 : gS} (h : Fr σ σ1) (h2 : Fr σ1 σ2) : Fr σ σ2 := ⟨fun o a b c d => (h2.1 o a b c d).trans (h.1 o a b c d), h2.2.trans h.2⟩
theorem Fr.rds (τ : gS) : ∀ i, Fr τ (rdS τ i)
  | 0 => Fr.rf τ
  | i + 1 => (Fr.rds τ i).tr (Fr.acc _ _ _ _ _)
theorem Fr.rdSt (σ : gS) : Fr σ (rd0 σ) := (((Fr.rf σ).p _ _).p _ _ |>.p _ _).p _ _
theorem Fr.rdEnd (σ : gS) (n : Nat) : Fr σ (rdE (rd0 σ) n) := by
  unfold rdE
  split
  · exact ((Fr.rdSt σ).tr (Fr.rds _ _)).p _ _
  · exact (Fr.rdSt σ).tr (Fr.rds _ _)
theorem rdE_k (σ : gS) (n : Nat) : TOK (rdE (rd0 σ) n) ∧ (rdE (rd0 σ) n).1 11 4 = σ.1 11 4 := by
  have h0 := rd0_ok σ
  unfold rdE
  by_cases h : readI (rd0 σ) n 0 < n
  · rw [if_pos h]
    obtain ⟨⟨-, hk, hq⟩, -, h4⟩ := rdS_ok h0 (readI (rd0 σ) n 0)
    refine ⟨⟨⟨0, by decide, by rw [sP_at, if_pos rfl]⟩, ?_, ?_⟩, ?_⟩
    · rw [sP_at, if_neg (by decide)]; exact hk
    · rw [sP_at, if_neg (by decide)]; exact hq
    · rw [sP_at, if_neg (by decide), h4, rd0_4]
  · rw [if_neg h]
    obtain ⟨hT, -, h4⟩ := rdS_ok h0 n
    exact ⟨hT, by rw [h4, rd0_4]⟩
theorem rd0_ss (σ : gS) : SS (rdS (rd0 σ) 0) 0 0 0 0 := ⟨by simp [rdS, rd0, sP, sA, upd], by simp [rdS, rd0, sP, sA, upd], by simp [rdS, rd0, sP, sA, upd], by simp [rdS, rd0, sP, sA, upd]⟩
theorem INV.fr {σ σ2 : gS} {K : Nat} (h : INV σ K) (hF : Fr σ σ2) (e11 : σ2.1 11 4 = σ.1 11 4) : INV σ2 K :=
  h.same (Nat.le_refl K) (hF.1 2 (by decide) (by decide) (by decide) (by decide)) (hF.1 24 (by decide) (by decide) (by decide) (by decide)) (hF.1 3 (by decide) (by decide) (by decide) (by decide)) (fun i hi => hF.1 (5 + i) (by omega) (by omega) (by omega) (by omega)) (by rw [hF.1 23 (by decide) (by decide) (by decide) (by decide)]) (by rw [hF.1 23 (by decide) (by decide) (by decide) (by decide)]) (hF.1 25 (by decide) (by decide) (by decide) (by decide)) e11 (hF.1 12 (by decide) (by decide) (by decide) (by decide)) (hF.1 27 (by decide) (by decide) (by decide) (by decide))
/-- the reference's half of a step -/
def MP (l : Launch) (γ : gG) (my : MethodName) (mws : List Cond) (mrm : Room) (margs : List Value) (σ1 : gS) (k K : Nat) : Prop :=
  ∃ post, gM l γ my mws mrm margs σ1 post 0 0 ∧ ∀ v σ2, post v σ2 → ∃ b : Int32, v = some (.int b) ∧ σ2.1 23 6 = nI k ∧ (k = 0 → σ2.2 30 0 = b.toInt64) ∧ INV σ2 K
/-- a step of the law: the helper's half, the reference's half -/
def STP (l : Launch) (γ : gG) (σ : gS) (K : Nat) (hy : MethodName) (hws : List Cond) (hrm : Room) (hargs : List Value) (my : MethodName) (mws : List Cond) (mrm : Room) (margs : List Value) : Prop :=
  ∃ k σ1, k ≤ 3 ∧ gMH l γ hy hws hrm hargs σ (gis (some (.int (nI k))) σ1) ∧ MP l γ my mws mrm margs σ1 k (K + 1)
section FIN
variable {l : Launch} {γ : gG} {my : MethodName} {mws : List Cond} {mrm : Room} {margs : List Value} {σ σ1 : gS} {K : Nat}
theorem INV.mono {K' : Nat} (h : INV σ K) (hK : K ≤ K') : INV σ K' := h.same hK rfl rfl rfl (fun _ _ => rfl) rfl rfl rfl rfl rfl rfl
theorem INV.sM6 (h : INV σ K) (x : Int32) : INV (sM σ 6 x) K := h.same (Nat.le_refl K) rfl rfl rfl (six rfl rfl rfl rfl rfl rfl) rfl rfl rfl rfl rfl rfl
theorem INV.out (h : INV σ K) (r : Int32) : INV (outS σ r) K := h.same (Nat.le_refl K) rfl rfl rfl (fun _ _ => rfl) rfl rfl rfl rfl rfl rfl
theorem out_30 (σ : gS) (r : Int32) : (outS σ r).2 30 0 = r.toInt64 := by
  show vp_updL (σ.2 30) 0 r.toInt64 0 = _
  unfold vp_updL
  simp
theorem fin_fail {k : Nat} {r : Int32} (hI : INV σ K) (hM : gM l γ my mws mrm margs σ (gis (some (.int r)) (sM σ 6 (nI k))) 0 0) (hk : k ≠ 0) : MP l γ my mws mrm margs σ k (K + 1) :=
  ⟨_, hM, fun v σ2 h => by
    obtain ⟨rfl, rfl⟩ := h
    exact ⟨r, rfl, rfl, fun q => absurd q hk, (hI.sM6 _).mono (Nat.le_succ K)⟩⟩
theorem fin_look {r r' : Int32} (hI : INV σ K) (hM : gM l γ my mws mrm margs (outS σ r) (gis (some (.int r')) (okM (outS σ r))) 0 0) (er : r = r') : MP l γ my mws mrm margs (outS σ r) 0 (K + 1) :=
  ⟨_, hM, fun v σ2 h => by
    obtain ⟨rfl, rfl⟩ := h
    exact ⟨r', rfl, rfl, fun _ => by rw [← er]; exact out_30 σ r, ((hI.out r).sM6 _).mono (Nat.le_succ K)⟩⟩
/-- a state behind an undoable call of the class -/
def DO (σ σ1 : gS) (s n : Nat) (v' : Nat → Int32) (r : Int32) : Prop := (σ1.1 2 = v') ∧ (σ1.1 24 = σ.1 24) ∧ (σ1.1 23 = σ.1 23) ∧ (σ1.1 25 = σ.1 25) ∧ (σ1.1 3 = (svS σ s n).1 3) ∧ (∀ i, i < 6 → σ1.1 (5 + i) = (svS σ s n).1 (5 + i)) ∧ (σ1.1 11 = σ.1 11) ∧ (σ1.1 12 = σ.1 12) ∧ (σ1.1 27 = σ.1 27) ∧ (σ1.2 30 0 = r.toInt64)
theorem DO.e2 {s n : Nat} {v' : Nat → Int32} {r : Int32} (h : DO σ σ1 s n v' r) : σ1.1 2 = v' := h.1
theorem DO.e24 {s n : Nat} {v' : Nat → Int32} {r : Int32} (h : DO σ σ1 s n v' r) : σ1.1 24 = σ.1 24 := h.2.1
theorem DO.e23 {s n : Nat} {v' : Nat → Int32} {r : Int32} (h : DO σ σ1 s n v' r) : σ1.1 23 = σ.1 23 := h.2.2.1
theorem DO.e25 {s n : Nat} {v' : Nat → Int32} {r : Int32} (h : DO σ σ1 s n v' r) : σ1.1 25 = σ.1 25 := h.2.2.2.1
theorem DO.e3 {s n : Nat} {v' : Nat → Int32} {r : Int32} (h : DO σ σ1 s n v' r) : σ1.1 3 = (svS σ s n).1 3 := h.2.2.2.2.1
theorem DO.er {s n : Nat} {v' : Nat → Int32} {r : Int32} (h : DO σ σ1 s n v' r) : ∀ i, i < 6 → σ1.1 (5 + i) = (svS σ s n).1 (5 + i) := h.2.2.2.2.2.1
theorem DO.e11 {s n : Nat} {v' : Nat → Int32} {r : Int32} (h : DO σ σ1 s n v' r) : σ1.1 11 = σ.1 11 := h.2.2.2.2.2.2.1
theorem DO.e12 {s n : Nat} {v' : Nat → Int32} {r : Int32} (h : DO σ σ1 s n v' r) : σ1.1 12 = σ.1 12 := h.2.2.2.2.2.2.2.1
theorem DO.e27 {s n : Nat} {v' : Nat → Int32} {r : Int32} (h : DO σ σ1 s n v' r) : σ1.1 27 = σ.1 27 := h.2.2.2.2.2.2.2.2.1
theorem DO.e30 {s n : Nat} {v' : Nat → Int32} {r : Int32} (h : DO σ σ1 s n v' r) : σ1.2 30 0 = r.toInt64 := h.2.2.2.2.2.2.2.2.2
theorem do_ok {s n : Nat} {v' : Nat → Int32} {r : Int32} (hs : s < 6) (hσ : outS (sA (svS σ s n) 2 v') r = σ1) : DO σ σ1 s n v' r := by
  subst hσ
  exact ⟨rfl, svs_o (o := 24) σ s n (by decide) (by omega), svs_o (o := 23) σ s n (by decide) (by omega), svs_o (o := 25) σ s n (by decide) (by omega), rfl, six rfl rfl rfl rfl rfl rfl, svs_o (o := 11) σ s n (by decide) (by omega), svs_o (o := 12) σ s n (by decide) (by omega), svs_o (o := 27) σ s n (by decide) (by omega), out_30 _ _⟩
theorem fin_do {s n : Nat} {v' z' : Nat → Int32} {r r' : Int32} (hI : INV σ K) (hH : HI σ s n K) (d : DO σ σ1 s n v' r) (hR2 : Rel v' z' (K + 1)) (hM : gM l γ my mws mrm margs σ1 (gis (some (.int r')) (unM σ1 n z')) 0 0) (er : r = r') : MP l γ my mws mrm margs σ1 0 (K + 1) :=
  ⟨_, hM, fun v σ2 h => by
    obtain ⟨rfl, rfl⟩ := h
    obtain ⟨hR, -, ⟨k0, hB⟩⟩ := hI
    refine ⟨r', rfl, rfl, fun _ => by rw [← er]; exact d.e30, INV.save hR hH (s := s) (n := n) ?_ ⟨k0, hB.same ?_ ?_ ?_ ?_⟩ ?_ ?_ rfl ?_⟩
    · show Rel (σ1.1 2) z' (K + 1)
      rw [d.e2]; exact hR2
    · show σ1.1 23 5 = _
      rw [d.e23]
    · show σ1.1 11 4 = _
      rw [d.e11]
    · show σ1.1 12 = _
      exact d.e12
    · show σ1.1 27 = _
      exact d.e27
    · exact d.e3
    · exact six (d.er 0 (by decide)) (d.er 1 (by decide)) (d.er 2 (by decide)) (d.er 3 (by decide)) (d.er 4 (by decide)) (d.er 5 (by decide))
    · show rwM (σ1.1 25) (σ1.1 24) n = _
      rw [d.e25, d.e24]⟩
end FIN
