/-! THE LOOKS: class and reference alike -/
theorem sN_sub {l p : Nat → Nat} : ∀ n, (∀ j, j < n → p j ≤ l j) → sN (fun j => l j - p j) n = sN l n - sN p n ∧ sN p n ≤ sN l n
  | 0, _ => ⟨rfl, Nat.le_refl _⟩
  | n + 1, h => by
    obtain ⟨h1, h2⟩ := sN_sub n (fun j hj => h j (by omega))
    have h3 := h n (by omega)
    rw [sN, sN, sN, h1]
    omega
section LOOK
variable {v z : Nat → Int32} {K : Nat}
theorem Rel.runB (h : Rel v z K) {b : Nat} (hb : b < nB v) : ruB z b = decide (v (117 + b * 31 + 9) = nI 1) := by
  have hn := h.n.2
  unfold ruB
  rw [h.1.b (by omega) (by decide)]
theorem Rel.per (h : Rel v z K) {q w : Nat} (hq : q < 8) (hw : w ≤ 10) : perZ z (nB v) (lB v) q w = perI v (nB v) (lB v) q w := by
  have hn := h.n.2
  unfold perZ perI
  obtain rfl | rfl | rfl | rfl | rfl | rfl | rfl | rfl | rfl | rfl | rfl : w = 0 ∨ w = 1 ∨ w = 2 ∨ w = 3 ∨ w = 4 ∨ w = 5 ∨ w = 6 ∨ w = 7 ∨ w = 8 ∨ w = 9 ∨ w = 10 := by omega
  · exact h.1.p0 hq
  · exact sumI_congr 8 (fun o ho => h.1.d hq ho)
  · exact sumI_congr 8 (fun o ho => h.1.d ho hq)
  · exact h.1.bound h.Sh _
  · exact h.1.p1 hq
  · exact h.1.p2 hq
  · show nI (chN z 8 (z (17 + q))) = nI (chainI v 8 (v (q * 6 + 1)))
    rw [h.chain hq]
  · exact h.1.p3 hq
  · exact h.1.p4 hq
  · exact h.1.p5 hq
  · show bsZ z (nB v) (nI q) = sumI (fun b => if v (117 + b * 31 + 0) = nI q then v (117 + b * 31 + 9) else nI 0) (nB v)
    unfold bsZ
    refine sumI_congr _ (fun b hb => ?_)
    rw [h.runB hb, h.1.b0 (show b < 10 by omega)]
    rcases h.run hb with e | e
    · rw [decide_eq_true e, e, Bool.true_and]
      by_cases hs : v (117 + b * 31 + 0) = nI q
      · rw [if_pos hs, if_pos (decide_eq_true hs)]
      · rw [if_neg hs, decide_eq_false hs]; rfl
    · rw [decide_eq_false (by rw [e]; decide), e, Bool.false_and]
      by_cases hs : v (117 + b * 31 + 0) = nI q
      · rw [if_pos hs]; rfl
      · rw [if_neg hs]; rfl
theorem Rel.bon (h : Rel v z K) {b w : Nat} (hb : b < nB v) (hw : w ≤ 11) : bonZ z b (lB v b) w = bonI v b (lB v b) w := by
  have hn := h.n.2
  have hb10 : b < 10 := by omega
  have hL4 : lB v b ≤ 4 := (h.BH hb).2.2.2.1
  unfold bonZ bonI
  by_cases h9 : w = 9
  · rw [if_pos h9, if_pos h9]; exact h.1.left hb10
  · rw [if_neg h9, if_neg h9]
    by_cases h10 : w = 10
    · rw [if_pos h10, if_pos h10]; exact h.1.limits hb10 hL4
    · rw [if_neg h10, if_neg h10]
      by_cases h11 : w = 11
      · rw [if_pos h11, if_pos h11]; exact h.1.b hb10 (by decide)
      · rw [if_neg h11, if_neg h11]; exact h.1.b hb10 (by omega)
theorem Rel.cnt (h : Rel v z K) {w : Nat} {hs : Int32} (hw : w ≤ 9) : cntZ z hs (nB v) (lB v) w = cntI v hs (nB v) w := by
  have hn := h.n.2
  obtain ⟨-, -, ⟨s2, s3, s4, s5⟩⟩ := id h
  unfold cntZ cntI
  obtain rfl | rfl | rfl | rfl | rfl | rfl | rfl | rfl | rfl | rfl : w = 0 ∨ w = 1 ∨ w = 2 ∨ w = 3 ∨ w = 4 ∨ w = 5 ∨ w = 6 ∨ w = 7 ∨ w = 8 ∨ w = 9 := by omega
  · exact h.1.n
  · show ruS z (nB v) = bsum v (nB v) 9
    unfold ruS bsum
    refine sumI_congr _ (fun b hb => ?_)
    rw [h.runB hb]
    rcases h.run hb with e | e
    · rw [decide_eq_true e, e]; rfl
    · rw [decide_eq_false (by rw [e]; decide), e]; rfl
  · exact sumI_congr 8 (fun q hq => h.per hq (by decide))
  · exact h.1.br
  · exact s2
  · exact s3
  · exact s4
  · show sumI (fun q => perZ z (nB v) (lB v) q 1) 8 = sumI (fun q => sumI (fun o => v (48 + q * 8 + o)) 8) 8
    exact sumI_congr 8 (fun q hq => h.per hq (by decide))
  · exact s5
  · rfl
theorem left_coP (h : Rel v z K) {b D : Nat} (hb : b < nB v) (hD : D ≤ fB v b) {bp pd : Int32} {ca ow mg bl : Nat → Int32} : leftOf (coP v b (pB v b) (lB v b) (sB v b) (nI D) bp pd ca ow mg bl) b = nI (fB v b - D) := by
  obtain ⟨-, hp8, -, hL4, hsu⟩ := h.BH hb
  have hs8 : ∀ j, j < lB v b → sB v b j < 8 := fun j hj => (hsu j hj).2
  have hc1 := h.c1 hb
  have hc6 := h.c6 hb
  have hc8 := h.c8 hb
  have hc68 := h.c68 hb
  have hf : fB v b = tN (v (117 + b * 31 + 1)) - tN (v (117 + b * 31 + 6)) - tN (v (117 + b * 31 + 8)) := rfl
  unfold leftOf
  rw [coV_hi hp8 hL4 hs8 (by omega) (fun j hj => ⟨by omega, by omega⟩) (Or.inr (Or.inr ⟨by omega, by omega⟩)), if_neg (by omega), if_neg (by omega), coV_hi hp8 hL4 hs8 (by omega) (fun j hj => ⟨by omega, by omega⟩) (Or.inl rfl), if_pos rfl, coV_hi hp8 hL4 hs8 (by omega) (fun j hj => ⟨by omega, by omega⟩) (Or.inr (Or.inr ⟨by omega, by omega⟩)), if_neg (by omega), if_neg (by omega)]
  have e1 : v (117 + b * 31 + 1) - (v (117 + b * 31 + 6) + nI D) - v (117 + b * 31 + 8) = nI (tN (v (117 + b * 31 + 1))) - (nI (tN (v (117 + b * 31 + 6))) + nI D) - nI (tN (v (117 + b * 31 + 8))) := by rw [← hc1.1, ← hc6, ← hc8]
  rw [e1, nI_add, pk_sub (by omega), pk_sub (by omega)]
  congr 1
  omega
/-- what a call would do: nothing but what the reference says -/
theorem eff_rel (h : Rel v z K) (hK : K ≤ 1000) {σ : gS} (hv : σ.1 2 = v) {b A : Nat} (hb : b < nB v) (hA : A ≤ 99999) (f sh : Nat → Int32) :
    CH z b (pB v b) (lB v b) (sB v b) (nI A) ∧ (∀ w, w ≤ 10 → drE σ b (pB v b) (lB v b) (nI A) w = ceI z f sh b (pB v b) (lB v b) (sB v b) (nI A) w) ∧ (drT σ b (pB v b) (lB v b) (nI A)).2.1 = cnF z f sh b (pB v b) (lB v b) (sB v b) (nI A) 9 := by
  have hn10 := h.n.2
  have hb10 : b < 10 := by omega
  have hBK := h.BK (by omega) hb
  obtain ⟨hCH, ham, hbp, hcD, c, py, gca, gcs, gpd, gpy, gle, gF7, gF9, gF8, g9, gl, gRZ⟩ := call_rel (f := f) (sh := sh) hv h.1 hBK hA
  obtain ⟨-, hpr, hp8, hL, hL4, hsu, hle, hlA, hlf, hlf5, -⟩ := hBK
  obtain ⟨D, hD⟩ : ∃ D, min A (fB v b) = D := ⟨_, rfl⟩
  obtain ⟨O, hO⟩ : ∃ O, min D (tN (v (pB v b * 6 + 0))) = O := ⟨_, rfl⟩
  rw [hD] at ham hbp hcD gpd gpy gF8 gRZ
  rw [hO] at hbp gpd gpy gRZ
  refine ⟨hCH, fun w hw => ?_, gF9.symm⟩
  unfold drE efI ceI
  rw [hv]
  by_cases h0 : w = 0
  · rw [if_pos h0, if_pos h0, gF7]
  · rw [if_neg h0, if_neg h0]
    by_cases h1 : w = 1
    · rw [if_pos h1, if_pos h1, gF8, ham]
    · rw [if_neg h1, if_neg h1]
      by_cases h10 : w = 10
      · rw [if_pos h10, if_pos h10]
        obtain ⟨hs1, hs2⟩ := sN_sub (l := eB' v b) (p := py) (lB v b) gle
        have hleft : lfZ (cn7 z f sh b (pB v b) (lB v b) (sB v b) (nI A)) b = nI (fB v b - D) := by rw [gRZ.left hb10]; exact left_coP h hb (by omega)
        obtain ⟨e', he1, he2⟩ := trZ_nat (z := cn7 z f sh b (pB v b) (lB v b) (sB v b) (nI A)) (b := b) (L := lB v b) (lf := fB v b - D) (e := fun i => eB' v b i - py i) hL4 gl (by omega) hleft (by omega)
        have hlm : lmZ (cnZ z f sh b (pB v b) (lB v b) (sB v b) (nI A)) b (lB v b) = nI (min (sN (fun i => eB' v b i - py i) (lB v b)) (fB v b - D)) := by
          rw [← he2]
          unfold lmZ
          exact sumI_nI (lB v b) (fun i hi => (he1 i hi).1)
        have hli : limitsOf v b (lB v b) = nI (sN (eB' v b) (lB v b)) := by unfold limitsOf; exact sumI_nI (lB v b) (fun i hi => hle i hi)
        have e1 : nI (O + sN py (lB v b)) - nI O = nI (sN py (lB v b)) := by rw [pk_sub (by omega), show O + sN py (lB v b) - O = sN py (lB v b) by omega]
        unfold lfT
        rw [hlm, hli, hlf, gpd, hbp, ham, e1, pk_sub hs2, pk_sub (by omega), mn_nI (by omega) (by omega), hs1]
      · rw [if_neg h10, if_neg h10]
        have hq : w - 2 < 8 := by omega
        have hz : cnZ z f sh b (pB v b) (lB v b) (sB v b) (nI A) (9 + w - 2) = nI (c (w - 2)) := by
          unfold cnZ
          rw [trZ_k (fun j hj => by omega) hL4, show 9 + w - 2 = 9 + (w - 2) by omega]
          exact g9 _ hq
        rw [hz, gca _ hq, show 9 + w - 2 = 9 + (w - 2) by omega, h.1.p0 hq]
/-- a bond that ended: a call would take nothing -/
theorem dead_drI {b prn L : Nat} {sw : Bool} {ca0 ow mg du0 bl : Nat → Int32} (hd : sw = true → ∀ j, j < L → du0 j = nI 0) (hl : ∀ j, j < L → v (117 + b * 31 + 15 + j * 4 + 2) = nI 0) (hc : ∀ j, j < L → ∃ n, n < 2 ^ 31 ∧ ca0 (tN (v (117 + b * 31 + 15 + j * 4 + 0))) = nI n) :
    ∀ i, i ≤ L → (drI v b prn (nI 0) sw i (nI 0, -1, (ca0, ow, mg), du0, bl)).1 = nI 0 ∧ (drI v b prn (nI 0) sw i (nI 0, -1, (ca0, ow, mg), du0, bl)).2.1 = -1 ∧ (drI v b prn (nI 0) sw i (nI 0, -1, (ca0, ow, mg), du0, bl)).2.2.1.1 = ca0 ∧ (sw = true → (drI v b prn (nI 0) sw i (nI 0, -1, (ca0, ow, mg), du0, bl)).2.2.2.1 = du0)
  | 0, _ => ⟨rfl, rfl, rfl, fun _ => rfl⟩
  | i + 1, hi => by
    obtain ⟨g1, g2, g3, g4⟩ := dead_drI (prn := prn) (ow := ow) (mg := mg) (bl := bl) hd hl hc i (by omega)
    rw [drI]
    obtain ⟨t, ht⟩ : ∃ t, drI v b prn (nI 0) sw i (nI 0, -1, (ca0, ow, mg), du0, bl) = t := ⟨_, rfl⟩
    rw [ht] at g1 g2 g3 g4 ⊢
    obtain ⟨n, hn, en⟩ := hc i (by omega)
    obtain ⟨d', hd'⟩ : ∃ d', (if sw then t.2.2.2.1 else upd t.2.2.2.1 i (mn (nI 0 - t.1) (v (117 + b * 31 + 15 + i * 4 + 2)))) = d' := ⟨_, rfl⟩
    have hdi : d' i = nI 0 := by
      rw [← hd']
      by_cases hs : sw = true
      · rw [if_pos hs, g4 hs]; exact hd hs i (by omega)
      · rw [if_neg hs, pk_us, g1, hl i (by omega)]; decide
    have hm : mn (d' i) (ca0 (tN (v (117 + b * 31 + 15 + i * 4 + 0)))) = nI 0 := by rw [hdi, en, mn_nI (by decide) hn]; simp
    unfold dwS plS
    rw [hd', g1, g2, g3]
    dsimp only
    rw [hm, hdi]
    refine ⟨by decide, by unfold thS; rw [if_neg (fun w => absurd w.1 (by decide))], ?_, fun hs => ?_⟩
    · rw [mgI, if_pos (by decide)]
      dsimp only
      rw [sub_0, upd_self]
    · rw [← hd', if_pos hs]; exact g4 hs
theorem dead_rel (h : Rel v z K) (hK : K ≤ 1000) {σ : gS} (hv : σ.1 2 = v) {b A : Nat} (hb : b < nB v) (hA : A ≤ 99999) (hr : v (117 + b * 31 + 9) = nI 0) :
    (∀ w, w ≤ 10 → drE σ b (pB v b) (lB v b) (nI A) w = nI 0) ∧ (drT σ b (pB v b) (lB v b) (nI A)).2.1 = -1 := by
  have hn10 := h.n.2
  have hb10 : b < 10 := by omega
  have hBK := h.BK (by omega) hb
  obtain ⟨hb0, hpr, hp8, hL, hL4, hsu, hle, hlA, hlf, hlf5, hc0, hcT, hpn, hch⟩ := hBK
  obtain ⟨-, -, -, -, -, -, -, -, -, h9, -, -, -⟩ := h.bd hb
  have hf0 : fB v b = 0 := by
    rcases h9 with e | ⟨-, e⟩
    · have e' : v (117 + b * 31 + 9) = nI 1 := e
      rw [hr] at e'
      exact absurd e' (by decide)
    · have e' : tN (v (117 + b * 31 + 6)) + tN (v (117 + b * 31 + 8)) = tN (v (117 + b * 31 + 1)) := e
      unfold fB
      omega
  have hs0 : sN (eB' v b) (lB v b) = 0 := by have := (h.lim hb).2; omega
  have he0 : ∀ j, j < lB v b → eB' v b j = 0 := fun j hj => by have := sN_le (eB' v b) (lB v b) hj; omega
  have hl0 : ∀ j, j < lB v b → v (117 + b * 31 + 15 + j * 4 + 2) = nI 0 := fun j hj => by rw [hle j hj, he0 j hj]
  rw [hf0] at hlf
  have hdam : drAm σ b (nI A) = nI 0 := by unfold drAm; rw [hv, hlf, mn_nI (by omega) (by decide), Nat.min_zero]
  have hdca : ∀ q, q < 8 → drCa σ q = nI (tN (v (q * 6 + 0))) := fun q hq => by unfold drCa fillI; rw [if_pos hq, hv]; exact hc0 q hq
  have hct : ∀ q, q < 8 → tN (v (q * 6 + 0)) < 2 ^ 31 := fun q hq => by have := sN_le (fun q => tN (v (q * 6 + 0))) 8 hq; omega
  have hdbp : drBp σ b (pB v b) (nI A) = nI 0 := by unfold drBp; rw [hdam, hdca _ hp8, mn_nI (by decide) (hct _ hp8), Nat.zero_min]
  have hca : upd (drCa σ) (pB v b) (drCa σ (pB v b) - nI 0) = drCa σ := by rw [sub_0, upd_self]
  have hso : v (117 + b * 31 + 2) = nI 1 → ∀ j, j < lB v b → (drSo σ b (pB v b) (lB v b) (nI A)).1 j = nI 0 := fun hw j hj => by
    unfold drSo
    rw [hv, if_pos hw, hdam, hdbp]
    obtain ⟨-, d, hd1, -, hd3, -⟩ := share_rel (v := v) (zz := fun k => if 121 + 31 * b + 15 ≤ k then v (k - 4) else nI 0) (b := b) (L := lB v b) (R := 0) (am := nI 0) (pd := nI 0) hL4 hle (fun i hi => by
      rw [if_pos (by omega), ← hle i hi]
      congr 1
      omega) hlA (by decide) rfl (σ.1 20) (σ.1 20) (σ.2 22)
    rw [hd1 j hj, show d j = 0 by have := hd3 j hj; have := he0 j hj; omega]
  obtain ⟨g1, g2, g3, -⟩ := dead_drI (v := v) (b := b) (prn := pB v b) (L := lB v b) (sw := decide (v (117 + b * 31 + 2) = nI 1)) (ca0 := drCa σ) (ow := fillI (σ.1 18) (fun _ => nI 0) 8) (mg := fillI (σ.1 19) (fun _ => nI 0) 8) (du0 := (drSo σ b (pB v b) (lB v b) (nI A)).1) (bl := σ.1 21) (fun hw => hso (of_decide_eq_true hw)) hl0 (fun j hj => by
    have h1 := (hsu j hj)
    rw [h1.1, tN_n (by omega)]
    exact ⟨_, hct _ h1.2, hdca _ h1.2⟩) (lB v b) (Nat.le_refl _)
  have hT : drT σ b (pB v b) (lB v b) (nI A) = drI v b (pB v b) (nI 0) (decide (v (117 + b * 31 + 2) = nI 1)) (lB v b) (nI 0, -1, (drCa σ, fillI (σ.1 18) (fun _ => nI 0) 8, fillI (σ.1 19) (fun _ => nI 0) 8), (drSo σ b (pB v b) (lB v b) (nI A)).1, σ.1 21) := by
    unfold drT
    rw [hv, hdam, hdbp, hca]
  refine ⟨fun w hw => ?_, by rw [hT]; exact g2⟩
  unfold drE efI
  rw [hT, hv, hdam, hdbp, g1, g3]
  by_cases h0 : w = 0
  · rw [if_pos h0]
  · rw [if_neg h0]
    by_cases h1 : w = 1
    · rw [if_pos h1]; rfl
    · rw [if_neg h1]
      by_cases h10 : w = 10
      · rw [if_pos h10]
        have hli : limitsOf v b (lB v b) = nI 0 := by rw [← hs0]; unfold limitsOf; exact sumI_nI (lB v b) (fun i hi => hle i hi)
        unfold lfT
        rw [hli, hlf]
        decide
      · have e : v ((w - 2) * 6 + 0) = nI (tN (v ((w - 2) * 6 + 0))) := hc0 (w - 2) (by omega)
        rw [if_neg h10, hdca _ (by omega), ← e, Int32.sub_self]
        rfl
theorem look_rel (h : Rel v z K) (hK : K ≤ 1000) {σ : gS} (hv : σ.1 2 = v) {b A : Nat} (hb : b < nB v) (hA : A ≤ 99999) (f sh : Nat → Int32) :
    CH z b (pB v b) (lB v b) (sB v b) (nI A) ∧ (∀ w, w ≤ 10 → drE σ b (pB v b) (lB v b) (nI A) w = coZ z f sh b (pB v b) (lB v b) (sB v b) (nI A) w) ∧ (drT σ b (pB v b) (lB v b) (nI A)).2.1 = thZ z f sh b (pB v b) (lB v b) (sB v b) (nI A) := by
  obtain ⟨hC, he, ht⟩ := eff_rel h hK hv hb hA f sh
  refine ⟨hC, ?_⟩
  unfold coZ thZ
  rw [h.runB hb]
  rcases h.run hb with e | e
  · rw [decide_eq_true e]
    exact ⟨he, ht⟩
  · rw [decide_eq_false (by rw [e]; decide)]
    obtain ⟨g1, g2⟩ := dead_rel h hK hv hb hA e
    exact ⟨g1, g2⟩
end LOOK
