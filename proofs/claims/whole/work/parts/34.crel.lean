/-! A CALL CARRIED OUT: class and reference alike -/
def zA (z : Nat → Int32) (prn : Nat) (ca ow mg : Nat → Int32) : Nat → (Nat → Int32)
  | 0 => z
  | i + 1 => ad1 (ad1 (upd (zA z prn ca ow mg i) (9 + i) (ca i)) (49 + i) (mg i)) (57 + 8 * prn + i) (ow i)
theorem zA_rel {v z : Nat → Int32} (h : RZ v z) {prn : Nat} (hp : prn < 8) (ca ow mg : Nat → Int32) : ∀ i, i ≤ 8 → RZ (coA v prn ca ow mg i) (zA z prn ca ow mg i)
  | 0, _ => h
  | i + 1, hi => by
    have ih := zA_rel h hp ca ow mg i (by omega)
    rw [coA, zA]
    exact ((ih.u (k := i * 6 + 0) (ca i) (by omega) (mx_p (by omega) (by decide))).ad (k := i * 6 + 5) (mg i) (by omega) (mx_p (by omega) (by decide))).ad (k := 48 + prn * 8 + i) (ow i) (by omega) (mx_d hp (by omega))
theorem zA_c {z : Nat → Int32} {prn : Nat} {ca ow mg : Nat → Int32} {q : Nat} (hq : q < 8) : ∀ i, i ≤ 8 → zA z prn ca ow mg i (9 + q) = if q < i then ca q else z (9 + q)
  | 0, _ => by rw [if_neg (Nat.not_lt_zero _)]; rfl
  | i + 1, hi => by
    have ih := zA_c (z := z) (prn := prn) (ca := ca) (ow := ow) (mg := mg) hq i (by omega)
    rw [zA, ad1_ne (by omega), ad1_ne (by omega)]
    by_cases hqi : q = i
    · subst hqi; rw [pk_us, if_pos (by omega)]
    · rw [pk_un (by omega), ih]
      by_cases h2 : q < i
      · rw [if_pos h2, if_pos (by omega)]
      · rw [if_neg h2, if_neg (by omega)]
theorem zA_d {z : Nat → Int32} {prn : Nat} {ca ow mg : Nat → Int32} {q : Nat} (hq : q < 8) : ∀ i, i ≤ 8 → zA z prn ca ow mg i (57 + 8 * prn + q) = if q < i then z (57 + 8 * prn + q) + ow q else z (57 + 8 * prn + q)
  | 0, _ => by rw [if_neg (Nat.not_lt_zero _)]; rfl
  | i + 1, hi => by
    have ih := zA_d (z := z) (prn := prn) (ca := ca) (ow := ow) (mg := mg) hq i (by omega)
    rw [zA]
    by_cases hqi : q = i
    · subst hqi; rw [ad1_s, ad1_ne (by omega), pk_un (by omega), ih, if_neg (Nat.lt_irrefl _), if_pos (by omega)]
    · rw [ad1_ne (by omega), ad1_ne (by omega), pk_un (by omega), ih]
      by_cases h2 : q < i
      · rw [if_pos h2, if_pos (by omega)]
      · rw [if_neg h2, if_neg (by omega)]
theorem zA_m {z : Nat → Int32} {prn : Nat} {ca ow mg : Nat → Int32} {q : Nat} (hq : q < 8) : ∀ i, i ≤ 8 → zA z prn ca ow mg i (49 + q) = if q < i then z (49 + q) + mg q else z (49 + q)
  | 0, _ => by rw [if_neg (Nat.not_lt_zero _)]; rfl
  | i + 1, hi => by
    have ih := zA_m (z := z) (prn := prn) (ca := ca) (ow := ow) (mg := mg) hq i (by omega)
    rw [zA, ad1_ne (by omega)]
    by_cases hqi : q = i
    · subst hqi; rw [ad1_s, pk_un (by omega), ih, if_neg (Nat.lt_irrefl _), if_pos (by omega)]
    · rw [ad1_ne (by omega), pk_un (by omega), ih]
      by_cases h2 : q < i
      · rw [if_pos h2, if_pos (by omega)]
      · rw [if_neg h2, if_neg (by omega)]
theorem zA_o {z : Nat → Int32} {prn k : Nat} {ca ow mg : Nat → Int32} (hp : prn < 8) (hk : Oth prn k) : ∀ i, i ≤ 8 → zA z prn ca ow mg i k = z k
  | 0, _ => rfl
  | i + 1, hi => by
    have hk2 := hk
    unfold Oth at hk2
    rw [zA, ad1_ne (by omega), ad1_ne (by omega), pk_un (by omega), zA_o hp hk i (by omega)]
theorem coL_rel {u zz : Nat → Int32} (h : RZ u zz) {b : Nat} (hb : b < 10) (su : Nat → Nat) (bl : Nat → Int32) : ∀ i, i ≤ 4 → (∀ j, j < i → su j < 8) → RZ (coL u b su bl i) (zrL zz b su bl i)
  | 0, _, _ => h
  | i + 1, hi, hs => by
    have ih := coL_rel h hb su bl i (by omega) (fun j hj => hs j (by omega))
    have hsi := hs i (by omega)
    rw [coL, zrL]
    exact ((ih.ad (k := su i * 6 + 4) (bl i) (by omega) (mx_p hsi (by decide))).sb (k := 117 + b * 31 + 15 + i * 4 + 2) (bl i) (by omega) (mx_l hb (by omega) (by decide))).ad (k := 117 + b * 31 + 15 + i * 4 + 3) (bl i) (by omega) (mx_l hb (by omega) (by decide))
/-- the class's cells ahead of the trimming -/
def coP (v : Nat → Int32) (b prn L : Nat) (su : Nat → Nat) (am bp pd : Int32) (ca ow mg bl : Nat → Int32) : Nat → Int32 := coC (coL (coB (coA v prn ca ow mg 8) prn bp) b su bl L) b am pd
/-- what is known of a bond and its persons, in natural numbers: principal, layers, sureties, what is left of limits and bond, cash -/
def BK (v z : Nat → Int32) (b prn L lf : Nat) (su l c : Nat → Nat) : Prop :=
  b < 10 ∧ v (117 + b * 31 + 0) = nI prn ∧ prn < 8 ∧ v (117 + b * 31 + 3) = nI L ∧ L ≤ 4 ∧ (∀ i, i < L → v (117 + b * 31 + 15 + i * 4 + 0) = nI (su i) ∧ su i < 8) ∧ (∀ i, i < L → v (117 + b * 31 + 15 + i * 4 + 2) = nI (l i)) ∧ sN l L ≤ 99999 ∧
  leftOf v b = nI lf ∧ lf ≤ 99999 ∧ (∀ q, q < 8 → v (q * 6 + 0) = nI (c q)) ∧ sN c 8 ≤ 99999 * 1024 ∧ (∀ q, q < 8 → cN v (q * 6 + 2) 100) ∧ chOK z 8 (z (17 + prn))
theorem call_rel {σ : gS} {v z f sh : Nat → Int32} {b prn L lf A : Nat} {su l c0 : Nat → Nat} (hv : σ.1 2 = v) (h : RZ v z) (hB : BK v z b prn L lf su l c0) (hA : A ≤ 99999) :
    CH z b prn L su (nI A) ∧ drAm σ b (nI A) = nI (min A lf) ∧ drBp σ b prn (nI A) = nI (min (min A lf) (c0 prn)) ∧ cnD z b (nI A) = nI (min A lf) ∧
    ∃ c py : Nat → Nat, (∀ q, q < 8 → (drT σ b prn L (nI A)).2.2.1.1 q = nI (c q)) ∧ sN c 8 ≤ sN c0 8 ∧ (drT σ b prn L (nI A)).1 = nI (min (min A lf) (c0 prn) + sN py L) ∧ sN py L ≤ min A lf - min (min A lf) (c0 prn) ∧ (∀ j, j < L → py j ≤ l j) ∧
      cnF z f sh b prn L su (nI A) 7 = (drT σ b prn L (nI A)).1 ∧ cnF z f sh b prn L su (nI A) 9 = (drT σ b prn L (nI A)).2.1 ∧ cnF z f sh b prn L su (nI A) 8 = nI (min A lf) - (drT σ b prn L (nI A)).1 ∧
      (∀ q, q < 8 → cn7 z f sh b prn L su (nI A) (9 + q) = nI (c q)) ∧ (∀ i, i < L → cn7 z f sh b prn L su (nI A) (121 + 31 * b + 15 + 4 * i + 2) = nI (l i - py i)) ∧
      RZ (coP v b prn L su (nI (min A lf)) (nI (min (min A lf) (c0 prn))) (drT σ b prn L (nI A)).1 (drT σ b prn L (nI A)).2.2.1.1 (drT σ b prn L (nI A)).2.2.1.2.1 (drT σ b prn L (nI A)).2.2.1.2.2 (drT σ b prn L (nI A)).2.2.2.2) (cn7 z f sh b prn L su (nI A)) := by
  obtain ⟨hb, hpr, hp, hL, hL4, hsu, hl, hlA, hlf, hlf5, hc0, hcT, hpn, hch⟩ := hB
  obtain ⟨D, hD⟩ : ∃ D, min A lf = D := ⟨_, rfl⟩
  obtain ⟨O, hO⟩ : ∃ O, min D (c0 prn) = O := ⟨_, rfl⟩
  have hcp : c0 prn ≤ 99999 * 1024 := Nat.le_trans (sN_le c0 8 hp) hcT
  have hdam : drAm σ b (nI A) = nI D := by unfold drAm; rw [hv, hlf, mn_nI (by omega) (by omega), hD]
  have hdca : ∀ q, q < 8 → drCa σ q = nI (c0 q) := fun q hq => by unfold drCa fillI; rw [if_pos hq, hv]; exact hc0 q hq
  have hdbp : drBp σ b prn (nI A) = nI O := by unfold drBp; rw [hdam, hdca prn hp, mn_nI (by omega) (by omega), hO]
  have hcnD : cnD z b (nI A) = nI D := by unfold cnD; rw [h.left hb, hlf, mn_nI (by omega) (by omega), Nat.min_comm, hD]
  have hcnO : cnO z b prn (nI A) = nI O := by unfold cnO; rw [hcnD, h.p0 hp, hc0 prn hp, mn_nI (by omega) (by omega), Nat.min_comm, hO]
  have hcnR : cnR z b prn (nI A) = nI (D - O) := by unfold cnR; rw [hcnD, hcnO, pk_sub (by omega)]
  rw [hD, hO]
  have hzl : ∀ i, i < L → z (121 + 31 * b + 15 + 4 * i + 2) = nI (l i) := fun i hi => by rw [h.l hb (by omega) (by decide)]; exact hl i hi
  have h3l : ∀ i, i < L → cn3 z b prn (nI A) (121 + 31 * b + 15 + 4 * i + 2) = nI (l i) := fun i hi => by rw [cn3_k (by omega) (by omega) (by omega)]; exact hzl i hi
  obtain ⟨hls, d, hd1, hd2, hd3, hd4⟩ := share_rel (v := v) (zz := cn3 z b prn (nI A)) (b := b) (R := D - O) (am := nI D) (pd := nI O) hL4 hl h3l hlA (by omega) (pk_sub (by omega)) (σ.1 20) sh (σ.2 22)
  have hCH : CH z b prn L su (nI A) := ⟨by rw [h.b0 hb]; exact hpr, hp, by rw [h.b hb (by decide)]; exact hL, hL4, fun i hi => ⟨by rw [h.l0 hb (by omega)]; exact (hsu i hi).1, (hsu i hi).2⟩, hch, by rw [hcnR]; exact hls⟩
  refine ⟨hCH, hdam, hdbp, hcnD, ?_⟩
  -- the start of both
  have h317 : ∀ q, q < 8 → cn3 z b prn (nI A) (17 + q) = z (17 + q) := fun q hq => cn3_k (by omega) (by omega) (by omega)
  have hc3 : ∀ q, q < 8 → cn3 z b prn (nI A) (9 + q) = nI (updN c0 prn (c0 prn - O) q) := fun q hq => by
    unfold cn3
    rw [ad1_ne (by omega)]
    by_cases hqp : q = prn
    · subst hqp; rw [sb1_s, updN_s, ad1_ne (by omega), h.p0 hq, hc0 q hq, hcnO, pk_sub (by omega)]
    · rw [sb1_ne (by omega), updN_n hqp, ad1_ne (by omega), h.p0 hq, hc0 q hq]
  have hca0 : ∀ q, q < 8 → upd (drCa σ) prn (drCa σ prn - nI O) q = nI (updN c0 prn (c0 prn - O) q) := fun q hq => by
    by_cases hqp : q = prn
    · subst hqp; rw [pk_us, updN_s, hdca q hq, pk_sub (by omega)]
    · rw [pk_un hqp, updN_n hqp, hdca q hq]
  have hsum0 : sN (updN c0 prn (c0 prn - O)) 8 + O = sN c0 8 := by have := sN_upd c0 (c0 prn - O) 8 hp; omega
  have hCR0 : CR z (cn3 z b prn (nI A)) prn (fillI (σ.1 18) (fun _ => nI 0) 8) (fillI (σ.1 19) (fun _ => nI 0) 8) (updN c0 prn (c0 prn - O)) (cn3 z b prn (nI A)) :=
    ⟨hc3, fun q hq => by rw [cn3_k (by omega) (by omega) (by omega)]; unfold fillI; rw [if_pos hq, add_0], fun q hq => by rw [cn3_k (by omega) (by omega) (by omega)]; unfold fillI; rw [if_pos hq, add_0], fun k _ => rfl⟩
  have hmain := dr_rel (v := v) (z0 := z) (zr0 := cn3 z b prn (nI A)) (b := b) (prn := prn) (L := L) (O := O) (R := D - O) (T := 99999 * 1024) (su := su) (l := l) (d := d) (sh := decide (v (117 + b * 31 + 2) = nI 1))
    (t0 := (nI O, -1, (upd (drCa σ) prn (drCa σ prn - nI O), fillI (σ.1 18) (fun _ => nI 0) 8, fillI (σ.1 19) (fun _ => nI 0) 8), (drSo σ b prn L (nI A)).1, σ.1 21)) (m0 := (cn3 z b prn (nI A), upd (upd f 9 (-1)) 7 (nI O), nI (D - O))) (sh1 := cnSh z sh b prn L (nI A))
    hb hp hL4 (by decide) (by omega) hsu (fun q hq => by rw [h317 q hq]; exact h.p1 hq) (fun q hq => by rw [cn3_k (by omega) (by omega) (by omega)]; exact h.p2 hq) hpn (by rw [cn3_k (by omega) (by omega) (by omega)]; exact h.b hb (by decide)) rfl hl h3l (fun i hi => by have := sN_le l L hi; omega)
    (fun hw => ⟨fun j hj => by
        have hw1 := of_decide_eq_true hw
        dsimp only
        unfold drSo
        rw [hv, if_pos hw1, hdam, hdbp]
        exact hd1 j hj, fun j hj => by unfold cnSh; rw [hcnR]; exact hd2 j hj, hd3, by omega⟩)
    hca0 (by omega) hCR0 (by dsimp only; rw [h317 prn hp]; exact chOK_c h317 _ _ hch) rfl (by dsimp only; rw [pk_us]) (by dsimp only; rw [pk_un (by decide), pk_us]) rfl L (Nat.le_refl L)
  have hT : drT σ b prn L (nI A) = drI v b prn (nI (O + (D - O))) (decide (v (117 + b * 31 + 2) = nI 1)) L (nI O, -1, (upd (drCa σ) prn (drCa σ prn - nI O), fillI (σ.1 18) (fun _ => nI 0) 8, fillI (σ.1 19) (fun _ => nI 0) 8), (drSo σ b prn L (nI A)).1, σ.1 21) := by
    unfold drT
    rw [hv, hdam, hdbp, show O + (D - O) = D by omega]
  have hE : cnE z f sh b prn L su (nI A) = cnI (cnSh z sh b prn L (nI A)) b prn su (cn3 z b prn (nI A), upd (upd f 9 (-1)) 7 (nI O), nI (D - O)) L := by
    unfold cnE
    rw [hcnO, hcnR]
  rw [← hT, ← hE] at hmain
  obtain ⟨c, py, g1, g2, g3, g4, g5, g6, g7, g8, g9, -⟩ := hmain
  obtain ⟨t, ht⟩ : ∃ t, drT σ b prn L (nI A) = t := ⟨_, rfl⟩
  obtain ⟨m, hm⟩ : ∃ m, cnE z f sh b prn L su (nI A) = m := ⟨_, rfl⟩
  rw [ht] at g1 g3 g4 g5 g6 g9 ⊢
  rw [hm] at g3 g4 g5 g7
  obtain ⟨pd, th, ⟨ca, ow, mg⟩, du, bl⟩ := t
  obtain ⟨zE, fE, rE⟩ := m
  dsimp only at g1 g3 g4 g5 g6 g7 g9 ⊢
  have hF : cnF z f sh b prn L su (nI A) = upd fE 8 (nI D - fE 7) := by unfold cnF; rw [hm, hcnD]
  have h7 : cn7 z f sh b prn L su (nI A) = ad1 (ad1 (ad1 (ad1 zE (121 + 31 * b + 7) pd) 2 (nI D)) 3 pd) 4 (nI D - pd) := by
    unfold cn7
    rw [hF, hm, hcnD, pk_us, pk_un (by decide), g4]
  have hEk : ∀ k, Oth prn k → zE k = zrL (cn3 z b prn (nI A)) b su bl L k := g3.2.2.2
  have hsj : ∀ j, j < L → su j < 8 := fun j hj => (hsu j hj).2
  refine ⟨c, py, g1, by omega, g6, g8, fun j hj => (g9 j hj).2, ?_, ?_, ?_, fun q hq => ?_, fun i hi => ?_, ?_⟩
  · rw [hF, pk_un (by decide), g4]
  · rw [hF, pk_un (by decide), g5]
  · rw [hF, pk_us, g4]
  · rw [h7, ad1_ne (by omega), ad1_ne (by omega), ad1_ne (by omega), ad1_ne (by omega)]
    exact g3.1 q hq
  · rw [h7, ad1_ne (by omega), ad1_ne (by omega), ad1_ne (by omega), ad1_ne (by omega), hEk _ (Or.inr (Or.inr (Or.inr (by omega))))]
    have key : ∀ n, n ≤ L → i < n → zrL (cn3 z b prn (nI A)) b su bl n (121 + 31 * b + 15 + 4 * i + 2) = nI (l i - py i) := by
      intro n
      induction n with
      | zero => intro _ q; exact absurd q (Nat.not_lt_zero _)
      | succ n ih =>
        intro hn hin
        have hsn := hsj n (by omega)
        rw [zrL, ad1_ne (by omega)]
        by_cases hne : i = n
        · subst hne
          rw [sb1_s, ad1_ne (by omega), zrL_k i (fun j hj => ⟨by have := hsj j (by omega); omega, by omega, by omega⟩), h3l i hi, (g9 i hi).1, pk_sub (g9 i hi).2]
        · rw [sb1_ne (by omega), ad1_ne (by omega)]
          exact ih (by omega) (by omega)
    exact key L (Nat.le_refl L) hi
  · -- cell by cell
    have hZ : RZ (coP v b prn L su (nI D) (nI O) pd ca ow mg bl) (ad1 (ad1 (zrL (ad1 (zA z prn ca ow mg 8) (33 + prn) (nI O)) b su bl L) (121 + 31 * b + 6) (nI D)) (121 + 31 * b + 7) pd) :=
      ((coL_rel ((zA_rel h hp ca ow mg 8 (Nat.le_refl 8)).ad (k := prn * 6 + 3) (nI O) (by omega) (mx_p hp (by decide))) hb su bl L hL4 hsj).ad (k := 117 + b * 31 + 6) (nI D) (by omega) (mx_b hb (by decide))).ad (k := 117 + b * 31 + 7) pd (by omega) (mx_b hb (by decide))
    have hkL : ∀ k, (k < 41 ∨ 49 ≤ k) → k < 121 + 31 * b + 15 → zrL (ad1 (zA z prn ca ow mg 8) (33 + prn) (nI O)) b su bl L k = ad1 (zA z prn ca ow mg 8) (33 + prn) (nI O) k := fun k hk1 hk2 => zrL_k L (fun j hj => ⟨by have := hsj j hj; omega, by omega, by omega⟩)
    have hkL3 : ∀ k, (k < 41 ∨ 49 ≤ k) → k < 121 + 31 * b + 15 → zrL (cn3 z b prn (nI A)) b su bl L k = cn3 z b prn (nI A) k := fun k hk1 hk2 => zrL_k L (fun j hj => ⟨by have := hsj j hj; omega, by omega, by omega⟩)
    have heq : ∀ k, zE k = ad1 (zrL (ad1 (zA z prn ca ow mg 8) (33 + prn) (nI O)) b su bl L) (121 + 31 * b + 6) (nI D) k := by
      intro k
      by_cases k1 : 9 ≤ k ∧ k < 17
      · obtain ⟨q, hq, rfl⟩ : ∃ q, q < 8 ∧ k = 9 + q := ⟨k - 9, by omega, by omega⟩
        rw [ad1_ne (by omega), hkL _ (by omega) (by omega), ad1_ne (by omega), zA_c hq 8 (Nat.le_refl 8), if_pos hq, g3.1 q hq, g1 q hq]
      · by_cases k2 : 57 + 8 * prn ≤ k ∧ k < 65 + 8 * prn
        · obtain ⟨q, hq, rfl⟩ : ∃ q, q < 8 ∧ k = 57 + 8 * prn + q := ⟨k - (57 + 8 * prn), by omega, by omega⟩
          rw [ad1_ne (by omega), hkL _ (by omega) (by omega), ad1_ne (by omega), zA_d hq 8 (Nat.le_refl 8), if_pos hq, g3.2.1 q hq]
        · by_cases k3 : 49 ≤ k ∧ k < 57
          · obtain ⟨q, hq, rfl⟩ : ∃ q, q < 8 ∧ k = 49 + q := ⟨k - 49, by omega, by omega⟩
            rw [ad1_ne (by omega), hkL _ (by omega) (by omega), ad1_ne (by omega), zA_m hq 8 (Nat.le_refl 8), if_pos hq, g3.2.2.1 q hq]
          · have hO : Oth prn k := by unfold Oth; omega
            rw [hEk k hO]
            by_cases k4 : k = 121 + 31 * b + 6
            · subst k4
              rw [ad1_s, hkL _ (by omega) (by omega), hkL3 _ (by omega) (by omega), ad1_ne (by omega), zA_o hp hO 8 (Nat.le_refl 8)]
              unfold cn3
              rw [ad1_ne (by omega), sb1_ne (by omega), ad1_s, hcnD]
            · rw [ad1_ne k4]
              refine zrL_at ?_ L
              by_cases k5 : k = 33 + prn
              · subst k5
                rw [ad1_s, zA_o hp hO 8 (Nat.le_refl 8)]
                unfold cn3
                rw [ad1_s, sb1_ne (by omega), ad1_ne (by omega), hcnO]
              · rw [cn3_k k4 (by omega) k5, ad1_ne k5, zA_o hp hO 8 (Nat.le_refl 8)]
    rw [h7]
    exact ((RZ.od (j := 2) (show RZ _ (ad1 zE (121 + 31 * b + 7) pd) from fun k hk => (ad1_at (heq (mx k))).trans (hZ k hk)) (nI D) (by decide) (by decide)).od (j := 3) pd (by decide) (by decide)).od (j := 4) (nI D - pd) (by decide) (by decide)
