/-! A CALL, LAYER BY LAYER: class and reference alike -/
def zrL (zz : Nat → Int32) (b : Nat) (su : Nat → Nat) (bl : Nat → Int32) : Nat → (Nat → Int32)
  | 0 => zz
  | i + 1 => ad1 (sb1 (ad1 (zrL zz b su bl i) (41 + su i) (bl i)) (121 + 31 * b + 15 + 4 * i + 2) (bl i)) (121 + 31 * b + 15 + 4 * i + 3) (bl i)
theorem ad1_at {z z' : Nat → Int32} {j k : Nat} {x : Int32} (h : z k = z' k) : ad1 z j x k = ad1 z' j x k := by
  by_cases hk : k = j
  · subst hk; rw [ad1_s, ad1_s, h]
  · rw [ad1_ne hk, ad1_ne hk, h]
theorem sb1_at {z z' : Nat → Int32} {j k : Nat} {x : Int32} (h : z k = z' k) : sb1 z j x k = sb1 z' j x k := by
  by_cases hk : k = j
  · subst hk; rw [sb1_s, sb1_s, h]
  · rw [sb1_ne hk, sb1_ne hk, h]
theorem zrL_at {zz zz' : Nat → Int32} {b k : Nat} {su : Nat → Nat} {bl : Nat → Int32} (h : zz k = zz' k) : ∀ i, zrL zz b su bl i k = zrL zz' b su bl i k
  | 0 => h
  | i + 1 => ad1_at (sb1_at (ad1_at (zrL_at h i)))
theorem zrL_bl {zz : Nat → Int32} {b : Nat} {su : Nat → Nat} {bl bl' : Nat → Int32} : ∀ i, (∀ j, j < i → bl j = bl' j) → zrL zz b su bl i = zrL zz b su bl' i
  | 0, _ => rfl
  | i + 1, h => by rw [zrL, zrL, zrL_bl i (fun j hj => h j (by omega)), h i (by omega)]
theorem zrL_k {zz : Nat → Int32} {b k : Nat} {su : Nat → Nat} {bl : Nat → Int32} : ∀ i, (∀ j, j < i → k ≠ 41 + su j ∧ k ≠ 121 + 31 * b + 15 + 4 * j + 2 ∧ k ≠ 121 + 31 * b + 15 + 4 * j + 3) → zrL zz b su bl i k = zz k
  | 0, _ => rfl
  | i + 1, h => by
    obtain ⟨h1, h2, h3⟩ := h i (by omega)
    rw [zrL, ad1_ne h3, sb1_ne h2, ad1_ne h1]
    exact zrL_k i (fun j hj => h j (by omega))
/-- one layer pays -/
theorem pay_rel {v z0 zr : Nat → Int32} {b i prn su T de : Nat} (hp : prn < 8) (hs : su < 8) (hT : T < 2 ^ 30) (hby : ∀ q, q < 8 → zr (17 + q) = v (q * 6 + 1)) (hpc : ∀ q, q < 8 → zr (25 + q) = v (q * 6 + 2)) (hpn : ∀ q, q < 8 → cN v (q * 6 + 2) 100) (hde : de ≤ 99999)
    {ca ow mg : Nat → Int32} {c : Nat → Nat} {z : Nat → Int32} (hca : ∀ q, q < 8 → ca q = nI (c q)) (hcT : sN c 8 ≤ T) (h : CR z0 zr prn ow mg c z) (hch : chOK z 8 (z (17 + prn))) :
    mn (nI de) (ca su) = nI (min de (c su)) ∧ lpP z su (nI de) = nI (min de (c su)) ∧
    ∃ c' : Nat → Nat, (∀ q, q < 8 → (mgI v su 8 prn (nI (min de (c su))) (upd ca su (ca su - nI (min de (c su))), upd ow su (ow su + nI (min de (c su))), mg)).1 q = nI (c' q)) ∧ sN c' 8 + min de (c su) = sN c 8 ∧
      CR z0 (ad1 (sb1 (ad1 zr (41 + su) (nI (min de (c su)))) (121 + 31 * b + 15 + 4 * i + 2) (nI (min de (c su)))) (121 + 31 * b + 15 + 4 * i + 3) (nI (min de (c su)))) prn
        (mgI v su 8 prn (nI (min de (c su))) (upd ca su (ca su - nI (min de (c su))), upd ow su (ow su + nI (min de (c su))), mg)).2.1 (mgI v su 8 prn (nI (min de (c su))) (upd ca su (ca su - nI (min de (c su))), upd ow su (ow su + nI (min de (c su))), mg)).2.2 c' (lpZ z b i prn su (nI de)) := by
  have hcs : c su ≤ T := Nat.le_trans (sN_le c 8 hs) hcT
  have e1 : mn (nI de) (ca su) = nI (min de (c su)) := by rw [hca su hs, mn_nI (by omega) (by omega)]
  have e2 : lpP z su (nI de) = nI (min de (c su)) := by unfold lpP; rw [h.1 su hs, mn_nI (by omega) (by omega), Nat.min_comm]
  refine ⟨e1, e2, ?_⟩
  obtain ⟨p, hpd⟩ : ∃ p, min de (c su) = p := ⟨_, rfl⟩
  unfold lpZ
  rw [e2, hpd]
  have hpc2 : p ≤ c su := by omega
  obtain ⟨h1, h2, h3, h4⟩ := h
  -- the row behind the payment, the debt told
  have hca1 : ∀ q, q < 8 → upd ca su (ca su - nI p) q = nI (updN c su (c su - p) q) := fun q hq => by
    by_cases hqs : q = su
    · subst hqs; rw [pk_us, updN_s, hca q hq, pk_sub hpc2]
    · rw [pk_un hqs, updN_n hqs, hca q hq]
  have hCR : CR z0 (ad1 (sb1 (ad1 zr (41 + su) (nI p)) (121 + 31 * b + 15 + 4 * i + 2) (nI p)) (121 + 31 * b + 15 + 4 * i + 3) (nI p)) prn (upd ow su (ow su + nI p)) mg (updN c su (c su - p)) (ad1 (lpY z b i su (nI p)) (57 + 8 * prn + su) (nI p)) := by
    refine ⟨fun q hq => ?_, fun q hq => ?_, fun q hq => ?_, fun k hk => ?_⟩
    · unfold lpY
      rw [ad1_ne (by omega), ad1_ne (by omega), sb1_ne (by omega), ad1_ne (by omega)]
      by_cases hqs : q = su
      · subst hqs; rw [sb1_s, updN_s, h1 q hq, pk_sub hpc2]
      · rw [sb1_ne (by omega), updN_n hqs, h1 q hq]
    · have e : lpY z b i su (nI p) (57 + 8 * prn + q) = z0 (57 + 8 * prn + q) + ow q := by
        unfold lpY
        rw [ad1_ne (by omega), sb1_ne (by omega), ad1_ne (by omega), sb1_ne (by omega), h2 q hq]
      by_cases hqs : q = su
      · subst hqs; rw [ad1_s, pk_us, e, add_r]
      · rw [ad1_ne (by omega), pk_un hqs, e]
    · unfold lpY
      rw [ad1_ne (by omega), ad1_ne (by omega), sb1_ne (by omega), ad1_ne (by omega), sb1_ne (by omega), h3 q hq]
    · have hk2 := hk
      unfold Oth at hk2
      rw [ad1_ne (by omega)]
      unfold lpY
      refine ad1_at (sb1_at (ad1_at ?_))
      rw [sb1_ne (by omega), h4 k hk]
  have hsum : sN (updN c su (c su - p)) 8 + p = sN c 8 := by have := sN_upd c (c su - p) 8 hs; omega
  have hlb := lpY_by z (b := b) (i := i) (nI p) hs
  have hz17 : ∀ q, q < 8 → ad1 (lpY z b i su (nI p)) (57 + 8 * prn + su) (nI p) (17 + q) = z (17 + q) := fun q hq => by rw [ad1_ne (by omega), hlb q hq]
  by_cases hp0 : p = 0
  · rw [if_pos (by rw [hp0]; decide)]
    rw [hp0] at hCR hca1 hsum ⊢
    rw [ad1_0 (lpY z b i su (nI 0)) (57 + 8 * prn + su)] at hCR
    rw [mgI, if_pos (by decide)]
    exact ⟨_, hca1, hsum, hCR⟩
  · rw [if_neg (nI_nle (by omega) (by omega))]
    have hby' : ∀ q, q < 8 → (ad1 (sb1 (ad1 zr (41 + su) (nI p)) (121 + 31 * b + 15 + 4 * i + 2) (nI p)) (121 + 31 * b + 15 + 4 * i + 3) (nI p)) (17 + q) = v (q * 6 + 1) := fun q hq => by rw [ad1_ne (by omega), sb1_ne (by omega), ad1_ne (by omega), hby q hq]
    have hpc' : ∀ q, q < 8 → (ad1 (sb1 (ad1 zr (41 + su) (nI p)) (121 + 31 * b + 15 + 4 * i + 2) (nI p)) (121 + 31 * b + 15 + 4 * i + 3) (nI p)) (25 + q) = v (q * 6 + 2) := fun q hq => by rw [ad1_ne (by omega), sb1_ne (by omega), ad1_ne (by omega), hpc q hq]
    obtain ⟨c', g1, g2, g3⟩ := mg_rel hp hs hT hby' hpc' hpn 8 prn p (upd ca su (ca su - nI p)) (upd ow su (ow su + nI p)) mg _ _ hp (by omega) hca1 (by omega) hCR (by rw [hz17 prn hp]; exact chOK_c hz17 _ _ hch)
    exact ⟨c', g1, by omega, g3⟩
/-- all along the layers -/
theorem dr_rel {v z0 zr0 : Nat → Int32} {b prn L O R T : Nat} {su l d : Nat → Nat} {sh : Bool} {t0 : T7} {m0 : T3z} {sh1 : Nat → Int32} (hb : b < 10) (hp : prn < 8) (hL4 : L ≤ 4) (hT : T < 2 ^ 30) (hOR : O + R ≤ 99999) (hsu : ∀ i, i < L → v (117 + b * 31 + 15 + i * 4 + 0) = nI (su i) ∧ su i < 8)
    (hby : ∀ q, q < 8 → zr0 (17 + q) = v (q * 6 + 1)) (hpc : ∀ q, q < 8 → zr0 (25 + q) = v (q * 6 + 2)) (hpn : ∀ q, q < 8 → cN v (q * 6 + 2) 100) (hway : zr0 (121 + 31 * b + 2) = v (117 + b * 31 + 2)) (hsh : sh = decide (v (117 + b * 31 + 2) = nI 1))
    (hl : ∀ i, i < L → v (117 + b * 31 + 15 + i * 4 + 2) = nI (l i)) (hzl : ∀ i, i < L → zr0 (121 + 31 * b + 15 + 4 * i + 2) = nI (l i)) (hl5 : ∀ i, i < L → l i ≤ 99999)
    (hd : sh = true → (∀ j, j < L → t0.2.2.2.1 j = nI (d j)) ∧ (∀ j, j < L → sh1 j = nI (d j)) ∧ (∀ j, j < L → d j ≤ l j) ∧ sN d L ≤ R)
    {c0 : Nat → Nat} (hc0 : ∀ q, q < 8 → t0.2.2.1.1 q = nI (c0 q)) (hcT : sN c0 8 ≤ T) (hCR : CR z0 zr0 prn t0.2.2.1.2.1 t0.2.2.1.2.2 c0 m0.1) (hch : chOK m0.1 8 (m0.1 (17 + prn))) (hpd : t0.1 = nI O) (hf7 : m0.2.1 7 = nI O) (hf9 : m0.2.1 9 = t0.2.1) (hre : m0.2.2 = nI R) :
    ∀ i, i ≤ L → ∃ c py : Nat → Nat, (∀ q, q < 8 → (drI v b prn (nI (O + R)) sh i t0).2.2.1.1 q = nI (c q)) ∧ sN c 8 ≤ sN c0 8 ∧
      CR z0 (zrL zr0 b su (drI v b prn (nI (O + R)) sh i t0).2.2.2.2 i) prn (drI v b prn (nI (O + R)) sh i t0).2.2.1.2.1 (drI v b prn (nI (O + R)) sh i t0).2.2.1.2.2 c (cnI sh1 b prn su m0 i).1 ∧
      (cnI sh1 b prn su m0 i).2.1 7 = (drI v b prn (nI (O + R)) sh i t0).1 ∧ (cnI sh1 b prn su m0 i).2.1 9 = (drI v b prn (nI (O + R)) sh i t0).2.1 ∧ (drI v b prn (nI (O + R)) sh i t0).1 = nI (O + sN py i) ∧ (cnI sh1 b prn su m0 i).2.2 = nI (R - sN py i) ∧ sN py i ≤ R ∧
      (∀ j, j < i → (drI v b prn (nI (O + R)) sh i t0).2.2.2.2 j = nI (py j) ∧ py j ≤ l j) ∧ (sh = true → (∀ j, j < L → (drI v b prn (nI (O + R)) sh i t0).2.2.2.1 j = nI (d j)) ∧ ∀ j, j < i → py j ≤ d j)
  | 0, _ => ⟨c0, fun _ => 0, hc0, Nat.le_refl _, hCR, by rw [show (drI v b prn (nI (O + R)) sh 0 t0).1 = t0.1 from rfl, hpd]; exact hf7, hf9, hpd, hre, Nat.zero_le _, fun j hj => absurd hj (Nat.not_lt_zero _), fun h => ⟨(hd h).1, fun j hj => absurd hj (Nat.not_lt_zero _)⟩⟩
  | i + 1, hi => by
    obtain ⟨c, py, g1, g2, g3, g4, g5, g6, g7, g8, g9, g10⟩ := dr_rel (sh1 := sh1) hb hp hL4 hT hOR hsu hby hpc hpn hway hsh hl hzl hl5 hd hc0 hcT hCR hch hpd hf7 hf9 hre i (by omega)
    have hchK : ∀ k, KL b k → (cnI sh1 b prn su m0 i).1 k = m0.1 k := fun k hk => cnI_k (sh1 := sh1) (b := b) hp hL4 (fun i hi => (hsu i hi).2) hch i (by omega) k hk
    obtain ⟨m, hm⟩ : ∃ m, cnI sh1 b prn su m0 i = m := ⟨_, rfl⟩
    obtain ⟨t, ht⟩ : ∃ t, drI v b prn (nI (O + R)) sh i t0 = t := ⟨_, rfl⟩
    rw [ht] at g1 g3 g4 g5 g6 g9 g10
    rw [hm] at g3 g4 g5 g7 hchK
    obtain ⟨pd, th, ⟨ca, ow, mg⟩, du, bl⟩ := t
    obtain ⟨zi, fi, ri⟩ := m
    dsimp only at g1 g3 g4 g5 g6 g7 g9 g10 hchK
    have hsi := hsu i (by omega)
    have hli := hl5 i (by omega)
    have hsN : sN py (i + 1) = sN py i + py i := rfl
    -- what the layer is due
    have hzk : ∀ k, Oth prn k → zi k = zrL zr0 b su bl i k := g3.2.2.2
    have hw1 : zi (121 + 31 * b + 2) = v (117 + b * 31 + 2) := by
      rw [hzk _ (Or.inr (Or.inr (Or.inr (by omega)))), zrL_k i (fun j hj => ⟨by have := (hsu j (by omega)).2; omega, by omega, by omega⟩), hway]
    have hw2 : zi (121 + 31 * b + 15 + 4 * i + 2) = nI (l i) := by
      rw [hzk _ (Or.inr (Or.inr (Or.inr (by omega)))), zrL_k i (fun j hj => ⟨by have := (hsu j (by omega)).2; omega, by omega, by omega⟩), hzl i (by omega)]
    obtain ⟨de, hde⟩ : ∃ de, (if sh then d i else min (R - sN py i) (l i)) = de := ⟨_, rfl⟩
    have hdl : de ≤ l i ∧ sN py i + de ≤ R := by
      by_cases hs9 : sh = true
      · rw [if_pos hs9] at hde
        obtain ⟨-, -, q3, q4⟩ := hd hs9
        have q5 := (g10 hs9).2
        have q6 : sN py i ≤ sN d i := sN_mono i q5
        have q7 : sN d (i + 1) ≤ sN d L := sN_pre d L hi
        have q8 : sN d (i + 1) = sN d i + d i := rfl
        have q9 := q3 i (by omega)
        omega
      · rw [if_neg hs9] at hde
        omega
    have hmd : cnS sh1 b i (zi, fi, ri) = nI de := by
      show (if zi (121 + 31 * b + 2) = nI 1 then sh1 i else mn (zi (121 + 31 * b + 15 + 4 * i + 2)) ri) = nI de
      rw [hw1, hw2, g7]
      by_cases hs9 : sh = true
      · have hv1 : v (117 + b * 31 + 2) = nI 1 := by rw [hsh] at hs9; exact of_decide_eq_true hs9
        rw [if_pos hv1, ← hde, if_pos hs9]
        exact (hd hs9).2.1 i (by omega)
      · have hv1 : ¬ v (117 + b * 31 + 2) = nI 1 := by rw [hsh] at hs9; exact fun q => hs9 (decide_eq_true q)
        rw [if_neg hv1, ← hde, if_neg hs9, mn_nI (by omega) (by omega), Nat.min_comm]
    obtain ⟨du', hdu'⟩ : ∃ du', (if sh then du else upd du i (mn (nI (O + R) - pd) (v (117 + b * 31 + 15 + i * 4 + 2)))) = du' := ⟨_, rfl⟩
    have hcd : du' i = nI de := by
      rw [← hdu', ← hde]
      by_cases hs9 : sh = true
      · rw [if_pos hs9, if_pos hs9]
        exact (g10 hs9).1 i (by omega)
      · rw [if_neg hs9, if_neg hs9, pk_us, g6, hl i (by omega), pk_sub (by omega), mn_nI (by omega) (by omega)]
        congr 2
        omega
    have hch2 : chOK zi 8 (zi (17 + prn)) := by rw [hchK _ (KL_by hp)]; exact chOK_c (fun q hq => hchK _ (KL_by hq)) _ _ hch
    obtain ⟨e1, e2, c', f1, f2, f3⟩ := pay_rel (v := v) (b := b) (i := i) (T := T) hp hsi.2 hT (fun q hq => by rw [zrL_k i (fun j hj => ⟨by have := (hsu j (by omega)).2; omega, by omega, by omega⟩)]; exact hby q hq) (fun q hq => by rw [zrL_k i (fun j hj => ⟨by have := (hsu j (by omega)).2; omega, by omega, by omega⟩)]; exact hpc q hq) hpn (show de ≤ 99999 by omega) g1 (by omega) g3 hch2
    obtain ⟨p, hpv⟩ : ∃ p, min de (c (su i)) = p := ⟨_, rfl⟩
    rw [hpv] at e1 e2 f1 f2 f3
    have hD : drI v b prn (nI (O + R)) sh (i + 1) t0 = (pd + nI p, thS (nI p) (nI de) th i, mgI v (su i) 8 prn (nI p) (upd ca (su i) (ca (su i) - nI p), upd ow (su i) (ow (su i) + nI p), mg), du', upd bl i (nI p)) := by
      rw [drI, ht]
      unfold dwS plS
      dsimp only
      rw [tN_nI hsi.1 (by have := hsi.2; omega), hdu', hcd, e1]
    have hM : cnI sh1 b prn su m0 (i + 1) = (lpZ zi b i prn (su i) (nI de), lpF fi i (nI p) (nI de), ri - nI p) := by
      rw [cnI_s, hm, hmd]
      dsimp only
      rw [e2]
    have hpde : p ≤ de := by omega
    have hst : sN (updN py i p) (i + 1) = sN py i + p := by
      rw [sN, updN_s, sN_congr i (fun j hj => updN_n (by omega))]
    refine ⟨c', updN py i p, ?_⟩
    rw [hD, hM, hst]
    dsimp only
    refine ⟨f1, by omega, ?_, ?_, ?_, ?_, ?_, by omega, fun j hj => ?_, fun hs9 => ⟨fun j hj => ?_, fun j hj => ?_⟩⟩
    · rw [zrL, pk_us, zrL_bl i (bl' := bl) (fun j hj => pk_un (by omega))]
      exact f3
    · unfold lpF
      rw [pk_us, g4]
    · unfold lpF thS
      rw [pk_un (by decide), pk_us, g5]
    · rw [g6, nI_add, Nat.add_assoc]
    · rw [g7, pk_sub (by omega)]
      congr 1
      omega
    · by_cases hji : j = i
      · subst hji; rw [pk_us, updN_s]; exact ⟨rfl, by omega⟩
      · rw [pk_un hji, updN_n hji]; exact g9 j (by omega)
    · rw [← hdu', if_pos hs9]; exact (g10 hs9).1 j hj
    · by_cases hji : j = i
      · subst hji
        rw [updN_s]
        rw [if_pos hs9] at hde
        omega
      · rw [updN_n hji]; exact (g10 hs9).2 j (by omega)
