/-! SHARES BY THE LIMITS: class and reference alike -/
def sN (c : Nat → Nat) : Nat → Nat
  | 0 => 0
  | n + 1 => sN c n + c n
def updN (c : Nat → Nat) (k x : Nat) : Nat → Nat := fun j => if j = k then x else c j
theorem updN_s (c : Nat → Nat) (k x : Nat) : updN c k x k = x := if_pos rfl
theorem updN_n {c : Nat → Nat} {k x j : Nat} (h : j ≠ k) : updN c k x j = c j := if_neg h
theorem sN_congr {c d : Nat → Nat} : ∀ n, (∀ i, i < n → c i = d i) → sN c n = sN d n
  | 0, _ => rfl
  | n + 1, h => by rw [sN, sN, sN_congr n (fun i hi => h i (by omega)), h n (by omega)]
theorem sN_upd (c : Nat → Nat) {k : Nat} (x : Nat) : ∀ n, k < n → sN (updN c k x) n + c k = sN c n + x
  | 0, h => absurd h (Nat.not_lt_zero _)
  | n + 1, h => by
    rw [sN, sN]
    by_cases hk : k = n
    · subst hk
      rw [updN_s, sN_congr (d := c) k (fun i hi => updN_n (by omega))]
      omega
    · have ih := sN_upd c (k := k) x n (by omega)
      rw [updN_n (Ne.symm hk)]
      omega
theorem sN_le (c : Nat → Nat) {k : Nat} : ∀ n, k < n → c k ≤ sN c n
  | 0, h => absurd h (Nat.not_lt_zero _)
  | n + 1, h => by
    rw [sN]
    by_cases hk : k = n
    · subst hk; omega
    · have := sN_le c n (k := k) (by omega)
      omega
theorem sN_mono {c d : Nat → Nat} : ∀ n, (∀ i, i < n → c i ≤ d i) → sN c n ≤ sN d n
  | 0, _ => Nat.le_refl _
  | n + 1, h => Nat.add_le_add (sN_mono n (fun i hi => h i (by omega))) (h n (by omega))
theorem sN_step (c : Nat → Nat) {i : Nat} : ∀ n, i < n → sN c (i + 1) ≤ sN c n
  | 0, h => absurd h (Nat.not_lt_zero _)
  | n + 1, h => by
    by_cases hk : i = n
    · subst hk; exact Nat.le_refl _
    · have := sN_step c n (i := i) (by omega)
      rw [sN.eq_def c (n + 1)]
      dsimp only
      omega
theorem sN_mul (c : Nat → Nat) (a : Nat) : ∀ n, sN (fun i => a * c i) n = a * sN c n
  | 0 => rfl
  | n + 1 => by rw [sN, sN, sN_mul c a n, Nat.mul_add]
theorem sumI_nI {f : Nat → Int32} {c : Nat → Nat} : ∀ n, (∀ i, i < n → f i = nI (c i)) → sumI f n = nI (sN c n)
  | 0, _ => rfl
  | n + 1, h => by rw [sumI, sN, sumI_nI n (fun i hi => h i (by omega)), h n (by omega), nI_add]
theorem l64_lt {a b : Nat} (ha : a < 2 ^ 63) (hb : b < 2 ^ 63) : Int64.ofNat a < Int64.ofNat b ↔ a < b := by
  rw [Int64.lt_iff_toInt_lt, Int64.toInt_ofNat_of_lt ha, Int64.toInt_ofNat_of_lt hb]
  omega
theorem l64_pos {b : Nat} (hb : b < 2 ^ 63) : (0 : Int64) < Int64.ofNat b ↔ 0 < b := l64_lt (a := 0) (by decide) hb
theorem l64_sub {a b : Nat} (h : b ≤ a) : Int64.ofNat a - Int64.ofNat b = Int64.ofNat (a - b) := (Int64.ofNat_sub a b h).symm
theorem l64_m1 {a : Nat} (ha : a < 2 ^ 63) : (-1 : Int64) < Int64.ofNat a := by
  rw [Int64.lt_iff_toInt_lt, Int64.toInt_ofNat_of_lt ha]
  show (-1 : Int) < _
  omega
theorem l64_rem {a d : Nat} (ha : a < 2 ^ 62) (hd : d < 2 ^ 31) : Int64.ofNat a - Int64.ofNat a / Int64.ofNat d * Int64.ofNat d = Int64.ofNat (a % d) := by
  have hle : a / d * d ≤ a := Nat.div_mul_le_self a d
  rw [l64_div (by omega) (by omega), l64_mul, l64_sub hle]
  congr 1
  have := Nat.div_add_mod a d
  rw [Nat.mul_comm] at this
  omega
theorem mnl_nat {a b : Nat} (ha : a < 2 ^ 63) (hb : b < 2 ^ 63) : mnl (Int64.ofNat a) (Int64.ofNat b) = Int64.ofNat (min a b) := by
  unfold mnl
  by_cases h : b < a
  · rw [if_pos ((l64_lt hb ha).mpr h), Nat.min_eq_right (by omega)]
  · rw [if_neg (fun q => h ((l64_lt hb ha).mp q)), Nat.min_eq_left (by omega)]
-- bits of those who had one
theorem bit_t : ∀ h, h < 16 → ∀ l, l < 4 → (((nI h >>> (nI l &&& 31)) &&& nI 1 = 0) ↔ h.testBit l = false) := by decide +kernel
theorem bit_s : ∀ h, h < 16 → ∀ y, y < 4 → hadI (nI h) y = nI (h ||| 2 ^ y) ∧ (h ||| 2 ^ y) < 16 := by decide +kernel
theorem bit_n : ∀ h, h < 16 → ∀ y, y < 4 → ∀ l, l < 4 → (h ||| 2 ^ y).testBit l = (h.testBit l || decide (l = y)) := by decide +kernel
/-- the remainders of those who had none yet -/
def sR (r : Nat → Nat) (h : Nat) : Nat → Nat
  | 0 => 0
  | n + 1 => sR r h n + (if h.testBit n then 0 else r n)
theorem sR_0 (r : Nat → Nat) : ∀ n, sR r 0 n = sN r n
  | 0 => rfl
  | n + 1 => by rw [sR, sN, sR_0 r n, Nat.zero_testBit, if_neg (by decide)]
theorem sR_pos {r : Nat → Nat} {h : Nat} : ∀ n, 0 < sR r h n → ∃ j, j < n ∧ h.testBit j = false ∧ 0 < r j
  | 0, q => absurd q (Nat.lt_irrefl _)
  | n + 1, q => by
    rw [sR] at q
    by_cases hb : h.testBit n = true
    · rw [if_pos hb] at q
      obtain ⟨j, a, b, c⟩ := sR_pos (r := r) (h := h) n (by omega)
      exact ⟨j, by omega, b, c⟩
    · rw [if_neg hb] at q
      by_cases hr : 0 < r n
      · exact ⟨n, by omega, Bool.eq_false_iff.mpr hb, hr⟩
      · obtain ⟨j, a, b, c⟩ := sR_pos (r := r) (h := h) n (by omega)
        exact ⟨j, by omega, b, c⟩
theorem sR_or {r : Nat → Nat} {h y : Nat} (hh : h < 16) (hy : y < 4) (hb : h.testBit y = false) : ∀ n, n ≤ 4 → sR r (h ||| 2 ^ y) n + (if y < n then r y else 0) = sR r h n
  | 0, _ => by rw [sR, sR, if_neg (by omega)]
  | n + 1, hn => by
    have ih := sR_or (r := r) hh hy hb n (by omega)
    rw [sR, sR, bit_n h hh y hy n (by omega)]
    by_cases he : n = y
    · subst he
      rw [if_neg (Nat.lt_irrefl n)] at ih
      simp only [decide_true, Bool.or_true, if_true, hb]
      rw [if_pos (by omega)]
      simp
      omega
    · simp only [decide_eq_false he, Bool.or_false]
      by_cases h2 : y < n
      · rw [if_pos h2] at ih
        rw [if_pos (show y < n + 1 by omega)]
        omega
      · rw [if_neg h2] at ih
        rw [if_neg (show ¬ y < n + 1 by omega)]
        omega
section SHR
variable {z : Nat → Int32} {b : Nat} {most all : Int32} {r : Nat → Nat} {re : Nat → Int64}
/-- the greatest remainder, by both -/
theorem pick_rel {h L : Nat} (hh : h < 16) (hL4 : L ≤ 4) (hr : ∀ j, j < L → r j < 2 ^ 62) (hR : ∀ j, j < L → lsR z b most all j = Int64.ofNat (r j)) (hre : ∀ j, j < L → re j = if h.testBit j then -1 else Int64.ofNat (r j)) : ∀ i, 1 ≤ i → i ≤ L →
    (∃ y, y < i ∧ h.testBit y = false ∧ lsP z b most all (nI h) i = (nI y, Int64.ofNat (r y)) ∧ grI re (i - 1) = y ∧ ∀ j, j < i → h.testBit j = false → r j ≤ r y) ∨
    ((∀ j, j < i → h.testBit j = true) ∧ lsP z b most all (nI h) i = (-1, -1) ∧ grI re (i - 1) = 0)
  | 0, h1, _ => absurd h1 (by decide)
  | 1, _, hi => by
    by_cases hb : h.testBit 0 = true
    · refine Or.inr ⟨fun j hj => ?_, ?_, rfl⟩
      · rw [show j = 0 by omega]; exact hb
      · rw [lsP_s0 (Or.inl (fun q => by rw [(bit_t h hh 0 (by decide)).mp q] at hb; cases hb))]
        rfl
    · have hb := Bool.eq_false_iff.mpr hb
      refine Or.inl ⟨0, by decide, hb, ?_, rfl, fun j hj _ => by rw [show j = 0 by omega]; exact Nat.le_refl _⟩
      rw [lsP_s1 ((bit_t h hh 0 (by decide)).mpr hb) (by rw [hR 0 (by omega)]; exact l64_m1 (by have := hr 0 (by omega); omega)), hR 0 (by omega)]
  | i + 2, _, hi => by
    have hri := hr (i + 1) (by omega)
    have hei := hre (i + 1) (by omega)
    have hRi := hR (i + 1) (by omega)
    rcases pick_rel hh hL4 hr hR hre (i + 1) (by omega) (by omega) with ⟨y, hy, hyb, hlp, hg, hmax⟩ | ⟨hall, hlp, hg⟩
    · have hg : grI re i = y := hg
      have hey : re y = Int64.ofNat (r y) := by rw [hre y (by omega), hyb]; rfl
      have hry := hr y (by omega)
      by_cases hb : h.testBit (i + 1) = true
      · refine Or.inl ⟨y, by omega, hyb, ?_, ?_, fun j hj hjb => ?_⟩
        · rw [lsP_s0 (Or.inl (fun q => by rw [(bit_t h hh (i + 1) (by omega)).mp q] at hb; cases hb)), hlp]
        · show (if re (grI re i) < re (i + 1) then i + 1 else grI re i) = y
          rw [hg, hey, hei, hb, if_pos rfl, if_neg (fun q => Int64.lt_irrefl (Int64.lt_trans (l64_m1 (by omega)) q))]
        · by_cases hj2 : j = i + 1
          · subst hj2; rw [hb] at hjb; cases hjb
          · exact hmax j (by omega) hjb
      · have hb := Bool.eq_false_iff.mpr hb
        have hei2 : re (i + 1) = Int64.ofNat (r (i + 1)) := by rw [hei, hb]; rfl
        by_cases hlt : r y < r (i + 1)
        · refine Or.inl ⟨i + 1, by omega, hb, ?_, ?_, fun j hj hjb => ?_⟩
          · rw [lsP_s1 ((bit_t h hh (i + 1) (by omega)).mpr hb) (by rw [hlp, hRi]; exact (l64_lt (by omega) (by omega)).mpr hlt), hRi]
          · show (if re (grI re i) < re (i + 1) then i + 1 else grI re i) = i + 1
            rw [hg, hey, hei2, if_pos ((l64_lt (by omega) (by omega)).mpr hlt)]
          · by_cases hj2 : j = i + 1
            · subst hj2; exact Nat.le_refl _
            · have := hmax j (by omega) hjb
              omega
        · refine Or.inl ⟨y, by omega, hyb, ?_, ?_, fun j hj hjb => ?_⟩
          · rw [lsP_s0 (Or.inr (by rw [hlp, hRi]; exact fun q => hlt ((l64_lt (by omega) (by omega)).mp q))), hlp]
          · show (if re (grI re i) < re (i + 1) then i + 1 else grI re i) = y
            rw [hg, hey, hei2, if_neg (fun q => hlt ((l64_lt (by omega) (by omega)).mp q))]
          · by_cases hj2 : j = i + 1
            · subst hj2; omega
            · exact hmax j (by omega) hjb
    · have hg : grI re i = 0 := hg
      have he0 : re 0 = -1 := by rw [hre 0 (by omega), hall 0 (by omega)]; rfl
      by_cases hb : h.testBit (i + 1) = true
      · refine Or.inr ⟨fun j hj => ?_, ?_, ?_⟩
        · by_cases hj2 : j = i + 1
          · subst hj2; exact hb
          · exact hall j (by omega)
        · rw [lsP_s0 (Or.inl (fun q => by rw [(bit_t h hh (i + 1) (by omega)).mp q] at hb; cases hb)), hlp]
        · show (if re (grI re i) < re (i + 1) then i + 1 else grI re i) = 0
          rw [hg, he0, hei, hb, if_pos rfl, if_neg Int64.lt_irrefl]
      · have hb := Bool.eq_false_iff.mpr hb
        have hei2 : re (i + 1) = Int64.ofNat (r (i + 1)) := by rw [hei, hb]; rfl
        refine Or.inl ⟨i + 1, by omega, hb, ?_, ?_, fun j hj hjb => ?_⟩
        · rw [lsP_s1 ((bit_t h hh (i + 1) (by omega)).mpr hb) (by rw [hlp, hRi]; exact l64_m1 (by omega)), hRi]
        · show (if re (grI re i) < re (i + 1) then i + 1 else grI re i) = i + 1
          rw [hg, he0, hei2, if_pos (l64_m1 (by omega))]
        · by_cases hj2 : j = i + 1
          · subst hj2; exact Nat.le_refl _
          · rw [hall j (by omega)] at hjb; cases hjb
/-- what is left over, 1 each, by both -/
theorem round_rel {L A : Nat} (hL1 : 1 ≤ L) (hL4 : L ≤ 4) (hA : 0 < A) (hrA : ∀ j, j < L → r j < A) (hA31 : A < 2 ^ 31) (hR : ∀ j, j < L → lsR z b most all j = Int64.ofNat (r j)) :
    ∀ (n f g h : Nat) (d : Nat → Nat) (du sh : Nat → Int32) (re : Nat → Int64), n ≤ f → n ≤ g → n ≤ 4 → h < 16 → n * A ≤ sR r h L → (∀ j, j < L → re j = if h.testBit j then -1 else Int64.ofNat (r j)) → (∀ j, j < L → du j = nI (d j)) → (∀ j, j < L → sh j = nI (d j)) →
      lsOK z b L most all g (nI n) (nI h) ∧ ∃ d' : Nat → Nat, (∀ j, j < L → (rndI L f du re (Int64.ofNat n)).1 j = nI (d' j)) ∧ (∀ j, j < L → lsW z b L most all g (nI h) (nI n) sh j = nI (d' j)) ∧ sN d' L = sN d L + n ∧
        (∀ j, j < L → d' j = d j ∨ (d' j = d j + 1 ∧ 0 < r j ∧ h.testBit j = false))
  | 0, f, g, h, d, du, sh, re, _, _, _, _, _, _, hdu, hsh => by
    refine ⟨by cases g <;> first | exact (show (nI 0 : Int32) ≤ 0 by decide) | exact Or.inl (by decide), d, fun j hj => ?_, fun j hj => ?_, by omega, fun j hj => Or.inl rfl⟩
    · cases f with
      | zero => exact hdu j hj
      | succ f => rw [rndI, if_neg (by decide)]; exact hdu j hj
    · cases g with
      | zero => exact hsh j hj
      | succ g => rw [lsW, if_pos (by decide)]; exact hsh j hj
  | n + 1, f, g, h, d, du, sh, re, hf, hg, hn4, hh, hs, hre, hdu, hsh => by
    obtain ⟨f, rfl⟩ : ∃ f2, f = f2 + 1 := ⟨f - 1, by omega⟩
    obtain ⟨g, rfl⟩ : ∃ g2, g = g2 + 1 := ⟨g - 1, by omega⟩
    have hpos : 0 < sR r h L := Nat.lt_of_lt_of_le (Nat.mul_pos (by omega) hA) hs
    obtain ⟨j0, hj0, hb0, hr0⟩ := sR_pos L hpos
    have hr62 : ∀ j, j < L → r j < 2 ^ 62 := fun j hj => by have := hrA j hj; omega
    rcases pick_rel hh hL4 hr62 hR hre L hL1 (Nat.le_refl L) with ⟨y, hy, hyb, hlp, hgr, hmax⟩ | ⟨hall, -, -⟩
    · have hy4 : y < 4 := by omega
      have hry : 0 < r y := Nat.lt_of_lt_of_le hr0 (hmax j0 hj0 hb0)
      have hbs := bit_s h hh y hy4
      have hor := sR_or (r := r) hh hy4 hyb L hL4
      rw [if_pos hy] at hor
      have hs' : n * A ≤ sR r (h ||| 2 ^ y) L := by
        have h1 := hrA y hy
        rw [Nat.add_mul, Nat.one_mul] at hs
        omega
      have hnl : ¬ nI (n + 1) ≤ 0 := nI_nle (by omega) (by omega)
      have hcl : (lsP z b most all (nI h) L).1.toNatClampNeg = y := by rw [hlp]; exact nI_clamp (by omega)
      have hup : ∀ (w : Nat → Int32), (∀ j, j < L → w j = nI (d j)) → ∀ j, j < L → upd w y (w y + nI 1) j = nI (updN d y (d y + 1) j) := fun w hw j hj => by
        by_cases hjy : j = y
        · subst hjy; rw [pk_us, updN_s, hw j hj, nI_add]
        · rw [pk_un hjy, updN_n hjy, hw j hj]
      have hre' : ∀ j, j < L → vp_updL re y (-1) j = if (h ||| 2 ^ y).testBit j then -1 else Int64.ofNat (r j) := fun j hj => by
        rw [bit_n h hh y hy4 j (by omega)]
        by_cases hjy : j = y
        · subst hjy; rw [pk_uLs]; simp
        · rw [pk_uLn hjy, hre j hj]; simp [hjy]
      obtain ⟨ok, d', h1, h2, h3, h4⟩ := round_rel hL1 hL4 hA hrA hA31 hR n f g (h ||| 2 ^ y) (updN d y (d y + 1)) (upd du y (du y + nI 1)) (upd sh y (sh y + nI 1)) (vp_updL re y (-1)) (by omega) (by omega) (by omega) hbs.2 hs' hre' (hup du hdu) (hup sh hsh)
      have hm1 : nI (n + 1) + Int32.ofInt (-1) = nI n := pk_m1 n
      refine ⟨Or.inr ⟨y, hy, by rw [hlp], by rw [hm1, hbs.1]; exact ok⟩, d', fun j hj => ?_, fun j hj => ?_, ?_, fun j hj => ?_⟩
      · rw [rndI, if_pos ((l64_pos (show n + 1 < 2 ^ 63 by omega)).mpr (Nat.succ_pos n)), hgr, show Int64.ofNat (n + 1) - 1 = Int64.ofNat n from by rw [show (1 : Int64) = Int64.ofNat 1 from rfl, l64_sub (by omega)]; rfl]
        exact h1 j hj
      · rw [lsW, if_neg hnl, hcl, hm1, hbs.1]
        exact h2 j hj
      · have := sN_upd d (k := y) (d y + 1) L hy
        omega
      · rcases h4 j hj with h5 | ⟨h5, h6, h7⟩
        · by_cases hjy : j = y
          · subst hjy
            rw [updN_s] at h5
            exact Or.inr ⟨h5, hry, hyb⟩
          · rw [updN_n hjy] at h5
            exact Or.inl h5
        · rw [bit_n h hh y hy4 j (by omega)] at h7
          have hjy : j ≠ y := fun q => by rw [q] at h7; simp at h7
          rw [updN_n hjy] at h5
          refine Or.inr ⟨h5, h6, ?_⟩
          simpa [hjy] using h7
    · rw [hall j0 hj0] at hb0; cases hb0
end SHR
theorem sN_bd {r : Nat → Nat} {A : Nat} : ∀ n, (∀ j, j < n → r j ≤ A) → sN r n ≤ n * A
  | 0, _ => Nat.zero_le _
  | n + 1, h => by
    rw [sN, Nat.add_mul, Nat.one_mul]
    exact Nat.add_le_add (sN_bd n (fun j hj => h j (by omega))) (h n (by omega))
theorem sN_add (c d : Nat → Nat) : ∀ n, sN (fun j => c j + d j) n = sN c n + sN d n
  | 0 => rfl
  | n + 1 => by rw [sN, sN, sN, sN_add c d n]; omega
theorem sN_pre (c : Nat → Nat) {i : Nat} : ∀ n, i ≤ n → sN c i ≤ sN c n
  | 0, h => by rw [Nat.le_zero.mp h]; exact Nat.le_refl _
  | n + 1, h => by
    by_cases hi : i = n + 1
    · subst hi; exact Nat.le_refl _
    · exact Nat.le_trans (sN_pre c n (by omega)) (by rw [sN]; omega)
/-- shares, of the rest R by the limits l -/
theorem share_rel {v zz : Nat → Int32} {b L R : Nat} {l : Nat → Nat} {am pd : Int32} (hL4 : L ≤ 4) (hl : ∀ i, i < L → v (117 + b * 31 + 15 + i * 4 + 2) = nI (l i)) (hz : ∀ i, i < L → zz (121 + 31 * b + 15 + 4 * i + 2) = nI (l i)) (hA5 : sN l L ≤ 99999) (hR5 : R ≤ 99999) (hR : am - pd = nI R) (du sh : Nat → Int32) (re : Nat → Int64) :
    lsH zz b L (nI R) ∧ ∃ d : Nat → Nat, (∀ j, j < L → (shI v b L am pd du re).1 j = nI (d j)) ∧ (∀ j, j < L → lsZ zz b L (nI R) sh j = nI (d j)) ∧ (∀ j, j < L → d j ≤ l j) ∧ sN d L = min R (sN l L) := by
  obtain ⟨A, hA⟩ : ∃ A, sN l L = A := ⟨_, rfl⟩
  obtain ⟨M, hM⟩ : ∃ M, min R A = M := ⟨_, rfl⟩
  have hMA : M ≤ A := by omega
  have hlA : ∀ j, j < L → l j ≤ A := fun j hj => by rw [← hA]; exact sN_le l L hj
  have hp : ∀ j, j < L → M * l j ≤ 99999 * 99999 := fun j hj => Nat.mul_le_mul (by omega) (by have := hlA j hj; omega)
  have hlim : limitsOf v b L = nI A := by unfold limitsOf; rw [sumI_nI (c := l) L hl, hA]
  have hlmz : lmZ zz b L = nI A := by unfold lmZ; rw [sumI_nI (c := l) L hz, hA]
  have hsl : soLim v b L = Int64.ofNat A := by unfold soLim; rw [hlim, nI_l64 (by omega)]
  have hsr : soRst v b L am pd = Int64.ofNat M := by unfold soRst; rw [hR, nI_l64 (by omega), hsl, mnl_nat (by omega) (by omega), hM]
  have hdqA : ∀ j, j < L → M * l j / A ≤ l j := fun j hj => Nat.div_le_of_le_mul (Nat.mul_le_mul_right _ hMA)
  have hds : ∀ j, j < L → soDs v b L am pd j = nI (M * l j / A) := fun j hj => by
    have h1 := hp j hj
    have h2 := hdqA j hj
    have h3 := hlA j hj
    unfold soDs soD
    rw [hsl, hsr, hl j hj, nI_l64 (by omega), l64_mul]
    by_cases h0 : 0 < A
    · rw [if_pos ((l64_pos (by omega)).mpr h0), l64_div (by omega) (by omega), l64_32 (by omega)]
    · rw [if_neg (fun q => h0 ((l64_pos (by omega)).mp q)), show A = 0 by omega, Nat.div_zero]
  have hrs : ∀ j, j < L → 0 < A → soRs v b L am pd j = Int64.ofNat (M * l j % A) := fun j hj h0 => by
    have h1 := hp j hj
    have h3 := hlA j hj
    unfold soRs soR
    rw [hsl, hsr, hl j hj, nI_l64 (by omega), l64_mul, if_pos ((l64_pos (by omega)).mpr h0), l64_rem (by omega) (by omega)]
  have hsum : sN (fun j => M * l j / A) L * A + sN (fun j => M * l j % A) L = M * A := by
    have h1 : sN (fun j => A * (M * l j / A) + M * l j % A) L = sN (fun j => M * l j) L := sN_congr L (fun j _ => Nat.div_add_mod _ _)
    rw [sN_add, sN_mul, sN_mul, hA] at h1
    rw [Nat.mul_comm]
    exact h1
  have hqM : sN (fun j => M * l j / A) L ≤ M := by
    by_cases h0 : 0 < A
    · exact Nat.le_of_mul_le_mul_right (c := A) (by omega) h0
    · have h1 : sN (fun j => M * l j / A) L ≤ L * 0 := sN_bd L (fun j _ => by rw [show A = 0 by omega, Nat.div_zero]; exact Nat.le_refl _)
      omega
  have hso : ∀ i, i ≤ L → soO (soDs v b L am pd) (Int64.ofNat M) i = Int64.ofNat (M - sN (fun j => M * l j / A) i) := by
    intro i
    induction i with
    | zero => intro _; rfl
    | succ i ih =>
      intro hi
      have h1 := sN_pre (fun j => M * l j / A) L hi
      have h2 : sN (fun j => M * l j / A) (i + 1) = sN (fun j => M * l j / A) i + M * l i / A := by rw [sN]
      rw [soO, ih (by omega), hds i (by omega), nI_l64 (by have := hdqA i (by omega); have := hlA i (by omega); omega), l64_sub (by omega)]
      congr 1
      omega
  have hlsM : lsM zz b L (nI R) = nI M := by unfold lsM; rw [hlmz, mn_nI (by omega) (by omega), Nat.min_comm, hM]
  have hlsN : ∀ j, j < L → lsN zz b (nI M) j = Int64.ofNat (M * l j) := fun j hj => by
    have h3 := hlA j hj
    unfold lsN
    rw [hz j hj, nI_l64 (by omega), nI_l64 (by omega), l64_mul]
  have hlsQ : ∀ j, j < L → 0 < A → lsQ zz b (nI M) (nI A) j = nI (M * l j / A) := fun j hj h0 => by
    have h1 := hp j hj
    have h2 := hdqA j hj
    have h3 := hlA j hj
    unfold lsQ
    rw [hlsN j hj, nI_l64 (by omega), l64_div (by omega) (by omega), l64_32 (by omega)]
  have hlsR : ∀ j, j < L → 0 < A → lsR zz b (nI M) (nI A) j = Int64.ofNat (M * l j % A) := fun j hj h0 => by
    have h1 := hp j hj
    unfold lsR
    rw [hlsN j hj, nI_l64 (by omega), l64_rem (by omega) (by omega)]
  by_cases h0 : 0 < A
  · have hL1 : 1 ≤ L := by
      rcases Nat.eq_zero_or_pos L with q | q
      · subst q; rw [sN] at hA; omega
      · exact q
    have hlsL : ∀ i, i ≤ L → lsL zz b (nI M) (nI A) i = nI (M - sN (fun j => M * l j / A) i) := by
      intro i
      induction i with
      | zero => intro _; rfl
      | succ i ih =>
        intro hi
        have h1 := sN_pre (fun j => M * l j / A) L hi
        have h2 : sN (fun j => M * l j / A) (i + 1) = sN (fun j => M * l j / A) i + M * l i / A := by rw [sN]
        rw [lsL, ih (by omega), hlsQ i (by omega) h0, pk_sub (by omega)]
        congr 1
        omega
    have hra : ∀ j, j < L → M * l j % A < A := fun j _ => Nat.mod_lt _ h0
    have hn : (M - sN (fun j => M * l j / A) L) * A = sN (fun j => M * l j % A) L := by rw [Nat.sub_mul]; omega
    have hnL : M - sN (fun j => M * l j / A) L ≤ L := Nat.le_of_mul_le_mul_right (c := A) (by rw [hn]; exact sN_bd L (fun j hj => Nat.le_of_lt (hra j hj))) h0
    obtain ⟨ok, d', h1, h2, h3, h4⟩ := round_rel (z := zz) (b := b) (most := nI M) (all := nI A) (r := fun j => M * l j % A) hL1 hL4 h0 hra (by omega) (fun j hj => hlsR j hj h0) (M - sN (fun j => M * l j / A) L) L 4 0 (fun j => M * l j / A)
      (fillI du (soDs v b L am pd) L) (fillI (fillI sh (fun _ => nI 0) 4) (lsQ zz b (nI M) (nI A)) L) (fillI re (soRs v b L am pd) L) hnL (by omega) (by omega) (by decide) (by rw [sR_0, hn]; exact Nat.le_refl _)
      (fun j hj => by rw [Nat.zero_testBit, if_neg (by decide)]; unfold fillI; rw [if_pos hj, hrs j hj h0]) (fun j hj => by unfold fillI; rw [if_pos hj, hds j hj]) (fun j hj => by unfold fillI; rw [if_pos hj, hlsQ j hj h0])
    refine ⟨fun _ => ?_, d', fun j hj => ?_, fun j hj => ?_, fun j hj => ?_, ?_⟩
    · rw [hlsM, hlmz, hlsL L (Nat.le_refl L)]; exact ok
    · unfold shI
      rw [hsr, hso L (Nat.le_refl L)]
      exact h1 j hj
    · unfold lsZ
      rw [hlmz, if_neg (nI_nle h0 (by omega)), hlsM, hlsL L (Nat.le_refl L)]
      exact h2 j hj
    · rcases h4 j hj with h5 | ⟨h5, h6, -⟩
      · rw [h5]; exact hdqA j hj
      · rw [h5]
        have h7 := Nat.div_add_mod (M * l j) A
        have h8 : M * l j ≤ A * l j := Nat.mul_le_mul_right _ hMA
        exact Nat.lt_of_mul_lt_mul_left (a := A) (by omega)
    · rw [h3, hA, hM]; omega
  · have hA0 : A = 0 := by omega
    have hM0 : M = 0 := by omega
    refine ⟨fun q => absurd (by rw [hlmz, hA0]; decide) q, fun _ => 0, fun j hj => ?_, fun j hj => ?_, fun j _ => Nat.zero_le _, ?_⟩
    · unfold shI
      rw [hsr, hso L (Nat.le_refl L), hM0, Nat.zero_sub]
      have e : ∀ (f : Nat) (x : Nat → Int32) (y : Nat → Int64), (rndI L f x y (Int64.ofNat 0)).1 = x := fun f x y => by
        cases f with
        | zero => rfl
        | succ f => rw [rndI, if_neg (by decide)]
      rw [e]
      unfold fillI
      rw [if_pos hj, hds j hj, hA0, Nat.div_zero]
    · unfold lsZ
      rw [hlmz, hA0, if_pos (by decide)]
      unfold fillI
      rw [if_pos (by omega)]
    · have : sN (fun _ => 0) L ≤ L * 0 := sN_bd L (fun _ _ => Nat.le_refl _)
      rw [hA, hM]
      omega
