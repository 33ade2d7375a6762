/-! THE CLASS'S CELLS AND THE REFERENCE'S ROW: which is which -/
def mx (k : Nat) : Nat := if k < 48 then 9 + 8 * (k % 6) + k / 6 else if k < 112 then k + 9 else if k < 115 then k - 106 else if k = 115 then 1 else if k = 116 then 0 else k + 4
theorem mx_p {q j : Nat} (hq : q < 8) (hj : j < 6) : mx (q * 6 + j) = 9 + 8 * j + q := by
  unfold mx
  rw [if_pos (by omega)]
  omega
theorem mx_d {q o : Nat} (hq : q < 8) (ho : o < 8) : mx (48 + q * 8 + o) = 57 + 8 * q + o := by
  unfold mx
  rw [if_neg (by omega), if_pos (by omega)]
  omega
theorem mx_s {k : Nat} (hk : k < 3) : mx (112 + k) = 6 + k := by
  unfold mx
  rw [if_neg (by omega), if_neg (by omega), if_pos (by omega)]
  omega
theorem mx_b {b k : Nat} (hb : b < 10) (hk : k < 31) : mx (117 + b * 31 + k) = 121 + 31 * b + k := by
  unfold mx
  rw [if_neg (by omega), if_neg (by omega), if_neg (by omega), if_neg (by omega), if_neg (by omega)]
  omega
def my (z : Nat) : Nat := if z = 0 then 116 else if z = 1 then 115 else if z < 9 then z + 106 else if z < 57 then (z - 9) % 8 * 6 + (z - 9) / 8 else if z < 121 then z - 9 else z - 4
theorem my_mx : ∀ k, k < 427 → my (mx k) = k := by decide +kernel
theorem mx_inj {k j : Nat} (hk : k < 427) (hj : j < 427) (h : mx k = mx j) : k = j := by rw [← my_mx k hk, h, my_mx j hj]
theorem mx_ne {k j : Nat} (hk : k < 427) (h1 : 2 ≤ j) (h2 : j ≤ 5) : mx k ≠ j := by
  unfold mx
  split
  · omega
  · split
    · omega
    · split
      · omega
      · split
        · omega
        · split <;> omega
/-- the row says what the cells say -/
def RZ (v z : Nat → Int32) : Prop := ∀ k, k < 427 → z (mx k) = v k
section RZS
variable {v z : Nat → Int32}
theorem RZ.p (h : RZ v z) {q j : Nat} (hq : q < 8) (hj : j < 6) : z (9 + 8 * j + q) = v (q * 6 + j) := by rw [← mx_p hq hj]; exact h _ (by omega)
theorem RZ.p0 (h : RZ v z) {q : Nat} (hq : q < 8) : z (9 + q) = v (q * 6 + 0) := h.p (j := 0) hq (by decide)
theorem RZ.p1 (h : RZ v z) {q : Nat} (hq : q < 8) : z (17 + q) = v (q * 6 + 1) := h.p (j := 1) hq (by decide)
theorem RZ.p2 (h : RZ v z) {q : Nat} (hq : q < 8) : z (25 + q) = v (q * 6 + 2) := h.p (j := 2) hq (by decide)
theorem RZ.p3 (h : RZ v z) {q : Nat} (hq : q < 8) : z (33 + q) = v (q * 6 + 3) := h.p (j := 3) hq (by decide)
theorem RZ.p4 (h : RZ v z) {q : Nat} (hq : q < 8) : z (41 + q) = v (q * 6 + 4) := h.p (j := 4) hq (by decide)
theorem RZ.p5 (h : RZ v z) {q : Nat} (hq : q < 8) : z (49 + q) = v (q * 6 + 5) := h.p (j := 5) hq (by decide)
theorem RZ.d (h : RZ v z) {q o : Nat} (hq : q < 8) (ho : o < 8) : z (57 + 8 * q + o) = v (48 + q * 8 + o) := by rw [← mx_d hq ho]; exact h _ (by omega)
theorem RZ.s (h : RZ v z) {k : Nat} (hk : k < 3) : z (6 + k) = v (112 + k) := by rw [← mx_s hk]; exact h _ (by omega)
theorem RZ.br (h : RZ v z) : z 1 = v 115 := h 115 (by decide)
theorem RZ.n (h : RZ v z) : z 0 = v 116 := h 116 (by decide)
theorem RZ.b (h : RZ v z) {b k : Nat} (hb : b < 10) (hk : k < 31) : z (121 + 31 * b + k) = v (117 + b * 31 + k) := by rw [← mx_b hb hk]; exact h _ (by omega)
theorem RZ.b0 (h : RZ v z) {b : Nat} (hb : b < 10) : z (121 + 31 * b) = v (117 + b * 31 + 0) := h.b (k := 0) hb (by decide)
theorem RZ.l (h : RZ v z) {b i j : Nat} (hb : b < 10) (hi : i < 4) (hj : j < 4) : z (121 + 31 * b + 15 + 4 * i + j) = v (117 + b * 31 + 15 + i * 4 + j) := by
  have h1 := h.b (b := b) (k := 15 + 4 * i + j) hb (by omega)
  rw [show 121 + 31 * b + 15 + 4 * i + j = 121 + 31 * b + (15 + 4 * i + j) by omega, show 117 + b * 31 + 15 + i * 4 + j = 117 + b * 31 + (15 + 4 * i + j) by omega]
  exact h1
theorem RZ.l0 (h : RZ v z) {b i : Nat} (hb : b < 10) (hi : i < 4) : z (121 + 31 * b + 15 + 4 * i) = v (117 + b * 31 + 15 + i * 4 + 0) := h.l (j := 0) hb hi (by decide)
/-- one cell, one place of the row -/
theorem RZ.u (h : RZ v z) {k j : Nat} (x : Int32) (hk : k < 427) (e : mx k = j) : RZ (upd v k x) (upd z j x) := by
  intro c hc
  subst e
  by_cases hck : c = k
  · subst hck; rw [pk_us, pk_us]
  · rw [pk_un hck, pk_un (fun q => hck (mx_inj hc hk q))]
    exact h c hc
/-- what the row has beside the cells -/
theorem RZ.o (h : RZ v z) {j : Nat} (x : Int32) (h1 : 2 ≤ j) (h2 : j ≤ 5) : RZ v (upd z j x) := by
  intro c hc
  rw [pk_un (mx_ne hc h1 h2)]
  exact h c hc
end RZS
theorem mn_eq (a b : Int32) : (if b < a then b else a) = mn a b := rfl
theorem mn_comm (a b : Int32) : mn a b = mn b a := by
  unfold mn
  by_cases h1 : b < a
  · rw [if_pos h1, if_neg (Int32.not_lt.mpr (Int32.le_of_lt h1))]
  · rw [if_neg h1]
    by_cases h2 : a < b
    · rw [if_pos h2]
    · rw [if_neg h2]
      exact Int32.le_antisymm (Int32.not_lt.mp h1) (Int32.not_lt.mp h2)
theorem sub_neg (a b : Int32) : a + -b = a - b := (Int32.sub_eq_add_neg a b).symm
theorem sumI_congr {f g : Nat → Int32} : ∀ n, (∀ i, i < n → f i = g i) → sumI f n = sumI g n
  | 0, _ => rfl
  | n + 1, h => by rw [sumI, sumI, sumI_congr n (fun i hi => h i (by omega)), h n (by omega)]
section LK
variable {v z : Nat → Int32}
theorem RZ.left (h : RZ v z) {b : Nat} (hb : b < 10) : lfZ z b = leftOf v b := by
  unfold lfZ leftOf
  rw [h.b hb (by decide), h.b hb (by decide), h.b hb (by decide)]
theorem RZ.limits (h : RZ v z) {b L : Nat} (hb : b < 10) (hL : L ≤ 4) : lmZ z b L = limitsOf v b L := by
  unfold lmZ limitsOf
  exact sumI_congr L (fun i hi => h.l hb (by omega) (by decide))
theorem RZ.SZ (h : RZ v z) {N : Nat} {L : Nat → Nat} (hS : Sh v N L) : SZ z N L := ⟨by rw [h.n]; exact hS.1, hS.2.1, fun b hb => by rw [h.b hb (by decide)]; exact hS.2.2 b hb⟩
theorem RZ.bound (h : RZ v z) {N : Nat} {L : Nat → Nat} (hS : Sh v N L) (q : Int32) : boZ z N L q = boundFor v N L q := by
  unfold boZ boundFor
  refine sumI_congr N (fun b hb => ?_)
  have hb10 : b < 10 := Nat.lt_of_lt_of_le hb hS.2.1
  refine sumI_congr (L b) (fun i hi => ?_)
  have hi4 : i < 4 := Nat.lt_of_lt_of_le hi (hS.2.2 b hb10).2
  rw [h.l0 hb10 hi4, h.l hb10 hi4 (by decide)]
theorem RZ.spare (h : RZ v z) {N : Nat} {L : Nat → Nat} (hS : Sh v N L) {q : Nat} (hq : q < 8) : spZ z N L q = spareOf v N L q := by
  unfold spZ spareOf
  rw [h.bound hS, h.p0 hq, show z 7 = v (112 + 1) from h.s (k := 1) (by decide)]
  generalize v (q * 6 + 0) - boundFor v N L (nI q) * v (112 + 1) / nI 100 = x
  by_cases h1 : x < 0
  · rw [if_pos h1, if_neg (show ¬ nI 0 < x from fun w => absurd (Int32.lt_trans h1 w) (Int32.lt_irrefl))]
  · rw [if_neg h1]
    by_cases h2 : nI 0 < x
    · rw [if_pos h2]
    · rw [if_neg h2]
      exact Int32.le_antisymm (Int32.not_lt.mp h2) (Int32.not_lt.mp h1)
end LK
theorem mx_l {b i j : Nat} (hb : b < 10) (hi : i < 4) (hj : j < 4) : mx (117 + b * 31 + 15 + i * 4 + j) = 121 + 31 * b + 15 + 4 * i + j := by
  have h := mx_b (b := b) (k := 15 + 4 * i + j) hb (by omega)
  rw [show 117 + b * 31 + 15 + i * 4 + j = 117 + b * 31 + (15 + 4 * i + j) by omega, h]
  omega
theorem RZ.ad {v z : Nat → Int32} (h : RZ v z) {k j : Nat} (x : Int32) (hk : k < 427) (e : mx k = j) : RZ (upd v k (v k + x)) (ad1 z j x) := by
  unfold ad1
  rw [show z j = v k from e ▸ h k hk]
  exact h.u _ hk e
theorem RZ.sb {v z : Nat → Int32} (h : RZ v z) {k j : Nat} (x : Int32) (hk : k < 427) (e : mx k = j) : RZ (upd v k (v k + -x)) (sb1 z j x) := by
  unfold sb1
  rw [show z j = v k from e ▸ h k hk, sub_neg]
  exact h.u _ hk e
theorem RZ.od {v z : Nat → Int32} (h : RZ v z) {j : Nat} (x : Int32) (h1 : 2 ≤ j) (h2 : j ≤ 5) : RZ v (ad1 z j x) := h.o _ h1 h2
theorem rz_trimI {b : Nat} (hb : b < 10) : ∀ (i : Nat) (v z : Nat → Int32) (ex : Int32), i ≤ 4 → RZ v z → RZ (trimI v b i ex) (trI z b i ex)
  | 0, _, _, _, _, h => h
  | i + 1, v, z, ex, hi, h => by
    rw [trimI, trI]
    by_cases h0 : ex ≤ 0
    · rw [if_pos h0, if_pos h0]; exact h
    · rw [if_neg h0, if_neg h0, h.l hb (by omega) (by decide), mn_comm, mn_eq, sub_neg]
      exact rz_trimI hb i _ _ _ (by omega) (h.u _ (by omega) (mx_l hb (by omega) (by decide)))
theorem rz_trim {v z : Nat → Int32} (h : RZ v z) {b L : Nat} (hb : b < 10) (hL : L ≤ 4) : RZ (trimOf v b L) (trZ z b L) := by
  unfold trimOf trZ
  rw [h.limits hb hL, h.left hb]
  exact rz_trimI hb L v z _ hL h
/-! the calls of persons -/
theorem rz_bring {v z : Nat → Int32} (h : RZ v z) {q : Nat} (hq : q < 8) (x : Int32) : RZ (brV v q x) (ad1 (ad1 z (9 + q) x) 1 x) :=
  (h.ad (k := q * 6 + 0) x (by omega) (mx_p hq (by decide))).ad (k := 115) x (by decide) rfl
theorem rz_take {v z : Nat → Int32} (h : RZ v z) {q : Nat} (hq : q < 8) (x : Int32) : RZ (brV v q (-x)) (sb1 (sb1 z (9 + q) x) 1 x) :=
  (h.sb (k := q * 6 + 0) x (by omega) (mx_p hq (by decide))).sb (k := 115) x (by decide) rfl
theorem mx_p1 {q : Nat} (hq : q < 8) : mx (q * 6 + 1) = 17 + q := mx_p hq (by decide)
theorem mx_p2 {q : Nat} (hq : q < 8) : mx (q * 6 + 2) = 25 + q := mx_p hq (by decide)
theorem rz_guar {v z : Nat → Int32} (h : RZ v z) {q : Nat} (hq : q < 8) (g x : Int32) : RZ (guV v q g x) (gtZ z q g x) :=
  (h.u (k := q * 6 + 1) g (by omega) (mx_p1 hq)).u (k := q * 6 + 2) x (by omega) (mx_p2 hq)
theorem rz_repay {v z : Nat → Int32} (h : RZ v z) {q o : Nat} (hq : q < 8) (ho : o < 8) (x : Int32) : RZ (rpV v q o x) (sb1 (ad1 (sb1 z (9 + q) x) (9 + o) x) (57 + 8 * q + o) x) :=
  ((h.sb (k := q * 6 + 0) x (by omega) (mx_p hq (by decide))).ad (k := o * 6 + 0) x (by omega) (mx_p ho (by decide))).sb (k := 48 + q * 8 + o) x (by omega) (mx_d hq ho)
theorem rz_set {v z : Nat → Int32} (h : RZ v z) {k : Nat} (hk : k < 3) (x : Int32) : RZ (upd v (112 + k) x) (upd z (6 + k) x) := h.u x (by omega) (mx_s hk)
/-! milestones -/
theorem upd_comm (f : Nat → Int32) {i j : Nat} (x y : Int32) (h : i ≠ j) : upd (upd f i x) j y = upd (upd f j y) i x := by
  funext k
  unfold upd
  by_cases h1 : k = i
  · by_cases h2 : k = j
    · exact absurd (h1.symm.trans h2) h
    · rw [if_neg h2, if_pos h1, if_pos h1]
  · rw [if_neg h1]
    by_cases h2 : k = j
    · rw [if_pos h2, if_neg h1]
    · rw [if_neg h2, if_neg h1]
theorem trimI_at {b k : Nat} (h : ∀ j, j < 4 → k ≠ 117 + b * 31 + 15 + j * 4 + 2) : ∀ (i : Nat) (v : Nat → Int32) (ex : Int32), i ≤ 4 → trimI v b i ex k = v k
  | 0, _, _, _ => rfl
  | i + 1, v, ex, hi => by
    rw [trimI]
    split
    · rfl
    · rw [trimI_at h i _ _ (by omega), pk_un (h i (by omega))]
theorem trimI_upd {b k : Nat} (x : Int32) (h : ∀ j, j < 4 → k ≠ 117 + b * 31 + 15 + j * 4 + 2) : ∀ (i : Nat) (v : Nat → Int32) (ex : Int32), i ≤ 4 → trimI (upd v k x) b i ex = upd (trimI v b i ex) k x
  | 0, _, _, _ => rfl
  | i + 1, v, ex, hi => by
    rw [trimI, trimI]
    by_cases h0 : ex ≤ 0
    · rw [if_pos h0, if_pos h0]
    · rw [if_neg h0, if_neg h0, pk_un (fun q => h i (by omega) q.symm), upd_comm _ _ _ (h i (by omega)), trimI_upd x h i _ _ (by omega)]
theorem limits_upd {v : Nat → Int32} {b L k : Nat} (x : Int32) (h : ∀ j, j < 4 → k ≠ 117 + b * 31 + 15 + j * 4 + 2) (hL : L ≤ 4) : limitsOf (upd v k x) b L = limitsOf v b L := by
  unfold limitsOf
  exact sumI_congr L (fun i hi => pk_un (fun q => h i (by omega) q.symm))
theorem trimOf_upd {v : Nat → Int32} {b L k : Nat} (x : Int32) (h : ∀ j, j < 4 → k ≠ 117 + b * 31 + 15 + j * 4 + 2) (hL : L ≤ 4) (hl : leftOf (upd v k x) b = leftOf v b) : trimOf (upd v k x) b L = upd (trimOf v b L) k x := by
  unfold trimOf
  rw [limits_upd x h hL, hl, trimI_upd x h L v _ hL]
theorem left_upd {v : Nat → Int32} {b k : Nat} (x : Int32) (h1 : k ≠ 117 + b * 31 + 1) (h6 : k ≠ 117 + b * 31 + 6) (h8 : k ≠ 117 + b * 31 + 8) : leftOf (upd v k x) b = leftOf v b := by
  unfold leftOf
  rw [pk_un (Ne.symm h1), pk_un (Ne.symm h6), pk_un (Ne.symm h8)]
theorem rz_rel {v z : Nat → Int32} (h : RZ v z) {b L : Nat} (hb : b < 10) (hL : L ≤ 4) (x : Int32) : RZ (rlV v b L x) (rlZ z b L x) :=
  rz_trim ((h.ad (k := 117 + b * 31 + 8) x (by omega) (mx_b hb (by decide))).od x (by decide) (by decide)) hb hL
theorem rz_reach {v z : Nat → Int32} (h : RZ v z) {b L k : Nat} (hb : b < 10) (hL : L ≤ 4) (hk : v (117 + b * 31 + 5) = nI k) {X : Int32} (hX : X = reR v b k) : RZ (reV v b L k) (rlZ (upd z (121 + 31 * b + 5) (nI (k + 1))) b L X) := by
  subst hX
  unfold reV re1
  rw [hk, nI_add]
  exact rz_rel (h.u (k := 117 + b * 31 + 5) _ (by omega) (mx_b hb (by decide))) hb hL _
theorem rz_end {v z : Nat → Int32} (h : RZ v z) {b L : Nat} (hb : b < 10) (hL : L ≤ 4) : RZ (enV v b L) (rlZ (upd z (121 + 31 * b + 9) (nI 0)) b L (leftOf v b)) := by
  have h1 := rz_rel (h.u (k := 117 + b * 31 + 9) (j := 121 + 31 * b + 9) (nI 0) (by omega) (mx_b hb (by decide))) hb hL (leftOf v b)
  have e : rlV (upd v (117 + b * 31 + 9) (nI 0)) b L (leftOf v b) = enV v b L := by
    unfold enV rlV
    rw [pk_un (by omega), upd_comm _ _ _ (by omega), trimOf_upd _ (fun j hj => by omega) hL (left_upd _ (by omega) (by omega) (by omega))]
  rw [← e]
  exact h1
theorem mn_self (x : Int32) : mn x x = x := by
  unfold mn
  split <;> rfl
theorem left_z_upd {z : Nat → Int32} {b k : Nat} (x : Int32) (h1 : k ≠ 121 + 31 * b + 1) (h6 : k ≠ 121 + 31 * b + 6) (h8 : k ≠ 121 + 31 * b + 8) : lfZ (upd z k x) b = lfZ z b := by
  unfold lfZ
  rw [pk_un (Ne.symm h1), pk_un (Ne.symm h6), pk_un (Ne.symm h8)]
/-! numbers that are small -/
def cN (v : Nat → Int32) (k m : Nat) : Prop := v k = nI (tN (v k)) ∧ tN (v k) ≤ m
theorem cN.mk {v : Nat → Int32} {k m n : Nat} (h : v k = nI n) (hn : n ≤ m) (hm : m < 2 ^ 31) : cN v k m := by
  have h1 : tN (v k) = n := tN_nI h (by omega)
  exact ⟨by rw [h1]; exact h, by rw [h1]; exact hn⟩
theorem mn_nI {a b : Nat} (ha : a < 2 ^ 31) (hb : b < 2 ^ 31) : mn (nI a) (nI b) = nI (min a b) := by
  unfold mn
  by_cases h : b < a
  · rw [if_pos (nI_lt h ha), Nat.min_eq_right (Nat.le_of_lt h)]
  · rw [if_neg (nI_nlt (by omega) hb), Nat.min_eq_left (by omega)]
theorem nI_l64 {n : Nat} (h : n < 2 ^ 31) : (nI n).toInt64 = Int64.ofNat n := by
  apply Int64.toInt_inj.mp
  rw [Int32.toInt_toInt64, nI_toInt h]
  exact (Int64.toInt_ofNat_of_lt (by omega)).symm
theorem l64_mul {a b : Nat} : Int64.ofNat a * Int64.ofNat b = Int64.ofNat (a * b) := (Int64.ofNat_mul a b).symm
theorem l64_div {a d : Nat} (ha : a < 2 ^ 63) (hd : d < 2 ^ 63) : Int64.ofNat a / Int64.ofNat d = Int64.ofNat (a / d) := by
  apply Int64.toInt_inj.mp
  have hq : a / d < 2 ^ 63 := Nat.lt_of_le_of_lt (Nat.div_le_self _ _) ha
  have hc : ((a : Int) / (d : Int)) = ((a / d : Nat) : Int) := (Int.natCast_ediv a d).symm
  generalize a / d = t at hq hc ⊢
  rw [Int64.toInt_div, Int64.toInt_ofNat_of_lt ha, Int64.toInt_ofNat_of_lt hd, Int64.toInt_ofNat_of_lt hq, Int.tdiv_eq_ediv_of_nonneg (by omega)]
  rw [hc]
  exact Int.bmod_eq_of_le (by omega) (by omega)
theorem l64_32 {n : Nat} (h : n < 2 ^ 31) : (Int64.ofNat n).toInt32 = nI n := by
  rw [← nI_l64 h]
  exact Int32.toInt32_toInt64 _
theorem reach_same {v z : Nat → Int32} (h : RZ v z) {b k S s : Nat} (hb : b < 10) (hk : k < 5) (hS : v (117 + b * 31 + 1) = nI S) (hs : v (117 + b * 31 + (10 + k)) = nI s) (hS5 : S ≤ 99999) (hs3 : s ≤ 1000) (x : Int32) : mn (lfZ (upd z (121 + 31 * b + 5) x) b) (reM z b k) = reR v b k := by
  have hp : S * s ≤ 99999 * 1000 := Nat.mul_le_mul hS5 hs3
  have hd : S * s / 1000 ≤ S * s := Nat.div_le_self _ _
  rw [left_z_upd _ (by omega) (by omega) (by omega), h.left hb]
  unfold reM reR
  rw [h.b hb (by decide), show 121 + 31 * b + 10 + k = 121 + 31 * b + (10 + k) by omega, h.b hb (by omega), hS, hs, pk_mul, pk_div (by omega) (by decide) (by decide), nI_l64 (by omega), nI_l64 (by omega), l64_mul,
    show (1000 : Int64) = Int64.ofNat 1000 from rfl, l64_div (by omega) (by decide), l64_32 (by omega), mn_comm]
