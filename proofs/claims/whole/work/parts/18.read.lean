/-! THE REFERENCE'S READER: pure words -/
def nxT (bf : Nat → Int32) (m p : Nat) : Int32 := if p < m then bf p else nI 0
abbrev TR : Type := Bool × Nat × (Nat → Int32)
def tk (nx : Nat → Int32) (sg : Int32) (p : Nat) (r : Nat → Int32) : TR := if nx p = sg then (true, p + 1, r) else (false, p, r)
def dgB (nx : Nat → Int32) (p : Nat) : Bool := inB (nx p - nI 48) (nI 0) (nI 7)
def dg (nx : Nat → Int32) (slot p : Nat) (r : Nat → Int32) : TR := (dgB nx p, if dgB nx p then p + 1 else p, upd r slot (nx p - nI 48))
def nuB (nx : Nat → Int32) (most : Int32) (p : Nat) (v : Int32) : Bool := inB (nx p - nI 48) (nI 0) (nI 9) && inB (nI 10 * v + (nx p - nI 48)) (nI 1) most
def nuI (nx : Nat → Int32) (most : Int32) : Nat → Nat → Int32 → Nat × Int32
  | 0, p, v => (p, v)
  | f + 1, p, v => if nuB nx most p v then nuI nx most f (p + 1) (nI 10 * v + (nx p - nI 48)) else (p, v)
def nu (nx : Nat → Int32) (slot : Nat) (most : Int32) (p : Nat) (r : Nat → Int32) : TR := (!decide ((nuI nx most (61 - p) p (nI 0)).2 ≤ 0), (nuI nx most (61 - p) p (nI 0)).1, upd r slot (nuI nx most (61 - p) p (nI 0)).2)
def tb (t : TR) (f : Nat → (Nat → Int32) → TR) : TR := if t.1 then f t.2.1 t.2.2 else t
theorem tb_t {t : TR} {f : Nat → (Nat → Int32) → TR} (h : t.1 = true) : tb t f = f t.2.1 t.2.2 := by unfold tb; rw [if_pos h]
theorem tb_f {t : TR} {f : Nat → (Nat → Int32) → TR} (h : t.1 = false) : tb t f = t := by unfold tb; rw [if_neg (by rw [h]; decide)]
def lyS (nx : Nat → Int32) (k p : Nat) (r : Nat → Int32) : TR := tb (dg nx (15 + 4 * k) p r) fun p r => tb (tk nx (nI 42) p r) fun p r => nu nx (15 + 4 * k + 1) (nI 99999) p r
def lyI (nx : Nat → Int32) : Nat → Nat → Nat → (Nat → Int32) → TR
  | 0, _, p, r => (true, p, r)
  | f + 1, k, p, r =>
    if (lyS nx k p r).1 then
      if k + 1 < 4 then
        if (tk nx (nI 43) (lyS nx k p r).2.1 (upd (lyS nx k p r).2.2 3 (nI (k + 1)))).1 then
          lyI nx f (k + 1) (tk nx (nI 43) (lyS nx k p r).2.1 (upd (lyS nx k p r).2.2 3 (nI (k + 1)))).2.1 (tk nx (nI 43) (lyS nx k p r).2.1 (upd (lyS nx k p r).2.2 3 (nI (k + 1)))).2.2
        else (true, (lyS nx k p r).2.1, upd (lyS nx k p r).2.2 3 (nI (k + 1)))
      else (true, (lyS nx k p r).2.1, upd (lyS nx k p r).2.2 3 (nI (k + 1)))
    else (false, (lyS nx k p r).2.1, upd (lyS nx k p r).2.2 3 (nI k))
def ly (nx : Nat → Int32) (p : Nat) (r : Nat → Int32) : TR := lyI nx 4 0 p (upd r 3 (nI 0))
def meI (nx : Nat → Int32) : Nat → Nat → Nat → (Nat → Int32) → TR
  | 0, _, p, r => (true, p, r)
  | f + 1, k, p, r =>
    if (nu nx (10 + k) (nI 1000) p r).1 then
      if k + 1 < 5 then
        if (tk nx (nI 43) (nu nx (10 + k) (nI 1000) p r).2.1 (upd (nu nx (10 + k) (nI 1000) p r).2.2 4 (nI (k + 1)))).1 then
          meI nx f (k + 1) (tk nx (nI 43) (nu nx (10 + k) (nI 1000) p r).2.1 (upd (nu nx (10 + k) (nI 1000) p r).2.2 4 (nI (k + 1)))).2.1 (tk nx (nI 43) (nu nx (10 + k) (nI 1000) p r).2.1 (upd (nu nx (10 + k) (nI 1000) p r).2.2 4 (nI (k + 1)))).2.2
        else (true, (nu nx (10 + k) (nI 1000) p r).2.1, upd (nu nx (10 + k) (nI 1000) p r).2.2 4 (nI (k + 1)))
      else (true, (nu nx (10 + k) (nI 1000) p r).2.1, upd (nu nx (10 + k) (nI 1000) p r).2.2 4 (nI (k + 1)))
    else (false, (nu nx (10 + k) (nI 1000) p r).2.1, upd (nu nx (10 + k) (nI 1000) p r).2.2 4 (nI k))
def me (nx : Nat → Int32) (p : Nat) (r : Nat → Int32) : TR := meI nx 5 0 p (upd r 4 (nI 0))
def wy (nx : Nat → Int32) (p : Nat) (r : Nat → Int32) : TR :=
  if (tk nx (nI 108) p r).1 then (true, (tk nx (nI 108) p r).2.1, upd r 2 (nI 0)) else ((tk nx (nI 101) p r).1, (tk nx (nI 101) p r).2.1, upd r 2 (nI 1))
def isA (nx : Nat → Int32) (r : Nat → Int32) : TR :=
  tb (tk nx (nI 112) 0 r) fun p r => tb (dg nx 0 p r) fun p r => tb (tk nx (nI 115) p r) fun p r => tb (nu nx 1 (nI 99999) p r) fun p r => tb (tk nx (nI 58) p r) fun p r => ly nx p r
def isT (nx : Nat → Int32) (m : Nat) (r : Nat → Int32) : TR :=
  tb (isA nx r) fun p r => tb (tk nx (nI 64) p r) fun p r => tb (me nx p r) fun p r => tb (wy nx p r) fun p r => (decide (p = m), p, r)
def tW (σ : gS) (p : Nat) (r : Nat → Int32) : gS := (fun o => if o = 29 then r else if o = 23 then upd (σ.1 23) 11 (nI p) else σ.1 o, σ.2)
section TW
variable (σ : gS) (p q : Nat) (r g : Nat → Int32)
theorem tW_29 : (tW σ p r).1 29 = r := rfl
theorem tW_23 : (tW σ p r).1 23 = upd (σ.1 23) 11 (nI p) := rfl
theorem tW_27 : (tW σ p r).1 27 = σ.1 27 := rfl
theorem tW_24 : (tW σ p r).1 24 = σ.1 24 := rfl
theorem tW_s29 : sA (tW σ p r) 29 g = tW σ p g := by
  unfold tW sA
  refine Prod.ext (funext fun o => ?_) rfl
  dsimp only
  by_cases h : o = 29
  · rw [if_pos h, if_pos h]
  · rw [if_neg h, if_neg h, if_neg h]
theorem tW_p : sA (tW σ p r) 23 (upd ((tW σ p r).1 23) 11 (nI q)) = tW σ q r := by
  rw [tW_23, upd_upd]
  unfold tW sA
  refine Prod.ext (funext fun o => ?_) rfl
  dsimp only
  by_cases h : o = 23
  · subst h; rfl
  · rw [if_neg h, if_neg h, if_neg h]
theorem tW_pl : (tW σ p r).1 23 11 = nI p := by rw [tW_23, pk_us]
theorem tW_0 : sA σ 23 (upd (σ.1 23) 11 (nI p)) = tW σ p (σ.1 29) := by
  unfold tW sA
  refine Prod.ext (funext fun o => ?_) rfl
  dsimp only
  by_cases h : o = 23
  · subst h; rfl
  · rw [if_neg h]
    split
    · rename_i h; subst h; rfl
    · rfl
end TW
theorem tW_m {σ : gS} {p : Nat} {r : Nat → Int32} {k : Nat} {x : Int32} (h : σ.1 23 k = x) (hk : k ≠ 11) : (tW σ p r).1 23 k = x := by
  rw [tW_23, pk_un hk]
  exact h
theorem nx_d {bf : Nat → Int32} {m p : Nat} {y : Int32} (hm : m ≤ p) : inB (nxT bf m p - nI 48) (nI 0) y = true → False := by
  intro h
  unfold nxT at h
  rw [if_neg (by omega)] at h
  unfold inB at h
  rw [Bool.and_eq_true] at h
  exact absurd (of_decide_eq_true h.1) (by decide)
theorem dgB_le {bf : Nat → Int32} {m p : Nat} (h : dgB (nxT bf m) p = true) : p < m := by
  rcases Nat.lt_or_ge p m with h1 | h1
  · exact h1
  · exact (nx_d h1 h).elim
theorem nuB_le {bf : Nat → Int32} {m p : Nat} {most v : Int32} (h : nuB (nxT bf m) most p v = true) : p < m := by
  unfold nuB at h
  rw [Bool.and_eq_true] at h
  rcases Nat.lt_or_ge p m with h1 | h1
  · exact h1
  · exact (nx_d h1 h.1).elim
theorem nuI_le {bf : Nat → Int32} {m : Nat} {most : Int32} : ∀ (f p : Nat) (v : Int32), p ≤ m → (nuI (nxT bf m) most f p v).1 ≤ m
  | 0, _, _, h => h
  | f + 1, p, v, h => by
    rw [nuI]
    split
    · rename_i hb
      exact nuI_le f _ _ (nuB_le hb)
    · exact h
theorem tk_le {bf : Nat → Int32} {m p : Nat} {sg : Int32} {r : Nat → Int32} (hs : ¬ nI 0 = sg) (h : p ≤ m) : (tk (nxT bf m) sg p r).2.1 ≤ m := by
  unfold tk
  split
  · rename_i hb
    unfold nxT at hb
    by_cases h1 : p < m
    · exact h1
    · rw [if_neg h1] at hb
      exact absurd hb hs
  · exact h
theorem tk_r {nx : Nat → Int32} {p : Nat} {sg : Int32} {r : Nat → Int32} : (tk nx sg p r).2.2 = r := by
  unfold tk
  split <;> rfl
theorem tk_p {nx : Nat → Int32} {p : Nat} {sg : Int32} {r : Nat → Int32} {t : TR} (ht : tk nx sg p r = t) (h : t.1 = false) : t.2.1 = p := by
  subst ht
  unfold tk at h ⊢
  split at h
  · cases h
  · rename_i hb
    rw [if_neg hb]
theorem dg_le {bf : Nat → Int32} {m p slot : Nat} {r : Nat → Int32} (h : p ≤ m) : (dg (nxT bf m) slot p r).2.1 ≤ m := by
  unfold dg
  dsimp only
  split
  · rename_i hb
    exact dgB_le hb
  · exact h
theorem nu_le {bf : Nat → Int32} {m p slot : Nat} {most : Int32} {r : Nat → Int32} (h : p ≤ m) : (nu (nxT bf m) slot most p r).2.1 ≤ m := nuI_le _ _ _ h
theorem nuI_t {nx : Nat → Int32} {most v : Int32} {f p : Nat} (h : nuB nx most p v = true) : nuI nx most (f + 1) p v = nuI nx most f (p + 1) (nI 10 * v + (nx p - nI 48)) := by rw [nuI, if_pos h]
theorem nuI_f {nx : Nat → Int32} {most v : Int32} {f p : Nat} (h : nuB nx most p v = false) : nuI nx most (f + 1) p v = (p, v) := by rw [nuI, if_neg (by rw [h]; decide)]
theorem nuB_t {nx : Nat → Int32} {most v : Int32} {p : Nat} (h1 : inB (nx p - nI 48) (nI 0) (nI 9) = true) (h2 : inB (nI 10 * v + (nx p - nI 48)) (nI 1) most = true) : nuB nx most p v = true := by unfold nuB; rw [h1, h2]; rfl
theorem nuB_1 {nx : Nat → Int32} {most v : Int32} {p : Nat} (h1 : inB (nx p - nI 48) (nI 0) (nI 9) = false) : nuB nx most p v = false := by unfold nuB; rw [h1]; rfl
theorem nuB_2 {nx : Nat → Int32} {most v : Int32} {p : Nat} (h2 : inB (nI 10 * v + (nx p - nI 48)) (nI 1) most = false) : nuB nx most p v = false := by unfold nuB; rw [h2, Bool.and_false]
theorem lyS_1 {nx : Nat → Int32} {k p : Nat} {r : Nat → Int32} {t1 : TR} (e1 : dg nx (15 + 4 * k) p r = t1) (h1 : t1.1 = false) : lyS nx k p r = t1 := by unfold lyS; rw [e1, tb_f h1]
theorem lyS_2 {nx : Nat → Int32} {k p : Nat} {r : Nat → Int32} {t1 t2 : TR} (e1 : dg nx (15 + 4 * k) p r = t1) (h1 : t1.1 = true) (e2 : tk nx (nI 42) t1.2.1 t1.2.2 = t2) (h2 : t2.1 = false) : lyS nx k p r = t2 := by unfold lyS; rw [e1, tb_t h1, e2, tb_f h2]
theorem lyS_3 {nx : Nat → Int32} {k p : Nat} {r : Nat → Int32} {t1 t2 t3 : TR} (e1 : dg nx (15 + 4 * k) p r = t1) (h1 : t1.1 = true) (e2 : tk nx (nI 42) t1.2.1 t1.2.2 = t2) (h2 : t2.1 = true) (e3 : nu nx (15 + 4 * k + 1) (nI 99999) t2.2.1 t2.2.2 = t3) : lyS nx k p r = t3 := by unfold lyS; rw [e1, tb_t h1, e2, tb_t h2, e3]
theorem lyI_f {nx : Nat → Int32} {f k p : Nat} {r : Nat → Int32} {t : TR} (e : lyS nx k p r = t) (h : t.1 = false) : lyI nx (f + 1) k p r = (false, t.2.1, upd t.2.2 3 (nI k)) := by rw [lyI, e, if_neg (by rw [h]; decide)]
theorem lyI_g {nx : Nat → Int32} {f k p : Nat} {r : Nat → Int32} {t t4 : TR} (e : lyS nx k p r = t) (h : t.1 = true) (hk : k + 1 < 4) (e4 : tk nx (nI 43) t.2.1 (upd t.2.2 3 (nI (k + 1))) = t4) (h4 : t4.1 = true) : lyI nx (f + 1) k p r = lyI nx f (k + 1) t4.2.1 t4.2.2 := by rw [lyI, e, if_pos h, if_pos hk, e4, if_pos h4]
theorem lyI_h {nx : Nat → Int32} {f k p : Nat} {r : Nat → Int32} {t t4 : TR} (e : lyS nx k p r = t) (h : t.1 = true) (hk : k + 1 < 4) (e4 : tk nx (nI 43) t.2.1 (upd t.2.2 3 (nI (k + 1))) = t4) (h4 : t4.1 = false) : lyI nx (f + 1) k p r = (true, t4.2.1, t4.2.2) := by
  rw [lyI, e, if_pos h, if_pos hk, e4, if_neg (by rw [h4]; decide)]
  unfold tk at e4
  split at e4
  · subst e4; cases h4
  · subst e4; rfl
theorem lyI_e {nx : Nat → Int32} {f k p : Nat} {r : Nat → Int32} {t : TR} (e : lyS nx k p r = t) (h : t.1 = true) (hk : ¬ k + 1 < 4) : lyI nx (f + 1) k p r = (true, t.2.1, upd t.2.2 3 (nI (k + 1))) := by rw [lyI, e, if_pos h, if_neg hk]
theorem meI_f {nx : Nat → Int32} {f k p : Nat} {r : Nat → Int32} {t : TR} (e : nu nx (10 + k) (nI 1000) p r = t) (h : t.1 = false) : meI nx (f + 1) k p r = (false, t.2.1, upd t.2.2 4 (nI k)) := by rw [meI, e, if_neg (by rw [h]; decide)]
theorem meI_g {nx : Nat → Int32} {f k p : Nat} {r : Nat → Int32} {t t4 : TR} (e : nu nx (10 + k) (nI 1000) p r = t) (h : t.1 = true) (hk : k + 1 < 5) (e4 : tk nx (nI 43) t.2.1 (upd t.2.2 4 (nI (k + 1))) = t4) (h4 : t4.1 = true) : meI nx (f + 1) k p r = meI nx f (k + 1) t4.2.1 t4.2.2 := by rw [meI, e, if_pos h, if_pos hk, e4, if_pos h4]
theorem meI_h {nx : Nat → Int32} {f k p : Nat} {r : Nat → Int32} {t t4 : TR} (e : nu nx (10 + k) (nI 1000) p r = t) (h : t.1 = true) (hk : k + 1 < 5) (e4 : tk nx (nI 43) t.2.1 (upd t.2.2 4 (nI (k + 1))) = t4) (h4 : t4.1 = false) : meI nx (f + 1) k p r = (true, t4.2.1, t4.2.2) := by
  rw [meI, e, if_pos h, if_pos hk, e4, if_neg (by rw [h4]; decide)]
  unfold tk at e4
  split at e4
  · subst e4; cases h4
  · subst e4; rfl
theorem meI_e {nx : Nat → Int32} {f k p : Nat} {r : Nat → Int32} {t : TR} (e : nu nx (10 + k) (nI 1000) p r = t) (h : t.1 = true) (hk : ¬ k + 1 < 5) : meI nx (f + 1) k p r = (true, t.2.1, upd t.2.2 4 (nI (k + 1))) := by rw [meI, e, if_pos h, if_neg hk]
theorem tb_le {t : TR} {f : Nat → (Nat → Int32) → TR} {m : Nat} (h : t.2.1 ≤ m) (hf : ∀ p r, p ≤ m → (f p r).2.1 ≤ m) : (tb t f).2.1 ≤ m := by
  unfold tb
  split
  · exact hf _ _ h
  · exact h
theorem lyS_le {bf : Nat → Int32} {m k p : Nat} {r : Nat → Int32} (h : p ≤ m) : (lyS (nxT bf m) k p r).2.1 ≤ m := by
  unfold lyS
  exact tb_le (dg_le h) fun p r h => tb_le (tk_le (by decide) h) fun p r h => nu_le h
theorem lyI_le {bf : Nat → Int32} {m : Nat} : ∀ (f k p : Nat) (r : Nat → Int32), p ≤ m → (lyI (nxT bf m) f k p r).2.1 ≤ m
  | 0, _, _, _, h => h
  | f + 1, k, p, r, h => by
    rw [lyI]
    split
    · split
      · split
        · exact lyI_le f _ _ _ (tk_le (by decide) (lyS_le h))
        · exact lyS_le h
      · exact lyS_le h
    · exact lyS_le h
theorem meI_le {bf : Nat → Int32} {m : Nat} : ∀ (f k p : Nat) (r : Nat → Int32), p ≤ m → (meI (nxT bf m) f k p r).2.1 ≤ m
  | 0, _, _, _, h => h
  | f + 1, k, p, r, h => by
    rw [meI]
    split
    · split
      · split
        · exact meI_le f _ _ _ (tk_le (by decide) (nu_le h))
        · exact nu_le (slot := 10 + k) (most := nI 1000) (r := r) h
      · exact nu_le (slot := 10 + k) (most := nI 1000) (r := r) h
    · exact nu_le (slot := 10 + k) (most := nI 1000) (r := r) h
theorem ly_le {bf : Nat → Int32} {m p : Nat} {r : Nat → Int32} (h : p ≤ m) : (ly (nxT bf m) p r).2.1 ≤ m := lyI_le _ _ _ _ h
theorem me_le {bf : Nat → Int32} {m p : Nat} {r : Nat → Int32} (h : p ≤ m) : (me (nxT bf m) p r).2.1 ≤ m := meI_le _ _ _ _ h
theorem wy_le {bf : Nat → Int32} {m p : Nat} {r : Nat → Int32} (h : p ≤ m) : (wy (nxT bf m) p r).2.1 ≤ m := by
  unfold wy
  split
  · exact tk_le (by decide) h
  · exact tk_le (by decide) h
theorem isT_le {bf : Nat → Int32} {m : Nat} {r : Nat → Int32} : (isT (nxT bf m) m r).2.1 ≤ m := by
  unfold isT isA
  exact tb_le (tb_le (tk_le (by decide) (Nat.zero_le _)) fun p r h => tb_le (dg_le h) fun p r h => tb_le (tk_le (by decide) h) fun p r h => tb_le (nu_le h) fun p r h => tb_le (tk_le (by decide) h) fun p r h => ly_le h) fun p r h => tb_le (tk_le (by decide) h) fun p r h => tb_le (me_le h) fun p r h => tb_le (wy_le h) fun p r h => h
/-- is it good, can they be bound: pure words -/
def gdI (r : Nat → Int32) : Nat → Bool × Int32 × Int32
  | 0 => (true, nI 1 <<< (r 0 &&& 31), nI 0)
  | i + 1 => ((gdI r i).1 && decide (((gdI r i).2.1 >>> (r (15 + 4 * i) &&& 31)) &&& nI 1 = 0), (gdI r i).2.1 ||| (nI 1 <<< (r (15 + 4 * i) &&& 31)), (gdI r i).2.2 + r (15 + 4 * i + 1))
def gdB (r : Nat → Int32) (k q : Nat) : Bool := (gdI r k).1 && (decide ((gdI r k).2.2 ≤ r 1) && decide (sumI (fun j => r (10 + j)) q ≤ nI 1000))
def cbC (z r : Nat → Int32) (N : Nat) (L : Nat → Nat) (su : Nat → Nat) (i : Nat) : Bool := decide (lg_cmp (boZ z N L (nI (su i)) + r (15 + 4 * i + 1)).toInt64 ((z (9 + su i)).toInt64 * (z 8).toInt64) ≤ 0)
def cbI (z r : Nat → Int32) (N : Nat) (L : Nat → Nat) (su : Nat → Nat) : Nat → Bool
  | 0 => true
  | i + 1 => cbI z r N L su i && cbC z r N L su i
def gz0 (z : Nat → Int32) (p i : Nat) : Nat → Int32 := fun c => if p ≤ c ∧ c < p + i then nI 0 else z c
def gz1 (z r : Nat → Int32) (p i : Nat) : Nat → Int32 := fun c => if p ≤ c ∧ c < p + i then r (c - p) else z c
def gz3 (z r : Nat → Int32) (p i : Nat) : Nat → Int32 := fun c => if p + 10 ≤ c ∧ c < p + 10 + i then r (c - p) else z c
def gz4 (z r : Nat → Int32) (p : Nat) : Nat → (Nat → Int32)
  | 0 => z
  | i + 1 => upd (upd (upd (gz4 z r p i) (p + (15 + 4 * i)) (r (15 + 4 * i))) (p + (15 + 4 * i) + 1) (r (15 + 4 * i + 1))) (p + (15 + 4 * i) + 2) (r (15 + 4 * i + 1))
def gvP (N : Nat) : Nat := 121 + 31 * N
def gvA (z r : Nat → Int32) (N : Nat) : Nat → Int32 := upd (gz1 (gz0 z (121 + 31 * N) 31) r (121 + 31 * N) 5) (121 + 31 * N + 9) (nI 1)
def gvZ (z r : Nat → Int32) (N k q : Nat) : Nat → Int32 := upd (gz4 (gz3 (gvA z r N) r (121 + 31 * N) q) r (121 + 31 * N) k) 0 (nI (N + 1))
theorem gz_0 (z : Nat → Int32) (p : Nat) : gz0 z p 0 = z := by
  funext c
  unfold gz0
  rw [if_neg (by omega)]
theorem gz1_0 (z r : Nat → Int32) (p : Nat) : gz1 z r p 0 = z := by
  funext c
  unfold gz1
  rw [if_neg (by omega)]
theorem gz3_0 (z r : Nat → Int32) (p : Nat) : gz3 z r p 0 = z := by
  funext c
  unfold gz3
  rw [if_neg (by omega)]
theorem gz0_s (z : Nat → Int32) (p i : Nat) : upd (gz0 z p i) (p + i) (nI 0) = gz0 z p (i + 1) := by
  funext c
  unfold upd gz0
  by_cases h : c = p + i
  · rw [if_pos h, if_pos (by omega)]
  · rw [if_neg h]
    by_cases h2 : p ≤ c ∧ c < p + i
    · rw [if_pos h2, if_pos (by omega)]
    · rw [if_neg h2, if_neg (by omega)]
theorem gz1_s (z r : Nat → Int32) (p i : Nat) : upd (gz1 z r p i) (p + i) (r i) = gz1 z r p (i + 1) := by
  funext c
  unfold upd gz1
  by_cases h : c = p + i
  · subst h
    rw [if_pos rfl, if_pos (by omega), show p + i - p = i by omega]
  · rw [if_neg h]
    by_cases h2 : p ≤ c ∧ c < p + i
    · rw [if_pos h2, if_pos (by omega)]
    · rw [if_neg h2, if_neg (by omega)]
theorem gz3_s (z r : Nat → Int32) (p i : Nat) : upd (gz3 z r p i) (p + 10 + i) (r (10 + i)) = gz3 z r p (i + 1) := by
  funext c
  unfold upd gz3
  by_cases h : c = p + 10 + i
  · subst h
    rw [if_pos rfl, if_pos (by omega), show p + 10 + i - p = 10 + i by omega]
  · rw [if_neg h]
    by_cases h2 : p + 10 ≤ c ∧ c < p + 10 + i
    · rw [if_pos h2, if_pos (by omega)]
    · rw [if_neg h2, if_neg (by omega)]
theorem gz4_0 (z r : Nat → Int32) {p c : Nat} (h : c < p) : ∀ i, gz4 z r p i c = z c
  | 0 => rfl
  | i + 1 => by
    rw [gz4, pk_un (by omega), pk_un (by omega), pk_un (by omega), gz4_0 z r h i]
theorem gv_0 (z r : Nat → Int32) {N c k q : Nat} (h : c < 121) : gz4 (gz3 (gvA z r N) r (121 + 31 * N) q) r (121 + 31 * N) k c = z c := by
  rw [gz4_0 _ _ (by omega)]
  unfold gz3
  rw [if_neg (by omega)]
  unfold gvA
  rw [pk_un (by omega)]
  unfold gz1
  rw [if_neg (by omega)]
  unfold gz0
  rw [if_neg (by omega)]

set_option maxRecDepth 20000 in
theorem k_X5_next (l : Launch) (γ : gG) (σ : gS) (mb pp : Nat) (r : Nat → Int32) (hm : σ.1 23 5 = nI mb) (hm60 : mb ≤ 60) (hp : pp ≤ mb) : gM l γ yX5_next wsX5_next ({ frames := 0, cells := 0, slots := 0, locals := 0 } : Room) [.ref (ad γ 23)] (tW σ pp r) (gis (some (.int ((nxT (σ.1 27) mb) pp))) (tW σ pp r)) 0 0 := by
  refine g_enter (own := RX5) (cc := cX5_next) (nL := 1) (ret := (some .int)) [some (.ref (ad γ 23))] (by decide) rfl rfl (by simp [lg_sl, Value.category]) (by simp [gl_le, glE, Value.category]) (fun hj p e s m args below meth c X hr hlk hnm => ?_)
  have hi5 : ∀ w ∈ wsX50, w ∈ wsX5_next := by decide +kernel
  refine g_aload_n X dX5_next_0 rfl rfl ?_
  refine g_get_23_11 X hi5 (by decide +kernel) dX5_next_1 ?_
  refine g_top (y := nI pp) (tW_pl _ _ _) ?_
  refine g_aload_n X dX5_next_4 rfl rfl ?_
  refine g_get_23_5 X hi5 (by decide +kernel) dX5_next_5 ?_
  refine g_top (y := nI mb) (tW_m hm (by decide)) ?_
  refine g_icmpN_ge (tgt := 23) X dX5_next_8 (by decide) (by omega) (by omega) (fun c_8 => ?_) (fun c_8 => ?_)
  · refine g_iconstN X 0 dX5_next_23 ?_
    exact g_iret X hr hlk dX5_next_24 ⟨by unfold nxT; rw [if_neg (Nat.not_lt.mpr c_8)], rfl⟩
  · refine g_aload_n X dX5_next_11 rfl rfl ?_
    refine g_get_23_4 X hi5 (by decide +kernel) dX5_next_12 ?_
    refine g_aload_n X dX5_next_15 rfl rfl ?_
    refine g_get_23_11 X hi5 (by decide +kernel) dX5_next_16 ?_
    refine g_top (y := nI pp) (tW_pl _ _ _) ?_
    refine g_ald_27 X rfl (by omega) dX5_next_19 ?_
    refine g_goto (tgt := 24) X dX5_next_20 (by decide) ?_
    exact g_iret X hr hlk dX5_next_24 ⟨by unfold nxT; rw [if_pos c_8]; rfl, rfl⟩
set_option maxRecDepth 20000 in
theorem k_X5_takes (l : Launch) (γ : gG) (σ : gS) (mb pp : Nat) (r : Nat → Int32) (hm : σ.1 23 5 = nI mb) (hm60 : mb ≤ 60) (hp : pp ≤ mb) (sg : Int32) : gM l γ yX5_takes wsX5_takes ({ frames := 1, cells := 0, slots := 0, locals := 20 } : Room) [.ref (ad γ 23), .int sg] (tW σ pp r) (gis (some (.int (bI (tk (nxT (σ.1 27) mb) sg pp r).1))) (tW σ (tk (nxT (σ.1 27) mb) sg pp r).2.1 (tk (nxT (σ.1 27) mb) sg pp r).2.2)) 0 0 := by
  refine g_enter (own := RX5) (cc := cX5_takes) (nL := 3) (ret := (some .boolean)) [some (.ref (ad γ 23)), some (.int sg), none] (by decide) rfl rfl (by simp [lg_sl, Value.category]) (by simp [gl_le, glE, Value.category]) (fun hj p e s m args below meth c X hr hlk hnm => ?_)
  have hi5 : ∀ w ∈ wsX50, w ∈ wsX5_takes := by decide +kernel
  refine g_aload_n X dX5_takes_0 rfl rfl ?_
  refine g_callVi (na := 0) X hj (k_X5_next l γ σ mb _ _ hm hm60 (by assumption)) gW_23 rfl gX5_takes_X5_next rfl ⟨rfl, rfl⟩ (by decide +kernel) rfl ⟨by decide, by decide⟩ rfl (Nat.le_of_ble_eq_true rfl) dX5_takes_1 ⟨by decide, by decide⟩ ?_
  refine g_iload_n X dX5_takes_4 rfl rfl ?_
  refine g_icmp_ne (tgt := 12) X dX5_takes_5 (by decide) (fun c_5 => ?_) (fun c_5 => ?_)
  · refine g_iconstN X 0 dX5_takes_12 ?_
    refine g_istore_n2 X dX5_takes_13 rfl (by decide) rfl ?_
    refine g_aload_n X dX5_takes_14 rfl rfl ?_
    refine g_dup X dX5_takes_15 rfl ?_
    refine g_get_23_11 X hi5 (by decide +kernel) dX5_takes_16 ?_
    refine g_top (y := nI pp) (tW_pl _ _ _) ?_
    refine g_iload_n X dX5_takes_19 rfl rfl ?_
    refine g_if_eq (tgt := 27) X dX5_takes_20 (by decide) (fun c_20 => ?_) (fun c_20 => absurd (by decide) c_20)
    refine g_iconstN X 0 dX5_takes_27 ?_
    refine g_iaddN X dX5_takes_28 ?_
    refine g_put_23_11 X hi5 (by decide +kernel) dX5_takes_29 ?_
    simp only [tW_p]
    refine g_iload_n X dX5_takes_32 rfl rfl ?_
    exact g_zret X hr hlk rfl dX5_takes_33 ⟨by unfold tk; rw [if_neg c_5]; rfl, by unfold tk; rw [if_neg c_5]; rfl⟩
  · refine g_iconstN X 1 dX5_takes_8 ?_
    refine g_goto (tgt := 13) X dX5_takes_9 (by decide) ?_
    refine g_istore_n2 X dX5_takes_13 rfl (by decide) rfl ?_
    refine g_aload_n X dX5_takes_14 rfl rfl ?_
    refine g_dup X dX5_takes_15 rfl ?_
    refine g_get_23_11 X hi5 (by decide +kernel) dX5_takes_16 ?_
    refine g_top (y := nI pp) (tW_pl _ _ _) ?_
    refine g_iload_n X dX5_takes_19 rfl rfl ?_
    refine g_if_eq (tgt := 27) X dX5_takes_20 (by decide) (fun c_20 => absurd c_20 (by decide)) (fun c_20 => ?_)
    refine g_iconstN X 1 dX5_takes_23 ?_
    refine g_goto (tgt := 28) X dX5_takes_24 (by decide) ?_
    refine g_iaddN X dX5_takes_28 ?_
    refine g_put_23_11 X hi5 (by decide +kernel) dX5_takes_29 ?_
    simp only [tW_p]
    refine g_iload_n X dX5_takes_32 rfl rfl ?_
    exact g_zret X hr hlk rfl dX5_takes_33 ⟨by unfold tk; rw [if_pos c_5]; rfl, by unfold tk; rw [if_pos c_5]⟩
set_option maxRecDepth 20000 in
theorem k_X5_digit (l : Launch) (γ : gG) (σ : gS) (mb pp : Nat) (r : Nat → Int32) (hm : σ.1 23 5 = nI mb) (hm60 : mb ≤ 60) (hp : pp ≤ mb) (s9 : Nat) (hs9 : s9 < 31) : gM l γ yX5_digit wsX5_digit ({ frames := 1, cells := 0, slots := 0, locals := 22 } : Room) [.ref (ad γ 23), .int (nI s9)] (tW σ pp r) (gis (some (.int (bI (dg (nxT (σ.1 27) mb) s9 pp r).1))) (tW σ (dg (nxT (σ.1 27) mb) s9 pp r).2.1 (dg (nxT (σ.1 27) mb) s9 pp r).2.2)) 0 0 := by
  refine g_enter (own := RX5) (cc := cX5_digit) (nL := 4) (ret := (some .boolean)) [some (.ref (ad γ 23)), some (.int (nI s9)), none, none] (by decide) rfl rfl (by simp [lg_sl, Value.category]) (by simp [gl_le, glE, Value.category]) (fun hj p e s m args below meth c X hr hlk hnm => ?_)
  have hi5 : ∀ w ∈ wsX50, w ∈ wsX5_digit := by decide +kernel
  refine g_aload_n X dX5_digit_0 rfl rfl ?_
  refine g_callVi (na := 0) X hj (k_X5_next l γ σ mb _ _ hm hm60 (by assumption)) gW_23 rfl gX5_digit_X5_next rfl ⟨rfl, rfl⟩ (by decide +kernel) rfl ⟨by decide, by decide⟩ rfl (Nat.le_of_ble_eq_true rfl) dX5_digit_1 ⟨by decide, by decide⟩ ?_
  refine g_bipush (v := nI 48) X dX5_digit_4 (by decide) ?_
  refine g_isub X dX5_digit_6 ?_
  refine g_istore_n2 X dX5_digit_7 rfl (by decide) rfl ?_
  refine g_iload_n X dX5_digit_8 rfl rfl ?_
  refine g_iconstN X 0 dX5_digit_9 ?_
  refine g_bipush (v := nI 7) X dX5_digit_10 (by decide) ?_
  refine g_callSi (na := 3) X hj (k_X5_in l γ _ _ _ _) gX5_digit_X5_in rfl ⟨rfl, rfl⟩ (by decide +kernel) rfl ⟨by decide, by decide⟩ rfl (Nat.le_of_ble_eq_true rfl) dX5_digit_12 ⟨by decide, by decide⟩ ?_
  refine g_istore_n3 X dX5_digit_15 rfl (by decide) rfl ?_
  refine g_aload_n X dX5_digit_16 rfl rfl ?_
  refine g_get_23_12 X hi5 (by decide +kernel) dX5_digit_17 ?_
  refine g_iload_n X dX5_digit_20 rfl rfl ?_
  refine g_iload_n X dX5_digit_21 rfl rfl ?_
  refine g_ast_29 X rfl (by omega) dX5_digit_22 ?_
  simp only [tW_29, tW_s29]
  refine g_aload_n X dX5_digit_23 rfl rfl ?_
  refine g_dup X dX5_digit_24 rfl ?_
  refine g_get_23_11 X hi5 (by decide +kernel) dX5_digit_25 ?_
  refine g_top (y := nI pp) (tW_pl _ _ _) ?_
  refine g_iload_n X dX5_digit_28 rfl rfl ?_
  refine g_if_eq (tgt := 36) X dX5_digit_29 (by decide) (fun c_29 => ?_) (fun c_29 => ?_)
  · replace c_29 := bI_f c_29
    refine g_iconstN X 0 dX5_digit_36 ?_
    refine g_iaddN X dX5_digit_37 ?_
    refine g_put_23_11 X hi5 (by decide +kernel) dX5_digit_38 ?_
    simp only [tW_p]
    refine g_iload_n X dX5_digit_41 rfl rfl ?_
    exact g_zret X hr hlk (bI_n _) dX5_digit_42 ⟨rfl, by unfold dg dgB; rw [c_29]; rfl⟩
  · replace c_29 := bI_t c_29
    refine g_iconstN X 1 dX5_digit_32 ?_
    refine g_goto (tgt := 37) X dX5_digit_33 (by decide) ?_
    refine g_iaddN X dX5_digit_37 ?_
    refine g_put_23_11 X hi5 (by decide +kernel) dX5_digit_38 ?_
    simp only [tW_p]
    refine g_iload_n X dX5_digit_41 rfl rfl ?_
    exact g_zret X hr hlk (bI_n _) dX5_digit_42 ⟨rfl, by unfold dg dgB; rw [c_29]; rfl⟩
set_option maxRecDepth 20000 in
theorem k_X5_number (l : Launch) (γ : gG) (σ : gS) (mb pp : Nat) (r : Nat → Int32) (hm : σ.1 23 5 = nI mb) (hm60 : mb ≤ 60) (hp : pp ≤ mb) (s9 : Nat) (most : Int32) (hs9 : s9 < 31) : gM l γ yX5_number wsX5_number ({ frames := 1, cells := 0, slots := 0, locals := 22 } : Room) [.ref (ad γ 23), .int (nI s9), .int most] (tW σ pp r) (gis (some (.int (bI (nu (nxT (σ.1 27) mb) s9 most pp r).1))) (tW σ (nu (nxT (σ.1 27) mb) s9 most pp r).2.1 (nu (nxT (σ.1 27) mb) s9 most pp r).2.2)) 0 0 := by
  refine g_enter (own := RX5) (cc := cX5_number) (nL := 6) (ret := (some .boolean)) [some (.ref (ad γ 23)), some (.int (nI s9)), some (.int most), none, none, none] (by decide) rfl rfl (by simp [lg_sl, Value.category]) (by simp [gl_le, glE, Value.category]) (fun hj p e s m args below meth c X hr hlk hnm => ?_)
  have hi5 : ∀ w ∈ wsX50, w ∈ wsX5_number := by decide +kernel
  refine g_iconstN X 0 dX5_number_0 ?_
  refine g_istore_n3 X dX5_number_1 rfl (by decide) rfl ?_
  refine g_iconstN X 1 dX5_number_2 ?_
  refine g_istore_s4 X dX5_number_3 (by decide) rfl ?_
  refine g_wf (fun rk ls τ => ∃ (p2 : Nat) (v : Int32) (g : Bool), (g = true → p2 + rk = 61) ∧ p2 ≤ mb ∧ τ = tW σ p2 r ∧ gl_le [some (.ref (ad γ 23)), some (.int (nI s9)), some (.int most), some (.int v), some (.int (bI g)), none] ls ∧ nuI (nxT (σ.1 27) mb) most (61 - pp) pp (nI 0) = if g then nuI (nxT (σ.1 27) mb) most rk p2 v else (p2, v)) (61 - pp) ⟨pp, nI 0, true, by omega, hp, rfl, by simp [gl_le, bI], rfl⟩ (fun rk ls τ hI ih => ?_)
  obtain ⟨p2, v, g, hg, hp2, rfl, hgl, hz⟩ := hI
  refine g_le hgl ?_
  refine g_iload X dX5_number_5 rfl ?_
  refine g_if_eq (tgt := 91) X dX5_number_7 (by decide) (fun c_7 => ?_) (fun c_7 => ?_)
  · replace c_7 := bI_f c_7
    rw [c_7, if_neg (by decide)] at hz
    refine g_aload_n X dX5_number_91 rfl rfl ?_
    refine g_get_23_12 X hi5 (by decide +kernel) dX5_number_92 ?_
    refine g_iload_n X dX5_number_95 rfl rfl ?_
    refine g_iload_n X dX5_number_96 rfl rfl ?_
    refine g_ast_29 X rfl (by omega) dX5_number_97 ?_
    simp only [tW_29, tW_s29]
    refine g_iload_n X dX5_number_98 rfl rfl ?_
    refine g_if_le (tgt := 106) X dX5_number_99 (by decide) (fun c_99 => ?_) (fun c_99 => ?_)
    · refine g_iconstN X 0 dX5_number_106 ?_
      exact g_zret X hr hlk rfl dX5_number_107 ⟨by unfold nu; rw [hz]; dsimp only; rw [decide_eq_true c_99]; rfl, by unfold nu; rw [hz]⟩
    · refine g_iconstN X 1 dX5_number_102 ?_
      refine g_goto (tgt := 107) X dX5_number_103 (by decide) ?_
      exact g_zret X hr hlk rfl dX5_number_107 ⟨by unfold nu; rw [hz]; dsimp only; rw [decide_eq_false c_99]; rfl, by unfold nu; rw [hz]⟩
  · replace c_7 := bI_t c_7
    obtain ⟨rk, rfl⟩ : ∃ r2, rk = r2 + 1 := ⟨rk - 1, by have h9 := hg c_7; omega⟩
    replace hg := hg c_7
    refine g_aload_n X dX5_number_10 rfl rfl ?_
    refine g_callVi (na := 0) X hj (k_X5_next l γ σ mb _ _ hm hm60 hp2) gW_23 rfl gX5_number_X5_next rfl ⟨rfl, rfl⟩ (by decide +kernel) rfl ⟨by decide, by decide⟩ rfl (Nat.le_of_ble_eq_true rfl) dX5_number_11 ⟨by decide, by decide⟩ ?_
    refine g_bipush (v := nI 48) X dX5_number_14 (by decide) ?_
    refine g_isub X dX5_number_16 ?_
    refine g_istore_s5 X dX5_number_17 (by decide) rfl ?_
    refine g_iload X dX5_number_19 rfl ?_
    refine g_iconstN X 0 dX5_number_21 ?_
    refine g_bipush (v := nI 9) X dX5_number_22 (by decide) ?_
    refine g_callSi (na := 3) X hj (k_X5_in l γ _ _ _ _) gX5_number_X5_in rfl ⟨rfl, rfl⟩ (by decide +kernel) rfl ⟨by decide, by decide⟩ rfl (Nat.le_of_ble_eq_true rfl) dX5_number_24 ⟨by decide, by decide⟩ ?_
    refine g_if_eq (tgt := 49) X dX5_number_27 (by decide) (fun c_27 => ?_) (fun c_27 => ?_)
    · replace c_27 := bI_f c_27
      refine g_iconstN X 0 dX5_number_49 ?_
      refine g_istore_s4 X dX5_number_50 (by decide) rfl ?_
      refine g_iload X dX5_number_52 rfl ?_
      refine g_if_eq (tgt := 67) X dX5_number_54 (by decide) (fun c_54 => ?_) (fun c_54 => absurd (by decide) c_54)
      refine g_iload_n X dX5_number_67 rfl rfl ?_
      refine g_istore_n3 X dX5_number_68 rfl (by decide) rfl ?_
      refine g_aload_n X dX5_number_69 rfl rfl ?_
      refine g_dup X dX5_number_70 rfl ?_
      refine g_get_23_11 X hi5 (by decide +kernel) dX5_number_71 ?_
      refine g_top (y := nI p2) (tW_pl _ _ _) ?_
      refine g_iload X dX5_number_74 rfl ?_
      refine g_if_eq (tgt := 83) X dX5_number_76 (by decide) (fun c_76 => ?_) (fun c_76 => absurd (by decide) c_76)
      refine g_iconstN X 0 dX5_number_83 ?_
      refine g_iaddN X dX5_number_84 ?_
      refine g_put_23_11 X hi5 (by decide +kernel) dX5_number_85 ?_
      simp only [tW_p]
      refine g_goto (tgt := 5) X dX5_number_88 (by decide) ?_
      exact ih rk (by omega) _ _ ⟨p2, v, false, fun q9 => Bool.noConfusion q9, hp2, rfl, by simp [gl_le, bI], by rw [hz, c_7, if_pos rfl, nuI_f (nuB_1 c_27)]; rfl⟩
    · replace c_27 := bI_t c_27
      refine g_bipush (v := nI 10) X dX5_number_30 (by decide) ?_
      refine g_iload_n X dX5_number_32 rfl rfl ?_
      refine g_imul X dX5_number_33 ?_
      refine g_iload X dX5_number_34 rfl ?_
      refine g_iadd X dX5_number_36 ?_
      refine g_iconstN X 1 dX5_number_37 ?_
      refine g_iload_n X dX5_number_38 rfl rfl ?_
      refine g_callSi (na := 3) X hj (k_X5_in l γ _ _ _ _) gX5_number_X5_in rfl ⟨rfl, rfl⟩ (by decide +kernel) rfl ⟨by decide, by decide⟩ rfl (Nat.le_of_ble_eq_true rfl) dX5_number_39 ⟨by decide, by decide⟩ ?_
      refine g_if_eq (tgt := 49) X dX5_number_42 (by decide) (fun c_42 => ?_) (fun c_42 => ?_)
      · replace c_42 := bI_f c_42
        refine g_iconstN X 0 dX5_number_49 ?_
        refine g_istore_s4 X dX5_number_50 (by decide) rfl ?_
        refine g_iload X dX5_number_52 rfl ?_
        refine g_if_eq (tgt := 67) X dX5_number_54 (by decide) (fun c_54 => ?_) (fun c_54 => absurd (by decide) c_54)
        refine g_iload_n X dX5_number_67 rfl rfl ?_
        refine g_istore_n3 X dX5_number_68 rfl (by decide) rfl ?_
        refine g_aload_n X dX5_number_69 rfl rfl ?_
        refine g_dup X dX5_number_70 rfl ?_
        refine g_get_23_11 X hi5 (by decide +kernel) dX5_number_71 ?_
        refine g_top (y := nI p2) (tW_pl _ _ _) ?_
        refine g_iload X dX5_number_74 rfl ?_
        refine g_if_eq (tgt := 83) X dX5_number_76 (by decide) (fun c_76 => ?_) (fun c_76 => absurd (by decide) c_76)
        refine g_iconstN X 0 dX5_number_83 ?_
        refine g_iaddN X dX5_number_84 ?_
        refine g_put_23_11 X hi5 (by decide +kernel) dX5_number_85 ?_
        simp only [tW_p]
        refine g_goto (tgt := 5) X dX5_number_88 (by decide) ?_
        exact ih rk (by omega) _ _ ⟨p2, v, false, fun q9 => Bool.noConfusion q9, hp2, rfl, by simp [gl_le, bI], by rw [hz, c_7, if_pos rfl, nuI_f (nuB_2 c_42)]; rfl⟩
      · replace c_42 := bI_t c_42
        refine g_iconstN X 1 dX5_number_45 ?_
        refine g_goto (tgt := 50) X dX5_number_46 (by decide) ?_
        refine g_istore_s4 X dX5_number_50 (by decide) rfl ?_
        refine g_iload X dX5_number_52 rfl ?_
        refine g_if_eq (tgt := 67) X dX5_number_54 (by decide) (fun c_54 => absurd c_54 (by decide)) (fun c_54 => ?_)
        refine g_bipush (v := nI 10) X dX5_number_57 (by decide) ?_
        refine g_iload_n X dX5_number_59 rfl rfl ?_
        refine g_imul X dX5_number_60 ?_
        refine g_iload X dX5_number_61 rfl ?_
        refine g_iadd X dX5_number_63 ?_
        refine g_goto (tgt := 68) X dX5_number_64 (by decide) ?_
        refine g_istore_n3 X dX5_number_68 rfl (by decide) rfl ?_
        refine g_aload_n X dX5_number_69 rfl rfl ?_
        refine g_dup X dX5_number_70 rfl ?_
        refine g_get_23_11 X hi5 (by decide +kernel) dX5_number_71 ?_
        refine g_top (y := nI p2) (tW_pl _ _ _) ?_
        refine g_iload X dX5_number_74 rfl ?_
        refine g_if_eq (tgt := 83) X dX5_number_76 (by decide) (fun c_76 => absurd c_76 (by decide)) (fun c_76 => ?_)
        refine g_iconstN X 1 dX5_number_79 ?_
        refine g_goto (tgt := 84) X dX5_number_80 (by decide) ?_
        refine g_iaddN X dX5_number_84 ?_
        refine g_put_23_11 X hi5 (by decide +kernel) dX5_number_85 ?_
        simp only [tW_p]
        refine g_goto (tgt := 5) X dX5_number_88 (by decide) ?_
        exact ih rk (by omega) _ _ ⟨p2 + 1, nI 10 * v + (nxT (σ.1 27) mb p2 - nI 48), true, fun _ => by omega, nuB_le (nuB_t c_27 c_42), rfl, by simp [gl_le, bI], by rw [hz, c_7, if_pos rfl, if_pos rfl, nuI_t (nuB_t c_27 c_42)]⟩
set_option maxRecDepth 20000 in
theorem k_X5_layers (l : Launch) (γ : gG) (σ : gS) (mb pp : Nat) (r : Nat → Int32) (hm : σ.1 23 5 = nI mb) (hm60 : mb ≤ 60) (hp : pp ≤ mb) : gM l γ yX5_layers wsX5_layers ({ frames := 2, cells := 0, slots := 0, locals := 47 } : Room) [.ref (ad γ 23)] (tW σ pp r) (gis (some (.int (bI (ly (nxT (σ.1 27) mb) pp r).1))) (tW σ (ly (nxT (σ.1 27) mb) pp r).2.1 (ly (nxT (σ.1 27) mb) pp r).2.2)) 0 0 := by
  refine g_enter (own := RX5) (cc := cX5_layers) (nL := 4) (ret := (some .boolean)) [some (.ref (ad γ 23)), none, none, none] (by decide) rfl rfl (by simp [lg_sl, Value.category]) (by simp [gl_le, glE, Value.category]) (fun hj p e s m args below meth c X hr hlk hnm => ?_)
  have hi5 : ∀ w ∈ wsX50, w ∈ wsX5_layers := by decide +kernel
  refine g_aload_n X dX5_layers_0 rfl rfl ?_
  refine g_get_23_12 X hi5 (by decide +kernel) dX5_layers_1 ?_
  refine g_iconstN X 3 dX5_layers_4 ?_
  refine g_iconstN X 0 dX5_layers_5 ?_
  refine g_ast_29 X rfl (by omega) dX5_layers_6 ?_
  simp only [tW_29, tW_s29]
  refine g_iconstN X 1 dX5_layers_7 ?_
  refine g_istore_n1 X dX5_layers_8 rfl (by decide) rfl ?_
  refine g_iconstN X 1 dX5_layers_9 ?_
  refine g_istore_n2 X dX5_layers_10 rfl (by decide) rfl ?_
  refine g_wf (fun rk ls τ => ∃ (k p2 : Nat) (r2 : Nat → Int32) (is g : Bool), (g = true → k + rk = 4 ∧ k < 4) ∧ p2 ≤ mb ∧ r2 3 = nI k ∧ τ = tW σ p2 r2 ∧ gl_le [some (.ref (ad γ 23)), some (.int (bI is)), some (.int (bI g)), none] ls ∧ lyI (nxT (σ.1 27) mb) 4 0 pp (upd r 3 (nI 0)) = if g then lyI (nxT (σ.1 27) mb) rk k p2 r2 else (is, p2, r2)) 4 ⟨0, pp, _, true, true, fun _ => ⟨rfl, by decide⟩, hp, pk_us, rfl, by simp [gl_le, bI], rfl⟩ (fun rk ls τ hI ih => ?_)
  obtain ⟨k, p2, r2, is, g, hg, hp2, hk, rfl, hgl, hz⟩ := hI
  refine g_le hgl ?_
  refine g_iload_n X dX5_layers_11 rfl rfl ?_
  refine g_if_eq (tgt := 112) X dX5_layers_12 (by decide) (fun c_12 => ?_) (fun c_12 => ?_)
  · replace c_12 := bI_f c_12
    rw [c_12, if_neg (by decide)] at hz
    refine g_iload_n X dX5_layers_112 rfl rfl ?_
    exact g_zret X hr hlk (bI_n _) dX5_layers_113 ⟨by unfold ly; rw [hz], by unfold ly; rw [hz]⟩
  · replace c_12 := bI_t c_12
    replace hg := hg c_12
    obtain ⟨rk, rfl⟩ : ∃ r2, rk = r2 + 1 := ⟨rk - 1, by omega⟩
    refine g_bipush (v := nI 15) X dX5_layers_15 (by decide) ?_
    refine g_iconstN X 4 dX5_layers_17 ?_
    refine g_aload_n X dX5_layers_18 rfl rfl ?_
    refine g_get_23_12 X hi5 (by decide +kernel) dX5_layers_19 ?_
    refine g_iconstN X 3 dX5_layers_22 ?_
    refine g_ald_29 X rfl (by omega) dX5_layers_23 ?_
    refine g_top (y := nI k) hk ?_
    refine g_imulN X dX5_layers_24 ?_
    refine g_iaddN X dX5_layers_25 ?_
    refine g_istore_n3 X dX5_layers_26 rfl (by decide) rfl ?_
    refine g_aload_n X dX5_layers_27 rfl rfl ?_
    refine g_iload_n X dX5_layers_28 rfl rfl ?_
    refine g_callVi (na := 1) X hj (k_X5_digit l γ σ mb _ _ hm hm60 hp2 (15 + 4 * k) (by omega)) gW_23 rfl gX5_layers_X5_digit rfl ⟨rfl, rfl⟩ (by decide +kernel) rfl ⟨by decide, by decide⟩ rfl (Nat.le_of_ble_eq_true rfl) dX5_layers_29 ⟨by decide, by decide⟩ ?_
    obtain ⟨t1, ht1⟩ : ∃ t, dg (nxT (σ.1 27) mb) (15 + 4 * k) p2 r2 = t := ⟨_, rfl⟩
    rw [ht1]
    have pt1 : t1.2.1 ≤ mb := by rw [← ht1]; exact dg_le hp2
    have r1 : t1.2.2 3 = nI k := by rw [← ht1]; unfold dg; dsimp only; rw [pk_un (by omega)]; exact hk
    refine g_if_eq (tgt := 60) X dX5_layers_32 (by decide) (fun c_32 => ?_) (fun c_32 => ?_)
    · replace c_32 := bI_f c_32
      refine g_iconstN X 0 dX5_layers_60 ?_
      refine g_istore_n1 X dX5_layers_61 rfl (by decide) rfl ?_
      refine g_aload_n X dX5_layers_62 rfl rfl ?_
      refine g_get_23_12 X hi5 (by decide +kernel) dX5_layers_63 ?_
      refine g_iconstN X 3 dX5_layers_66 ?_
      refine g_dup2_11 X dX5_layers_67 rfl rfl ?_
      refine g_ald_29 X rfl (by omega) dX5_layers_68 ?_
      refine g_top (y := nI k) (by assumption) ?_
      refine g_iload_n X dX5_layers_69 rfl rfl ?_
      refine g_if_eq (tgt := 77) X dX5_layers_70 (by decide) (fun c_70 => ?_) (fun c_70 => absurd (by decide) c_70)
      refine g_iconstN X 0 dX5_layers_77 ?_
      refine g_iaddN X dX5_layers_78 ?_
      refine g_ast_29 X rfl (by omega) dX5_layers_79 ?_
      simp only [tW_29, tW_s29]
      refine g_iload_n X dX5_layers_80 rfl rfl ?_
      refine g_if_eq (tgt := 107) X dX5_layers_81 (by decide) (fun c_81 => ?_) (fun c_81 => absurd (by decide) c_81)
      refine g_iconstN X 0 dX5_layers_107 ?_
      refine g_istore_n2 X dX5_layers_108 rfl (by decide) rfl ?_
      refine g_goto (tgt := 11) X dX5_layers_109 (by decide) ?_
      exact ih rk (by omega) _ _ ⟨k, t1.2.1, _, false, false, fun q9 => Bool.noConfusion q9, pt1, pk_us, rfl, by simp [gl_le, bI], by rw [hz, c_12, if_pos rfl, lyI_f (lyS_1 ht1 c_32) c_32]; rfl⟩
    · replace c_32 := bI_t c_32
      refine g_aload_n X dX5_layers_35 rfl rfl ?_
      refine g_bipush (v := nI 42) X dX5_layers_36 (by decide) ?_
      refine g_callVi (na := 1) X hj (k_X5_takes l γ σ mb _ _ hm hm60 pt1 _) gW_23 rfl gX5_layers_X5_takes rfl ⟨rfl, rfl⟩ (by decide +kernel) rfl ⟨by decide, by decide⟩ rfl (Nat.le_of_ble_eq_true rfl) dX5_layers_38 ⟨by decide, by decide⟩ ?_
      obtain ⟨t2, ht2⟩ : ∃ t, tk (nxT (σ.1 27) mb) (nI 42) t1.2.1 t1.2.2 = t := ⟨_, rfl⟩
      rw [ht2]
      have pt2 : t2.2.1 ≤ mb := by rw [← ht2]; exact tk_le (by decide) pt1
      have r3 : t2.2.2 3 = nI k := by rw [← ht2, tk_r]; exact r1
      refine g_if_eq (tgt := 60) X dX5_layers_41 (by decide) (fun c_41 => ?_) (fun c_41 => ?_)
      · replace c_41 := bI_f c_41
        refine g_iconstN X 0 dX5_layers_60 ?_
        refine g_istore_n1 X dX5_layers_61 rfl (by decide) rfl ?_
        refine g_aload_n X dX5_layers_62 rfl rfl ?_
        refine g_get_23_12 X hi5 (by decide +kernel) dX5_layers_63 ?_
        refine g_iconstN X 3 dX5_layers_66 ?_
        refine g_dup2_11 X dX5_layers_67 rfl rfl ?_
        refine g_ald_29 X rfl (by omega) dX5_layers_68 ?_
        refine g_top (y := nI k) (by assumption) ?_
        refine g_iload_n X dX5_layers_69 rfl rfl ?_
        refine g_if_eq (tgt := 77) X dX5_layers_70 (by decide) (fun c_70 => ?_) (fun c_70 => absurd (by decide) c_70)
        refine g_iconstN X 0 dX5_layers_77 ?_
        refine g_iaddN X dX5_layers_78 ?_
        refine g_ast_29 X rfl (by omega) dX5_layers_79 ?_
        simp only [tW_29, tW_s29]
        refine g_iload_n X dX5_layers_80 rfl rfl ?_
        refine g_if_eq (tgt := 107) X dX5_layers_81 (by decide) (fun c_81 => ?_) (fun c_81 => absurd (by decide) c_81)
        refine g_iconstN X 0 dX5_layers_107 ?_
        refine g_istore_n2 X dX5_layers_108 rfl (by decide) rfl ?_
        refine g_goto (tgt := 11) X dX5_layers_109 (by decide) ?_
        exact ih rk (by omega) _ _ ⟨k, t2.2.1, _, false, false, fun q9 => Bool.noConfusion q9, pt2, pk_us, rfl, by simp [gl_le, bI], by rw [hz, c_12, if_pos rfl, lyI_f (lyS_2 ht1 c_32 ht2 c_41) c_41]; rfl⟩
      · replace c_41 := bI_t c_41
        refine g_aload_n X dX5_layers_44 rfl rfl ?_
        refine g_iload_n X dX5_layers_45 rfl rfl ?_
        refine g_iconstN X 1 dX5_layers_46 ?_
        refine g_iaddN X dX5_layers_47 ?_
        refine g_ldc (v := nI 99999) X (show Cond.constant RX5 39 99999 ∈ _ by decide +kernel) dX5_layers_48 ?_
        refine g_callVi (na := 2) X hj (k_X5_number l γ σ mb _ _ hm hm60 pt2 (15 + 4 * k + 1) _ (by omega)) gW_23 rfl gX5_layers_X5_number rfl ⟨rfl, rfl⟩ (by decide +kernel) rfl ⟨by decide, by decide⟩ rfl (Nat.le_of_ble_eq_true rfl) dX5_layers_50 ⟨by decide, by decide⟩ ?_
        obtain ⟨t3, ht3⟩ : ∃ t, nu (nxT (σ.1 27) mb) (15 + 4 * k + 1) (nI 99999) t2.2.1 t2.2.2 = t := ⟨_, rfl⟩
        rw [ht3]
        have pt3 : t3.2.1 ≤ mb := by rw [← ht3]; exact nu_le pt2
        have r4 : t3.2.2 3 = nI k := by rw [← ht3]; unfold nu; dsimp only; rw [pk_un (by omega)]; exact r3
        refine g_if_eq (tgt := 60) X dX5_layers_53 (by decide) (fun c_53 => ?_) (fun c_53 => ?_)
        · replace c_53 := bI_f c_53
          refine g_iconstN X 0 dX5_layers_60 ?_
          refine g_istore_n1 X dX5_layers_61 rfl (by decide) rfl ?_
          refine g_aload_n X dX5_layers_62 rfl rfl ?_
          refine g_get_23_12 X hi5 (by decide +kernel) dX5_layers_63 ?_
          refine g_iconstN X 3 dX5_layers_66 ?_
          refine g_dup2_11 X dX5_layers_67 rfl rfl ?_
          refine g_ald_29 X rfl (by omega) dX5_layers_68 ?_
          refine g_top (y := nI k) (by assumption) ?_
          refine g_iload_n X dX5_layers_69 rfl rfl ?_
          refine g_if_eq (tgt := 77) X dX5_layers_70 (by decide) (fun c_70 => ?_) (fun c_70 => absurd (by decide) c_70)
          refine g_iconstN X 0 dX5_layers_77 ?_
          refine g_iaddN X dX5_layers_78 ?_
          refine g_ast_29 X rfl (by omega) dX5_layers_79 ?_
          simp only [tW_29, tW_s29]
          refine g_iload_n X dX5_layers_80 rfl rfl ?_
          refine g_if_eq (tgt := 107) X dX5_layers_81 (by decide) (fun c_81 => ?_) (fun c_81 => absurd (by decide) c_81)
          refine g_iconstN X 0 dX5_layers_107 ?_
          refine g_istore_n2 X dX5_layers_108 rfl (by decide) rfl ?_
          refine g_goto (tgt := 11) X dX5_layers_109 (by decide) ?_
          exact ih rk (by omega) _ _ ⟨k, t3.2.1, _, false, false, fun q9 => Bool.noConfusion q9, pt3, pk_us, rfl, by simp [gl_le, bI], by rw [hz, c_12, if_pos rfl, lyI_f (lyS_3 ht1 c_32 ht2 c_41 ht3) c_53]; rfl⟩
        · replace c_53 := bI_t c_53
          refine g_iconstN X 1 dX5_layers_56 ?_
          refine g_goto (tgt := 61) X dX5_layers_57 (by decide) ?_
          refine g_istore_n1 X dX5_layers_61 rfl (by decide) rfl ?_
          refine g_aload_n X dX5_layers_62 rfl rfl ?_
          refine g_get_23_12 X hi5 (by decide +kernel) dX5_layers_63 ?_
          refine g_iconstN X 3 dX5_layers_66 ?_
          refine g_dup2_11 X dX5_layers_67 rfl rfl ?_
          refine g_ald_29 X rfl (by omega) dX5_layers_68 ?_
          refine g_top (y := nI k) (by assumption) ?_
          refine g_iload_n X dX5_layers_69 rfl rfl ?_
          refine g_if_eq (tgt := 77) X dX5_layers_70 (by decide) (fun c_70 => absurd c_70 (by decide)) (fun c_70 => ?_)
          refine g_iconstN X 1 dX5_layers_73 ?_
          refine g_goto (tgt := 78) X dX5_layers_74 (by decide) ?_
          refine g_iaddN X dX5_layers_78 ?_
          refine g_ast_29 X rfl (by omega) dX5_layers_79 ?_
          simp only [tW_29, tW_s29]
          refine g_iload_n X dX5_layers_80 rfl rfl ?_
          refine g_if_eq (tgt := 107) X dX5_layers_81 (by decide) (fun c_81 => absurd c_81 (by decide)) (fun c_81 => ?_)
          refine g_aload_n X dX5_layers_84 rfl rfl ?_
          refine g_get_23_12 X hi5 (by decide +kernel) dX5_layers_85 ?_
          refine g_iconstN X 3 dX5_layers_88 ?_
          refine g_ald_29 X rfl (by omega) dX5_layers_89 ?_
          refine g_top (y := nI (k + 1)) (by rw [tW_29, pk_us]) ?_
          refine g_iconstN X 4 dX5_layers_90 ?_
          refine g_icmpN_ge (tgt := 107) X dX5_layers_91 (by decide) (by omega) (by omega) (fun c_91 => ?_) (fun c_91 => ?_)
          · refine g_iconstN X 0 dX5_layers_107 ?_
            refine g_istore_n2 X dX5_layers_108 rfl (by decide) rfl ?_
            refine g_goto (tgt := 11) X dX5_layers_109 (by decide) ?_
            exact ih rk (by omega) _ _ ⟨k + 1, t3.2.1, _, true, false, fun q9 => Bool.noConfusion q9, pt3, pk_us, rfl, by simp [gl_le, bI], by rw [hz, c_12, if_pos rfl, lyI_e (lyS_3 ht1 c_32 ht2 c_41 ht3) c_53 (by omega)]; rfl⟩
          · refine g_aload_n X dX5_layers_94 rfl rfl ?_
            refine g_bipush (v := nI 43) X dX5_layers_95 (by decide) ?_
            refine g_callVi (na := 1) X hj (k_X5_takes l γ σ mb _ _ hm hm60 pt3 _) gW_23 rfl gX5_layers_X5_takes rfl ⟨rfl, rfl⟩ (by decide +kernel) rfl ⟨by decide, by decide⟩ rfl (Nat.le_of_ble_eq_true rfl) dX5_layers_97 ⟨by decide, by decide⟩ ?_
            obtain ⟨t4, ht4⟩ : ∃ t, tk (nxT (σ.1 27) mb) (nI 43) t3.2.1 (upd t3.2.2 3 (nI (k + 1))) = t := ⟨_, rfl⟩
            rw [ht4]
            have pt4 : t4.2.1 ≤ mb := by rw [← ht4]; exact tk_le (by decide) pt3
            refine g_if_eq (tgt := 107) X dX5_layers_100 (by decide) (fun c_100 => ?_) (fun c_100 => ?_)
            · replace c_100 := bI_f c_100
              refine g_iconstN X 0 dX5_layers_107 ?_
              refine g_istore_n2 X dX5_layers_108 rfl (by decide) rfl ?_
              refine g_goto (tgt := 11) X dX5_layers_109 (by decide) ?_
              exact ih rk (by omega) _ _ ⟨k + 1, t4.2.1, t4.2.2, true, false, fun q9 => Bool.noConfusion q9, pt4, by rw [← ht4, tk_r]; exact pk_us, rfl, by simp [gl_le, bI], by rw [hz, c_12, if_pos rfl, lyI_h (lyS_3 ht1 c_32 ht2 c_41 ht3) c_53 (by omega) ht4 c_100]; rfl⟩
            · replace c_100 := bI_t c_100
              refine g_iconstN X 1 dX5_layers_103 ?_
              refine g_goto (tgt := 108) X dX5_layers_104 (by decide) ?_
              refine g_istore_n2 X dX5_layers_108 rfl (by decide) rfl ?_
              refine g_goto (tgt := 11) X dX5_layers_109 (by decide) ?_
              exact ih rk (by omega) _ _ ⟨k + 1, t4.2.1, t4.2.2, true, true, fun _ => ⟨by omega, by omega⟩, pt4, by rw [← ht4, tk_r]; exact pk_us, rfl, by simp [gl_le, bI], by rw [hz, c_12, if_pos rfl, lyI_g (lyS_3 ht1 c_32 ht2 c_41 ht3) c_53 (by omega) ht4 c_100]; rfl⟩
set_option maxRecDepth 20000 in
theorem k_X5_milestones (l : Launch) (γ : gG) (σ : gS) (mb pp : Nat) (r : Nat → Int32) (hm : σ.1 23 5 = nI mb) (hm60 : mb ≤ 60) (hp : pp ≤ mb) : gM l γ yX5_milestones wsX5_milestones ({ frames := 2, cells := 0, slots := 0, locals := 47 } : Room) [.ref (ad γ 23)] (tW σ pp r) (gis (some (.int (bI (me (nxT (σ.1 27) mb) pp r).1))) (tW σ (me (nxT (σ.1 27) mb) pp r).2.1 (me (nxT (σ.1 27) mb) pp r).2.2)) 0 0 := by
  refine g_enter (own := RX5) (cc := cX5_milestones) (nL := 3) (ret := (some .boolean)) [some (.ref (ad γ 23)), none, none] (by decide) rfl rfl (by simp [lg_sl, Value.category]) (by simp [gl_le, glE, Value.category]) (fun hj p e s m args below meth c X hr hlk hnm => ?_)
  have hi5 : ∀ w ∈ wsX50, w ∈ wsX5_milestones := by decide +kernel
  refine g_aload_n X dX5_milestones_0 rfl rfl ?_
  refine g_get_23_12 X hi5 (by decide +kernel) dX5_milestones_1 ?_
  refine g_iconstN X 4 dX5_milestones_4 ?_
  refine g_iconstN X 0 dX5_milestones_5 ?_
  refine g_ast_29 X rfl (by omega) dX5_milestones_6 ?_
  simp only [tW_29, tW_s29]
  refine g_iconstN X 1 dX5_milestones_7 ?_
  refine g_istore_n1 X dX5_milestones_8 rfl (by decide) rfl ?_
  refine g_iconstN X 1 dX5_milestones_9 ?_
  refine g_istore_n2 X dX5_milestones_10 rfl (by decide) rfl ?_
  refine g_wf (fun rk ls τ => ∃ (k p2 : Nat) (r2 : Nat → Int32) (is g : Bool), (g = true → k + rk = 5 ∧ k < 5) ∧ p2 ≤ mb ∧ r2 4 = nI k ∧ τ = tW σ p2 r2 ∧ gl_le [some (.ref (ad γ 23)), some (.int (bI is)), some (.int (bI g))] ls ∧ meI (nxT (σ.1 27) mb) 5 0 pp (upd r 4 (nI 0)) = if g then meI (nxT (σ.1 27) mb) rk k p2 r2 else (is, p2, r2)) 5 ⟨0, pp, _, true, true, fun _ => ⟨rfl, by decide⟩, hp, pk_us, rfl, by simp [gl_le, bI], rfl⟩ (fun rk ls τ hI ih => ?_)
  obtain ⟨k, p2, r2, is, g, hg, hp2, hk, rfl, hgl, hz⟩ := hI
  refine g_le hgl ?_
  refine g_iload_n X dX5_milestones_11 rfl rfl ?_
  refine g_if_eq (tgt := 82) X dX5_milestones_12 (by decide) (fun c_12 => ?_) (fun c_12 => ?_)
  · replace c_12 := bI_f c_12
    rw [c_12, if_neg (by decide)] at hz
    refine g_iload_n X dX5_milestones_82 rfl rfl ?_
    exact g_zret X hr hlk (bI_n _) dX5_milestones_83 ⟨by unfold me; rw [hz], by unfold me; rw [hz]⟩
  · replace c_12 := bI_t c_12
    replace hg := hg c_12
    obtain ⟨rk, rfl⟩ : ∃ r2, rk = r2 + 1 := ⟨rk - 1, by omega⟩
    refine g_aload_n X dX5_milestones_15 rfl rfl ?_
    refine g_bipush (v := nI 10) X dX5_milestones_16 (by decide) ?_
    refine g_aload_n X dX5_milestones_18 rfl rfl ?_
    refine g_get_23_12 X hi5 (by decide +kernel) dX5_milestones_19 ?_
    refine g_iconstN X 4 dX5_milestones_22 ?_
    refine g_ald_29 X rfl (by omega) dX5_milestones_23 ?_
    refine g_top (y := nI k) hk ?_
    refine g_iaddN X dX5_milestones_24 ?_
    refine g_sipush (v := nI 1000) X dX5_milestones_25 (by decide) ?_
    refine g_callVi (na := 2) X hj (k_X5_number l γ σ mb _ _ hm hm60 hp2 (10 + k) _ (by omega)) gW_23 rfl gX5_milestones_X5_number rfl ⟨rfl, rfl⟩ (by decide +kernel) rfl ⟨by decide, by decide⟩ rfl (Nat.le_of_ble_eq_true rfl) dX5_milestones_28 ⟨by decide, by decide⟩ ?_
    obtain ⟨t1, ht1⟩ : ∃ t, nu (nxT (σ.1 27) mb) (10 + k) (nI 1000) p2 r2 = t := ⟨_, rfl⟩
    rw [ht1]
    have pt1 : t1.2.1 ≤ mb := by rw [← ht1]; exact nu_le hp2
    have r1 : t1.2.2 4 = nI k := by rw [← ht1]; unfold nu; dsimp only; rw [pk_un (by omega)]; exact hk
    refine g_istore_n1 X dX5_milestones_31 rfl (by decide) rfl ?_
    refine g_aload_n X dX5_milestones_32 rfl rfl ?_
    refine g_get_23_12 X hi5 (by decide +kernel) dX5_milestones_33 ?_
    refine g_iconstN X 4 dX5_milestones_36 ?_
    refine g_dup2_11 X dX5_milestones_37 rfl rfl ?_
    refine g_ald_29 X rfl (by omega) dX5_milestones_38 ?_
    refine g_top (y := nI k) r1 ?_
    refine g_iload_n X dX5_milestones_39 rfl rfl ?_
    refine g_if_eq (tgt := 47) X dX5_milestones_40 (by decide) (fun c_40 => ?_) (fun c_40 => ?_)
    · replace c_40 := bI_f c_40
      refine g_iconstN X 0 dX5_milestones_47 ?_
      refine g_iaddN X dX5_milestones_48 ?_
      refine g_ast_29 X rfl (by omega) dX5_milestones_49 ?_
      simp only [tW_29, tW_s29]
      refine g_iload_n X dX5_milestones_50 rfl rfl ?_
      refine g_if_eq (tgt := 77) X dX5_milestones_51 (by decide) (fun c_51 => ?_) (fun c_51 => absurd (bI_0 c_40) c_51)
      refine g_iconstN X 0 dX5_milestones_77 ?_
      refine g_istore_n2 X dX5_milestones_78 rfl (by decide) rfl ?_
      refine g_goto (tgt := 11) X dX5_milestones_79 (by decide) ?_
      exact ih rk (by omega) _ _ ⟨k, t1.2.1, _, false, false, fun q9 => Bool.noConfusion q9, pt1, pk_us, rfl, by simp [gl_le, bI, c_40], by rw [hz, c_12, if_pos rfl, meI_f ht1 c_40]; rfl⟩
    · replace c_40 := bI_t c_40
      refine g_iconstN X 1 dX5_milestones_43 ?_
      refine g_goto (tgt := 48) X dX5_milestones_44 (by decide) ?_
      refine g_iaddN X dX5_milestones_48 ?_
      refine g_ast_29 X rfl (by omega) dX5_milestones_49 ?_
      simp only [tW_29, tW_s29]
      refine g_iload_n X dX5_milestones_50 rfl rfl ?_
      refine g_if_eq (tgt := 77) X dX5_milestones_51 (by decide) (fun c_51 => absurd c_51 (bI_1 c_40)) (fun c_51 => ?_)
      refine g_aload_n X dX5_milestones_54 rfl rfl ?_
      refine g_get_23_12 X hi5 (by decide +kernel) dX5_milestones_55 ?_
      refine g_iconstN X 4 dX5_milestones_58 ?_
      refine g_ald_29 X rfl (by omega) dX5_milestones_59 ?_
      refine g_top (y := nI (k + 1)) (by rw [tW_29, pk_us]) ?_
      refine g_iconstN X 5 dX5_milestones_60 ?_
      refine g_icmpN_ge (tgt := 77) X dX5_milestones_61 (by decide) (by omega) (by omega) (fun c_61 => ?_) (fun c_61 => ?_)
      · refine g_iconstN X 0 dX5_milestones_77 ?_
        refine g_istore_n2 X dX5_milestones_78 rfl (by decide) rfl ?_
        refine g_goto (tgt := 11) X dX5_milestones_79 (by decide) ?_
        exact ih rk (by omega) _ _ ⟨k + 1, t1.2.1, _, true, false, fun q9 => Bool.noConfusion q9, pt1, pk_us, rfl, by simp [gl_le, bI, c_40], by rw [hz, c_12, if_pos rfl, meI_e ht1 c_40 (by omega)]; rfl⟩
      · refine g_aload_n X dX5_milestones_64 rfl rfl ?_
        refine g_bipush (v := nI 43) X dX5_milestones_65 (by decide) ?_
        refine g_callVi (na := 1) X hj (k_X5_takes l γ σ mb _ _ hm hm60 pt1 _) gW_23 rfl gX5_milestones_X5_takes rfl ⟨rfl, rfl⟩ (by decide +kernel) rfl ⟨by decide, by decide⟩ rfl (Nat.le_of_ble_eq_true rfl) dX5_milestones_67 ⟨by decide, by decide⟩ ?_
        obtain ⟨t4, ht4⟩ : ∃ t, tk (nxT (σ.1 27) mb) (nI 43) t1.2.1 (upd t1.2.2 4 (nI (k + 1))) = t := ⟨_, rfl⟩
        rw [ht4]
        have pt4 : t4.2.1 ≤ mb := by rw [← ht4]; exact tk_le (by decide) pt1
        refine g_if_eq (tgt := 77) X dX5_milestones_70 (by decide) (fun c_70 => ?_) (fun c_70 => ?_)
        · replace c_70 := bI_f c_70
          refine g_iconstN X 0 dX5_milestones_77 ?_
          refine g_istore_n2 X dX5_milestones_78 rfl (by decide) rfl ?_
          refine g_goto (tgt := 11) X dX5_milestones_79 (by decide) ?_
          exact ih rk (by omega) _ _ ⟨k + 1, t4.2.1, t4.2.2, true, false, fun q9 => Bool.noConfusion q9, pt4, by rw [← ht4, tk_r]; exact pk_us, rfl, by simp [gl_le, bI, c_40], by rw [hz, c_12, if_pos rfl, meI_h ht1 c_40 (by omega) ht4 c_70]; rfl⟩
        · replace c_70 := bI_t c_70
          refine g_iconstN X 1 dX5_milestones_73 ?_
          refine g_goto (tgt := 78) X dX5_milestones_74 (by decide) ?_
          refine g_istore_n2 X dX5_milestones_78 rfl (by decide) rfl ?_
          refine g_goto (tgt := 11) X dX5_milestones_79 (by decide) ?_
          exact ih rk (by omega) _ _ ⟨k + 1, t4.2.1, t4.2.2, true, true, fun _ => ⟨by omega, by omega⟩, pt4, by rw [← ht4, tk_r]; exact pk_us, rfl, by simp [gl_le, bI, c_40], by rw [hz, c_12, if_pos rfl, meI_g ht1 c_40 (by omega) ht4 c_70]; rfl⟩
set_option maxRecDepth 20000 in
theorem k_X5_way (l : Launch) (γ : gG) (σ : gS) (mb pp : Nat) (r : Nat → Int32) (hm : σ.1 23 5 = nI mb) (hm60 : mb ≤ 60) (hp : pp ≤ mb) : gM l γ yX5_way wsX5_way ({ frames := 2, cells := 0, slots := 0, locals := 42 } : Room) [.ref (ad γ 23)] (tW σ pp r) (gis (some (.int (bI (wy (nxT (σ.1 27) mb) pp r).1))) (tW σ (wy (nxT (σ.1 27) mb) pp r).2.1 (wy (nxT (σ.1 27) mb) pp r).2.2)) 0 0 := by
  refine g_enter (own := RX5) (cc := cX5_way) (nL := 3) (ret := (some .boolean)) [some (.ref (ad γ 23)), none, none] (by decide) rfl rfl (by simp [lg_sl, Value.category]) (by simp [gl_le, glE, Value.category]) (fun hj p e s m args below meth c X hr hlk hnm => ?_)
  have hi5 : ∀ w ∈ wsX50, w ∈ wsX5_way := by decide +kernel
  refine g_aload_n X dX5_way_0 rfl rfl ?_
  refine g_bipush (v := nI 108) X dX5_way_1 (by decide) ?_
  refine g_callVi (na := 1) X hj (k_X5_takes l γ σ mb _ _ hm hm60 hp _) gW_23 rfl gX5_way_X5_takes rfl ⟨rfl, rfl⟩ (by decide +kernel) rfl ⟨by decide, by decide⟩ rfl (Nat.le_of_ble_eq_true rfl) dX5_way_3 ⟨by decide, by decide⟩ ?_
  obtain ⟨t1, ht1⟩ : ∃ t, tk (nxT (σ.1 27) mb) (nI 108) pp r = t := ⟨_, rfl⟩
  rw [ht1]
  have pt1 : t1.2.1 ≤ mb := by rw [← ht1]; exact tk_le (by decide) hp
  refine g_istore_n1 X dX5_way_6 rfl (by decide) rfl ?_
  refine g_iload_n X dX5_way_7 rfl rfl ?_
  refine g_if_ne (tgt := 20) X dX5_way_8 (by decide) (fun c_8 => ?_) (fun c_8 => ?_)
  · replace c_8 := bI_t c_8
    refine g_iconstN X 1 dX5_way_20 ?_
    refine g_goto (tgt := 25) X dX5_way_21 (by decide) ?_
    refine g_istore_n2 X dX5_way_25 rfl (by decide) rfl ?_
    refine g_aload_n X dX5_way_26 rfl rfl ?_
    refine g_get_23_12 X hi5 (by decide +kernel) dX5_way_27 ?_
    refine g_iconstN X 2 dX5_way_30 ?_
    refine g_iload_n X dX5_way_31 rfl rfl ?_
    refine g_if_eq (tgt := 39) X dX5_way_32 (by decide) (fun c_32 => absurd c_32 (bI_1 c_8)) (fun c_32 => ?_)
    refine g_iconstN X 0 dX5_way_35 ?_
    refine g_goto (tgt := 40) X dX5_way_36 (by decide) ?_
    refine g_ast_29 X rfl (by omega) dX5_way_40 ?_
    simp only [tW_29, tW_s29]
    refine g_iload_n X dX5_way_41 rfl rfl ?_
    exact g_zret X hr hlk rfl dX5_way_42 (by have e1 : t1.2.2 = r := (by rw [← ht1]; exact tk_r); unfold wy; rw [ht1, if_pos c_8, e1]; exact ⟨rfl, rfl⟩)
  · replace c_8 := bI_f c_8
    refine g_aload_n X dX5_way_11 rfl rfl ?_
    refine g_bipush (v := nI 101) X dX5_way_12 (by decide) ?_
    refine g_callVi (na := 1) X hj (k_X5_takes l γ σ mb _ _ hm hm60 pt1 _) gW_23 rfl gX5_way_X5_takes rfl ⟨rfl, rfl⟩ (by decide +kernel) rfl ⟨by decide, by decide⟩ rfl (Nat.le_of_ble_eq_true rfl) dX5_way_14 ⟨by decide, by decide⟩ ?_
    obtain ⟨t2, ht2⟩ : ∃ t, tk (nxT (σ.1 27) mb) (nI 101) t1.2.1 t1.2.2 = t := ⟨_, rfl⟩
    rw [ht2]
    have pt2 : t2.2.1 ≤ mb := by rw [← ht2]; exact tk_le (by decide) pt1
    refine g_if_eq (tgt := 24) X dX5_way_17 (by decide) (fun c_17 => ?_) (fun c_17 => ?_)
    · replace c_17 := bI_f c_17
      refine g_iconstN X 0 dX5_way_24 ?_
      refine g_istore_n2 X dX5_way_25 rfl (by decide) rfl ?_
      refine g_aload_n X dX5_way_26 rfl rfl ?_
      refine g_get_23_12 X hi5 (by decide +kernel) dX5_way_27 ?_
      refine g_iconstN X 2 dX5_way_30 ?_
      refine g_iload_n X dX5_way_31 rfl rfl ?_
      refine g_if_eq (tgt := 39) X dX5_way_32 (by decide) (fun c_32 => ?_) (fun c_32 => absurd (bI_0 c_8) c_32)
      refine g_iconstN X 1 dX5_way_39 ?_
      refine g_ast_29 X rfl (by omega) dX5_way_40 ?_
      simp only [tW_29, tW_s29]
      refine g_iload_n X dX5_way_41 rfl rfl ?_
      exact g_zret X hr hlk rfl dX5_way_42 (by have e1 : t1.2.2 = r := (by rw [← ht1]; exact tk_r); have e2 : t1.2.1 = pp := (tk_p ht1 c_8); have e4 : t2.2.2 = r := (by rw [← ht2, tk_r]; exact e1); rw [e1, e2] at ht2; unfold wy; rw [ht1, if_neg (by rw [c_8]; decide), ht2, e4, c_17]; exact ⟨rfl, rfl⟩)
    · replace c_17 := bI_t c_17
      refine g_iconstN X 1 dX5_way_20 ?_
      refine g_goto (tgt := 25) X dX5_way_21 (by decide) ?_
      refine g_istore_n2 X dX5_way_25 rfl (by decide) rfl ?_
      refine g_aload_n X dX5_way_26 rfl rfl ?_
      refine g_get_23_12 X hi5 (by decide +kernel) dX5_way_27 ?_
      refine g_iconstN X 2 dX5_way_30 ?_
      refine g_iload_n X dX5_way_31 rfl rfl ?_
      refine g_if_eq (tgt := 39) X dX5_way_32 (by decide) (fun c_32 => ?_) (fun c_32 => absurd (bI_0 c_8) c_32)
      refine g_iconstN X 1 dX5_way_39 ?_
      refine g_ast_29 X rfl (by omega) dX5_way_40 ?_
      simp only [tW_29, tW_s29]
      refine g_iload_n X dX5_way_41 rfl rfl ?_
      exact g_zret X hr hlk rfl dX5_way_42 (by have e1 : t1.2.2 = r := (by rw [← ht1]; exact tk_r); have e2 : t1.2.1 = pp := (tk_p ht1 c_8); have e4 : t2.2.2 = r := (by rw [← ht2, tk_r]; exact e1); rw [e1, e2] at ht2; unfold wy; rw [ht1, if_neg (by rw [c_8]; decide), ht2, e4, c_17]; exact ⟨rfl, rfl⟩)
set_option maxRecDepth 20000 in
theorem k_X5_isText (l : Launch) (γ : gG) (σ : gS) (mb : Nat) (hm : σ.1 23 5 = nI mb) (hm60 : mb ≤ 60) : gM l γ yX5_isText wsX5_isText ({ frames := 3, cells := 0, slots := 0, locals := 70 } : Room) [.ref (ad γ 23)] σ (gis (some (.int (bI (isT (nxT (σ.1 27) mb) mb (σ.1 29)).1))) (tW σ (isT (nxT (σ.1 27) mb) mb (σ.1 29)).2.1 (isT (nxT (σ.1 27) mb) mb (σ.1 29)).2.2)) 0 0 := by
  refine g_enter (own := RX5) (cc := cX5_isText) (nL := 2) (ret := (some .boolean)) [some (.ref (ad γ 23)), none] (by decide) rfl rfl (by simp [lg_sl, Value.category]) (by simp [gl_le, glE, Value.category]) (fun hj p e s m args below meth c X hr hlk hnm => ?_)
  have hi5 : ∀ w ∈ wsX50, w ∈ wsX5_isText := by decide +kernel
  refine g_aload_n X dX5_isText_0 rfl rfl ?_
  refine g_iconstN X 0 dX5_isText_1 ?_
  refine g_put_23_11 X hi5 (by decide +kernel) dX5_isText_2 ?_
  refine g_eq rfl (σ' := tW σ 0 (σ.1 29)) (tW_0 σ 0) ?_
  refine g_aload_n X dX5_isText_5 rfl rfl ?_
  refine g_bipush (v := nI 112) X dX5_isText_6 (by decide) ?_
  refine g_callVi (na := 1) X hj (k_X5_takes l γ σ mb _ _ hm hm60 (Nat.zero_le _) _) gW_23 rfl gX5_isText_X5_takes rfl ⟨rfl, rfl⟩ (by decide +kernel) rfl ⟨by decide, by decide⟩ rfl (Nat.le_of_ble_eq_true rfl) dX5_isText_8 ⟨by decide, by decide⟩ ?_
  obtain ⟨t1, ht1⟩ : ∃ t, tk (nxT (σ.1 27) mb) (nI 112) 0 (σ.1 29) = t := ⟨_, rfl⟩
  rw [ht1]
  have pt1 : t1.2.1 ≤ mb := by rw [← ht1]; exact tk_le (by decide) (Nat.zero_le _)
  refine g_if_eq (tgt := 61) X dX5_isText_11 (by decide) (fun c_11 => ?_) (fun c_11 => ?_)
  · replace c_11 := bI_f c_11
    refine g_iconstN X 0 dX5_isText_61 ?_
    refine g_istore_n1 X dX5_isText_62 rfl (by decide) rfl ?_
    refine g_iload_n X dX5_isText_63 rfl rfl ?_
    refine g_if_eq (tgt := 105) X dX5_isText_64 (by decide) (fun c_64 => ?_) (fun c_64 => absurd (by decide) c_64)
    refine g_iconstN X 0 dX5_isText_105 ?_
    exact g_zret X hr hlk rfl dX5_isText_106 (by have eA : isA (nxT (σ.1 27) mb) (σ.1 29) = t1 := (by unfold isA; rw [ht1, tb_f c_11]); unfold isT; rw [eA, tb_f c_11, c_11]; exact ⟨rfl, rfl⟩)
  · replace c_11 := bI_t c_11
    refine g_aload_n X dX5_isText_14 rfl rfl ?_
    refine g_iconstN X 0 dX5_isText_15 ?_
    refine g_callVi (na := 1) X hj (k_X5_digit l γ σ mb _ _ hm hm60 pt1 0 (by decide)) gW_23 rfl gX5_isText_X5_digit rfl ⟨rfl, rfl⟩ (by decide +kernel) rfl ⟨by decide, by decide⟩ rfl (Nat.le_of_ble_eq_true rfl) dX5_isText_16 ⟨by decide, by decide⟩ ?_
    obtain ⟨t2, ht2⟩ : ∃ t, dg (nxT (σ.1 27) mb) 0 t1.2.1 t1.2.2 = t := ⟨_, rfl⟩
    rw [ht2]
    have pt2 : t2.2.1 ≤ mb := by rw [← ht2]; exact dg_le pt1
    refine g_if_eq (tgt := 61) X dX5_isText_19 (by decide) (fun c_19 => ?_) (fun c_19 => ?_)
    · replace c_19 := bI_f c_19
      refine g_iconstN X 0 dX5_isText_61 ?_
      refine g_istore_n1 X dX5_isText_62 rfl (by decide) rfl ?_
      refine g_iload_n X dX5_isText_63 rfl rfl ?_
      refine g_if_eq (tgt := 105) X dX5_isText_64 (by decide) (fun c_64 => ?_) (fun c_64 => absurd (by decide) c_64)
      refine g_iconstN X 0 dX5_isText_105 ?_
      exact g_zret X hr hlk rfl dX5_isText_106 (by have eA : isA (nxT (σ.1 27) mb) (σ.1 29) = t2 := (by unfold isA; rw [ht1, tb_t c_11, ht2, tb_f c_19]); unfold isT; rw [eA, tb_f c_19, c_19]; exact ⟨rfl, rfl⟩)
    · replace c_19 := bI_t c_19
      refine g_aload_n X dX5_isText_22 rfl rfl ?_
      refine g_bipush (v := nI 115) X dX5_isText_23 (by decide) ?_
      refine g_callVi (na := 1) X hj (k_X5_takes l γ σ mb _ _ hm hm60 pt2 _) gW_23 rfl gX5_isText_X5_takes rfl ⟨rfl, rfl⟩ (by decide +kernel) rfl ⟨by decide, by decide⟩ rfl (Nat.le_of_ble_eq_true rfl) dX5_isText_25 ⟨by decide, by decide⟩ ?_
      obtain ⟨t3, ht3⟩ : ∃ t, tk (nxT (σ.1 27) mb) (nI 115) t2.2.1 t2.2.2 = t := ⟨_, rfl⟩
      rw [ht3]
      have pt3 : t3.2.1 ≤ mb := by rw [← ht3]; exact tk_le (by decide) pt2
      refine g_if_eq (tgt := 61) X dX5_isText_28 (by decide) (fun c_28 => ?_) (fun c_28 => ?_)
      · replace c_28 := bI_f c_28
        refine g_iconstN X 0 dX5_isText_61 ?_
        refine g_istore_n1 X dX5_isText_62 rfl (by decide) rfl ?_
        refine g_iload_n X dX5_isText_63 rfl rfl ?_
        refine g_if_eq (tgt := 105) X dX5_isText_64 (by decide) (fun c_64 => ?_) (fun c_64 => absurd (by decide) c_64)
        refine g_iconstN X 0 dX5_isText_105 ?_
        exact g_zret X hr hlk rfl dX5_isText_106 (by have eA : isA (nxT (σ.1 27) mb) (σ.1 29) = t3 := (by unfold isA; rw [ht1, tb_t c_11, ht2, tb_t c_19, ht3, tb_f c_28]); unfold isT; rw [eA, tb_f c_28, c_28]; exact ⟨rfl, rfl⟩)
      · replace c_28 := bI_t c_28
        refine g_aload_n X dX5_isText_31 rfl rfl ?_
        refine g_iconstN X 1 dX5_isText_32 ?_
        refine g_ldc (v := nI 99999) X (show Cond.constant RX5 39 99999 ∈ _ by decide +kernel) dX5_isText_33 ?_
        refine g_callVi (na := 2) X hj (k_X5_number l γ σ mb _ _ hm hm60 pt3 1 _ (by decide)) gW_23 rfl gX5_isText_X5_number rfl ⟨rfl, rfl⟩ (by decide +kernel) rfl ⟨by decide, by decide⟩ rfl (Nat.le_of_ble_eq_true rfl) dX5_isText_35 ⟨by decide, by decide⟩ ?_
        obtain ⟨t4, ht4⟩ : ∃ t, nu (nxT (σ.1 27) mb) 1 (nI 99999) t3.2.1 t3.2.2 = t := ⟨_, rfl⟩
        rw [ht4]
        have pt4 : t4.2.1 ≤ mb := by rw [← ht4]; exact nu_le pt3
        refine g_if_eq (tgt := 61) X dX5_isText_38 (by decide) (fun c_38 => ?_) (fun c_38 => ?_)
        · replace c_38 := bI_f c_38
          refine g_iconstN X 0 dX5_isText_61 ?_
          refine g_istore_n1 X dX5_isText_62 rfl (by decide) rfl ?_
          refine g_iload_n X dX5_isText_63 rfl rfl ?_
          refine g_if_eq (tgt := 105) X dX5_isText_64 (by decide) (fun c_64 => ?_) (fun c_64 => absurd (by decide) c_64)
          refine g_iconstN X 0 dX5_isText_105 ?_
          exact g_zret X hr hlk rfl dX5_isText_106 (by have eA : isA (nxT (σ.1 27) mb) (σ.1 29) = t4 := (by unfold isA; rw [ht1, tb_t c_11, ht2, tb_t c_19, ht3, tb_t c_28, ht4, tb_f c_38]); unfold isT; rw [eA, tb_f c_38, c_38]; exact ⟨rfl, rfl⟩)
        · replace c_38 := bI_t c_38
          refine g_aload_n X dX5_isText_41 rfl rfl ?_
          refine g_bipush (v := nI 58) X dX5_isText_42 (by decide) ?_
          refine g_callVi (na := 1) X hj (k_X5_takes l γ σ mb _ _ hm hm60 pt4 _) gW_23 rfl gX5_isText_X5_takes rfl ⟨rfl, rfl⟩ (by decide +kernel) rfl ⟨by decide, by decide⟩ rfl (Nat.le_of_ble_eq_true rfl) dX5_isText_44 ⟨by decide, by decide⟩ ?_
          obtain ⟨t5, ht5⟩ : ∃ t, tk (nxT (σ.1 27) mb) (nI 58) t4.2.1 t4.2.2 = t := ⟨_, rfl⟩
          rw [ht5]
          have pt5 : t5.2.1 ≤ mb := by rw [← ht5]; exact tk_le (by decide) pt4
          refine g_if_eq (tgt := 61) X dX5_isText_47 (by decide) (fun c_47 => ?_) (fun c_47 => ?_)
          · replace c_47 := bI_f c_47
            refine g_iconstN X 0 dX5_isText_61 ?_
            refine g_istore_n1 X dX5_isText_62 rfl (by decide) rfl ?_
            refine g_iload_n X dX5_isText_63 rfl rfl ?_
            refine g_if_eq (tgt := 105) X dX5_isText_64 (by decide) (fun c_64 => ?_) (fun c_64 => absurd (by decide) c_64)
            refine g_iconstN X 0 dX5_isText_105 ?_
            exact g_zret X hr hlk rfl dX5_isText_106 (by have eA : isA (nxT (σ.1 27) mb) (σ.1 29) = t5 := (by unfold isA; rw [ht1, tb_t c_11, ht2, tb_t c_19, ht3, tb_t c_28, ht4, tb_t c_38, ht5, tb_f c_47]); unfold isT; rw [eA, tb_f c_47, c_47]; exact ⟨rfl, rfl⟩)
          · replace c_47 := bI_t c_47
            refine g_aload_n X dX5_isText_50 rfl rfl ?_
            refine g_callVi (na := 0) X hj (k_X5_layers l γ σ mb _ _ hm hm60 pt5 ) gW_23 rfl gX5_isText_X5_layers rfl ⟨rfl, rfl⟩ (by decide +kernel) rfl ⟨by decide, by decide⟩ rfl (Nat.le_of_ble_eq_true rfl) dX5_isText_51 ⟨by decide, by decide⟩ ?_
            obtain ⟨t6, ht6⟩ : ∃ t, ly (nxT (σ.1 27) mb) t5.2.1 t5.2.2 = t := ⟨_, rfl⟩
            rw [ht6]
            have pt6 : t6.2.1 ≤ mb := by rw [← ht6]; exact ly_le pt5
            refine g_if_eq (tgt := 61) X dX5_isText_54 (by decide) (fun c_54 => ?_) (fun c_54 => ?_)
            · replace c_54 := bI_f c_54
              refine g_iconstN X 0 dX5_isText_61 ?_
              refine g_istore_n1 X dX5_isText_62 rfl (by decide) rfl ?_
              refine g_iload_n X dX5_isText_63 rfl rfl ?_
              refine g_if_eq (tgt := 105) X dX5_isText_64 (by decide) (fun c_64 => ?_) (fun c_64 => absurd (by decide) c_64)
              refine g_iconstN X 0 dX5_isText_105 ?_
              exact g_zret X hr hlk rfl dX5_isText_106 (by have eA : isA (nxT (σ.1 27) mb) (σ.1 29) = t6 := (by unfold isA; rw [ht1, tb_t c_11, ht2, tb_t c_19, ht3, tb_t c_28, ht4, tb_t c_38, ht5, tb_t c_47, ht6]); unfold isT; rw [eA, tb_f c_54, c_54]; exact ⟨rfl, rfl⟩)
            · replace c_54 := bI_t c_54
              refine g_iconstN X 1 dX5_isText_57 ?_
              refine g_goto (tgt := 62) X dX5_isText_58 (by decide) ?_
              refine g_istore_n1 X dX5_isText_62 rfl (by decide) rfl ?_
              refine g_iload_n X dX5_isText_63 rfl rfl ?_
              refine g_if_eq (tgt := 105) X dX5_isText_64 (by decide) (fun c_64 => absurd c_64 (by decide)) (fun c_64 => ?_)
              refine g_aload_n X dX5_isText_67 rfl rfl ?_
              refine g_bipush (v := nI 64) X dX5_isText_68 (by decide) ?_
              refine g_callVi (na := 1) X hj (k_X5_takes l γ σ mb _ _ hm hm60 pt6 _) gW_23 rfl gX5_isText_X5_takes rfl ⟨rfl, rfl⟩ (by decide +kernel) rfl ⟨by decide, by decide⟩ rfl (Nat.le_of_ble_eq_true rfl) dX5_isText_70 ⟨by decide, by decide⟩ ?_
              obtain ⟨t7, ht7⟩ : ∃ t, tk (nxT (σ.1 27) mb) (nI 64) t6.2.1 t6.2.2 = t := ⟨_, rfl⟩
              rw [ht7]
              have pt7 : t7.2.1 ≤ mb := by rw [← ht7]; exact tk_le (by decide) pt6
              refine g_if_eq (tgt := 105) X dX5_isText_73 (by decide) (fun c_73 => ?_) (fun c_73 => ?_)
              · replace c_73 := bI_f c_73
                refine g_iconstN X 0 dX5_isText_105 ?_
                exact g_zret X hr hlk rfl dX5_isText_106 (by have eA : isA (nxT (σ.1 27) mb) (σ.1 29) = t6 := (by unfold isA; rw [ht1, tb_t c_11, ht2, tb_t c_19, ht3, tb_t c_28, ht4, tb_t c_38, ht5, tb_t c_47, ht6]); unfold isT; rw [eA, tb_t c_54, ht7, tb_f c_73, c_73]; exact ⟨rfl, rfl⟩)
              · replace c_73 := bI_t c_73
                refine g_aload_n X dX5_isText_76 rfl rfl ?_
                refine g_callVi (na := 0) X hj (k_X5_milestones l γ σ mb _ _ hm hm60 pt7 ) gW_23 rfl gX5_isText_X5_milestones rfl ⟨rfl, rfl⟩ (by decide +kernel) rfl ⟨by decide, by decide⟩ rfl (Nat.le_of_ble_eq_true rfl) dX5_isText_77 ⟨by decide, by decide⟩ ?_
                obtain ⟨t8, ht8⟩ : ∃ t, me (nxT (σ.1 27) mb) t7.2.1 t7.2.2 = t := ⟨_, rfl⟩
                rw [ht8]
                have pt8 : t8.2.1 ≤ mb := by rw [← ht8]; exact me_le pt7
                refine g_if_eq (tgt := 105) X dX5_isText_80 (by decide) (fun c_80 => ?_) (fun c_80 => ?_)
                · replace c_80 := bI_f c_80
                  refine g_iconstN X 0 dX5_isText_105 ?_
                  exact g_zret X hr hlk rfl dX5_isText_106 (by have eA : isA (nxT (σ.1 27) mb) (σ.1 29) = t6 := (by unfold isA; rw [ht1, tb_t c_11, ht2, tb_t c_19, ht3, tb_t c_28, ht4, tb_t c_38, ht5, tb_t c_47, ht6]); unfold isT; rw [eA, tb_t c_54, ht7, tb_t c_73, ht8, tb_f c_80, c_80]; exact ⟨rfl, rfl⟩)
                · replace c_80 := bI_t c_80
                  refine g_aload_n X dX5_isText_83 rfl rfl ?_
                  refine g_callVi (na := 0) X hj (k_X5_way l γ σ mb _ _ hm hm60 pt8 ) gW_23 rfl gX5_isText_X5_way rfl ⟨rfl, rfl⟩ (by decide +kernel) rfl ⟨by decide, by decide⟩ rfl (Nat.le_of_ble_eq_true rfl) dX5_isText_84 ⟨by decide, by decide⟩ ?_
                  obtain ⟨t9, ht9⟩ : ∃ t, wy (nxT (σ.1 27) mb) t8.2.1 t8.2.2 = t := ⟨_, rfl⟩
                  rw [ht9]
                  have pt9 : t9.2.1 ≤ mb := by rw [← ht9]; exact wy_le pt8
                  refine g_if_eq (tgt := 105) X dX5_isText_87 (by decide) (fun c_87 => ?_) (fun c_87 => ?_)
                  · replace c_87 := bI_f c_87
                    refine g_iconstN X 0 dX5_isText_105 ?_
                    exact g_zret X hr hlk rfl dX5_isText_106 (by have eA : isA (nxT (σ.1 27) mb) (σ.1 29) = t6 := (by unfold isA; rw [ht1, tb_t c_11, ht2, tb_t c_19, ht3, tb_t c_28, ht4, tb_t c_38, ht5, tb_t c_47, ht6]); unfold isT; rw [eA, tb_t c_54, ht7, tb_t c_73, ht8, tb_t c_80, ht9, tb_f c_87, c_87]; exact ⟨rfl, rfl⟩)
                  · replace c_87 := bI_t c_87
                    refine g_aload_n X dX5_isText_90 rfl rfl ?_
                    refine g_get_23_11 X hi5 (by decide +kernel) dX5_isText_91 ?_
                    refine g_top (y := nI t9.2.1) (tW_pl _ _ _) ?_
                    refine g_aload_n X dX5_isText_94 rfl rfl ?_
                    refine g_get_23_5 X hi5 (by decide +kernel) dX5_isText_95 ?_
                    refine g_top (y := nI mb) (tW_m hm (by decide)) ?_
                    refine g_icmpN_ne (tgt := 105) X dX5_isText_98 (by decide) (by omega) (by omega) (fun c_98 => ?_) (fun c_98 => ?_)
                    · refine g_iconstN X 0 dX5_isText_105 ?_
                      exact g_zret X hr hlk rfl dX5_isText_106 (by have eA : isA (nxT (σ.1 27) mb) (σ.1 29) = t6 := (by unfold isA; rw [ht1, tb_t c_11, ht2, tb_t c_19, ht3, tb_t c_28, ht4, tb_t c_38, ht5, tb_t c_47, ht6]); unfold isT; rw [eA, tb_t c_54, ht7, tb_t c_73, ht8, tb_t c_80, ht9, tb_t c_87]; dsimp only; rw [decide_eq_false c_98]; exact ⟨rfl, rfl⟩)
                    · refine g_iconstN X 1 dX5_isText_101 ?_
                      refine g_goto (tgt := 106) X dX5_isText_102 (by decide) ?_
                      exact g_zret X hr hlk rfl dX5_isText_106 (by have eA : isA (nxT (σ.1 27) mb) (σ.1 29) = t6 := (by unfold isA; rw [ht1, tb_t c_11, ht2, tb_t c_19, ht3, tb_t c_28, ht4, tb_t c_38, ht5, tb_t c_47, ht6]); unfold isT; rw [eA, tb_t c_54, ht7, tb_t c_73, ht8, tb_t c_80, ht9, tb_t c_87]; dsimp only; rw [decide_eq_true c_98]; exact ⟨rfl, rfl⟩)
set_option maxRecDepth 20000 in
theorem k_X5_firstError (l : Launch) (γ : gG) (σ : gS) (mb : Nat) (hm : σ.1 23 5 = nI mb) (hm60 : mb ≤ 60) : gM l γ yX5_firstError wsX5_firstError ({ frames := 4, cells := 0, slots := 0, locals := 91 } : Room) [.ref (ad γ 23)] σ (gis (some (.int (nI (if (isT (nxT (σ.1 27) mb) mb (σ.1 29)).1 then mb else (isT (nxT (σ.1 27) mb) mb (σ.1 29)).2.1)))) (tW (okM σ) (isT (nxT (σ.1 27) mb) mb (σ.1 29)).2.1 (isT (nxT (σ.1 27) mb) mb (σ.1 29)).2.2)) 0 0 := by
  refine g_enter (own := RX5) (cc := cX5_firstError) (nL := 1) (ret := (some .int)) [some (.ref (ad γ 23))] (by decide) rfl rfl (by simp [lg_sl, Value.category]) (by simp [gl_le, glE, Value.category]) (fun hj p e s m args below meth c X hr hlk hnm => ?_)
  have hi5 : ∀ w ∈ wsX50, w ∈ wsX5_firstError := by decide +kernel
  refine g_aload_n X dX5_firstError_0 rfl rfl ?_
  refine g_iconstN X 0 dX5_firstError_1 ?_
  refine g_put_23_6 X hi5 (by decide +kernel) dX5_firstError_2 ?_
  refine g_eq rfl (σ' := okM σ) rfl ?_
  refine g_aload_n X dX5_firstError_5 rfl rfl ?_
  refine g_callVi (na := 0) X hj (k_X5_isText l γ (okM σ) mb (okM_f hm (by decide)) hm60) gW_23 rfl gX5_firstError_X5_isText rfl ⟨rfl, rfl⟩ (by decide +kernel) rfl ⟨by decide, by decide⟩ rfl (Nat.le_of_ble_eq_true rfl) dX5_firstError_6 ⟨by decide, by decide⟩ ?_
  refine g_if_eq (tgt := 19) X dX5_firstError_9 (by decide) (fun c_9 => ?_) (fun c_9 => ?_)
  · replace c_9 := bI_f c_9
    refine g_aload_n X dX5_firstError_19 rfl rfl ?_
    refine g_get_23_11 X hi5 (by decide +kernel) dX5_firstError_20 ?_
    refine g_top (y := nI (isT (nxT (σ.1 27) mb) mb (σ.1 29)).2.1) (tW_pl _ _ _) ?_
    exact g_iret X hr hlk dX5_firstError_23 ⟨by rw [if_neg (show ¬ (isT (nxT (σ.1 27) mb) mb (σ.1 29)).1 = true from fun w => Bool.noConfusion (w.symm.trans c_9))], rfl⟩
  · replace c_9 := bI_t c_9
    refine g_aload_n X dX5_firstError_12 rfl rfl ?_
    refine g_get_23_5 X hi5 (by decide +kernel) dX5_firstError_13 ?_
    refine g_top (y := nI mb) (tW_m (okM_f hm (by decide)) (by decide)) ?_
    refine g_goto (tgt := 23) X dX5_firstError_16 (by decide) ?_
    exact g_iret X hr hlk dX5_firstError_23 ⟨by rw [if_pos (show (isT (nxT (σ.1 27) mb) mb (σ.1 29)).1 = true from c_9)], rfl⟩
set_option maxRecDepth 20000 in
theorem k_X5_isGood (l : Launch) (γ : gG) (σ : gS) (k q : Nat) (hk : σ.1 29 3 = nI k) (hk4 : k ≤ 4) (hq : σ.1 29 4 = nI q) (hq5 : q ≤ 5) : gM l γ yX5_isGood wsX5_isGood ({ frames := 0, cells := 0, slots := 0, locals := 0 } : Room) [.ref (ad γ 23)] σ (gis (some (.int (bI (gdB (σ.1 29) k q)))) σ) 0 0 := by
  refine g_enter (own := RX5) (cc := cX5_isGood) (nL := 6) (ret := (some .boolean)) [some (.ref (ad γ 23)), none, none, none, none, none] (by decide) rfl rfl (by simp [lg_sl, Value.category]) (by simp [gl_le, glE, Value.category]) (fun hj p e s m args below meth c X hr hlk hnm => ?_)
  have hi5 : ∀ w ∈ wsX50, w ∈ wsX5_isGood := by decide +kernel
  refine g_iconstN X 0 dX5_isGood_0 ?_
  refine g_istore_n1 X dX5_isGood_1 rfl (by decide) rfl ?_
  refine g_iconstN X 0 dX5_isGood_2 ?_
  refine g_istore_n2 X dX5_isGood_3 rfl (by decide) rfl ?_
  refine g_iconstN X 1 dX5_isGood_4 ?_
  refine g_aload_n X dX5_isGood_5 rfl rfl ?_
  refine g_get_23_12 X hi5 (by decide +kernel) dX5_isGood_6 ?_
  refine g_iconstN X 0 dX5_isGood_9 ?_
  refine g_ald_29 X rfl (by omega) dX5_isGood_10 ?_
  refine g_ishl X dX5_isGood_11 ?_
  refine g_istore_n3 X dX5_isGood_12 rfl (by decide) rfl ?_
  refine g_iconstN X 1 dX5_isGood_13 ?_
  refine g_istore_s4 X dX5_isGood_14 (by decide) rfl ?_
  refine g_iconstN X 0 dX5_isGood_16 ?_
  refine g_istore_s5 X dX5_isGood_17 (by decide) rfl ?_
  refine g_up (i0 := 0) (N := k) (fun i => [some (.ref (ad γ 23)), some (.int (gdI (σ.1 29) i).2.2), some (.int (nI 0)), some (.int (gdI (σ.1 29) i).2.1), some (.int (bI (gdI (σ.1 29) i).1)), some (.int (nI i))]) (fun _ => σ) (by simp [gl_le, gdI, bI]) rfl (by omega) (fun i hi ih19 => ?_)
  refine g_iload X dX5_isGood_19 rfl ?_
  refine g_aload_n X dX5_isGood_21 rfl rfl ?_
  refine g_get_23_12 X hi5 (by decide +kernel) dX5_isGood_22 ?_
  refine g_iconstN X 3 dX5_isGood_25 ?_
  refine g_ald_29 X rfl (by omega) dX5_isGood_26 ?_
  refine g_top (y := nI k) hk ?_
  refine g_icmpN_ge (tgt := 101) X dX5_isGood_27 (by decide) (by omega) (by omega) (fun c_27 => ?_) (fun c_27 => ?_)
  · have e : k = i := by omega
    subst e
    refine g_iconstN X 0 dX5_isGood_101 ?_
    refine g_istore_s5 X dX5_isGood_102 (by decide) rfl ?_
    refine g_up (i0 := 0) (N := q) (fun i => [some (.ref (ad γ 23)), some (.int (gdI (σ.1 29) k).2.2), some (.int (sumI (fun j => σ.1 29 (10 + j)) i)), none, some (.int (bI (gdI (σ.1 29) k).1)), some (.int (nI i))]) (fun _ => σ) (by simp [gl_le, sumI]) rfl (by omega) (fun i hi ih104 => ?_)
    refine g_iload X dX5_isGood_104 rfl ?_
    refine g_aload_n X dX5_isGood_106 rfl rfl ?_
    refine g_get_23_12 X hi5 (by decide +kernel) dX5_isGood_107 ?_
    refine g_iconstN X 4 dX5_isGood_110 ?_
    refine g_ald_29 X rfl (by omega) dX5_isGood_111 ?_
    refine g_top (y := nI q) hq ?_
    refine g_icmpN_ge (tgt := 134) X dX5_isGood_112 (by decide) (by omega) (by omega) (fun c_112 => ?_) (fun c_112 => ?_)
    · have e : q = i := by omega
      subst e
      refine g_iload X dX5_isGood_134 rfl ?_
      refine g_if_eq (tgt := 160) X dX5_isGood_136 (by decide) (fun c_136 => ?_) (fun c_136 => ?_)
      · replace c_136 := bI_f c_136
        refine g_iconstN X 0 dX5_isGood_160 ?_
        exact g_zret X hr hlk rfl dX5_isGood_161 ⟨by unfold gdB; rw [c_136]; rfl, rfl⟩
      · replace c_136 := bI_t c_136
        refine g_iload_n X dX5_isGood_139 rfl rfl ?_
        refine g_aload_n X dX5_isGood_140 rfl rfl ?_
        refine g_get_23_12 X hi5 (by decide +kernel) dX5_isGood_141 ?_
        refine g_iconstN X 1 dX5_isGood_144 ?_
        refine g_ald_29 X rfl (by omega) dX5_isGood_145 ?_
        refine g_icmp_gt (tgt := 160) X dX5_isGood_146 (by decide) (fun c_146 => ?_) (fun c_146 => ?_)
        · refine g_iconstN X 0 dX5_isGood_160 ?_
          exact g_zret X hr hlk rfl dX5_isGood_161 ⟨by unfold gdB; rw [decide_eq_false (Int32.not_le.mpr c_146), c_136]; rfl, rfl⟩
        · refine g_iload_n X dX5_isGood_149 rfl rfl ?_
          refine g_sipush (v := nI 1000) X dX5_isGood_150 (by decide) ?_
          refine g_icmp_gt (tgt := 160) X dX5_isGood_153 (by decide) (fun c_153 => ?_) (fun c_153 => ?_)
          · refine g_iconstN X 0 dX5_isGood_160 ?_
            exact g_zret X hr hlk rfl dX5_isGood_161 ⟨by unfold gdB; rw [decide_eq_true (Int32.not_lt.mp c_146), decide_eq_false (Int32.not_le.mpr c_153), c_136]; rfl, rfl⟩
          · refine g_iconstN X 1 dX5_isGood_156 ?_
            refine g_goto (tgt := 161) X dX5_isGood_157 (by decide) ?_
            exact g_zret X hr hlk rfl dX5_isGood_161 ⟨by unfold gdB; rw [decide_eq_true (Int32.not_lt.mp c_146), decide_eq_true (Int32.not_lt.mp c_153), c_136]; rfl, rfl⟩
    · refine g_iload_n X dX5_isGood_115 rfl rfl ?_
      refine g_aload_n X dX5_isGood_116 rfl rfl ?_
      refine g_get_23_12 X hi5 (by decide +kernel) dX5_isGood_117 ?_
      refine g_bipush (v := nI 10) X dX5_isGood_120 (by decide) ?_
      refine g_iload X dX5_isGood_122 rfl ?_
      refine g_iaddN X dX5_isGood_124 ?_
      refine g_ald_29 X rfl (by omega) dX5_isGood_125 ?_
      refine g_iadd X dX5_isGood_126 ?_
      refine g_istore_n2 X dX5_isGood_127 rfl (by decide) rfl ?_
      refine g_iincN5 (d := 1) X dX5_isGood_128 (by decide) rfl ?_
      refine g_goto (tgt := 104) X dX5_isGood_131 (by decide) ?_
      exact g_le (by simp [gl_le, sumI]) (ih104 (by omega))
  · refine g_iload X dX5_isGood_30 rfl ?_
    refine g_if_eq (tgt := 58) X dX5_isGood_32 (by decide) (fun c_32 => ?_) (fun c_32 => ?_)
    · replace c_32 := bI_f c_32
      refine g_iconstN X 0 dX5_isGood_58 ?_
      refine g_istore_s4 X dX5_isGood_59 (by decide) rfl ?_
      refine g_iload_n X dX5_isGood_61 rfl rfl ?_
      refine g_iconstN X 1 dX5_isGood_62 ?_
      refine g_aload_n X dX5_isGood_63 rfl rfl ?_
      refine g_get_23_12 X hi5 (by decide +kernel) dX5_isGood_64 ?_
      refine g_bipush (v := nI 15) X dX5_isGood_67 (by decide) ?_
      refine g_iconstN X 4 dX5_isGood_69 ?_
      refine g_iload X dX5_isGood_70 rfl ?_
      refine g_imulN X dX5_isGood_72 ?_
      refine g_iaddN X dX5_isGood_73 ?_
      refine g_ald_29 X rfl (by omega) dX5_isGood_74 ?_
      refine g_ishl X dX5_isGood_75 ?_
      refine g_ior X dX5_isGood_76 ?_
      refine g_istore_n3 X dX5_isGood_77 rfl (by decide) rfl ?_
      refine g_iload_n X dX5_isGood_78 rfl rfl ?_
      refine g_aload_n X dX5_isGood_79 rfl rfl ?_
      refine g_get_23_12 X hi5 (by decide +kernel) dX5_isGood_80 ?_
      refine g_bipush (v := nI 15) X dX5_isGood_83 (by decide) ?_
      refine g_iconstN X 4 dX5_isGood_85 ?_
      refine g_iload X dX5_isGood_86 rfl ?_
      refine g_imulN X dX5_isGood_88 ?_
      refine g_iaddN X dX5_isGood_89 ?_
      refine g_iconstN X 1 dX5_isGood_90 ?_
      refine g_iaddN X dX5_isGood_91 ?_
      refine g_ald_29 X rfl (by omega) dX5_isGood_92 ?_
      refine g_iadd X dX5_isGood_93 ?_
      refine g_istore_n1 X dX5_isGood_94 rfl (by decide) rfl ?_
      refine g_iincN5 (d := 1) X dX5_isGood_95 (by decide) rfl ?_
      refine g_goto (tgt := 19) X dX5_isGood_98 (by decide) ?_
      exact g_le (by simp [gl_le, gdI, c_32, bI]) (ih19 (by omega))
    · replace c_32 := bI_t c_32
      refine g_iload_n X dX5_isGood_35 rfl rfl ?_
      refine g_aload_n X dX5_isGood_36 rfl rfl ?_
      refine g_get_23_12 X hi5 (by decide +kernel) dX5_isGood_37 ?_
      refine g_bipush (v := nI 15) X dX5_isGood_40 (by decide) ?_
      refine g_iconstN X 4 dX5_isGood_42 ?_
      refine g_iload X dX5_isGood_43 rfl ?_
      refine g_imulN X dX5_isGood_45 ?_
      refine g_iaddN X dX5_isGood_46 ?_
      refine g_ald_29 X rfl (by omega) dX5_isGood_47 ?_
      refine g_ishr X dX5_isGood_48 ?_
      refine g_iconstN X 1 dX5_isGood_49 ?_
      refine g_iand X dX5_isGood_50 ?_
      refine g_if_ne (tgt := 58) X dX5_isGood_51 (by decide) (fun c_51 => ?_) (fun c_51 => ?_)
      · refine g_iconstN X 0 dX5_isGood_58 ?_
        refine g_istore_s4 X dX5_isGood_59 (by decide) rfl ?_
        refine g_iload_n X dX5_isGood_61 rfl rfl ?_
        refine g_iconstN X 1 dX5_isGood_62 ?_
        refine g_aload_n X dX5_isGood_63 rfl rfl ?_
        refine g_get_23_12 X hi5 (by decide +kernel) dX5_isGood_64 ?_
        refine g_bipush (v := nI 15) X dX5_isGood_67 (by decide) ?_
        refine g_iconstN X 4 dX5_isGood_69 ?_
        refine g_iload X dX5_isGood_70 rfl ?_
        refine g_imulN X dX5_isGood_72 ?_
        refine g_iaddN X dX5_isGood_73 ?_
        refine g_ald_29 X rfl (by omega) dX5_isGood_74 ?_
        refine g_ishl X dX5_isGood_75 ?_
        refine g_ior X dX5_isGood_76 ?_
        refine g_istore_n3 X dX5_isGood_77 rfl (by decide) rfl ?_
        refine g_iload_n X dX5_isGood_78 rfl rfl ?_
        refine g_aload_n X dX5_isGood_79 rfl rfl ?_
        refine g_get_23_12 X hi5 (by decide +kernel) dX5_isGood_80 ?_
        refine g_bipush (v := nI 15) X dX5_isGood_83 (by decide) ?_
        refine g_iconstN X 4 dX5_isGood_85 ?_
        refine g_iload X dX5_isGood_86 rfl ?_
        refine g_imulN X dX5_isGood_88 ?_
        refine g_iaddN X dX5_isGood_89 ?_
        refine g_iconstN X 1 dX5_isGood_90 ?_
        refine g_iaddN X dX5_isGood_91 ?_
        refine g_ald_29 X rfl (by omega) dX5_isGood_92 ?_
        refine g_iadd X dX5_isGood_93 ?_
        refine g_istore_n1 X dX5_isGood_94 rfl (by decide) rfl ?_
        refine g_iincN5 (d := 1) X dX5_isGood_95 (by decide) rfl ?_
        refine g_goto (tgt := 19) X dX5_isGood_98 (by decide) ?_
        exact g_le (by simp [gl_le, gdI, c_32, c_51, bI]) (ih19 (by omega))
      · refine g_iconstN X 1 dX5_isGood_54 ?_
        refine g_goto (tgt := 59) X dX5_isGood_55 (by decide) ?_
        refine g_istore_s4 X dX5_isGood_59 (by decide) rfl ?_
        refine g_iload_n X dX5_isGood_61 rfl rfl ?_
        refine g_iconstN X 1 dX5_isGood_62 ?_
        refine g_aload_n X dX5_isGood_63 rfl rfl ?_
        refine g_get_23_12 X hi5 (by decide +kernel) dX5_isGood_64 ?_
        refine g_bipush (v := nI 15) X dX5_isGood_67 (by decide) ?_
        refine g_iconstN X 4 dX5_isGood_69 ?_
        refine g_iload X dX5_isGood_70 rfl ?_
        refine g_imulN X dX5_isGood_72 ?_
        refine g_iaddN X dX5_isGood_73 ?_
        refine g_ald_29 X rfl (by omega) dX5_isGood_74 ?_
        refine g_ishl X dX5_isGood_75 ?_
        refine g_ior X dX5_isGood_76 ?_
        refine g_istore_n3 X dX5_isGood_77 rfl (by decide) rfl ?_
        refine g_iload_n X dX5_isGood_78 rfl rfl ?_
        refine g_aload_n X dX5_isGood_79 rfl rfl ?_
        refine g_get_23_12 X hi5 (by decide +kernel) dX5_isGood_80 ?_
        refine g_bipush (v := nI 15) X dX5_isGood_83 (by decide) ?_
        refine g_iconstN X 4 dX5_isGood_85 ?_
        refine g_iload X dX5_isGood_86 rfl ?_
        refine g_imulN X dX5_isGood_88 ?_
        refine g_iaddN X dX5_isGood_89 ?_
        refine g_iconstN X 1 dX5_isGood_90 ?_
        refine g_iaddN X dX5_isGood_91 ?_
        refine g_ald_29 X rfl (by omega) dX5_isGood_92 ?_
        refine g_iadd X dX5_isGood_93 ?_
        refine g_istore_n1 X dX5_isGood_94 rfl (by decide) rfl ?_
        refine g_iincN5 (d := 1) X dX5_isGood_95 (by decide) rfl ?_
        refine g_goto (tgt := 19) X dX5_isGood_98 (by decide) ?_
        exact g_le (by simp [gl_le, gdI, c_32, c_51, bI]) (ih19 (by omega))
set_option maxRecDepth 20000 in
theorem k_X5_canBind (l : Launch) (γ : gG) (σ : gS) (N : Nat) (L : Nat → Nat) (hS : SZ (σ.1 24) N L) (k : Nat) (su : Nat → Nat) (hk : σ.1 29 3 = nI k) (hk4 : k ≤ 4) (hsu : ∀ i, i < k → σ.1 29 (15 + 4 * i) = nI (su i) ∧ su i < 8) : gM l γ yX5_canBind wsX5_canBind ({ frames := 3, cells := 0, slots := 0, locals := 65 } : Room) [.ref (ad γ 23)] σ (gis (some (.int (bI (cbI (σ.1 24) (σ.1 29) N L su k)))) σ) 0 0 := by
  refine g_enter (own := RX5) (cc := cX5_canBind) (nL := 4) (ret := (some .boolean)) [some (.ref (ad γ 23)), none, none, none] (by decide) rfl rfl (by simp [lg_sl, Value.category]) (by simp [gl_le, glE, Value.category]) (fun hj p e s m args below meth c X hr hlk hnm => ?_)
  have hi5 : ∀ w ∈ wsX50, w ∈ wsX5_canBind := by decide +kernel
  refine g_iconstN X 1 dX5_canBind_0 ?_
  refine g_istore_n1 X dX5_canBind_1 rfl (by decide) rfl ?_
  refine g_iconstN X 0 dX5_canBind_2 ?_
  refine g_istore_n2 X dX5_canBind_3 rfl (by decide) rfl ?_
  refine g_up (i0 := 0) (N := k) (fun i => [some (.ref (ad γ 23)), some (.int (bI (cbI (σ.1 24) (σ.1 29) N L su i))), some (.int (nI i)), none]) (fun _ => σ) (by simp [gl_le, cbI, bI]) rfl (by omega) (fun i hi ih4 => ?_)
  refine g_iload_n X dX5_canBind_4 rfl rfl ?_
  refine g_aload_n X dX5_canBind_5 rfl rfl ?_
  refine g_get_23_12 X hi5 (by decide +kernel) dX5_canBind_6 ?_
  refine g_iconstN X 3 dX5_canBind_9 ?_
  refine g_ald_29 X rfl (by omega) dX5_canBind_10 ?_
  refine g_top (y := nI k) hk ?_
  refine g_icmpN_ge (tgt := 85) X dX5_canBind_11 (by decide) (by omega) (by omega) (fun c_11 => ?_) (fun c_11 => ?_)
  · have e : k = i := by omega
    subst e
    refine g_iload_n X dX5_canBind_85 rfl rfl ?_
    exact g_zret X hr hlk (bI_n _) dX5_canBind_86 ⟨rfl, rfl⟩
  · refine g_aload_n X dX5_canBind_14 rfl rfl ?_
    refine g_get_23_12 X hi5 (by decide +kernel) dX5_canBind_15 ?_
    refine g_bipush (v := nI 15) X dX5_canBind_18 (by decide) ?_
    refine g_iconstN X 4 dX5_canBind_20 ?_
    refine g_iload_n X dX5_canBind_21 rfl rfl ?_
    refine g_imulN X dX5_canBind_22 ?_
    refine g_iaddN X dX5_canBind_23 ?_
    refine g_ald_29 X rfl (by omega) dX5_canBind_24 ?_
    refine g_top (y := nI (su i)) (hsu i (by omega)).1 ?_
    refine g_istore_n3 X dX5_canBind_25 rfl (by decide) rfl ?_
    refine g_iload_n X dX5_canBind_26 rfl rfl ?_
    refine g_if_eq (tgt := 77) X dX5_canBind_27 (by decide) (fun c_27 => ?_) (fun c_27 => ?_)
    · replace c_27 := bI_f c_27
      refine g_iconstN X 0 dX5_canBind_77 ?_
      refine g_istore_n1 X dX5_canBind_78 rfl (by decide) rfl ?_
      refine g_iincN2 (d := 1) X dX5_canBind_79 (by decide) rfl ?_
      refine g_goto (tgt := 4) X dX5_canBind_82 (by decide) ?_
      exact g_le (by simp [gl_le, cbI, c_27, bI]) (ih4 (by omega))
    · replace c_27 := bI_t c_27
      have hs8 := (hsu i (by omega)).2
      refine g_aload_n X dX5_canBind_30 rfl rfl ?_
      refine g_iload_n X dX5_canBind_31 rfl rfl ?_
      refine g_callVi (na := 1) X hj (k_X5_bound l γ _ N L _ hS) gW_23 rfl gX5_canBind_X5_bound rfl ⟨rfl, rfl⟩ (by decide +kernel) rfl ⟨by decide, by decide⟩ rfl (Nat.le_of_ble_eq_true rfl) dX5_canBind_32 ⟨by decide, by decide⟩ ?_
      refine g_aload_n X dX5_canBind_35 rfl rfl ?_
      refine g_get_23_12 X hi5 (by decide +kernel) dX5_canBind_36 ?_
      refine g_bipush (v := nI 15) X dX5_canBind_39 (by decide) ?_
      refine g_iconstN X 4 dX5_canBind_41 ?_
      refine g_iload_n X dX5_canBind_42 rfl rfl ?_
      refine g_imulN X dX5_canBind_43 ?_
      refine g_iaddN X dX5_canBind_44 ?_
      refine g_iconstN X 1 dX5_canBind_45 ?_
      refine g_iaddN X dX5_canBind_46 ?_
      refine g_ald_29 X rfl (by omega) dX5_canBind_47 ?_
      refine g_iadd X dX5_canBind_48 ?_
      refine g_i2l X dX5_canBind_49 rfl ?_
      refine g_aload_n X dX5_canBind_50 rfl rfl ?_
      refine g_get_23_0 X hi5 (by decide +kernel) dX5_canBind_51 ?_
      refine g_bipush (v := nI 9) X dX5_canBind_54 (by decide) ?_
      refine g_iload_n X dX5_canBind_56 rfl rfl ?_
      refine g_iaddN X dX5_canBind_57 ?_
      refine g_ald_24 X rfl (by omega) dX5_canBind_58 ?_
      refine g_i2l X dX5_canBind_59 rfl ?_
      refine g_aload_n X dX5_canBind_60 rfl rfl ?_
      refine g_get_23_0 X hi5 (by decide +kernel) dX5_canBind_61 ?_
      refine g_bipush (v := nI 8) X dX5_canBind_64 (by decide) ?_
      refine g_ald_24 X rfl (by omega) dX5_canBind_66 ?_
      refine g_i2l X dX5_canBind_67 rfl ?_
      refine g_lmul X dX5_canBind_68 ?_
      refine g_lcmp X dX5_canBind_69 ?_
      refine g_if_gt (tgt := 77) X dX5_canBind_70 (by decide) (fun c_70 => ?_) (fun c_70 => ?_)
      · refine g_iconstN X 0 dX5_canBind_77 ?_
        refine g_istore_n1 X dX5_canBind_78 rfl (by decide) rfl ?_
        refine g_iincN2 (d := 1) X dX5_canBind_79 (by decide) rfl ?_
        refine g_goto (tgt := 4) X dX5_canBind_82 (by decide) ?_
        have q9 : cbC (σ.1 24) (σ.1 29) N L su i = false := by unfold cbC; exact decide_eq_false (Int32.not_le.mpr c_70)
        exact g_le (by simp [gl_le, cbI, q9, c_27, bI]) (ih4 (by omega))
      · refine g_iconstN X 1 dX5_canBind_73 ?_
        refine g_goto (tgt := 78) X dX5_canBind_74 (by decide) ?_
        refine g_istore_n1 X dX5_canBind_78 rfl (by decide) rfl ?_
        refine g_iincN2 (d := 1) X dX5_canBind_79 (by decide) rfl ?_
        refine g_goto (tgt := 4) X dX5_canBind_82 (by decide) ?_
        have q9 : cbC (σ.1 24) (σ.1 29) N L su i = true := by unfold cbC; exact decide_eq_true (Int32.not_lt.mp c_70)
        exact g_le (by simp [gl_le, cbI, q9, c_27, bI]) (ih4 (by omega))
set_option maxRecDepth 20000 in
theorem k_X5_give_1t (l : Launch) (γ : gG) (σ : gS) (mb : Nat) (hm : σ.1 23 5 = nI mb) (hm60 : mb ≤ 60) (t : TR) (ht : isT (nxT (σ.1 27) mb) mb (σ.1 29) = t) (h : t.1 = false) : gM l γ yX5_give wsX5_give ({ frames := 4, cells := 0, slots := 0, locals := 91 } : Room) [.ref (ad γ 23)] σ (gis (some (.int (nI 0))) (sM (tW (okM σ) t.2.1 t.2.2) 6 (nI 1))) 0 0 := by
  refine g_enter (own := RX5) (cc := cX5_give) (nL := 4) (ret := (some .int)) [some (.ref (ad γ 23)), none, none, none] (by decide) rfl rfl (by simp [lg_sl, Value.category]) (by simp [gl_le, glE, Value.category]) (fun hj p e s m args below meth c X hr hlk hnm => ?_)
  have hi5 : ∀ w ∈ wsX50, w ∈ wsX5_give := by decide +kernel
  refine g_aload_n X dX5_give_0 rfl rfl ?_
  refine g_iconstN X 0 dX5_give_1 ?_
  refine g_put_23_6 X hi5 (by decide +kernel) dX5_give_2 ?_
  refine g_eq rfl (σ' := okM σ) rfl ?_
  refine g_aload_n X dX5_give_5 rfl rfl ?_
  refine g_callVi (na := 0) X hj (k_X5_isText l γ (okM σ) mb (okM_f hm (by decide)) hm60) gW_23 rfl gX5_give_X5_isText rfl ⟨rfl, rfl⟩ (by decide +kernel) rfl ⟨by decide, by decide⟩ rfl (Nat.le_of_ble_eq_true rfl) dX5_give_6 ⟨by decide, by decide⟩ ?_
  rw [show isT (nxT ((okM σ).1 27) mb) mb ((okM σ).1 29) = t from ht]
  refine g_if_eq (tgt := 19) X dX5_give_9 (by decide) (fun c_9 => ?_) (fun c_9 => absurd (bI_0 h) c_9)
  refine g_aload_n X dX5_give_19 rfl rfl ?_
  refine g_iconstN X 1 dX5_give_20 ?_
  refine g_callVi (na := 1) X hj (k_X5_fails l γ _ _) gW_23 rfl gX5_give_X5_fails rfl ⟨rfl, rfl⟩ (by decide +kernel) rfl ⟨by decide, by decide⟩ rfl (Nat.le_of_ble_eq_true rfl) dX5_give_21 ⟨by decide, by decide⟩ ?_
  exact g_iret X hr hlk dX5_give_24 ⟨rfl, rfl⟩
set_option maxRecDepth 20000 in
theorem k_X5_give_1g (l : Launch) (γ : gG) (σ : gS) (mb : Nat) (hm : σ.1 23 5 = nI mb) (hm60 : mb ≤ 60) (t : TR) (ht : isT (nxT (σ.1 27) mb) mb (σ.1 29) = t) (k q : Nat) (hk : t.2.2 3 = nI k) (hk4 : k ≤ 4) (hq : t.2.2 4 = nI q) (hq5 : q ≤ 5) (h : t.1 = true) (hg : gdB t.2.2 k q = false) : gM l γ yX5_give wsX5_give ({ frames := 4, cells := 0, slots := 0, locals := 91 } : Room) [.ref (ad γ 23)] σ (gis (some (.int (nI 0))) (sM (tW (okM σ) t.2.1 t.2.2) 6 (nI 1))) 0 0 := by
  refine g_enter (own := RX5) (cc := cX5_give) (nL := 4) (ret := (some .int)) [some (.ref (ad γ 23)), none, none, none] (by decide) rfl rfl (by simp [lg_sl, Value.category]) (by simp [gl_le, glE, Value.category]) (fun hj p e s m args below meth c X hr hlk hnm => ?_)
  have hi5 : ∀ w ∈ wsX50, w ∈ wsX5_give := by decide +kernel
  refine g_aload_n X dX5_give_0 rfl rfl ?_
  refine g_iconstN X 0 dX5_give_1 ?_
  refine g_put_23_6 X hi5 (by decide +kernel) dX5_give_2 ?_
  refine g_eq rfl (σ' := okM σ) rfl ?_
  refine g_aload_n X dX5_give_5 rfl rfl ?_
  refine g_callVi (na := 0) X hj (k_X5_isText l γ (okM σ) mb (okM_f hm (by decide)) hm60) gW_23 rfl gX5_give_X5_isText rfl ⟨rfl, rfl⟩ (by decide +kernel) rfl ⟨by decide, by decide⟩ rfl (Nat.le_of_ble_eq_true rfl) dX5_give_6 ⟨by decide, by decide⟩ ?_
  rw [show isT (nxT ((okM σ).1 27) mb) mb ((okM σ).1 29) = t from ht]
  refine g_if_eq (tgt := 19) X dX5_give_9 (by decide) (fun c_9 => absurd c_9 (bI_1 h)) (fun c_9 => ?_)
  refine g_aload_n X dX5_give_12 rfl rfl ?_
  refine g_callVi (na := 0) X hj (k_X5_isGood l γ (tW (okM σ) t.2.1 t.2.2) k q hk hk4 hq hq5) gW_23 rfl gX5_give_X5_isGood rfl ⟨rfl, rfl⟩ (by decide +kernel) rfl ⟨by decide, by decide⟩ rfl (Nat.le_of_ble_eq_true rfl) dX5_give_13 ⟨by decide, by decide⟩ ?_
  refine g_if_ne (tgt := 25) X dX5_give_16 (by decide) (fun c_16 => absurd (bI_0 hg) c_16) (fun c_16 => ?_)
  refine g_aload_n X dX5_give_19 rfl rfl ?_
  refine g_iconstN X 1 dX5_give_20 ?_
  refine g_callVi (na := 1) X hj (k_X5_fails l γ _ _) gW_23 rfl gX5_give_X5_fails rfl ⟨rfl, rfl⟩ (by decide +kernel) rfl ⟨by decide, by decide⟩ rfl (Nat.le_of_ble_eq_true rfl) dX5_give_21 ⟨by decide, by decide⟩ ?_
  exact g_iret X hr hlk dX5_give_24 ⟨rfl, rfl⟩
set_option maxRecDepth 20000 in
theorem k_X5_give_2 (l : Launch) (γ : gG) (σ : gS) (mb : Nat) (hm : σ.1 23 5 = nI mb) (hm60 : mb ≤ 60) (t : TR) (ht : isT (nxT (σ.1 27) mb) mb (σ.1 29) = t) (k q : Nat) (hk : t.2.2 3 = nI k) (hk4 : k ≤ 4) (hq : t.2.2 4 = nI q) (hq5 : q ≤ 5) (N : Nat) (L : Nat → Nat) (hS : SZ (σ.1 24) N L) (su : Nat → Nat) (hsu : ∀ i, i < k → t.2.2 (15 + 4 * i) = nI (su i) ∧ su i < 8) (h : t.1 = true) (hg : gdB t.2.2 k q = true) (hc : N = 10 ∨ cbI (σ.1 24) t.2.2 N L su k = false) : gM l γ yX5_give wsX5_give ({ frames := 4, cells := 0, slots := 0, locals := 91 } : Room) [.ref (ad γ 23)] σ (gis (some (.int (nI 0))) (sM (tW (okM σ) t.2.1 t.2.2) 6 (nI 2))) 0 0 := by
  have hN10 := hS.2.1
  refine g_enter (own := RX5) (cc := cX5_give) (nL := 4) (ret := (some .int)) [some (.ref (ad γ 23)), none, none, none] (by decide) rfl rfl (by simp [lg_sl, Value.category]) (by simp [gl_le, glE, Value.category]) (fun hj p e s m args below meth c X hr hlk hnm => ?_)
  have hi5 : ∀ w ∈ wsX50, w ∈ wsX5_give := by decide +kernel
  refine g_aload_n X dX5_give_0 rfl rfl ?_
  refine g_iconstN X 0 dX5_give_1 ?_
  refine g_put_23_6 X hi5 (by decide +kernel) dX5_give_2 ?_
  refine g_eq rfl (σ' := okM σ) rfl ?_
  refine g_aload_n X dX5_give_5 rfl rfl ?_
  refine g_callVi (na := 0) X hj (k_X5_isText l γ (okM σ) mb (okM_f hm (by decide)) hm60) gW_23 rfl gX5_give_X5_isText rfl ⟨rfl, rfl⟩ (by decide +kernel) rfl ⟨by decide, by decide⟩ rfl (Nat.le_of_ble_eq_true rfl) dX5_give_6 ⟨by decide, by decide⟩ ?_
  rw [show isT (nxT ((okM σ).1 27) mb) mb ((okM σ).1 29) = t from ht]
  refine g_if_eq (tgt := 19) X dX5_give_9 (by decide) (fun c_9 => absurd c_9 (bI_1 h)) (fun c_9 => ?_)
  refine g_aload_n X dX5_give_12 rfl rfl ?_
  refine g_callVi (na := 0) X hj (k_X5_isGood l γ (tW (okM σ) t.2.1 t.2.2) k q hk hk4 hq hq5) gW_23 rfl gX5_give_X5_isGood rfl ⟨rfl, rfl⟩ (by decide +kernel) rfl ⟨by decide, by decide⟩ rfl (Nat.le_of_ble_eq_true rfl) dX5_give_13 ⟨by decide, by decide⟩ ?_
  refine g_if_ne (tgt := 25) X dX5_give_16 (by decide) (fun c_16 => ?_) (fun c_16 => absurd c_16 (bI_1 hg))
  refine g_aload_n X dX5_give_25 rfl rfl ?_
  refine g_get_23_0 X hi5 (by decide +kernel) dX5_give_26 ?_
  refine g_iconstN X 0 dX5_give_29 ?_
  refine g_ald_24 X rfl (by omega) dX5_give_30 ?_
  refine g_top (y := nI N) hS.1 ?_
  refine g_bipush (v := nI 10) X dX5_give_31 (by decide) ?_
  refine g_icmpN_eq (tgt := 43) X dX5_give_33 (by decide) (by omega) (by omega) (fun c_33 => ?_) (fun c_33 => ?_)
  · refine g_aload_n X dX5_give_43 rfl rfl ?_
    refine g_iconstN X 2 dX5_give_44 ?_
    refine g_callVi (na := 1) X hj (k_X5_fails l γ _ _) gW_23 rfl gX5_give_X5_fails rfl ⟨rfl, rfl⟩ (by decide +kernel) rfl ⟨by decide, by decide⟩ rfl (Nat.le_of_ble_eq_true rfl) dX5_give_45 ⟨by decide, by decide⟩ ?_
    exact g_iret X hr hlk dX5_give_48 ⟨rfl, rfl⟩
  · refine g_aload_n X dX5_give_36 rfl rfl ?_
    refine g_callVi (na := 0) X hj (k_X5_canBind l γ (tW (okM σ) t.2.1 t.2.2) N L hS k su hk hk4 hsu) gW_23 rfl gX5_give_X5_canBind rfl ⟨rfl, rfl⟩ (by decide +kernel) rfl ⟨by decide, by decide⟩ rfl (Nat.le_of_ble_eq_true rfl) dX5_give_37 ⟨by decide, by decide⟩ ?_
    refine g_if_ne (tgt := 49) X dX5_give_40 (by decide) (fun c_40 => hc.elim (fun w => absurd w c_33) (fun w => absurd (bI_0 w) c_40)) (fun c_40 => ?_)
    refine g_aload_n X dX5_give_43 rfl rfl ?_
    refine g_iconstN X 2 dX5_give_44 ?_
    refine g_callVi (na := 1) X hj (k_X5_fails l γ _ _) gW_23 rfl gX5_give_X5_fails rfl ⟨rfl, rfl⟩ (by decide +kernel) rfl ⟨by decide, by decide⟩ rfl (Nat.le_of_ble_eq_true rfl) dX5_give_45 ⟨by decide, by decide⟩ ?_
    exact g_iret X hr hlk dX5_give_48 ⟨rfl, rfl⟩
def unT (σ : gS) (t : TR) (n : Nat) (z : Nat → Int32) : gS := svW (sA (tW (okM σ) t.2.1 t.2.2) 24 z) (rwM (σ.1 25) (σ.1 24) n) (upd (upd (upd (σ.1 23) 6 (nI 0)) 11 (nI t.2.1)) 3 (nI (min 6 (n + 1))))
theorem unT_24 (σ : gS) (t : TR) (n : Nat) (z : Nat → Int32) : (unT σ t n z).1 24 = z := rfl
theorem unT_29 (σ : gS) (t : TR) (n : Nat) (z : Nat → Int32) : (unT σ t n z).1 29 = t.2.2 := rfl
theorem unT_s24 (σ : gS) (t : TR) (n : Nat) (z g : Nat → Int32) : sA (unT σ t n z) 24 g = unT σ t n g := by
  unfold unT svW
  refine Prod.ext (funext fun o => ?_) rfl
  unfold sA
  dsimp only
  by_cases h : o = 24
  · subst h; rfl
  · rw [if_neg h]
    by_cases h2 : o = 25
    · rw [if_pos h2, if_pos h2]
    · rw [if_neg h2, if_neg h2]
      by_cases h3 : o = 23
      · rw [if_pos h3, if_pos h3]
      · rw [if_neg h3, if_neg h3, if_neg h, if_neg h]
theorem unT_0 (σ : gS) (t : TR) (n : Nat) : svW (tW (okM σ) t.2.1 t.2.2) (rwM ((tW (okM σ) t.2.1 t.2.2).1 25) ((tW (okM σ) t.2.1 t.2.2).1 24) n) (upd ((tW (okM σ) t.2.1 t.2.2).1 23) 3 (nI (min 6 (n + 1)))) = unT σ t n (σ.1 24) := by
  unfold unT
  rw [show sA (tW (okM σ) t.2.1 t.2.2) 24 (σ.1 24) = tW (okM σ) t.2.1 t.2.2 from sA_self _ 24, tW_23]
  unfold okM sM
  rw [sA_eq]
  rfl
set_option maxRecDepth 20000 in
theorem k_X5_give_ok (l : Launch) (γ : gG) (σ : gS) (mb : Nat) (hm : σ.1 23 5 = nI mb) (hm60 : mb ≤ 60) (t : TR) (ht : isT (nxT (σ.1 27) mb) mb (σ.1 29) = t) (k q : Nat) (hk : t.2.2 3 = nI k) (hk4 : k ≤ 4) (hq : t.2.2 4 = nI q) (hq5 : q ≤ 5) (N : Nat) (L : Nat → Nat) (hS : SZ (σ.1 24) N L) (su : Nat → Nat) (hsu : ∀ i, i < k → t.2.2 (15 + 4 * i) = nI (su i) ∧ su i < 8) (h : t.1 = true) (hg : gdB t.2.2 k q = true) (hN9 : N < 10) (hc : cbI (σ.1 24) t.2.2 N L su k = true) (n : Nat) (hn : σ.1 23 3 = nI n) (hn6 : n ≤ 6) : gM l γ yX5_give wsX5_give ({ frames := 4, cells := 0, slots := 0, locals := 91 } : Room) [.ref (ad γ 23)] σ (gis (some (.int (nI N))) (sM (unT σ t n (gvZ (σ.1 24) t.2.2 N k q)) 5 (nI 0))) 0 0 := by
  have hN10 := hS.2.1
  refine g_enter (own := RX5) (cc := cX5_give) (nL := 4) (ret := (some .int)) [some (.ref (ad γ 23)), none, none, none] (by decide) rfl rfl (by simp [lg_sl, Value.category]) (by simp [gl_le, glE, Value.category]) (fun hj p e s m args below meth c X hr hlk hnm => ?_)
  have hi5 : ∀ w ∈ wsX50, w ∈ wsX5_give := by decide +kernel
  refine g_aload_n X dX5_give_0 rfl rfl ?_
  refine g_iconstN X 0 dX5_give_1 ?_
  refine g_put_23_6 X hi5 (by decide +kernel) dX5_give_2 ?_
  refine g_eq rfl (σ' := okM σ) rfl ?_
  refine g_aload_n X dX5_give_5 rfl rfl ?_
  refine g_callVi (na := 0) X hj (k_X5_isText l γ (okM σ) mb (okM_f hm (by decide)) hm60) gW_23 rfl gX5_give_X5_isText rfl ⟨rfl, rfl⟩ (by decide +kernel) rfl ⟨by decide, by decide⟩ rfl (Nat.le_of_ble_eq_true rfl) dX5_give_6 ⟨by decide, by decide⟩ ?_
  rw [show isT (nxT ((okM σ).1 27) mb) mb ((okM σ).1 29) = t from ht]
  refine g_if_eq (tgt := 19) X dX5_give_9 (by decide) (fun c_9 => absurd c_9 (bI_1 h)) (fun c_9 => ?_)
  refine g_aload_n X dX5_give_12 rfl rfl ?_
  refine g_callVi (na := 0) X hj (k_X5_isGood l γ (tW (okM σ) t.2.1 t.2.2) k q hk hk4 hq hq5) gW_23 rfl gX5_give_X5_isGood rfl ⟨rfl, rfl⟩ (by decide +kernel) rfl ⟨by decide, by decide⟩ rfl (Nat.le_of_ble_eq_true rfl) dX5_give_13 ⟨by decide, by decide⟩ ?_
  refine g_if_ne (tgt := 25) X dX5_give_16 (by decide) (fun c_16 => ?_) (fun c_16 => absurd c_16 (bI_1 hg))
  refine g_aload_n X dX5_give_25 rfl rfl ?_
  refine g_get_23_0 X hi5 (by decide +kernel) dX5_give_26 ?_
  refine g_iconstN X 0 dX5_give_29 ?_
  refine g_ald_24 X rfl (by omega) dX5_give_30 ?_
  refine g_top (y := nI N) hS.1 ?_
  refine g_bipush (v := nI 10) X dX5_give_31 (by decide) ?_
  refine g_icmpN_eq (tgt := 43) X dX5_give_33 (by decide) (by omega) (by omega) (fun c_33 => absurd c_33 (by omega)) (fun c_33 => ?_)
  refine g_aload_n X dX5_give_36 rfl rfl ?_
  refine g_callVi (na := 0) X hj (k_X5_canBind l γ (tW (okM σ) t.2.1 t.2.2) N L hS k su hk hk4 hsu) gW_23 rfl gX5_give_X5_canBind rfl ⟨rfl, rfl⟩ (by decide +kernel) rfl ⟨by decide, by decide⟩ rfl (Nat.le_of_ble_eq_true rfl) dX5_give_37 ⟨by decide, by decide⟩ ?_
  refine g_if_ne (tgt := 49) X dX5_give_40 (by decide) (fun c_40 => ?_) (fun c_40 => absurd c_40 (bI_1 hc))
  refine g_aload_n X dX5_give_49 rfl rfl ?_
  refine g_callVv (na := 0) X hj (k_X5_save l γ _ n (tW_m (okM_f hn (by decide)) (by decide)) hn6) gW_23 rfl gX5_give_X5_save rfl ⟨rfl, rfl⟩ (by decide +kernel) rfl ⟨by decide, by decide⟩ rfl (Nat.le_of_ble_eq_true rfl) dX5_give_50 ⟨by decide, by decide⟩ ?_
  refine g_eq rfl (σ' := unT σ t n (σ.1 24)) (unT_0 σ t n) ?_
  refine g_aload_n X dX5_give_53 rfl rfl ?_
  refine g_get_23_0 X hi5 (by decide +kernel) dX5_give_54 ?_
  refine g_iconstN X 0 dX5_give_57 ?_
  refine g_ald_24 X rfl (by omega) dX5_give_58 ?_
  refine g_top (y := nI N) hS.1 ?_
  refine g_callSi (na := 1) X hj (k_X5_at l γ _ _) gX5_give_X5_at rfl ⟨rfl, rfl⟩ (by decide +kernel) rfl ⟨by decide, by decide⟩ rfl (Nat.le_of_ble_eq_true rfl) dX5_give_59 ⟨by decide, by decide⟩ ?_
  refine g_istore_n1 X dX5_give_62 rfl (by decide) rfl ?_
  refine g_iconstN X 0 dX5_give_63 ?_
  refine g_istore_n2 X dX5_give_64 rfl (by decide) rfl ?_
  refine g_up (i0 := 0) (N := 31) (fun i => [some (.ref (ad γ 23)), some (.int (nI (121 + 31 * N))), some (.int (nI i)), none]) (fun i => unT σ t n (gz0 (σ.1 24) (121 + 31 * N) i)) (by simp [gl_le]) (by rw [gz_0]) (by omega) (fun i hi ih65 => ?_)
  refine g_iload_n X dX5_give_65 rfl rfl ?_
  refine g_bipush (v := nI 31) X dX5_give_66 (by decide) ?_
  refine g_icmpN_ge (tgt := 86) X dX5_give_68 (by decide) (by omega) (by omega) (fun c_68 => ?_) (fun c_68 => ?_)
  · have e : i = 31 := by omega
    subst e
    refine g_iconstN X 0 dX5_give_86 ?_
    refine g_istore_n2 X dX5_give_87 rfl (by decide) rfl ?_
    refine g_up (i0 := 0) (N := 5) (fun i => [some (.ref (ad γ 23)), some (.int (nI (121 + 31 * N))), some (.int (nI i)), none]) (fun i => unT σ t n (gz1 (gz0 (σ.1 24) (121 + 31 * N) 31) t.2.2 (121 + 31 * N) i)) (by simp [gl_le]) (by rw [gz1_0]) (by omega) (fun i hi ih88 => ?_)
    refine g_iload_n X dX5_give_88 rfl rfl ?_
    refine g_iconstN X 5 dX5_give_89 ?_
    refine g_icmpN_ge (tgt := 113) X dX5_give_90 (by decide) (by omega) (by omega) (fun c_90 => ?_) (fun c_90 => ?_)
    · have e : i = 5 := by omega
      subst e
      refine g_aload_n X dX5_give_113 rfl rfl ?_
      refine g_get_23_0 X hi5 (by decide +kernel) dX5_give_114 ?_
      refine g_iload_n X dX5_give_117 rfl rfl ?_
      refine g_bipush (v := nI 9) X dX5_give_118 (by decide) ?_
      refine g_iaddN X dX5_give_120 ?_
      refine g_iconstN X 1 dX5_give_121 ?_
      refine g_ast_24 X rfl (by omega) dX5_give_122 ?_
      simp only [unT_s24, unT_24, unT_29]
      refine g_eq rfl (σ' := unT σ t n (gvA (σ.1 24) t.2.2 N)) rfl ?_
      refine g_iconstN X 0 dX5_give_123 ?_
      refine g_istore_n2 X dX5_give_124 rfl (by decide) rfl ?_
      refine g_up (i0 := 0) (N := q) (fun i => [some (.ref (ad γ 23)), some (.int (nI (121 + 31 * N))), some (.int (nI i)), none]) (fun i => unT σ t n (gz3 (gvA (σ.1 24) t.2.2 N) t.2.2 (121 + 31 * N) i)) (by simp [gl_le]) (by rw [gz3_0]) (by omega) (fun i hi ih125 => ?_)
      refine g_iload_n X dX5_give_125 rfl rfl ?_
      refine g_aload_n X dX5_give_126 rfl rfl ?_
      refine g_get_23_12 X hi5 (by decide +kernel) dX5_give_127 ?_
      refine g_iconstN X 4 dX5_give_130 ?_
      refine g_ald_29 X rfl (by omega) dX5_give_131 ?_
      refine g_top (y := nI q) hq ?_
      refine g_icmpN_ge (tgt := 161) X dX5_give_132 (by decide) (by omega) (by omega) (fun c_132 => ?_) (fun c_132 => ?_)
      · have e : q = i := by omega
        subst e
        refine g_iconstN X 0 dX5_give_161 ?_
        refine g_istore_n2 X dX5_give_162 rfl (by decide) rfl ?_
        refine g_up (i0 := 0) (N := k) (fun i => [some (.ref (ad γ 23)), some (.int (nI (121 + 31 * N))), some (.int (nI i)), none]) (fun i => unT σ t n (gz4 (gz3 (gvA (σ.1 24) t.2.2 N) t.2.2 (121 + 31 * N) q) t.2.2 (121 + 31 * N) i)) (by simp [gl_le]) rfl (by omega) (fun i hi ih163 => ?_)
        refine g_iload_n X dX5_give_163 rfl rfl ?_
        refine g_aload_n X dX5_give_164 rfl rfl ?_
        refine g_get_23_12 X hi5 (by decide +kernel) dX5_give_165 ?_
        refine g_iconstN X 3 dX5_give_168 ?_
        refine g_ald_29 X rfl (by omega) dX5_give_169 ?_
        refine g_top (y := nI k) hk ?_
        refine g_icmpN_ge (tgt := 236) X dX5_give_170 (by decide) (by omega) (by omega) (fun c_170 => ?_) (fun c_170 => ?_)
        · have e : k = i := by omega
          subst e
          refine g_aload_n X dX5_give_236 rfl rfl ?_
          refine g_get_23_0 X hi5 (by decide +kernel) dX5_give_237 ?_
          refine g_iconstN X 0 dX5_give_240 ?_
          refine g_dup2_11 X dX5_give_241 rfl rfl ?_
          refine g_ald_24 X rfl (by omega) dX5_give_242 ?_
          refine g_top (y := nI N) (by rw [unT_24, gv_0 _ _ (by decide)]; exact hS.1) ?_
          refine g_iconstN X 1 dX5_give_243 ?_
          refine g_iaddN X dX5_give_244 ?_
          refine g_ast_24 X rfl (by omega) dX5_give_245 ?_
          simp only [unT_s24, unT_24, unT_29]
          refine g_eq rfl (σ' := unT σ t n (gvZ (σ.1 24) t.2.2 N k q)) rfl ?_
          refine g_aload_n X dX5_give_246 rfl rfl ?_
          refine g_iconstN X 0 dX5_give_247 ?_
          refine g_put_23_5 X hi5 (by decide +kernel) dX5_give_248 ?_
          refine g_eq rfl (σ' := sM (unT σ t n (gvZ (σ.1 24) t.2.2 N k q)) 5 (nI 0)) rfl ?_
          refine g_aload_n X dX5_give_251 rfl rfl ?_
          refine g_get_23_0 X hi5 (by decide +kernel) dX5_give_252 ?_
          refine g_iconstN X 0 dX5_give_255 ?_
          refine g_ald_24 X rfl (by omega) dX5_give_256 ?_
          refine g_top (y := nI (N + 1)) (by unfold sM; rw [sA_ne _ _ (by decide), unT_24]; exact pk_us) ?_
          refine g_iconstN X 1 dX5_give_257 ?_
          refine g_isubN X dX5_give_258 (by omega) ?_
          exact g_iret X hr hlk dX5_give_259 ⟨rfl, rfl⟩
        · refine g_bipush (v := nI 15) X dX5_give_173 (by decide) ?_
          refine g_iconstN X 4 dX5_give_175 ?_
          refine g_iload_n X dX5_give_176 rfl rfl ?_
          refine g_imulN X dX5_give_177 ?_
          refine g_iaddN X dX5_give_178 ?_
          refine g_istore_n3 X dX5_give_179 rfl (by decide) rfl ?_
          refine g_aload_n X dX5_give_180 rfl rfl ?_
          refine g_get_23_0 X hi5 (by decide +kernel) dX5_give_181 ?_
          refine g_iload_n X dX5_give_184 rfl rfl ?_
          refine g_iload_n X dX5_give_185 rfl rfl ?_
          refine g_iaddN X dX5_give_186 ?_
          refine g_aload_n X dX5_give_187 rfl rfl ?_
          refine g_get_23_12 X hi5 (by decide +kernel) dX5_give_188 ?_
          refine g_iload_n X dX5_give_191 rfl rfl ?_
          refine g_ald_29 X rfl (by omega) dX5_give_192 ?_
          simp only [unT_29]
          refine g_ast_24 X rfl (by omega) dX5_give_193 ?_
          simp only [unT_s24, unT_24]
          refine g_aload_n X dX5_give_194 rfl rfl ?_
          refine g_get_23_0 X hi5 (by decide +kernel) dX5_give_195 ?_
          refine g_iload_n X dX5_give_198 rfl rfl ?_
          refine g_iload_n X dX5_give_199 rfl rfl ?_
          refine g_iaddN X dX5_give_200 ?_
          refine g_iconstN X 1 dX5_give_201 ?_
          refine g_iaddN X dX5_give_202 ?_
          refine g_aload_n X dX5_give_203 rfl rfl ?_
          refine g_get_23_12 X hi5 (by decide +kernel) dX5_give_204 ?_
          refine g_iload_n X dX5_give_207 rfl rfl ?_
          refine g_iconstN X 1 dX5_give_208 ?_
          refine g_iaddN X dX5_give_209 ?_
          refine g_ald_29 X rfl (by omega) dX5_give_210 ?_
          simp only [unT_29]
          refine g_ast_24 X rfl (by omega) dX5_give_211 ?_
          simp only [unT_s24, unT_24]
          refine g_aload_n X dX5_give_212 rfl rfl ?_
          refine g_get_23_0 X hi5 (by decide +kernel) dX5_give_213 ?_
          refine g_iload_n X dX5_give_216 rfl rfl ?_
          refine g_iload_n X dX5_give_217 rfl rfl ?_
          refine g_iaddN X dX5_give_218 ?_
          refine g_iconstN X 2 dX5_give_219 ?_
          refine g_iaddN X dX5_give_220 ?_
          refine g_aload_n X dX5_give_221 rfl rfl ?_
          refine g_get_23_12 X hi5 (by decide +kernel) dX5_give_222 ?_
          refine g_iload_n X dX5_give_225 rfl rfl ?_
          refine g_iconstN X 1 dX5_give_226 ?_
          refine g_iaddN X dX5_give_227 ?_
          refine g_ald_29 X rfl (by omega) dX5_give_228 ?_
          simp only [unT_29]
          refine g_ast_24 X rfl (by omega) dX5_give_229 ?_
          simp only [unT_s24, unT_24]
          refine g_iincN2 (d := 1) X dX5_give_230 (by decide) rfl ?_
          refine g_goto (tgt := 163) X dX5_give_233 (by decide) ?_
          exact g_le (by simp [gl_le]) (ih163 (by omega))
      · refine g_aload_n X dX5_give_135 rfl rfl ?_
        refine g_get_23_0 X hi5 (by decide +kernel) dX5_give_136 ?_
        refine g_iload_n X dX5_give_139 rfl rfl ?_
        refine g_bipush (v := nI 10) X dX5_give_140 (by decide) ?_
        refine g_iaddN X dX5_give_142 ?_
        refine g_iload_n X dX5_give_143 rfl rfl ?_
        refine g_iaddN X dX5_give_144 ?_
        refine g_aload_n X dX5_give_145 rfl rfl ?_
        refine g_get_23_12 X hi5 (by decide +kernel) dX5_give_146 ?_
        refine g_bipush (v := nI 10) X dX5_give_149 (by decide) ?_
        refine g_iload_n X dX5_give_151 rfl rfl ?_
        refine g_iaddN X dX5_give_152 ?_
        refine g_ald_29 X rfl (by omega) dX5_give_153 ?_
        simp only [unT_29]
        refine g_ast_24 X rfl (by omega) dX5_give_154 ?_
        refine g_iincN2 (d := 1) X dX5_give_155 (by decide) rfl ?_
        refine g_goto (tgt := 125) X dX5_give_158 (by decide) ?_
        simp only [unT_s24, unT_24, gz3_s]
        exact g_le (by simp [gl_le]) (ih125 (by omega))
    · refine g_aload_n X dX5_give_93 rfl rfl ?_
      refine g_get_23_0 X hi5 (by decide +kernel) dX5_give_94 ?_
      refine g_iload_n X dX5_give_97 rfl rfl ?_
      refine g_iload_n X dX5_give_98 rfl rfl ?_
      refine g_iaddN X dX5_give_99 ?_
      refine g_aload_n X dX5_give_100 rfl rfl ?_
      refine g_get_23_12 X hi5 (by decide +kernel) dX5_give_101 ?_
      refine g_iload_n X dX5_give_104 rfl rfl ?_
      refine g_ald_29 X rfl (by omega) dX5_give_105 ?_
      simp only [unT_29]
      refine g_ast_24 X rfl (by omega) dX5_give_106 ?_
      refine g_iincN2 (d := 1) X dX5_give_107 (by decide) rfl ?_
      refine g_goto (tgt := 88) X dX5_give_110 (by decide) ?_
      simp only [unT_s24, unT_24, gz1_s]
      exact g_le (by simp [gl_le]) (ih88 (by omega))
  · refine g_aload_n X dX5_give_71 rfl rfl ?_
    refine g_get_23_0 X hi5 (by decide +kernel) dX5_give_72 ?_
    refine g_iload_n X dX5_give_75 rfl rfl ?_
    refine g_iload_n X dX5_give_76 rfl rfl ?_
    refine g_iaddN X dX5_give_77 ?_
    refine g_iconstN X 0 dX5_give_78 ?_
    refine g_ast_24 X rfl (by omega) dX5_give_79 ?_
    refine g_iincN2 (d := 1) X dX5_give_80 (by decide) rfl ?_
    refine g_goto (tgt := 65) X dX5_give_83 (by decide) ?_
    simp only [unT_s24, unT_24, gz0_s]
    exact g_le (by simp [gl_le]) (ih65 (by omega))
