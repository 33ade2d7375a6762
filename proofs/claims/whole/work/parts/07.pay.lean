/-! THE PAYMENT -/
/-- the world, but the payment's things as told -/
def pyS (σ : gS) (bo pr am bp pd th : Int32) (ca ow mg du bl : Nat → Int32) (re : Nat → Int64) : gS :=
  (fun o => if o = 16 then (fun f => if f = 6 then bo else if f = 7 then pr else if f = 8 then am else if f = 9 then bp else if f = 10 then pd else if f = 11 then th else σ.1 16 f) else if o = 17 then ca else if o = 18 then ow else if o = 19 then mg else if o = 20 then du else if o = 21 then bl else σ.1 o, fun o => if o = 22 then re else σ.2 o)
theorem pyS_id (σ : gS) : pyS σ (σ.1 16 6) (σ.1 16 7) (σ.1 16 8) (σ.1 16 9) (σ.1 16 10) (σ.1 16 11) (σ.1 17) (σ.1 18) (σ.1 19) (σ.1 20) (σ.1 21) (σ.2 22) = σ := by
  unfold pyS
  refine Prod.ext (funext fun o => ?_) (funext fun o => ?_)
  · dsimp only
    by_cases h : o = 16
    · subst h
      rw [if_pos rfl]
      funext f
      repeat' split
      all_goals first | rfl | (rename_i h1; subst h1; rfl) | (rename_i h1 _; subst h1; rfl) | simp_all
    · rw [if_neg h]
      repeat' split
      all_goals first | rfl | simp_all
  · dsimp only
    split <;> simp_all
theorem fn2 {P : Nat → Nat → Int32} {Q : Nat → Nat → Int32} (h : ∀ o f, P o f = Q o f) : P = Q := funext fun o => funext fun f => h o f
section PY
variable {σ : gS} {bo pr am bp pd th x : Int32} {ca ow mg du bl g : Nat → Int32} {re gl : Nat → Int64}
theorem py_16_6 : (pyS σ bo pr am bp pd th ca ow mg du bl re).1 16 6 = bo := rfl
theorem py_16_7 : (pyS σ bo pr am bp pd th ca ow mg du bl re).1 16 7 = pr := rfl
theorem py_16_8 : (pyS σ bo pr am bp pd th ca ow mg du bl re).1 16 8 = am := rfl
theorem py_16_9 : (pyS σ bo pr am bp pd th ca ow mg du bl re).1 16 9 = bp := rfl
theorem py_16_10 : (pyS σ bo pr am bp pd th ca ow mg du bl re).1 16 10 = pd := rfl
theorem py_16_11 : (pyS σ bo pr am bp pd th ca ow mg du bl re).1 16 11 = th := rfl
theorem py_17 : (pyS σ bo pr am bp pd th ca ow mg du bl re).1 17 = ca := rfl
theorem py_18 : (pyS σ bo pr am bp pd th ca ow mg du bl re).1 18 = ow := rfl
theorem py_19 : (pyS σ bo pr am bp pd th ca ow mg du bl re).1 19 = mg := rfl
theorem py_20 : (pyS σ bo pr am bp pd th ca ow mg du bl re).1 20 = du := rfl
theorem py_21 : (pyS σ bo pr am bp pd th ca ow mg du bl re).1 21 = bl := rfl
theorem py_22 : (pyS σ bo pr am bp pd th ca ow mg du bl re).2 22 = re := rfl
theorem py_2 : (pyS σ bo pr am bp pd th ca ow mg du bl re).1 2 = σ.1 2 := rfl
theorem py_3 : (pyS σ bo pr am bp pd th ca ow mg du bl re).1 3 = σ.1 3 := rfl
theorem py_5 : (pyS σ bo pr am bp pd th ca ow mg du bl re).1 5 = σ.1 5 := rfl
theorem py_6 : (pyS σ bo pr am bp pd th ca ow mg du bl re).1 6 = σ.1 6 := rfl
theorem py_7 : (pyS σ bo pr am bp pd th ca ow mg du bl re).1 7 = σ.1 7 := rfl
theorem py_8 : (pyS σ bo pr am bp pd th ca ow mg du bl re).1 8 = σ.1 8 := rfl
theorem py_9 : (pyS σ bo pr am bp pd th ca ow mg du bl re).1 9 = σ.1 9 := rfl
theorem py_10 : (pyS σ bo pr am bp pd th ca ow mg du bl re).1 10 = σ.1 10 := rfl
theorem py_11 : (pyS σ bo pr am bp pd th ca ow mg du bl re).1 11 = σ.1 11 := rfl
theorem py_12 : (pyS σ bo pr am bp pd th ca ow mg du bl re).1 12 = σ.1 12 := rfl
theorem py_13 : (pyS σ bo pr am bp pd th ca ow mg du bl re).1 13 = σ.1 13 := rfl
theorem py_14 : (pyS σ bo pr am bp pd th ca ow mg du bl re).1 14 = σ.1 14 := rfl
theorem py_15 : (pyS σ bo pr am bp pd th ca ow mg du bl re).1 15 = σ.1 15 := rfl
theorem py_w6 : sA (pyS σ bo pr am bp pd th ca ow mg du bl re) 16 (upd ((pyS σ bo pr am bp pd th ca ow mg du bl re).1 16) 6 x) = (pyS σ x pr am bp pd th ca ow mg du bl re) := by
  unfold pyS sA
  refine Prod.ext (fn2 fun o q => ?_) rfl
  dsimp only [upd]
  by_cases h : o = 16
  · subst h
    simp only [if_true]
    by_cases h2 : q = 6
    · subst h2; rfl
    · simp only [upd, if_neg h2]
  · simp only [if_neg h]
theorem py_w7 : sA (pyS σ bo pr am bp pd th ca ow mg du bl re) 16 (upd ((pyS σ bo pr am bp pd th ca ow mg du bl re).1 16) 7 x) = (pyS σ bo x am bp pd th ca ow mg du bl re) := by
  unfold pyS sA
  refine Prod.ext (fn2 fun o q => ?_) rfl
  dsimp only [upd]
  by_cases h : o = 16
  · subst h
    simp only [if_true]
    by_cases h2 : q = 7
    · subst h2; rfl
    · simp only [upd, if_neg h2]
  · simp only [if_neg h]
theorem py_w8 : sA (pyS σ bo pr am bp pd th ca ow mg du bl re) 16 (upd ((pyS σ bo pr am bp pd th ca ow mg du bl re).1 16) 8 x) = (pyS σ bo pr x bp pd th ca ow mg du bl re) := by
  unfold pyS sA
  refine Prod.ext (fn2 fun o q => ?_) rfl
  dsimp only [upd]
  by_cases h : o = 16
  · subst h
    simp only [if_true]
    by_cases h2 : q = 8
    · subst h2; rfl
    · simp only [upd, if_neg h2]
  · simp only [if_neg h]
theorem py_w9 : sA (pyS σ bo pr am bp pd th ca ow mg du bl re) 16 (upd ((pyS σ bo pr am bp pd th ca ow mg du bl re).1 16) 9 x) = (pyS σ bo pr am x pd th ca ow mg du bl re) := by
  unfold pyS sA
  refine Prod.ext (fn2 fun o q => ?_) rfl
  dsimp only [upd]
  by_cases h : o = 16
  · subst h
    simp only [if_true]
    by_cases h2 : q = 9
    · subst h2; rfl
    · simp only [upd, if_neg h2]
  · simp only [if_neg h]
theorem py_w10 : sA (pyS σ bo pr am bp pd th ca ow mg du bl re) 16 (upd ((pyS σ bo pr am bp pd th ca ow mg du bl re).1 16) 10 x) = (pyS σ bo pr am bp x th ca ow mg du bl re) := by
  unfold pyS sA
  refine Prod.ext (fn2 fun o q => ?_) rfl
  dsimp only [upd]
  by_cases h : o = 16
  · subst h
    simp only [if_true]
    by_cases h2 : q = 10
    · subst h2; rfl
    · simp only [upd, if_neg h2]
  · simp only [if_neg h]
theorem py_w11 : sA (pyS σ bo pr am bp pd th ca ow mg du bl re) 16 (upd ((pyS σ bo pr am bp pd th ca ow mg du bl re).1 16) 11 x) = (pyS σ bo pr am bp pd x ca ow mg du bl re) := by
  unfold pyS sA
  refine Prod.ext (fn2 fun o q => ?_) rfl
  dsimp only [upd]
  by_cases h : o = 16
  · subst h
    simp only [if_true]
    by_cases h2 : q = 11
    · subst h2; rfl
    · simp only [upd, if_neg h2]
  · simp only [if_neg h]
theorem py_w17 : sA (pyS σ bo pr am bp pd th ca ow mg du bl re) 17 g = (pyS σ bo pr am bp pd th g ow mg du bl re) := by
  unfold pyS sA
  refine Prod.ext (funext fun o => ?_) rfl
  dsimp only
  by_cases h : o = 17
  · subst h; rfl
  · simp only [if_neg h]
theorem py_w18 : sA (pyS σ bo pr am bp pd th ca ow mg du bl re) 18 g = (pyS σ bo pr am bp pd th ca g mg du bl re) := by
  unfold pyS sA
  refine Prod.ext (funext fun o => ?_) rfl
  dsimp only
  by_cases h : o = 18
  · subst h; rfl
  · simp only [if_neg h]
theorem py_w19 : sA (pyS σ bo pr am bp pd th ca ow mg du bl re) 19 g = (pyS σ bo pr am bp pd th ca ow g du bl re) := by
  unfold pyS sA
  refine Prod.ext (funext fun o => ?_) rfl
  dsimp only
  by_cases h : o = 19
  · subst h; rfl
  · simp only [if_neg h]
theorem py_w20 : sA (pyS σ bo pr am bp pd th ca ow mg du bl re) 20 g = (pyS σ bo pr am bp pd th ca ow mg g bl re) := by
  unfold pyS sA
  refine Prod.ext (funext fun o => ?_) rfl
  dsimp only
  by_cases h : o = 20
  · subst h; rfl
  · simp only [if_neg h]
theorem py_w21 : sA (pyS σ bo pr am bp pd th ca ow mg du bl re) 21 g = (pyS σ bo pr am bp pd th ca ow mg du g re) := by
  unfold pyS sA
  refine Prod.ext (funext fun o => ?_) rfl
  dsimp only
  by_cases h : o = 21
  · subst h; rfl
  · simp only [if_neg h]
theorem py_w22 : sL (pyS σ bo pr am bp pd th ca ow mg du bl re) 22 gl = (pyS σ bo pr am bp pd th ca ow mg du bl gl) := by
  unfold pyS sL
  refine Prod.ext rfl (funext fun o => ?_)
  dsimp only
  by_cases h : o = 22
  · subst h; rfl
  · simp only [if_neg h]
theorem py_c (f : Nat → Int32) : sA (pyS σ bo pr am bp pd th ca ow mg du bl re) 2 f = pyS (sA σ 2 f) bo pr am bp pd th ca ow mg du bl re := by
  unfold pyS sA
  refine Prod.ext (funext fun o => ?_) rfl
  dsimp only
  by_cases h : o = 2
  · subst h; rfl
  · simp only [if_neg h]
    rfl
end PY
def mn (x y : Int32) : Int32 := if y < x then y else x
def fillI {α : Type} (old new : Nat → α) (i : Nat) : Nat → α := fun q => if q < i then new q else old q
theorem fill_s (old new : Nat → Int32) (i : Nat) : upd (fillI old new i) i (new i) = fillI old new (i + 1) := by
  funext q
  unfold upd fillI
  by_cases h : q = i
  · subst h; simp
  · rw [if_neg h]
    by_cases h2 : q < i
    · rw [if_pos h2, if_pos (by omega)]
    · rw [if_neg h2, if_neg (by omega)]
theorem fill_l (old new : Nat → Int64) (i : Nat) : vp_updL (fillI old new i) i (new i) = fillI old new (i + 1) := by
  funext q
  unfold vp_updL fillI
  by_cases h : q = i
  · subst h; simp
  · rw [if_neg h]
    by_cases h2 : q < i
    · rw [if_pos h2, if_pos (by omega)]
    · rw [if_neg h2, if_neg (by omega)]
theorem fill_0 {α : Type} (old new : Nat → α) : fillI old new 0 = old := by
  funext q
  simp [fillI]
abbrev T3 : Type := (Nat → Int32) × (Nat → Int32) × (Nat → Int32)
/-- the chain makes good: what was paid, by cash, debts, made good -/
def mgS (ca ow mg : Nat → Int32) (su py : Nat) (x : Int32) : T3 :=
  (upd (upd ca py (ca py - x)) su (upd ca py (ca py - x) su + x), upd (upd ow su (ow su - x)) py (upd ow su (ow su - x) py + x), upd mg py (mg py + x))
def mgP (ca : Nat → Int32) (su py : Nat) (should : Int32) : Int32 := if nI py = nI su then nI 0 else mn should (ca py)
def mgI (v : Nat → Int32) (su : Nat) : Nat → Nat → Int32 → T3 → T3
  | 0, _, _, t => t
  | f + 1, a, op, t => if op ≤ 0 then t else if isPb (v (a * 6 + 1)) then
      mgI v su f (tN (v (a * 6 + 1))) (op * v (a * 6 + 2) / nI 100 - mgP t.1 su (tN (v (a * 6 + 1))) (op * v (a * 6 + 2) / nI 100)) (mgS t.1 t.2.1 t.2.2 su (tN (v (a * 6 + 1))) (mgP t.1 su (tN (v (a * 6 + 1))) (op * v (a * 6 + 2) / nI 100)))
    else t
def beS (σ : gS) (b : Nat) (am : Int32) : gS := pyS σ (nI b) (σ.1 2 (117 + b * 31 + 0)) (mn am (leftOf (σ.1 2) b)) (σ.1 16 9) (σ.1 16 10) (-1) (fillI (σ.1 17) (fun q => σ.1 2 (q * 6 + 0)) 8) (fillI (σ.1 18) (fun _ => nI 0) 8) (fillI (σ.1 19) (fun _ => nI 0) 8) (σ.1 20) (σ.1 21) (σ.2 22)
def thS (p d th : Int32) (i : Nat) : Int32 := if p < d ∧ th = -1 then nI i else th
theorem cmp_le {x y : Int64} (h : lg_cmp x y ≤ 0) : ¬ y < x := by
  intro q
  unfold lg_cmp at h
  rw [if_pos q] at h
  exact absurd h (by decide)
theorem cmp_nle {x y : Int64} (h : ¬ lg_cmp x y ≤ 0) : y < x := by
  apply Classical.byContradiction
  intro q
  apply h
  unfold lg_cmp
  rw [if_neg q]
  split <;> decide
def grI (re : Nat → Int64) : Nat → Nat
  | 0 => 0
  | i + 1 => if re (grI re i) < re (i + 1) then i + 1 else grI re i
theorem grI_le (re : Nat → Int64) : ∀ i, grI re i ≤ i
  | 0 => Nat.le_refl 0
  | i + 1 => by
    unfold grI
    split
    · exact Nat.le_refl _
    · exact Nat.le_succ_of_le (grI_le re i)
def mnl (x y : Int64) : Int64 := if y < x then y else x
def soD (lim rst : Int64) (x : Int32) : Int32 := if 0 < lim then (rst * x.toInt64 / lim).toInt32 else nI 0
def soR (lim rst : Int64) (x : Int32) : Int64 := if 0 < lim then rst * x.toInt64 - rst * x.toInt64 / lim * lim else 0
def soO (d : Nat → Int32) (rst : Int64) : Nat → Int64
  | 0 => rst
  | i + 1 => soO d rst i - (d i).toInt64
def rndI (L : Nat) : Nat → (Nat → Int32) → (Nat → Int64) → Int64 → (Nat → Int32) × (Nat → Int64)
  | 0, du, re, _ => (du, re)
  | f + 1, du, re, op => if 0 < op then rndI L f (upd du (grI re (L - 1)) (du (grI re (L - 1)) + nI 1)) (vp_updL re (grI re (L - 1)) (-1)) (op - 1) else (du, re)
def soLim (v : Nat → Int32) (b L : Nat) : Int64 := (limitsOf v b L).toInt64
def soRst (v : Nat → Int32) (b L : Nat) (am pd : Int32) : Int64 := mnl (am - pd).toInt64 (soLim v b L)
def soDs (v : Nat → Int32) (b L : Nat) (am pd : Int32) (i : Nat) : Int32 := soD (soLim v b L) (soRst v b L am pd) (v (117 + b * 31 + 15 + i * 4 + 2))
def soRs (v : Nat → Int32) (b L : Nat) (am pd : Int32) (i : Nat) : Int64 := soR (soLim v b L) (soRst v b L am pd) (v (117 + b * 31 + 15 + i * 4 + 2))
/-- what each layer is due, what remains: the rest shared by the limits -/
def shI (v : Nat → Int32) (b L : Nat) (am pd : Int32) (du : Nat → Int32) (re : Nat → Int64) : (Nat → Int32) × (Nat → Int64) :=
  rndI L L (fillI du (soDs v b L am pd) L) (fillI re (soRs v b L am pd) L) (soO (soDs v b L am pd) (soRst v b L am pd) L)
abbrev T7 : Type := Int32 × Int32 × T3 × (Nat → Int32) × (Nat → Int32)
def plS (v : Nat → Int32) (b prn i su : Nat) (pd th : Int32) (ca ow mg du bl : Nat → Int32) : T7 :=
  (pd + mn (du i) (ca su), thS (mn (du i) (ca su)) (du i) th i, mgI v su 8 prn (mn (du i) (ca su)) (upd ca su (ca su - mn (du i) (ca su)), upd ow su (ow su + mn (du i) (ca su)), mg), du, upd bl i (mn (du i) (ca su)))
def dwS (v : Nat → Int32) (b prn : Nat) (am : Int32) (sh : Bool) (i : Nat) (t : T7) : T7 :=
  plS v b prn i (tN (v (117 + b * 31 + 15 + i * 4 + 0))) t.1 t.2.1 t.2.2.1.1 t.2.2.1.2.1 t.2.2.1.2.2 (if sh then t.2.2.2.1 else upd t.2.2.2.1 i (mn (am - t.1) (v (117 + b * 31 + 15 + i * 4 + 2)))) t.2.2.2.2
def drI (v : Nat → Int32) (b prn : Nat) (am : Int32) (sh : Bool) : Nat → T7 → T7
  | 0, t => t
  | i + 1, t => dwS v b prn am sh i (drI v b prn am sh i t)
def pyT (σ : gS) (bo pr am bp : Int32) (t : T7) (re : Nat → Int64) : gS := pyS σ bo pr am bp t.1 t.2.1 t.2.2.1.1 t.2.2.1.2.1 t.2.2.1.2.2 t.2.2.2.1 t.2.2.2.2 re
def drCa (σ : gS) : Nat → Int32 := fillI (σ.1 17) (fun q => σ.1 2 (q * 6 + 0)) 8
def drAm (σ : gS) (b : Nat) (amt : Int32) : Int32 := mn amt (leftOf (σ.1 2) b)
def drBp (σ : gS) (b prn : Nat) (amt : Int32) : Int32 := mn (drAm σ b amt) (drCa σ prn)
def drSo (σ : gS) (b prn L : Nat) (amt : Int32) : (Nat → Int32) × (Nat → Int64) :=
  if σ.1 2 (117 + b * 31 + 2) = nI 1 then shI (σ.1 2) b L (drAm σ b amt) (drBp σ b prn amt) (σ.1 20) (σ.2 22) else (σ.1 20, σ.2 22)
def drT (σ : gS) (b prn L : Nat) (amt : Int32) : T7 :=
  drI (σ.1 2) b prn (drAm σ b amt) (decide (σ.1 2 (117 + b * 31 + 2) = nI 1)) L (drBp σ b prn amt, -1, (upd (drCa σ) prn (drCa σ prn - drBp σ b prn amt), fillI (σ.1 18) (fun _ => nI 0) 8, fillI (σ.1 19) (fun _ => nI 0) 8), (drSo σ b prn L amt).1, σ.1 21)
def drS (σ : gS) (b prn L : Nat) (amt : Int32) : gS := pyT σ (nI b) (nI prn) (drAm σ b amt) (drBp σ b prn amt) (drT σ b prn L amt) (drSo σ b prn L amt).2
def lfT (v : Nat → Int32) (b L : Nat) (am bp pd : Int32) : Int32 := mn (limitsOf v b L - (pd - bp)) (leftOf v b - am)
def efI (v : Nat → Int32) (b L : Nat) (am bp pd : Int32) (ca : Nat → Int32) (w : Nat) : Int32 :=
  if w = 0 then pd else if w = 1 then am - pd else if w = 10 then lfT v b L am bp pd else ca (w - 2) - v ((w - 2) * 6 + 0)
def coA (v : Nat → Int32) (prn : Nat) (ca ow mg : Nat → Int32) : Nat → (Nat → Int32)
  | 0 => v
  | i + 1 => upd (upd (upd (coA v prn ca ow mg i) (i * 6 + 0) (ca i)) (i * 6 + 5) (upd (coA v prn ca ow mg i) (i * 6 + 0) (ca i) (i * 6 + 5) + mg i)) (48 + prn * 8 + i)
      (upd (upd (coA v prn ca ow mg i) (i * 6 + 0) (ca i)) (i * 6 + 5) (upd (coA v prn ca ow mg i) (i * 6 + 0) (ca i) (i * 6 + 5) + mg i) (48 + prn * 8 + i) + ow i)
def coL1 (u : Nat → Int32) (b i su : Nat) (x : Int32) : Nat → Int32 := upd u (su * 6 + 4) (u (su * 6 + 4) + x)
def coL2 (u : Nat → Int32) (b i : Nat) (x : Int32) : Nat → Int32 := upd u (117 + b * 31 + 15 + i * 4 + 2) (u (117 + b * 31 + 15 + i * 4 + 2) + -x)
def coL3 (u : Nat → Int32) (b i : Nat) (x : Int32) : Nat → Int32 := upd u (117 + b * 31 + 15 + i * 4 + 3) (u (117 + b * 31 + 15 + i * 4 + 3) + x)
def coL (v : Nat → Int32) (b : Nat) (su : Nat → Nat) (bl : Nat → Int32) : Nat → (Nat → Int32)
  | 0 => v
  | i + 1 => coL3 (coL2 (coL1 (coL v b su bl i) b i (su i) (bl i)) b i (bl i)) b i (bl i)
def coB (v : Nat → Int32) (prn : Nat) (bp : Int32) : Nat → Int32 := upd v (prn * 6 + 3) (v (prn * 6 + 3) + bp)
def coC (v : Nat → Int32) (b : Nat) (am pd : Int32) : Nat → Int32 := upd (upd v (117 + b * 31 + 6) (v (117 + b * 31 + 6) + am)) (117 + b * 31 + 7) (upd v (117 + b * 31 + 6) (v (117 + b * 31 + 6) + am) (117 + b * 31 + 7) + pd)
/-- the cells behind a call that was carried out -/
def coV (v : Nat → Int32) (b prn L : Nat) (su : Nat → Nat) (am bp pd : Int32) (ca ow mg bl : Nat → Int32) : Nat → Int32 :=
  trimOf (coC (coL (coB (coA v prn ca ow mg 8) prn bp) b su bl L) b am pd) b L
theorem coA_ge (v : Nat → Int32) {prn : Nat} (hp : prn < 8) (ca ow mg : Nat → Int32) {q : Nat} (hq : 112 ≤ q) : ∀ i, i ≤ 8 → coA v prn ca ow mg i q = v q
  | 0, _ => rfl
  | i + 1, h => by
    unfold coA
    simp only [upd]
    rw [if_neg (by omega), if_neg (by omega), if_neg (by omega)]
    exact coA_ge v hp ca ow mg hq i (by omega)
theorem coL_at (v : Nat → Int32) {b : Nat} (su : Nat → Nat) (bl : Nat → Int32) {q : Nat} (hq : 117 + b * 31 ≤ q) : ∀ i, (∀ j, j < i → su j < 8) → (∀ j, j < i → q ≠ 117 + b * 31 + 15 + j * 4 + 2 ∧ q ≠ 117 + b * 31 + 15 + j * 4 + 3) → coL v b su bl i q = v q
  | 0, _, _ => rfl
  | i + 1, h8, h => by
    unfold coL coL3 coL2 coL1
    have h1 := h8 i (by omega)
    have h2 := h i (by omega)
    simp only [upd]
    rw [if_neg h2.2, if_neg h2.1, if_neg (by omega)]
    exact coL_at v su bl hq i (fun j hj => h8 j (by omega)) (fun j hj => h j (by omega))

set_option maxRecDepth 20000 in
theorem k_X2_paid (l : Launch) (γ : gG) (σ : gS) : gM l γ yX2_paid wsX2_paid ({ frames := 0, cells := 0, slots := 0, locals := 0 } : Room) [.ref (ad γ 16)] σ (gis (some (.int (σ.1 16 10))) σ) 0 0 := by
  refine g_enter (own := RX2) (cc := cX2_paid) (nL := 1) (ret := (some .int)) [some (.ref (ad γ 16))] (by decide) rfl rfl (by simp [lg_sl, Value.category]) (by simp [gl_le, glE, Value.category]) (fun hj p e s m args below meth c X hr hlk hnm => ?_)
  have hi2 : ∀ w ∈ wsX20, w ∈ wsX2_paid := by decide +kernel
  refine g_aload_n X dX2_paid_0 rfl rfl ?_
  refine g_get_16_10 X hi2 (by decide +kernel) dX2_paid_1 ?_
  exact g_iret X hr hlk dX2_paid_4 ⟨rfl, rfl⟩
set_option maxRecDepth 20000 in
theorem k_X2_thinLayer (l : Launch) (γ : gG) (σ : gS) : gM l γ yX2_thinLayer wsX2_thinLayer ({ frames := 0, cells := 0, slots := 0, locals := 0 } : Room) [.ref (ad γ 16)] σ (gis (some (.int (σ.1 16 11))) σ) 0 0 := by
  refine g_enter (own := RX2) (cc := cX2_thinLayer) (nL := 1) (ret := (some .int)) [some (.ref (ad γ 16))] (by decide) rfl rfl (by simp [lg_sl, Value.category]) (by simp [gl_le, glE, Value.category]) (fun hj p e s m args below meth c X hr hlk hnm => ?_)
  have hi2 : ∀ w ∈ wsX20, w ∈ wsX2_thinLayer := by decide +kernel
  refine g_aload_n X dX2_thinLayer_0 rfl rfl ?_
  refine g_get_16_11 X hi2 (by decide +kernel) dX2_thinLayer_1 ?_
  exact g_iret X hr hlk dX2_thinLayer_4 ⟨rfl, rfl⟩
set_option maxRecDepth 20000 in
theorem k_X2_loss (l : Launch) (γ : gG) (σ : gS) : gM l γ yX2_loss wsX2_loss ({ frames := 0, cells := 0, slots := 0, locals := 0 } : Room) [.ref (ad γ 16)] σ (gis (some (.int (σ.1 16 8 - σ.1 16 10))) σ) 0 0 := by
  refine g_enter (own := RX2) (cc := cX2_loss) (nL := 1) (ret := (some .int)) [some (.ref (ad γ 16))] (by decide) rfl rfl (by simp [lg_sl, Value.category]) (by simp [gl_le, glE, Value.category]) (fun hj p e s m args below meth c X hr hlk hnm => ?_)
  have hi2 : ∀ w ∈ wsX20, w ∈ wsX2_loss := by decide +kernel
  refine g_aload_n X dX2_loss_0 rfl rfl ?_
  refine g_get_16_8 X hi2 (by decide +kernel) dX2_loss_1 ?_
  refine g_aload_n X dX2_loss_4 rfl rfl ?_
  refine g_get_16_10 X hi2 (by decide +kernel) dX2_loss_5 ?_
  refine g_isub X dX2_loss_8 ?_
  exact g_iret X hr hlk dX2_loss_9 ⟨rfl, rfl⟩
set_option maxRecDepth 20000 in
theorem k_X2_begin (l : Launch) (γ : gG) (σ : gS) (b : Nat) (am : Int32) (hb : b < 10) : gM l γ yX2_begin wsX2_begin ({ frames := 2, cells := 0, slots := 0, locals := 43 } : Room) [.ref (ad γ 16), .ref (ad γ 1), .int (nI b), .int am] σ (gis none (beS σ b am)) 0 0 := by
  refine g_enter (own := RX2) (cc := cX2_begin) (nL := 5) (ret := none) [some (.ref (ad γ 16)), some (.ref (ad γ 1)), some (.int (nI b)), some (.int am), none] (by decide) rfl rfl (by simp [lg_sl, Value.category]) (by simp [gl_le, glE, Value.category]) (fun hj p e s m args below meth c X hr hlk hnm => ?_)
  have hi2 : ∀ w ∈ wsX20, w ∈ wsX2_begin := by decide +kernel
  refine g_iconstN X 0 dX2_begin_0 ?_
  refine g_istore_s4 X dX2_begin_1 (by decide) rfl ?_
  refine g_wf (fun r ls σ2 => ∃ (i : Nat), σ2 = pyS σ (σ.1 16 6) (σ.1 16 7) (σ.1 16 8) (σ.1 16 9) (σ.1 16 10) (σ.1 16 11) (fillI (σ.1 17) (fun q => σ.1 2 (q * 6 + 0)) i) (fillI (σ.1 18) (fun _ => nI 0) i) (fillI (σ.1 19) (fun _ => nI 0) i) (σ.1 20) (σ.1 21) (σ.2 22) ∧ i + r = 8 ∧ ls = [some (.ref (ad γ 16)), some (.ref (ad γ 1)), some (.int (nI b)), some (.int am), some (.int (nI i))]) 8 ⟨0, by rw [fill_0, fill_0, fill_0, pyS_id], by omega, rfl⟩ (fun r ls2 σ2 hI ih => ?_)
  obtain ⟨i, rfl, hi, rfl⟩ := hI
  refine g_iload X dX2_begin_3 rfl ?_
  refine g_bipush (v := nI 8) X dX2_begin_5 (by decide) ?_
  refine g_icmpN_ge (tgt := 46) X dX2_begin_7 (by decide) (by omega) (by omega) (fun c_7 => ?_) (fun c_7 => ?_)
  · have e : i = 8 := by omega
    subst e
    refine g_aload_n X dX2_begin_46 rfl rfl ?_
    refine g_iload_n X dX2_begin_47 rfl rfl ?_
    refine g_put_16_6 X hi2 (by decide +kernel) dX2_begin_48 ?_
    refine g_aload_n X dX2_begin_51 rfl rfl ?_
    refine g_aload_n X dX2_begin_52 rfl rfl ?_
    refine g_aload_n X dX2_begin_53 rfl rfl ?_
    refine g_get_16_6 X hi2 (by decide +kernel) dX2_begin_54 ?_
    refine g_top (y := nI b) (by simp only [py_w6, py_16_6]) ?_
    refine g_iconstN X 0 dX2_begin_57 ?_
    refine g_callVi (na := 2) X hj (k_X3_bondFact l γ _ _ _ (by omega)) gW_1 rfl gX2_begin_X3_bondFact rfl ⟨rfl, rfl⟩ (by decide +kernel) rfl ⟨by decide, by decide⟩ rfl (Nat.le_of_ble_eq_true rfl) dX2_begin_58 ⟨by decide, by decide⟩ ?_
    refine g_put_16_7 X hi2 (by decide +kernel) dX2_begin_61 ?_
    refine g_aload_n X dX2_begin_64 rfl rfl ?_
    refine g_iload_n X dX2_begin_65 rfl rfl ?_
    refine g_aload_n X dX2_begin_66 rfl rfl ?_
    refine g_aload_n X dX2_begin_67 rfl rfl ?_
    refine g_get_16_6 X hi2 (by decide +kernel) dX2_begin_68 ?_
    refine g_top (y := nI b) (by simp only [py_w6, py_w7, py_16_6]) ?_
    refine g_callVi (na := 1) X hj (k_X3_leftOfBond l γ _ _ (by omega)) gW_1 rfl gX2_begin_X3_leftOfBond rfl ⟨rfl, rfl⟩ (by decide +kernel) rfl ⟨by decide, by decide⟩ rfl (Nat.le_of_ble_eq_true rfl) dX2_begin_71 ⟨by decide, by decide⟩ ?_
    refine g_min X (by decide +kernel) ⟨by decide, Nat.le_of_ble_eq_true rfl, by decide, by decide⟩ dX2_begin_74 ?_
    refine g_put_16_8 X hi2 (by decide +kernel) dX2_begin_77 ?_
    refine g_aload_n X dX2_begin_80 rfl rfl ?_
    refine g_iconst (v := -1) X dX2_begin_81 (by decide) ?_
    refine g_put_16_11 X hi2 (by decide +kernel) dX2_begin_82 ?_
    simp only [py_16_6, py_16_7, py_16_8, py_16_9, py_16_10, py_16_11, py_17, py_18, py_19, py_20, py_21, py_22, py_2, py_3, py_5, py_6, py_7, py_8, py_9, py_10, py_11, py_12, py_13, py_14, py_15, py_w6, py_w7, py_w8, py_w9, py_w10, py_w11, py_w17, py_w18, py_w19, py_w20, py_w21, py_w22]
    exact g_vret X hr hlk dX2_begin_85 ⟨rfl, rfl⟩
  · refine g_aload_n X dX2_begin_10 rfl rfl ?_
    refine g_get_16_0 X hi2 (by decide +kernel) dX2_begin_11 ?_
    refine g_iload X dX2_begin_14 rfl ?_
    refine g_aload_n X dX2_begin_16 rfl rfl ?_
    refine g_iload X dX2_begin_17 rfl ?_
    refine g_iconstN X 0 dX2_begin_19 ?_
    refine g_callVi (na := 2) X hj (k_X3_fact l γ _ _ _ (by omega)) gW_1 rfl gX2_begin_X3_fact rfl ⟨rfl, rfl⟩ (by decide +kernel) rfl ⟨by decide, by decide⟩ rfl (Nat.le_of_ble_eq_true rfl) dX2_begin_20 ⟨by decide, by decide⟩ ?_
    refine g_ast_17 X rfl (by omega) dX2_begin_23 ?_
    refine g_aload_n X dX2_begin_24 rfl rfl ?_
    refine g_get_16_1 X hi2 (by decide +kernel) dX2_begin_25 ?_
    refine g_iload X dX2_begin_28 rfl ?_
    refine g_iconstN X 0 dX2_begin_30 ?_
    refine g_ast_18 X rfl (by omega) dX2_begin_31 ?_
    refine g_aload_n X dX2_begin_32 rfl rfl ?_
    refine g_get_16_2 X hi2 (by decide +kernel) dX2_begin_33 ?_
    refine g_iload X dX2_begin_36 rfl ?_
    refine g_iconstN X 0 dX2_begin_38 ?_
    refine g_ast_19 X rfl (by omega) dX2_begin_39 ?_
    refine g_iincN4 (d := 1) X dX2_begin_40 (by decide) rfl ?_
    refine g_goto (tgt := 3) X dX2_begin_43 (by decide) ?_
    exact ih (r - 1) (by omega) _ _ ⟨i + 1, by rw [py_w17, py_w18, py_w19]; simp only [py_2, py_17, py_18, py_19]; rw [fill_s (σ.1 17) (fun q => σ.1 2 (q * 6 + 0)), fill_s (σ.1 18) (fun _ => nI 0), fill_s (σ.1 19) (fun _ => nI 0)], by omega, rfl⟩
set_option maxRecDepth 20000 in
theorem k_X2_makeGood (l : Launch) (γ : gG) (σ : gS) (bo pr am bp pd th : Int32) (ca ow mg du bl : Nat → Int32) (re : Nat → Int64) (prn su : Nat) (mo : Int32) (hpr : pr = nI prn) (hpn : prn < 8) (hsu : su < 8) : gM l γ yX2_makeGood wsX2_makeGood ({ frames := 1, cells := 0, slots := 0, locals := 22 } : Room) [.ref (ad γ 16), .ref (ad γ 1), .int (nI su), .int mo] (pyS σ bo pr am bp pd th ca ow mg du bl re) (gis none (pyS σ bo pr am bp pd th (mgI (σ.1 2) su 8 prn mo (ca, ow, mg)).1 (mgI (σ.1 2) su 8 prn mo (ca, ow, mg)).2.1 (mgI (σ.1 2) su 8 prn mo (ca, ow, mg)).2.2 du bl re)) 0 0 := by
  refine g_enter (own := RX2) (cc := cX2_makeGood) (nL := 10) (ret := none) [some (.ref (ad γ 16)), some (.ref (ad γ 1)), some (.int (nI su)), some (.int mo), none, none, none, none, none, none] (by decide) rfl rfl (by simp [lg_sl, Value.category]) (by simp [gl_le, glE, Value.category]) (fun hj p e s m args below meth c X hr hlk hnm => ?_)
  have hi2 : ∀ w ∈ wsX20, w ∈ wsX2_makeGood := by decide +kernel
  refine g_aload_n X dX2_makeGood_0 rfl rfl ?_
  refine g_get_16_7 X hi2 (by decide +kernel) dX2_makeGood_1 ?_
  refine g_top (y := nI prn) hpr ?_
  refine g_istore_s4 X dX2_makeGood_4 (by decide) rfl ?_
  refine g_iload_n X dX2_makeGood_6 rfl rfl ?_
  refine g_istore_s5 X dX2_makeGood_7 (by decide) rfl ?_
  refine g_iconstN X 0 dX2_makeGood_9 ?_
  refine g_istore_s6 X dX2_makeGood_10 (by decide) rfl ?_
  refine g_wf (fun r ls σ2 => ∃ (i a : Nat) (op : Int32) (t : T3), a < 8 ∧ i + r = 8 ∧ σ2 = pyS σ bo pr am bp pd th t.1 t.2.1 t.2.2 du bl re ∧ ls = [some (.ref (ad γ 16)), some (.ref (ad γ 1)), some (.int (nI su)), some (.int mo), some (.int (nI a)), some (.int op), some (.int (nI i)), none, none, none] ∧ mgI (σ.1 2) su 8 prn mo (ca, ow, mg) = mgI (σ.1 2) su r a op t) 8 ⟨0, prn, mo, (ca, ow, mg), hpn, by omega, rfl, rfl, rfl⟩ (fun r ls2 σ2 hI ih => ?_)
  obtain ⟨i, a, op, t, ha, hi, rfl, rfl, hmg⟩ := hI
  refine g_iload X dX2_makeGood_12 rfl ?_
  refine g_bipush (v := nI 8) X dX2_makeGood_14 (by decide) ?_
  refine g_icmpN_ge (tgt := 156) X dX2_makeGood_16 (by decide) (by omega) (by omega) (fun c_16 => ?_) (fun c_16 => ?_)
  · exact g_vret X hr hlk dX2_makeGood_156 (by refine ⟨rfl, ?_⟩; rw [hmg]; first | (have q9 := c_21; simp only [mgI, if_pos q9]; done) | (have e : r = 0 := (by omega); subst e; rfl))
  · obtain ⟨r, rfl⟩ : ∃ r2, r = r2 + 1 := ⟨r - 1, by omega⟩
    refine g_iload X dX2_makeGood_19 rfl ?_
    refine g_if_le (tgt := 156) X dX2_makeGood_21 (by decide) (fun c_21 => ?_) (fun c_21 => ?_)
    · exact g_vret X hr hlk dX2_makeGood_156 (by refine ⟨rfl, ?_⟩; rw [hmg]; first | (have q9 := c_21; simp only [mgI, if_pos q9]; done) | (have e : r = 0 := (by omega); subst e; rfl))
    · refine g_aload_n X dX2_makeGood_24 rfl rfl ?_
      refine g_iload X dX2_makeGood_25 rfl ?_
      refine g_iconstN X 1 dX2_makeGood_27 ?_
      refine g_callVi (na := 2) X hj (k_X3_fact l γ _ _ _ (by omega)) gW_1 rfl gX2_makeGood_X3_fact rfl ⟨rfl, rfl⟩ (by decide +kernel) rfl ⟨by decide, by decide⟩ rfl (Nat.le_of_ble_eq_true rfl) dX2_makeGood_28 ⟨by decide, by decide⟩ ?_
      simp only [py_2]
      refine g_istore_s7 X dX2_makeGood_31 (by decide) rfl ?_
      refine g_iload X dX2_makeGood_33 rfl ?_
      refine g_callSi (na := 1) X hj (k_X3_isPerson l γ _ _) gX2_makeGood_X3_isPerson rfl ⟨rfl, rfl⟩ (by decide +kernel) rfl ⟨by decide, by decide⟩ rfl (Nat.le_of_ble_eq_true rfl) dX2_makeGood_35 ⟨by decide, by decide⟩ ?_
      refine g_if_ne (tgt := 42) X dX2_makeGood_38 (by decide) (fun c_38 => ?_) (fun c_38 => ?_)
      · replace c_38 := bI_t c_38
        obtain ⟨y, hy, e7⟩ := isP_nat c_38
        rw [e7]
        refine g_iload X dX2_makeGood_42 rfl ?_
        refine g_aload_n X dX2_makeGood_44 rfl rfl ?_
        refine g_iload X dX2_makeGood_45 rfl ?_
        refine g_iconstN X 2 dX2_makeGood_47 ?_
        refine g_callVi (na := 2) X hj (k_X3_fact l γ _ _ _ (by omega)) gW_1 rfl gX2_makeGood_X3_fact rfl ⟨rfl, rfl⟩ (by decide +kernel) rfl ⟨by decide, by decide⟩ rfl (Nat.le_of_ble_eq_true rfl) dX2_makeGood_48 ⟨by decide, by decide⟩ ?_
        simp only [py_2]
        refine g_imul X dX2_makeGood_51 ?_
        refine g_bipush (v := nI 100) X dX2_makeGood_52 (by decide) ?_
        refine g_idiv X dX2_makeGood_54 (by decide) ?_
        refine g_istore_s8 X dX2_makeGood_55 (by decide) rfl ?_
        refine g_iload X dX2_makeGood_57 rfl ?_
        refine g_iload_n X dX2_makeGood_59 rfl rfl ?_
        refine g_icmpN_ne (tgt := 67) X dX2_makeGood_60 (by decide) (by omega) (by omega) (fun c_60 => ?_) (fun c_60 => ?_)
        · refine g_iload X dX2_makeGood_67 rfl ?_
          refine g_aload_n X dX2_makeGood_69 rfl rfl ?_
          refine g_get_16_0 X hi2 (by decide +kernel) dX2_makeGood_70 ?_
          refine g_iload X dX2_makeGood_73 rfl ?_
          refine g_ald_17 X rfl (by omega) dX2_makeGood_75 ?_
          simp only [py_17]
          refine g_min X (by decide +kernel) ⟨by decide, Nat.le_of_ble_eq_true rfl, by decide, by decide⟩ dX2_makeGood_76 ?_
          refine g_top (y := mgP t.1 su y (op * σ.1 2 (a * 6 + 2) / nI 100)) (by first | (rw [mgP, if_pos (by rw [c_60])]; done) | (rw [mgP, if_neg (fun q => c_60 ((nI_eq (by omega) (by omega)).mp q))]; rfl)) ?_
          refine g_istore_s9 X dX2_makeGood_79 (by decide) rfl ?_
          refine g_aload_n X dX2_makeGood_81 rfl rfl ?_
          refine g_get_16_0 X hi2 (by decide +kernel) dX2_makeGood_82 ?_
          refine g_iload X dX2_makeGood_85 rfl ?_
          refine g_dup2_11 X dX2_makeGood_87 rfl rfl ?_
          refine g_ald_17 X rfl (by omega) dX2_makeGood_88 ?_
          simp only [py_17]
          refine g_iload X dX2_makeGood_89 rfl ?_
          refine g_isub X dX2_makeGood_91 ?_
          refine g_ast_17 X rfl (by omega) dX2_makeGood_92 ?_
          rw [py_w17]
          refine g_aload_n X dX2_makeGood_93 rfl rfl ?_
          refine g_get_16_0 X hi2 (by decide +kernel) dX2_makeGood_94 ?_
          refine g_iload_n X dX2_makeGood_97 rfl rfl ?_
          refine g_dup2_11 X dX2_makeGood_98 rfl rfl ?_
          refine g_ald_17 X rfl (by omega) dX2_makeGood_99 ?_
          simp only [py_17]
          refine g_iload X dX2_makeGood_100 rfl ?_
          refine g_iadd X dX2_makeGood_102 ?_
          refine g_ast_17 X rfl (by omega) dX2_makeGood_103 ?_
          rw [py_w17]
          refine g_aload_n X dX2_makeGood_104 rfl rfl ?_
          refine g_get_16_1 X hi2 (by decide +kernel) dX2_makeGood_105 ?_
          refine g_iload_n X dX2_makeGood_108 rfl rfl ?_
          refine g_dup2_11 X dX2_makeGood_109 rfl rfl ?_
          refine g_ald_18 X rfl (by omega) dX2_makeGood_110 ?_
          simp only [py_18]
          refine g_iload X dX2_makeGood_111 rfl ?_
          refine g_isub X dX2_makeGood_113 ?_
          refine g_ast_18 X rfl (by omega) dX2_makeGood_114 ?_
          rw [py_w18]
          refine g_aload_n X dX2_makeGood_115 rfl rfl ?_
          refine g_get_16_1 X hi2 (by decide +kernel) dX2_makeGood_116 ?_
          refine g_iload X dX2_makeGood_119 rfl ?_
          refine g_dup2_11 X dX2_makeGood_121 rfl rfl ?_
          refine g_ald_18 X rfl (by omega) dX2_makeGood_122 ?_
          simp only [py_18]
          refine g_iload X dX2_makeGood_123 rfl ?_
          refine g_iadd X dX2_makeGood_125 ?_
          refine g_ast_18 X rfl (by omega) dX2_makeGood_126 ?_
          rw [py_w18]
          refine g_aload_n X dX2_makeGood_127 rfl rfl ?_
          refine g_get_16_2 X hi2 (by decide +kernel) dX2_makeGood_128 ?_
          refine g_iload X dX2_makeGood_131 rfl ?_
          refine g_dup2_11 X dX2_makeGood_133 rfl rfl ?_
          refine g_ald_19 X rfl (by omega) dX2_makeGood_134 ?_
          simp only [py_19]
          refine g_iload X dX2_makeGood_135 rfl ?_
          refine g_iadd X dX2_makeGood_137 ?_
          refine g_ast_19 X rfl (by omega) dX2_makeGood_138 ?_
          rw [py_w19]
          refine g_iload X dX2_makeGood_139 rfl ?_
          refine g_iload X dX2_makeGood_141 rfl ?_
          refine g_isub X dX2_makeGood_143 ?_
          refine g_istore_s5 X dX2_makeGood_144 (by decide) rfl ?_
          refine g_iload X dX2_makeGood_146 rfl ?_
          refine g_istore_s4 X dX2_makeGood_148 (by decide) rfl ?_
          refine g_iincN6 (d := 1) X dX2_makeGood_150 (by decide) rfl ?_
          refine g_goto (tgt := 12) X dX2_makeGood_153 (by decide) ?_
          exact g_le (by simp [gl_le]) (ih r (by omega) _ _ ⟨i + 1, y, op * σ.1 2 (a * 6 + 2) / nI 100 - mgP t.1 su y (op * σ.1 2 (a * 6 + 2) / nI 100), mgS t.1 t.2.1 t.2.2 su y (mgP t.1 su y (op * σ.1 2 (a * 6 + 2) / nI 100)), hy, by omega, rfl, rfl, by rw [hmg]; simp only [mgI, if_neg c_21, c_38, if_true, tN_nI e7 (show y < 2 ^ 31 by omega)]⟩)
        · refine g_iconstN X 0 dX2_makeGood_63 ?_
          refine g_goto (tgt := 79) X dX2_makeGood_64 (by decide) ?_
          refine g_top (y := mgP t.1 su y (op * σ.1 2 (a * 6 + 2) / nI 100)) (by first | (rw [mgP, if_pos (by rw [c_60])]; done) | (rw [mgP, if_neg (fun q => c_60 ((nI_eq (by omega) (by omega)).mp q))]; rfl)) ?_
          refine g_istore_s9 X dX2_makeGood_79 (by decide) rfl ?_
          refine g_aload_n X dX2_makeGood_81 rfl rfl ?_
          refine g_get_16_0 X hi2 (by decide +kernel) dX2_makeGood_82 ?_
          refine g_iload X dX2_makeGood_85 rfl ?_
          refine g_dup2_11 X dX2_makeGood_87 rfl rfl ?_
          refine g_ald_17 X rfl (by omega) dX2_makeGood_88 ?_
          simp only [py_17]
          refine g_iload X dX2_makeGood_89 rfl ?_
          refine g_isub X dX2_makeGood_91 ?_
          refine g_ast_17 X rfl (by omega) dX2_makeGood_92 ?_
          rw [py_w17]
          refine g_aload_n X dX2_makeGood_93 rfl rfl ?_
          refine g_get_16_0 X hi2 (by decide +kernel) dX2_makeGood_94 ?_
          refine g_iload_n X dX2_makeGood_97 rfl rfl ?_
          refine g_dup2_11 X dX2_makeGood_98 rfl rfl ?_
          refine g_ald_17 X rfl (by omega) dX2_makeGood_99 ?_
          simp only [py_17]
          refine g_iload X dX2_makeGood_100 rfl ?_
          refine g_iadd X dX2_makeGood_102 ?_
          refine g_ast_17 X rfl (by omega) dX2_makeGood_103 ?_
          rw [py_w17]
          refine g_aload_n X dX2_makeGood_104 rfl rfl ?_
          refine g_get_16_1 X hi2 (by decide +kernel) dX2_makeGood_105 ?_
          refine g_iload_n X dX2_makeGood_108 rfl rfl ?_
          refine g_dup2_11 X dX2_makeGood_109 rfl rfl ?_
          refine g_ald_18 X rfl (by omega) dX2_makeGood_110 ?_
          simp only [py_18]
          refine g_iload X dX2_makeGood_111 rfl ?_
          refine g_isub X dX2_makeGood_113 ?_
          refine g_ast_18 X rfl (by omega) dX2_makeGood_114 ?_
          rw [py_w18]
          refine g_aload_n X dX2_makeGood_115 rfl rfl ?_
          refine g_get_16_1 X hi2 (by decide +kernel) dX2_makeGood_116 ?_
          refine g_iload X dX2_makeGood_119 rfl ?_
          refine g_dup2_11 X dX2_makeGood_121 rfl rfl ?_
          refine g_ald_18 X rfl (by omega) dX2_makeGood_122 ?_
          simp only [py_18]
          refine g_iload X dX2_makeGood_123 rfl ?_
          refine g_iadd X dX2_makeGood_125 ?_
          refine g_ast_18 X rfl (by omega) dX2_makeGood_126 ?_
          rw [py_w18]
          refine g_aload_n X dX2_makeGood_127 rfl rfl ?_
          refine g_get_16_2 X hi2 (by decide +kernel) dX2_makeGood_128 ?_
          refine g_iload X dX2_makeGood_131 rfl ?_
          refine g_dup2_11 X dX2_makeGood_133 rfl rfl ?_
          refine g_ald_19 X rfl (by omega) dX2_makeGood_134 ?_
          simp only [py_19]
          refine g_iload X dX2_makeGood_135 rfl ?_
          refine g_iadd X dX2_makeGood_137 ?_
          refine g_ast_19 X rfl (by omega) dX2_makeGood_138 ?_
          rw [py_w19]
          refine g_iload X dX2_makeGood_139 rfl ?_
          refine g_iload X dX2_makeGood_141 rfl ?_
          refine g_isub X dX2_makeGood_143 ?_
          refine g_istore_s5 X dX2_makeGood_144 (by decide) rfl ?_
          refine g_iload X dX2_makeGood_146 rfl ?_
          refine g_istore_s4 X dX2_makeGood_148 (by decide) rfl ?_
          refine g_iincN6 (d := 1) X dX2_makeGood_150 (by decide) rfl ?_
          refine g_goto (tgt := 12) X dX2_makeGood_153 (by decide) ?_
          exact g_le (by simp [gl_le]) (ih r (by omega) _ _ ⟨i + 1, y, op * σ.1 2 (a * 6 + 2) / nI 100 - mgP t.1 su y (op * σ.1 2 (a * 6 + 2) / nI 100), mgS t.1 t.2.1 t.2.2 su y (mgP t.1 su y (op * σ.1 2 (a * 6 + 2) / nI 100)), hy, by omega, rfl, rfl, by rw [hmg]; simp only [mgI, if_neg c_21, c_38, if_true, tN_nI e7 (show y < 2 ^ 31 by omega)]⟩)
      · replace c_38 := bI_f c_38
        exact g_vret X hr hlk dX2_makeGood_41 ⟨rfl, by rw [hmg]; simp only [mgI, if_neg c_21, c_38]; rfl⟩
set_option maxRecDepth 20000 in
theorem k_X2_payByLayer (l : Launch) (γ : gG) (σ : gS) (bo pr am bp pd th : Int32) (ca ow mg du bl : Nat → Int32) (re : Nat → Int64) (b prn su j : Nat) (hbo : bo = nI b) (hb : b < 10) (hpr : pr = nI prn) (hpn : prn < 8) (hj4 : j < 4) (hsu : σ.1 2 (117 + b * 31 + 15 + j * 4 + 0) = nI su) (hsu8 : su < 8) : gM l γ yX2_payByLayer wsX2_payByLayer ({ frames := 2, cells := 0, slots := 0, locals := 51 } : Room) [.ref (ad γ 16), .ref (ad γ 1), .int (nI j)] (pyS σ bo pr am bp pd th ca ow mg du bl re) (gis none (pyT σ bo pr am bp (plS (σ.1 2) b prn j su pd th ca ow mg du bl) re)) 0 0 := by
  refine g_enter (own := RX2) (cc := cX2_payByLayer) (nL := 5) (ret := none) [some (.ref (ad γ 16)), some (.ref (ad γ 1)), some (.int (nI j)), none, none] (by decide) rfl rfl (by simp [lg_sl, Value.category]) (by simp [gl_le, glE, Value.category]) (fun hj p e s m args below meth c X hr hlk hnm => ?_)
  have hi2 : ∀ w ∈ wsX20, w ∈ wsX2_payByLayer := by decide +kernel
  refine g_aload_n X dX2_payByLayer_0 rfl rfl ?_
  refine g_aload_n X dX2_payByLayer_1 rfl rfl ?_
  refine g_get_16_6 X hi2 (by decide +kernel) dX2_payByLayer_2 ?_
  refine g_top (y := nI b) hbo ?_
  refine g_iload_n X dX2_payByLayer_5 rfl rfl ?_
  refine g_iconstN X 0 dX2_payByLayer_6 ?_
  refine g_callVi (na := 3) X hj (k_X3_layerFact l γ _ _ _ _ (by omega) (by omega) (by omega)) gW_1 rfl gX2_payByLayer_X3_layerFact rfl ⟨rfl, rfl⟩ (by decide +kernel) rfl ⟨by decide, by decide⟩ rfl (Nat.le_of_ble_eq_true rfl) dX2_payByLayer_7 ⟨by decide, by decide⟩ ?_
  refine g_top (y := nI su) hsu ?_
  refine g_istore_n3 X dX2_payByLayer_10 rfl (by decide) rfl ?_
  refine g_aload_n X dX2_payByLayer_11 rfl rfl ?_
  refine g_get_16_3 X hi2 (by decide +kernel) dX2_payByLayer_12 ?_
  refine g_iload_n X dX2_payByLayer_15 rfl rfl ?_
  refine g_ald_20 X rfl (by omega) dX2_payByLayer_16 ?_
  simp only [py_20]
  refine g_aload_n X dX2_payByLayer_17 rfl rfl ?_
  refine g_get_16_0 X hi2 (by decide +kernel) dX2_payByLayer_18 ?_
  refine g_iload_n X dX2_payByLayer_21 rfl rfl ?_
  refine g_ald_17 X rfl (by omega) dX2_payByLayer_22 ?_
  simp only [py_17]
  refine g_min X (by decide +kernel) ⟨by decide, Nat.le_of_ble_eq_true rfl, by decide, by decide⟩ dX2_payByLayer_23 ?_
  refine g_istore_s4 X dX2_payByLayer_26 (by decide) rfl ?_
  refine g_iload X dX2_payByLayer_28 rfl ?_
  refine g_aload_n X dX2_payByLayer_30 rfl rfl ?_
  refine g_get_16_3 X hi2 (by decide +kernel) dX2_payByLayer_31 ?_
  refine g_iload_n X dX2_payByLayer_34 rfl rfl ?_
  refine g_ald_20 X rfl (by omega) dX2_payByLayer_35 ?_
  simp only [py_20]
  refine g_icmp_ge (tgt := 52) X dX2_payByLayer_36 (by decide) (fun c_36 => ?_) (fun c_36 => ?_)
  · refine g_eq rfl (σ' := pyS σ bo pr am bp pd (thS (mn (du j) (ca su)) (du j) th j) ca ow mg du bl re) (by first | (have q9 := c_44; first | (rw [py_w11, thS, if_pos ⟨Int32.not_le.mp c_36, q9⟩]; done) | (rw [thS, if_neg (fun q => q9 q.2)]; done)) | (rw [thS, if_neg (fun q => Int32.not_le.mpr q.1 c_36)]; done)) ?_
    refine g_aload_n X dX2_payByLayer_52 rfl rfl ?_
    refine g_get_16_4 X hi2 (by decide +kernel) dX2_payByLayer_53 ?_
    refine g_iload_n X dX2_payByLayer_56 rfl rfl ?_
    refine g_iload X dX2_payByLayer_57 rfl ?_
    refine g_ast_21 X rfl (by omega) dX2_payByLayer_59 ?_
    rw [py_w21]
    refine g_aload_n X dX2_payByLayer_60 rfl rfl ?_
    refine g_dup X dX2_payByLayer_61 rfl ?_
    refine g_get_16_10 X hi2 (by decide +kernel) dX2_payByLayer_62 ?_
    simp only [py_16_10]
    refine g_iload X dX2_payByLayer_65 rfl ?_
    refine g_iadd X dX2_payByLayer_67 ?_
    refine g_put_16_10 X hi2 (by decide +kernel) dX2_payByLayer_68 ?_
    rw [py_w10]
    refine g_aload_n X dX2_payByLayer_71 rfl rfl ?_
    refine g_get_16_0 X hi2 (by decide +kernel) dX2_payByLayer_72 ?_
    refine g_iload_n X dX2_payByLayer_75 rfl rfl ?_
    refine g_dup2_11 X dX2_payByLayer_76 rfl rfl ?_
    refine g_ald_17 X rfl (by omega) dX2_payByLayer_77 ?_
    simp only [py_17]
    refine g_iload X dX2_payByLayer_78 rfl ?_
    refine g_isub X dX2_payByLayer_80 ?_
    refine g_ast_17 X rfl (by omega) dX2_payByLayer_81 ?_
    rw [py_w17]
    refine g_aload_n X dX2_payByLayer_82 rfl rfl ?_
    refine g_get_16_1 X hi2 (by decide +kernel) dX2_payByLayer_83 ?_
    refine g_iload_n X dX2_payByLayer_86 rfl rfl ?_
    refine g_dup2_11 X dX2_payByLayer_87 rfl rfl ?_
    refine g_ald_18 X rfl (by omega) dX2_payByLayer_88 ?_
    simp only [py_18]
    refine g_iload X dX2_payByLayer_89 rfl ?_
    refine g_iadd X dX2_payByLayer_91 ?_
    refine g_ast_18 X rfl (by omega) dX2_payByLayer_92 ?_
    rw [py_w18]
    refine g_aload_n X dX2_payByLayer_93 rfl rfl ?_
    refine g_aload_n X dX2_payByLayer_94 rfl rfl ?_
    refine g_iload_n X dX2_payByLayer_95 rfl rfl ?_
    refine g_iload X dX2_payByLayer_96 rfl ?_
    refine g_callVv (na := 3) X hj (k_X2_makeGood l γ σ _ _ _ _ _ _ _ _ _ _ _ _ prn _ _ hpr (by omega) (by omega)) gW_16 rfl gX2_payByLayer_X2_makeGood rfl ⟨rfl, rfl⟩ (by decide +kernel) rfl ⟨by decide, by decide⟩ rfl (Nat.le_of_ble_eq_true rfl) dX2_payByLayer_98 ⟨by decide, by decide⟩ ?_
    exact g_vret X hr hlk dX2_payByLayer_101 ⟨rfl, rfl⟩
  · refine g_aload_n X dX2_payByLayer_39 rfl rfl ?_
    refine g_get_16_11 X hi2 (by decide +kernel) dX2_payByLayer_40 ?_
    simp only [py_16_11]
    refine g_iconst (v := -1) X dX2_payByLayer_43 (by decide) ?_
    refine g_icmp_ne (tgt := 52) X dX2_payByLayer_44 (by decide) (fun c_44 => ?_) (fun c_44 => ?_)
    · refine g_eq rfl (σ' := pyS σ bo pr am bp pd (thS (mn (du j) (ca su)) (du j) th j) ca ow mg du bl re) (by first | (have q9 := c_44; first | (rw [py_w11, thS, if_pos ⟨Int32.not_le.mp c_36, q9⟩]; done) | (rw [thS, if_neg (fun q => q9 q.2)]; done)) | (rw [thS, if_neg (fun q => Int32.not_le.mpr q.1 c_36)]; done)) ?_
      refine g_aload_n X dX2_payByLayer_52 rfl rfl ?_
      refine g_get_16_4 X hi2 (by decide +kernel) dX2_payByLayer_53 ?_
      refine g_iload_n X dX2_payByLayer_56 rfl rfl ?_
      refine g_iload X dX2_payByLayer_57 rfl ?_
      refine g_ast_21 X rfl (by omega) dX2_payByLayer_59 ?_
      rw [py_w21]
      refine g_aload_n X dX2_payByLayer_60 rfl rfl ?_
      refine g_dup X dX2_payByLayer_61 rfl ?_
      refine g_get_16_10 X hi2 (by decide +kernel) dX2_payByLayer_62 ?_
      simp only [py_16_10]
      refine g_iload X dX2_payByLayer_65 rfl ?_
      refine g_iadd X dX2_payByLayer_67 ?_
      refine g_put_16_10 X hi2 (by decide +kernel) dX2_payByLayer_68 ?_
      rw [py_w10]
      refine g_aload_n X dX2_payByLayer_71 rfl rfl ?_
      refine g_get_16_0 X hi2 (by decide +kernel) dX2_payByLayer_72 ?_
      refine g_iload_n X dX2_payByLayer_75 rfl rfl ?_
      refine g_dup2_11 X dX2_payByLayer_76 rfl rfl ?_
      refine g_ald_17 X rfl (by omega) dX2_payByLayer_77 ?_
      simp only [py_17]
      refine g_iload X dX2_payByLayer_78 rfl ?_
      refine g_isub X dX2_payByLayer_80 ?_
      refine g_ast_17 X rfl (by omega) dX2_payByLayer_81 ?_
      rw [py_w17]
      refine g_aload_n X dX2_payByLayer_82 rfl rfl ?_
      refine g_get_16_1 X hi2 (by decide +kernel) dX2_payByLayer_83 ?_
      refine g_iload_n X dX2_payByLayer_86 rfl rfl ?_
      refine g_dup2_11 X dX2_payByLayer_87 rfl rfl ?_
      refine g_ald_18 X rfl (by omega) dX2_payByLayer_88 ?_
      simp only [py_18]
      refine g_iload X dX2_payByLayer_89 rfl ?_
      refine g_iadd X dX2_payByLayer_91 ?_
      refine g_ast_18 X rfl (by omega) dX2_payByLayer_92 ?_
      rw [py_w18]
      refine g_aload_n X dX2_payByLayer_93 rfl rfl ?_
      refine g_aload_n X dX2_payByLayer_94 rfl rfl ?_
      refine g_iload_n X dX2_payByLayer_95 rfl rfl ?_
      refine g_iload X dX2_payByLayer_96 rfl ?_
      refine g_callVv (na := 3) X hj (k_X2_makeGood l γ σ _ _ _ _ _ _ _ _ _ _ _ _ prn _ _ hpr (by omega) (by omega)) gW_16 rfl gX2_payByLayer_X2_makeGood rfl ⟨rfl, rfl⟩ (by decide +kernel) rfl ⟨by decide, by decide⟩ rfl (Nat.le_of_ble_eq_true rfl) dX2_payByLayer_98 ⟨by decide, by decide⟩ ?_
      exact g_vret X hr hlk dX2_payByLayer_101 ⟨rfl, rfl⟩
    · refine g_aload_n X dX2_payByLayer_47 rfl rfl ?_
      refine g_iload_n X dX2_payByLayer_48 rfl rfl ?_
      refine g_put_16_11 X hi2 (by decide +kernel) dX2_payByLayer_49 ?_
      refine g_eq rfl (σ' := pyS σ bo pr am bp pd (thS (mn (du j) (ca su)) (du j) th j) ca ow mg du bl re) (by first | (have q9 := c_44; first | (rw [py_w11, thS, if_pos ⟨Int32.not_le.mp c_36, q9⟩]; done) | (rw [thS, if_neg (fun q => q9 q.2)]; done)) | (rw [thS, if_neg (fun q => Int32.not_le.mpr q.1 c_36)]; done)) ?_
      refine g_aload_n X dX2_payByLayer_52 rfl rfl ?_
      refine g_get_16_4 X hi2 (by decide +kernel) dX2_payByLayer_53 ?_
      refine g_iload_n X dX2_payByLayer_56 rfl rfl ?_
      refine g_iload X dX2_payByLayer_57 rfl ?_
      refine g_ast_21 X rfl (by omega) dX2_payByLayer_59 ?_
      rw [py_w21]
      refine g_aload_n X dX2_payByLayer_60 rfl rfl ?_
      refine g_dup X dX2_payByLayer_61 rfl ?_
      refine g_get_16_10 X hi2 (by decide +kernel) dX2_payByLayer_62 ?_
      simp only [py_16_10]
      refine g_iload X dX2_payByLayer_65 rfl ?_
      refine g_iadd X dX2_payByLayer_67 ?_
      refine g_put_16_10 X hi2 (by decide +kernel) dX2_payByLayer_68 ?_
      rw [py_w10]
      refine g_aload_n X dX2_payByLayer_71 rfl rfl ?_
      refine g_get_16_0 X hi2 (by decide +kernel) dX2_payByLayer_72 ?_
      refine g_iload_n X dX2_payByLayer_75 rfl rfl ?_
      refine g_dup2_11 X dX2_payByLayer_76 rfl rfl ?_
      refine g_ald_17 X rfl (by omega) dX2_payByLayer_77 ?_
      simp only [py_17]
      refine g_iload X dX2_payByLayer_78 rfl ?_
      refine g_isub X dX2_payByLayer_80 ?_
      refine g_ast_17 X rfl (by omega) dX2_payByLayer_81 ?_
      rw [py_w17]
      refine g_aload_n X dX2_payByLayer_82 rfl rfl ?_
      refine g_get_16_1 X hi2 (by decide +kernel) dX2_payByLayer_83 ?_
      refine g_iload_n X dX2_payByLayer_86 rfl rfl ?_
      refine g_dup2_11 X dX2_payByLayer_87 rfl rfl ?_
      refine g_ald_18 X rfl (by omega) dX2_payByLayer_88 ?_
      simp only [py_18]
      refine g_iload X dX2_payByLayer_89 rfl ?_
      refine g_iadd X dX2_payByLayer_91 ?_
      refine g_ast_18 X rfl (by omega) dX2_payByLayer_92 ?_
      rw [py_w18]
      refine g_aload_n X dX2_payByLayer_93 rfl rfl ?_
      refine g_aload_n X dX2_payByLayer_94 rfl rfl ?_
      refine g_iload_n X dX2_payByLayer_95 rfl rfl ?_
      refine g_iload X dX2_payByLayer_96 rfl ?_
      refine g_callVv (na := 3) X hj (k_X2_makeGood l γ σ _ _ _ _ _ _ _ _ _ _ _ _ prn _ _ hpr (by omega) (by omega)) gW_16 rfl gX2_payByLayer_X2_makeGood rfl ⟨rfl, rfl⟩ (by decide +kernel) rfl ⟨by decide, by decide⟩ rfl (Nat.le_of_ble_eq_true rfl) dX2_payByLayer_98 ⟨by decide, by decide⟩ ?_
      exact g_vret X hr hlk dX2_payByLayer_101 ⟨rfl, rfl⟩
set_option maxRecDepth 20000 in
theorem k_X2_greatestRemainder (l : Launch) (γ : gG) (σ : gS) (bo pr am bp pd th : Int32) (ca ow mg du bl : Nat → Int32) (re : Nat → Int64) (L : Nat) (hL1 : 1 ≤ L) (hL4 : L ≤ 4) : gM l γ yX2_greatestRemainder wsX2_greatestRemainder ({ frames := 0, cells := 0, slots := 0, locals := 0 } : Room) [.ref (ad γ 16), .int (nI L)] (pyS σ bo pr am bp pd th ca ow mg du bl re) (gis (some (.int (nI (grI re (L - 1))))) (pyS σ bo pr am bp pd th ca ow mg du bl re)) 0 0 := by
  refine g_enter (own := RX2) (cc := cX2_greatestRemainder) (nL := 4) (ret := (some .int)) [some (.ref (ad γ 16)), some (.int (nI L)), none, none] (by decide) rfl rfl (by simp [lg_sl, Value.category]) (by simp [gl_le, glE, Value.category]) (fun hj p e s m args below meth c X hr hlk hnm => ?_)
  have hi2 : ∀ w ∈ wsX20, w ∈ wsX2_greatestRemainder := by decide +kernel
  refine g_iconstN X 0 dX2_greatestRemainder_0 ?_
  refine g_istore_n2 X dX2_greatestRemainder_1 rfl (by decide) rfl ?_
  refine g_iconstN X 1 dX2_greatestRemainder_2 ?_
  refine g_istore_n3 X dX2_greatestRemainder_3 rfl (by decide) rfl ?_
  refine g_wf (fun r ls σ2 => ∃ (i : Nat), σ2 = pyS σ bo pr am bp pd th ca ow mg du bl re ∧ i + 1 + r = L ∧ ls = [some (.ref (ad γ 16)), some (.int (nI L)), some (.int (nI (grI re i))), some (.int (nI (i + 1)))]) (L - 1) ⟨0, rfl, by omega, rfl⟩ (fun r ls2 σ2 hI ih => ?_)
  obtain ⟨i, rfl, hi, rfl⟩ := hI
  have hgr := grI_le re i
  refine g_iload_n X dX2_greatestRemainder_4 rfl rfl ?_
  refine g_iload_n X dX2_greatestRemainder_5 rfl rfl ?_
  refine g_icmpN_ge (tgt := 33) X dX2_greatestRemainder_6 (by decide) (by omega) (by omega) (fun c_6 => ?_) (fun c_6 => ?_)
  · refine g_iload_n X dX2_greatestRemainder_33 rfl rfl ?_
    exact g_iret X hr hlk dX2_greatestRemainder_34 ⟨by rw [show L - 1 = i by omega], rfl⟩
  · refine g_aload_n X dX2_greatestRemainder_9 rfl rfl ?_
    refine g_get_16_5 X hi2 (by decide +kernel) dX2_greatestRemainder_10 ?_
    refine g_iload_n X dX2_greatestRemainder_13 rfl rfl ?_
    refine g_ald_22 X rfl (by omega) dX2_greatestRemainder_14 ?_
    simp only [py_22]
    refine g_aload_n X dX2_greatestRemainder_15 rfl rfl ?_
    refine g_get_16_5 X hi2 (by decide +kernel) dX2_greatestRemainder_16 ?_
    refine g_iload_n X dX2_greatestRemainder_19 rfl rfl ?_
    refine g_ald_22 X rfl (by omega) dX2_greatestRemainder_20 ?_
    simp only [py_22]
    refine g_lcmp X dX2_greatestRemainder_21 ?_
    refine g_if_le (tgt := 27) X dX2_greatestRemainder_22 (by decide) (fun c_22 => ?_) (fun c_22 => ?_)
    · refine g_iincN3 (d := 1) X dX2_greatestRemainder_27 (by decide) rfl ?_
      refine g_goto (tgt := 4) X dX2_greatestRemainder_30 (by decide) ?_
      exact ih (r - 1) (by omega) _ _ ⟨i + 1, rfl, by omega, by first | (have q9 := cmp_le c_22; simp only [grI, if_neg q9]; done) | (have q9 := cmp_nle c_22; simp only [grI, if_pos q9]; done)⟩
    · refine g_iload_n X dX2_greatestRemainder_25 rfl rfl ?_
      refine g_istore_n2 X dX2_greatestRemainder_26 rfl (by decide) rfl ?_
      refine g_iincN3 (d := 1) X dX2_greatestRemainder_27 (by decide) rfl ?_
      refine g_goto (tgt := 4) X dX2_greatestRemainder_30 (by decide) ?_
      exact ih (r - 1) (by omega) _ _ ⟨i + 1, rfl, by omega, by first | (have q9 := cmp_le c_22; simp only [grI, if_neg q9]; done) | (have q9 := cmp_nle c_22; simp only [grI, if_pos q9]; done)⟩
set_option maxRecDepth 20000 in
theorem k_X2_shareOut (l : Launch) (γ : gG) (σ : gS) (bo pr am bp pd th : Int32) (ca ow mg du bl : Nat → Int32) (re : Nat → Int64) (b L : Nat) (hbo : bo = nI b) (hb : b < 10) (hL : σ.1 2 (117 + b * 31 + 3) = nI L) (hL4 : L ≤ 4) : gM l γ yX2_shareOut wsX2_shareOut ({ frames := 2, cells := 0, slots := 0, locals := 46 } : Room) [.ref (ad γ 16), .ref (ad γ 1)] (pyS σ bo pr am bp pd th ca ow mg du bl re) (gis none (pyS σ bo pr am bp pd th ca ow mg (shI (σ.1 2) b L am pd du re).1 bl (shI (σ.1 2) b L am pd du re).2)) 0 0 := by
  refine g_enter (own := RX2) (cc := cX2_shareOut) (nL := 12) (ret := none) [some (.ref (ad γ 16)), some (.ref (ad γ 1)), none, none, none, none, none, none, none, none, none, none] (by decide) rfl rfl (by simp [lg_sl, Value.category]) (by simp [gl_le, glE, Value.category]) (fun hj p e s m args below meth c X hr hlk hnm => ?_)
  have hi2 : ∀ w ∈ wsX20, w ∈ wsX2_shareOut := by decide +kernel
  refine g_aload_n X dX2_shareOut_0 rfl rfl ?_
  refine g_aload_n X dX2_shareOut_1 rfl rfl ?_
  refine g_get_16_6 X hi2 (by decide +kernel) dX2_shareOut_2 ?_
  refine g_top (y := nI b) hbo ?_
  refine g_iconstN X 3 dX2_shareOut_5 ?_
  refine g_callVi (na := 2) X hj (k_X3_bondFact l γ _ _ _ (by omega)) gW_1 rfl gX2_shareOut_X3_bondFact rfl ⟨rfl, rfl⟩ (by decide +kernel) rfl ⟨by decide, by decide⟩ rfl (Nat.le_of_ble_eq_true rfl) dX2_shareOut_6 ⟨by decide, by decide⟩ ?_
  refine g_top (y := nI L) hL ?_
  refine g_istore_n2 X dX2_shareOut_9 rfl (by decide) rfl ?_
  refine g_aload_n X dX2_shareOut_10 rfl rfl ?_
  refine g_aload_n X dX2_shareOut_11 rfl rfl ?_
  refine g_get_16_6 X hi2 (by decide +kernel) dX2_shareOut_12 ?_
  refine g_top (y := nI b) hbo ?_
  refine g_callVi (na := 1) X hj (k_X3_leftOfLimits l γ _ _ L (by omega) hL hL4) gW_1 rfl gX2_shareOut_X3_leftOfLimits rfl ⟨rfl, rfl⟩ (by decide +kernel) rfl ⟨by decide, by decide⟩ rfl (Nat.le_of_ble_eq_true rfl) dX2_shareOut_15 ⟨by decide, by decide⟩ ?_
  refine g_i2l X dX2_shareOut_18 rfl ?_
  refine g_lstore_n3 X dX2_shareOut_19 rfl (by decide) rfl ?_
  refine g_aload_n X dX2_shareOut_20 rfl rfl ?_
  refine g_get_16_8 X hi2 (by decide +kernel) dX2_shareOut_21 ?_
  simp only [py_16_8]
  refine g_aload_n X dX2_shareOut_24 rfl rfl ?_
  refine g_get_16_10 X hi2 (by decide +kernel) dX2_shareOut_25 ?_
  simp only [py_16_10]
  refine g_isub X dX2_shareOut_28 ?_
  refine g_i2l X dX2_shareOut_29 rfl ?_
  refine g_lload_n X dX2_shareOut_30 rfl rfl ?_
  refine g_minl X (by decide +kernel) ⟨by decide, Nat.le_of_ble_eq_true rfl, by decide, by decide⟩ dX2_shareOut_31 ?_
  refine g_lstore_s5 X dX2_shareOut_34 (by decide) rfl ?_
  refine g_lload X dX2_shareOut_36 rfl ?_
  refine g_lstore_s7 X dX2_shareOut_38 (by decide) rfl ?_
  refine g_iconstN X 0 dX2_shareOut_40 ?_
  refine g_istore_s9 X dX2_shareOut_41 (by decide) rfl ?_
  refine g_wf (fun r ls σ2 => ∃ (i : Nat), σ2 = pyS σ bo pr am bp pd th ca ow mg (fillI du (soDs (σ.1 2) b L am pd) i) bl (fillI re (soRs (σ.1 2) b L am pd) i) ∧ i + r = L ∧ ls = [some (.ref (ad γ 16)), some (.ref (ad γ 1)), some (.int (nI L)), some (.long (soLim (σ.1 2) b L)), none, some (.long (soRst (σ.1 2) b L am pd)), none, some (.long (soO (soDs (σ.1 2) b L am pd) (soRst (σ.1 2) b L am pd) i)), none, some (.int (nI i)), none, none]) L ⟨0, by rw [fill_0, fill_0], by omega, rfl⟩ (fun r ls2 σ2 hI ih => ?_)
  obtain ⟨i, rfl, hi, rfl⟩ := hI
  refine g_iload X dX2_shareOut_43 rfl ?_
  refine g_iload_n X dX2_shareOut_45 rfl rfl ?_
  refine g_icmpN_ge (tgt := 128) X dX2_shareOut_46 (by decide) (by omega) (by omega) (fun c_46 => ?_) (fun c_46 => ?_)
  · have e : L = i := by omega
    subst e
    refine g_iconstN X 0 dX2_shareOut_128 ?_
    refine g_istore_s9 X dX2_shareOut_129 (by decide) rfl ?_
    refine g_wf (fun r ls σ2 => ∃ (i : Nat) (du2 : Nat → Int32) (re2 : Nat → Int64) (op : Int64), σ2 = pyS σ bo pr am bp pd th ca ow mg du2 bl re2 ∧ i + r = L ∧ ls = [some (.ref (ad γ 16)), some (.ref (ad γ 1)), some (.int (nI L)), some (.long (soLim (σ.1 2) b L)), none, some (.long (soRst (σ.1 2) b L am pd)), none, some (.long op), none, some (.int (nI i)), none, none] ∧ shI (σ.1 2) b L am pd du re = rndI L r du2 re2 op) L ⟨0, _, _, _, rfl, by omega, rfl, rfl⟩ (fun r ls2 σ2 hI ih => ?_)
    obtain ⟨i, du2, re2, op, rfl, hi, rfl, hsh⟩ := hI
    refine g_iload X dX2_shareOut_131 rfl ?_
    refine g_iload_n X dX2_shareOut_133 rfl rfl ?_
    refine g_icmpN_ge (tgt := 184) X dX2_shareOut_134 (by decide) (by omega) (by omega) (fun c_134 => ?_) (fun c_134 => ?_)
    · exact g_vret X hr hlk dX2_shareOut_184 (by refine ⟨rfl, ?_⟩; rw [hsh]; first | (have q9 := cmp_le c_141; simp only [rndI, if_neg q9]; done) | (have e : r = 0 := (by omega); subst e; rfl))
    · obtain ⟨r, rfl⟩ : ∃ r2, r = r2 + 1 := ⟨r - 1, by omega⟩
      have hgr := grI_le re2 (L - 1)
      refine g_lload X dX2_shareOut_137 rfl ?_
      refine g_lconst (v := 0) X dX2_shareOut_139 (by decide) ?_
      refine g_lcmp X dX2_shareOut_140 ?_
      refine g_if_le (tgt := 184) X dX2_shareOut_141 (by decide) (fun c_141 => ?_) (fun c_141 => ?_)
      · exact g_vret X hr hlk dX2_shareOut_184 (by refine ⟨rfl, ?_⟩; rw [hsh]; first | (have q9 := cmp_le c_141; simp only [rndI, if_neg q9]; done) | (have e : r = 0 := (by omega); subst e; rfl))
      · replace c_141 := cmp_nle c_141
        refine g_aload_n X dX2_shareOut_144 rfl rfl ?_
        refine g_iload_n X dX2_shareOut_145 rfl rfl ?_
        refine g_callVi (na := 1) X hj (k_X2_greatestRemainder l γ σ _ _ _ _ _ _ _ _ _ _ _ _ L (by omega) hL4) gW_16 rfl gX2_shareOut_X2_greatestRemainder rfl ⟨rfl, rfl⟩ (by decide +kernel) rfl ⟨by decide, by decide⟩ rfl (Nat.le_of_ble_eq_true rfl) dX2_shareOut_146 ⟨by decide, by decide⟩ ?_
        refine g_istore_s10 X dX2_shareOut_149 (by decide) rfl ?_
        refine g_aload_n X dX2_shareOut_151 rfl rfl ?_
        refine g_get_16_3 X hi2 (by decide +kernel) dX2_shareOut_152 ?_
        refine g_iload X dX2_shareOut_155 rfl ?_
        refine g_dup2_11 X dX2_shareOut_157 rfl rfl ?_
        refine g_ald_20 X rfl (by omega) dX2_shareOut_158 ?_
        simp only [py_20]
        refine g_iconstN X 1 dX2_shareOut_159 ?_
        refine g_iadd X dX2_shareOut_160 ?_
        refine g_ast_20 X rfl (by omega) dX2_shareOut_161 ?_
        simp only [py_w20, py_20]
        refine g_aload_n X dX2_shareOut_162 rfl rfl ?_
        refine g_get_16_5 X hi2 (by decide +kernel) dX2_shareOut_163 ?_
        refine g_iload X dX2_shareOut_166 rfl ?_
        refine g_ldc2 (v := -1) X (by decide +kernel) dX2_shareOut_168 ?_
        refine g_ast_22 X rfl (by omega) dX2_shareOut_171 ?_
        simp only [py_w22, py_22]
        refine g_lload X dX2_shareOut_172 rfl ?_
        refine g_lconst (v := 1) X dX2_shareOut_174 (by decide) ?_
        refine g_lsub X dX2_shareOut_175 ?_
        refine g_lstore_s7 X dX2_shareOut_176 (by decide) rfl ?_
        refine g_iincN9 (d := 1) X dX2_shareOut_178 (by decide) rfl ?_
        refine g_goto (tgt := 131) X dX2_shareOut_181 (by decide) ?_
        exact g_le (by simp [gl_le]) (ih r (by omega) _ _ ⟨i + 1, upd du2 (grI re2 (L - 1)) (du2 (grI re2 (L - 1)) + nI 1), vp_updL re2 (grI re2 (L - 1)) (-1), op - 1, rfl, by omega, rfl, by rw [hsh]; simp only [rndI, if_pos c_141]⟩)
  · refine g_lload X dX2_shareOut_49 rfl ?_
    refine g_aload_n X dX2_shareOut_51 rfl rfl ?_
    refine g_aload_n X dX2_shareOut_52 rfl rfl ?_
    refine g_get_16_6 X hi2 (by decide +kernel) dX2_shareOut_53 ?_
    refine g_top (y := nI b) hbo ?_
    refine g_iload X dX2_shareOut_56 rfl ?_
    refine g_iconstN X 2 dX2_shareOut_58 ?_
    refine g_callVi (na := 3) X hj (k_X3_layerFact l γ _ _ _ _ (by omega) (by omega) (by omega)) gW_1 rfl gX2_shareOut_X3_layerFact rfl ⟨rfl, rfl⟩ (by decide +kernel) rfl ⟨by decide, by decide⟩ rfl (Nat.le_of_ble_eq_true rfl) dX2_shareOut_59 ⟨by decide, by decide⟩ ?_
    simp only [py_2]
    refine g_i2l X dX2_shareOut_62 rfl ?_
    refine g_lmul X dX2_shareOut_63 ?_
    refine g_lstore_s10 X dX2_shareOut_64 (by decide) rfl ?_
    refine g_aload_n X dX2_shareOut_66 rfl rfl ?_
    refine g_get_16_3 X hi2 (by decide +kernel) dX2_shareOut_67 ?_
    refine g_iload X dX2_shareOut_70 rfl ?_
    refine g_lload_n X dX2_shareOut_72 rfl rfl ?_
    refine g_lconst (v := 0) X dX2_shareOut_73 (by decide) ?_
    refine g_lcmp X dX2_shareOut_74 ?_
    refine g_if_le (tgt := 86) X dX2_shareOut_75 (by decide) (fun c_75 => ?_) (fun c_75 => ?_)
    · replace c_75 := cmp_le c_75
      refine g_iconstN X 0 dX2_shareOut_86 ?_
      refine g_top (y := (soDs (σ.1 2) b L am pd) i) (by unfold soDs soD; first | (rw [if_pos c_75]; done) | (rw [if_pos c_75]; rfl) | (rw [if_neg c_75]; done)) ?_
      refine g_ast_20 X rfl (by omega) dX2_shareOut_87 ?_
      simp only [py_w20, py_20]
      refine g_aload_n X dX2_shareOut_88 rfl rfl ?_
      refine g_get_16_5 X hi2 (by decide +kernel) dX2_shareOut_89 ?_
      refine g_iload X dX2_shareOut_92 rfl ?_
      refine g_lload_n X dX2_shareOut_94 rfl rfl ?_
      refine g_lconst (v := 0) X dX2_shareOut_95 (by decide) ?_
      refine g_lcmp X dX2_shareOut_96 ?_
      refine g_if_le (tgt := 107) X dX2_shareOut_97 (by decide) (fun c_97 => ?_) (fun c_97 => ?_)
      · replace c_97 := cmp_le c_97
        refine g_lconst (v := 0) X dX2_shareOut_107 (by decide) ?_
        refine g_topL (y := (soRs (σ.1 2) b L am pd) i) (by unfold soRs soR; first | (rw [if_pos c_97]; done) | (rw [if_pos c_97]; rfl) | (rw [if_neg c_97]; done)) ?_
        refine g_ast_22 X rfl (by omega) dX2_shareOut_108 ?_
        simp only [py_w22, py_22]
        refine g_lload X dX2_shareOut_109 rfl ?_
        refine g_aload_n X dX2_shareOut_111 rfl rfl ?_
        refine g_get_16_3 X hi2 (by decide +kernel) dX2_shareOut_112 ?_
        refine g_iload X dX2_shareOut_115 rfl ?_
        refine g_ald_20 X rfl (by omega) dX2_shareOut_117 ?_
        simp only [py_20]
        refine g_i2l X dX2_shareOut_118 rfl ?_
        refine g_lsub X dX2_shareOut_119 ?_
        refine g_lstore_s7 X dX2_shareOut_120 (by decide) rfl ?_
        refine g_iincN9 (d := 1) X dX2_shareOut_122 (by decide) rfl ?_
        refine g_goto (tgt := 43) X dX2_shareOut_125 (by decide) ?_
        exact g_le (by simp [gl_le, soO, upd]) (ih (r - 1) (by omega) _ _ ⟨i + 1, by rw [fill_s du (soDs (σ.1 2) b L am pd), fill_l re (soRs (σ.1 2) b L am pd)], by omega, rfl⟩)
      · replace c_97 := cmp_nle c_97
        refine g_lload X dX2_shareOut_100 rfl ?_
        refine g_lload_n X dX2_shareOut_102 rfl rfl ?_
        refine g_lrem X dX2_shareOut_103 (fun q => by rw [q] at c_97; exact absurd c_97 (by decide)) ?_
        refine g_goto (tgt := 108) X dX2_shareOut_104 (by decide) ?_
        refine g_topL (y := (soRs (σ.1 2) b L am pd) i) (by unfold soRs soR; first | (rw [if_pos c_97]; done) | (rw [if_pos c_97]; rfl) | (rw [if_neg c_97]; done)) ?_
        refine g_ast_22 X rfl (by omega) dX2_shareOut_108 ?_
        simp only [py_w22, py_22]
        refine g_lload X dX2_shareOut_109 rfl ?_
        refine g_aload_n X dX2_shareOut_111 rfl rfl ?_
        refine g_get_16_3 X hi2 (by decide +kernel) dX2_shareOut_112 ?_
        refine g_iload X dX2_shareOut_115 rfl ?_
        refine g_ald_20 X rfl (by omega) dX2_shareOut_117 ?_
        simp only [py_20]
        refine g_i2l X dX2_shareOut_118 rfl ?_
        refine g_lsub X dX2_shareOut_119 ?_
        refine g_lstore_s7 X dX2_shareOut_120 (by decide) rfl ?_
        refine g_iincN9 (d := 1) X dX2_shareOut_122 (by decide) rfl ?_
        refine g_goto (tgt := 43) X dX2_shareOut_125 (by decide) ?_
        exact g_le (by simp [gl_le, soO, upd]) (ih (r - 1) (by omega) _ _ ⟨i + 1, by rw [fill_s du (soDs (σ.1 2) b L am pd), fill_l re (soRs (σ.1 2) b L am pd)], by omega, rfl⟩)
    · replace c_75 := cmp_nle c_75
      refine g_lload X dX2_shareOut_78 rfl ?_
      refine g_lload_n X dX2_shareOut_80 rfl rfl ?_
      refine g_ldiv X dX2_shareOut_81 (fun q => by rw [q] at c_75; exact absurd c_75 (by decide)) ?_
      refine g_l2i X dX2_shareOut_82 rfl ?_
      refine g_goto (tgt := 87) X dX2_shareOut_83 (by decide) ?_
      refine g_top (y := (soDs (σ.1 2) b L am pd) i) (by unfold soDs soD; first | (rw [if_pos c_75]; done) | (rw [if_pos c_75]; rfl) | (rw [if_neg c_75]; done)) ?_
      refine g_ast_20 X rfl (by omega) dX2_shareOut_87 ?_
      simp only [py_w20, py_20]
      refine g_aload_n X dX2_shareOut_88 rfl rfl ?_
      refine g_get_16_5 X hi2 (by decide +kernel) dX2_shareOut_89 ?_
      refine g_iload X dX2_shareOut_92 rfl ?_
      refine g_lload_n X dX2_shareOut_94 rfl rfl ?_
      refine g_lconst (v := 0) X dX2_shareOut_95 (by decide) ?_
      refine g_lcmp X dX2_shareOut_96 ?_
      refine g_if_le (tgt := 107) X dX2_shareOut_97 (by decide) (fun c_97 => ?_) (fun c_97 => ?_)
      · replace c_97 := cmp_le c_97
        refine g_lconst (v := 0) X dX2_shareOut_107 (by decide) ?_
        refine g_topL (y := (soRs (σ.1 2) b L am pd) i) (by unfold soRs soR; first | (rw [if_pos c_97]; done) | (rw [if_pos c_97]; rfl) | (rw [if_neg c_97]; done)) ?_
        refine g_ast_22 X rfl (by omega) dX2_shareOut_108 ?_
        simp only [py_w22, py_22]
        refine g_lload X dX2_shareOut_109 rfl ?_
        refine g_aload_n X dX2_shareOut_111 rfl rfl ?_
        refine g_get_16_3 X hi2 (by decide +kernel) dX2_shareOut_112 ?_
        refine g_iload X dX2_shareOut_115 rfl ?_
        refine g_ald_20 X rfl (by omega) dX2_shareOut_117 ?_
        simp only [py_20]
        refine g_i2l X dX2_shareOut_118 rfl ?_
        refine g_lsub X dX2_shareOut_119 ?_
        refine g_lstore_s7 X dX2_shareOut_120 (by decide) rfl ?_
        refine g_iincN9 (d := 1) X dX2_shareOut_122 (by decide) rfl ?_
        refine g_goto (tgt := 43) X dX2_shareOut_125 (by decide) ?_
        exact g_le (by simp [gl_le, soO, upd]) (ih (r - 1) (by omega) _ _ ⟨i + 1, by rw [fill_s du (soDs (σ.1 2) b L am pd), fill_l re (soRs (σ.1 2) b L am pd)], by omega, rfl⟩)
      · replace c_97 := cmp_nle c_97
        refine g_lload X dX2_shareOut_100 rfl ?_
        refine g_lload_n X dX2_shareOut_102 rfl rfl ?_
        refine g_lrem X dX2_shareOut_103 (fun q => by rw [q] at c_97; exact absurd c_97 (by decide)) ?_
        refine g_goto (tgt := 108) X dX2_shareOut_104 (by decide) ?_
        refine g_topL (y := (soRs (σ.1 2) b L am pd) i) (by unfold soRs soR; first | (rw [if_pos c_97]; done) | (rw [if_pos c_97]; rfl) | (rw [if_neg c_97]; done)) ?_
        refine g_ast_22 X rfl (by omega) dX2_shareOut_108 ?_
        simp only [py_w22, py_22]
        refine g_lload X dX2_shareOut_109 rfl ?_
        refine g_aload_n X dX2_shareOut_111 rfl rfl ?_
        refine g_get_16_3 X hi2 (by decide +kernel) dX2_shareOut_112 ?_
        refine g_iload X dX2_shareOut_115 rfl ?_
        refine g_ald_20 X rfl (by omega) dX2_shareOut_117 ?_
        simp only [py_20]
        refine g_i2l X dX2_shareOut_118 rfl ?_
        refine g_lsub X dX2_shareOut_119 ?_
        refine g_lstore_s7 X dX2_shareOut_120 (by decide) rfl ?_
        refine g_iincN9 (d := 1) X dX2_shareOut_122 (by decide) rfl ?_
        refine g_goto (tgt := 43) X dX2_shareOut_125 (by decide) ?_
        exact g_le (by simp [gl_le, soO, upd]) (ih (r - 1) (by omega) _ _ ⟨i + 1, by rw [fill_s du (soDs (σ.1 2) b L am pd), fill_l re (soRs (σ.1 2) b L am pd)], by omega, rfl⟩)
set_option maxRecDepth 20000 in
theorem k_X2_draw (l : Launch) (γ : gG) (σ : gS) (b prn L : Nat) (su : Nat → Nat) (amt : Int32) (hb : b < 10) (hprn : σ.1 2 (117 + b * 31 + 0) = nI prn) (hpn : prn < 8) (hL : σ.1 2 (117 + b * 31 + 3) = nI L) (hL4 : L ≤ 4) (hsu : ∀ i, i < L → σ.1 2 (117 + b * 31 + 15 + i * 4 + 0) = nI (su i) ∧ su i < 8) : gM l γ yX2_draw wsX2_draw ({ frames := 3, cells := 0, slots := 0, locals := 77 } : Room) [.ref (ad γ 16), .ref (ad γ 1), .int (nI b), .int amt] σ (gis none (drS σ b prn L amt)) 0 0 := by
  refine g_enter (own := RX2) (cc := cX2_draw) (nL := 6) (ret := none) [some (.ref (ad γ 16)), some (.ref (ad γ 1)), some (.int (nI b)), some (.int amt), none, none] (by decide) rfl rfl (by simp [lg_sl, Value.category]) (by simp [gl_le, glE, Value.category]) (fun hj p e s m args below meth c X hr hlk hnm => ?_)
  have hi2 : ∀ w ∈ wsX20, w ∈ wsX2_draw := by decide +kernel
  refine g_aload_n X dX2_draw_0 rfl rfl ?_
  refine g_aload_n X dX2_draw_1 rfl rfl ?_
  refine g_iload_n X dX2_draw_2 rfl rfl ?_
  refine g_iload_n X dX2_draw_3 rfl rfl ?_
  refine g_callVv (na := 3) X hj (k_X2_begin l γ σ _ _ (by omega)) gW_16 rfl gX2_draw_X2_begin rfl ⟨rfl, rfl⟩ (by decide +kernel) rfl ⟨by decide, by decide⟩ rfl (Nat.le_of_ble_eq_true rfl) dX2_draw_4 ⟨by decide, by decide⟩ ?_
  unfold beS
  refine g_aload_n X dX2_draw_7 rfl rfl ?_
  refine g_aload_n X dX2_draw_8 rfl rfl ?_
  refine g_get_16_8 X hi2 (by decide +kernel) dX2_draw_9 ?_
  refine g_aload_n X dX2_draw_12 rfl rfl ?_
  refine g_get_16_0 X hi2 (by decide +kernel) dX2_draw_13 ?_
  refine g_aload_n X dX2_draw_16 rfl rfl ?_
  refine g_get_16_7 X hi2 (by decide +kernel) dX2_draw_17 ?_
  refine g_top (y := nI prn) hprn ?_
  refine g_ald_17 X rfl (by omega) dX2_draw_20 ?_
  refine g_top (x := (drCa σ) prn) (y := (drCa σ) prn) rfl ?_
  refine g_min X (by decide +kernel) ⟨by decide, Nat.le_of_ble_eq_true rfl, by decide, by decide⟩ dX2_draw_21 ?_
  refine g_put_16_9 X hi2 (by decide +kernel) dX2_draw_24 ?_
  refine g_eq rfl (σ' := pyS σ (nI b) (nI prn) (drAm σ b amt) (drBp σ b prn amt) (σ.1 16 10) (-1) (drCa σ) (fillI (σ.1 18) (fun _ => nI 0) 8) (fillI (σ.1 19) (fun _ => nI 0) 8) (σ.1 20) (σ.1 21) (σ.2 22)) (by simp only [py_w9, py_16_8]; rw [hprn]; rfl) ?_
  refine g_aload_n X dX2_draw_27 rfl rfl ?_
  refine g_get_16_0 X hi2 (by decide +kernel) dX2_draw_28 ?_
  refine g_aload_n X dX2_draw_31 rfl rfl ?_
  refine g_get_16_7 X hi2 (by decide +kernel) dX2_draw_32 ?_
  refine g_dup2_11 X dX2_draw_35 rfl rfl ?_
  refine g_ald_17 X rfl (by omega) dX2_draw_36 ?_
  simp only [py_17]
  refine g_aload_n X dX2_draw_37 rfl rfl ?_
  refine g_get_16_9 X hi2 (by decide +kernel) dX2_draw_38 ?_
  simp only [py_16_9]
  refine g_isub X dX2_draw_41 ?_
  refine g_ast_17 X rfl (by omega) dX2_draw_42 ?_
  simp only [py_w17]
  refine g_aload_n X dX2_draw_43 rfl rfl ?_
  refine g_aload_n X dX2_draw_44 rfl rfl ?_
  refine g_get_16_9 X hi2 (by decide +kernel) dX2_draw_45 ?_
  simp only [py_16_9]
  refine g_put_16_10 X hi2 (by decide +kernel) dX2_draw_48 ?_
  simp only [py_w10]
  by_cases hw : σ.1 2 (117 + b * 31 + 2) = nI 1
  · skip
    refine g_aload_n X dX2_draw_51 rfl rfl ?_
    refine g_aload_n X dX2_draw_52 rfl rfl ?_
    refine g_get_16_6 X hi2 (by decide +kernel) dX2_draw_53 ?_
    refine g_top (y := nI b) rfl ?_
    refine g_iconstN X 2 dX2_draw_56 ?_
    refine g_callVi (na := 2) X hj (k_X3_bondFact l γ _ _ _ (by omega)) gW_1 rfl gX2_draw_X3_bondFact rfl ⟨rfl, rfl⟩ (by decide +kernel) rfl ⟨by decide, by decide⟩ rfl (Nat.le_of_ble_eq_true rfl) dX2_draw_57 ⟨by decide, by decide⟩ ?_
    refine g_iconstN X 1 dX2_draw_60 ?_
    refine g_icmp_ne (tgt := 68) X dX2_draw_61 (by decide) (fun c_61 => absurd hw c_61) (fun c_61 => ?_)
    refine g_iconstN X 1 dX2_draw_64 ?_
    refine g_goto (tgt := 69) X dX2_draw_65 (by decide) ?_
    refine g_istore_s4 X dX2_draw_69 (by decide) rfl ?_
    refine g_iload X dX2_draw_71 rfl ?_
    refine g_if_eq (tgt := 81) X dX2_draw_73 (by decide) (fun c_73 => absurd c_73 (by decide)) (fun c_73 => ?_)
    refine g_aload_n X dX2_draw_76 rfl rfl ?_
    refine g_aload_n X dX2_draw_77 rfl rfl ?_
    refine g_callVv (na := 1) X hj (k_X2_shareOut l γ σ _ _ _ _ _ _ _ _ _ _ _ _ b L rfl hb hL hL4) gW_16 rfl gX2_draw_X2_shareOut rfl ⟨rfl, rfl⟩ (by decide +kernel) rfl ⟨by decide, by decide⟩ rfl (Nat.le_of_ble_eq_true rfl) dX2_draw_78 ⟨by decide, by decide⟩ ?_
    refine g_iconstN X 0 dX2_draw_81 ?_
    refine g_istore_s5 X dX2_draw_82 (by decide) rfl ?_
    refine g_wf (fun r ls σ2 => ∃ (i : Nat) (t : T7), i + r = L ∧ σ2 = pyS σ (nI b) (nI prn) (drAm σ b amt) (drBp σ b prn amt) t.1 t.2.1 t.2.2.1.1 t.2.2.1.2.1 t.2.2.1.2.2 t.2.2.2.1 t.2.2.2.2 (shI (σ.1 2) b L (drAm σ b amt) (drBp σ b prn amt) (σ.1 20) (σ.2 22)).2 ∧ ls = [some (.ref (ad γ 16)), some (.ref (ad γ 1)), some (.int (nI b)), some (.int amt), some (.int (nI 1)), some (.int (nI i))] ∧ t = drI (σ.1 2) b prn (drAm σ b amt) true i ((drBp σ b prn amt), -1, ((upd (drCa σ) prn (drCa σ prn - drBp σ b prn amt)), (fillI (σ.1 18) (fun _ => nI 0) 8), (fillI (σ.1 19) (fun _ => nI 0) 8)), (shI (σ.1 2) b L (drAm σ b amt) (drBp σ b prn amt) (σ.1 20) (σ.2 22)).1, σ.1 21)) L ⟨0, ((drBp σ b prn amt), -1, ((upd (drCa σ) prn (drCa σ prn - drBp σ b prn amt)), (fillI (σ.1 18) (fun _ => nI 0) 8), (fillI (σ.1 19) (fun _ => nI 0) 8)), (shI (σ.1 2) b L (drAm σ b amt) (drBp σ b prn amt) (σ.1 20) (σ.2 22)).1, σ.1 21), by omega, rfl, rfl, rfl⟩ (fun r ls2 σ2 hI ih => ?_)
    obtain ⟨i, t, hi, rfl, rfl, ht⟩ := hI
    refine g_iload X dX2_draw_84 rfl ?_
    refine g_aload_n X dX2_draw_86 rfl rfl ?_
    refine g_aload_n X dX2_draw_87 rfl rfl ?_
    refine g_get_16_6 X hi2 (by decide +kernel) dX2_draw_88 ?_
    refine g_top (y := nI b) rfl ?_
    refine g_iconstN X 3 dX2_draw_91 ?_
    refine g_callVi (na := 2) X hj (k_X3_bondFact l γ _ _ _ (by omega)) gW_1 rfl gX2_draw_X3_bondFact rfl ⟨rfl, rfl⟩ (by decide +kernel) rfl ⟨by decide, by decide⟩ rfl (Nat.le_of_ble_eq_true rfl) dX2_draw_92 ⟨by decide, by decide⟩ ?_
    refine g_top (y := nI L) hL ?_
    refine g_icmpN_ge (tgt := 146) X dX2_draw_95 (by decide) (by omega) (by omega) (fun c_95 => ?_) (fun c_95 => ?_)
    · exact g_vret X hr hlk dX2_draw_146 (by have e : i = L := (by omega); subst e; refine ⟨rfl, ?_⟩; rw [ht]; unfold drS pyT drT drSo; rw [if_pos hw, decide_eq_true hw])
    · obtain ⟨hsuI, hsuI8⟩ := hsu i c_95
      refine g_iload X dX2_draw_98 rfl ?_
      refine g_if_ne (tgt := 133) X dX2_draw_100 (by decide) (fun c_100 => ?_) (fun c_100 => absurd c_100 (by decide))
      refine g_aload_n X dX2_draw_133 rfl rfl ?_
      refine g_aload_n X dX2_draw_134 rfl rfl ?_
      refine g_iload X dX2_draw_135 rfl ?_
      refine g_callVv (na := 2) X hj (k_X2_payByLayer l γ σ _ _ _ _ _ _ _ _ _ _ _ _ b prn (su i) _ rfl hb rfl hpn (by omega) hsuI hsuI8) gW_16 rfl gX2_draw_X2_payByLayer rfl ⟨rfl, rfl⟩ (by decide +kernel) rfl ⟨by decide, by decide⟩ rfl (Nat.le_of_ble_eq_true rfl) dX2_draw_137 ⟨by decide, by decide⟩ ?_
      refine g_iincN5 (d := 1) X dX2_draw_140 (by decide) rfl ?_
      refine g_goto (tgt := 84) X dX2_draw_143 (by decide) ?_
      exact ih (r - 1) (by omega) _ _ ⟨i + 1, _, by omega, rfl, rfl, by rw [drI, ← ht]; simp only [dwS, tN_nI hsuI (show su i < 2 ^ 31 by omega), if_true, if_false]; try rfl⟩
  · skip
    refine g_aload_n X dX2_draw_51 rfl rfl ?_
    refine g_aload_n X dX2_draw_52 rfl rfl ?_
    refine g_get_16_6 X hi2 (by decide +kernel) dX2_draw_53 ?_
    refine g_top (y := nI b) rfl ?_
    refine g_iconstN X 2 dX2_draw_56 ?_
    refine g_callVi (na := 2) X hj (k_X3_bondFact l γ _ _ _ (by omega)) gW_1 rfl gX2_draw_X3_bondFact rfl ⟨rfl, rfl⟩ (by decide +kernel) rfl ⟨by decide, by decide⟩ rfl (Nat.le_of_ble_eq_true rfl) dX2_draw_57 ⟨by decide, by decide⟩ ?_
    refine g_iconstN X 1 dX2_draw_60 ?_
    refine g_icmp_ne (tgt := 68) X dX2_draw_61 (by decide) (fun c_61 => ?_) (fun c_61 => absurd c_61 hw)
    refine g_iconstN X 0 dX2_draw_68 ?_
    refine g_istore_s4 X dX2_draw_69 (by decide) rfl ?_
    refine g_iload X dX2_draw_71 rfl ?_
    refine g_if_eq (tgt := 81) X dX2_draw_73 (by decide) (fun c_73 => ?_) (fun c_73 => absurd (by decide) c_73)
    refine g_iconstN X 0 dX2_draw_81 ?_
    refine g_istore_s5 X dX2_draw_82 (by decide) rfl ?_
    refine g_wf (fun r ls σ2 => ∃ (i : Nat) (t : T7), i + r = L ∧ σ2 = pyS σ (nI b) (nI prn) (drAm σ b amt) (drBp σ b prn amt) t.1 t.2.1 t.2.2.1.1 t.2.2.1.2.1 t.2.2.1.2.2 t.2.2.2.1 t.2.2.2.2 (σ.2 22) ∧ ls = [some (.ref (ad γ 16)), some (.ref (ad γ 1)), some (.int (nI b)), some (.int amt), some (.int (nI 0)), some (.int (nI i))] ∧ t = drI (σ.1 2) b prn (drAm σ b amt) false i ((drBp σ b prn amt), -1, ((upd (drCa σ) prn (drCa σ prn - drBp σ b prn amt)), (fillI (σ.1 18) (fun _ => nI 0) 8), (fillI (σ.1 19) (fun _ => nI 0) 8)), (σ.1 20), σ.1 21)) L ⟨0, ((drBp σ b prn amt), -1, ((upd (drCa σ) prn (drCa σ prn - drBp σ b prn amt)), (fillI (σ.1 18) (fun _ => nI 0) 8), (fillI (σ.1 19) (fun _ => nI 0) 8)), (σ.1 20), σ.1 21), by omega, rfl, rfl, rfl⟩ (fun r ls2 σ2 hI ih => ?_)
    obtain ⟨i, t, hi, rfl, rfl, ht⟩ := hI
    refine g_iload X dX2_draw_84 rfl ?_
    refine g_aload_n X dX2_draw_86 rfl rfl ?_
    refine g_aload_n X dX2_draw_87 rfl rfl ?_
    refine g_get_16_6 X hi2 (by decide +kernel) dX2_draw_88 ?_
    refine g_top (y := nI b) rfl ?_
    refine g_iconstN X 3 dX2_draw_91 ?_
    refine g_callVi (na := 2) X hj (k_X3_bondFact l γ _ _ _ (by omega)) gW_1 rfl gX2_draw_X3_bondFact rfl ⟨rfl, rfl⟩ (by decide +kernel) rfl ⟨by decide, by decide⟩ rfl (Nat.le_of_ble_eq_true rfl) dX2_draw_92 ⟨by decide, by decide⟩ ?_
    refine g_top (y := nI L) hL ?_
    refine g_icmpN_ge (tgt := 146) X dX2_draw_95 (by decide) (by omega) (by omega) (fun c_95 => ?_) (fun c_95 => ?_)
    · exact g_vret X hr hlk dX2_draw_146 (by have e : i = L := (by omega); subst e; refine ⟨rfl, ?_⟩; rw [ht]; unfold drS pyT drT drSo; rw [if_neg hw, decide_eq_false hw])
    · obtain ⟨hsuI, hsuI8⟩ := hsu i c_95
      refine g_iload X dX2_draw_98 rfl ?_
      refine g_if_ne (tgt := 133) X dX2_draw_100 (by decide) (fun c_100 => absurd (by decide) c_100) (fun c_100 => ?_)
      refine g_aload_n X dX2_draw_103 rfl rfl ?_
      refine g_get_16_3 X hi2 (by decide +kernel) dX2_draw_104 ?_
      refine g_iload X dX2_draw_107 rfl ?_
      refine g_aload_n X dX2_draw_109 rfl rfl ?_
      refine g_get_16_8 X hi2 (by decide +kernel) dX2_draw_110 ?_
      simp only [py_16_8]
      refine g_aload_n X dX2_draw_113 rfl rfl ?_
      refine g_get_16_10 X hi2 (by decide +kernel) dX2_draw_114 ?_
      simp only [py_16_10]
      refine g_isub X dX2_draw_117 ?_
      refine g_aload_n X dX2_draw_118 rfl rfl ?_
      refine g_aload_n X dX2_draw_119 rfl rfl ?_
      refine g_get_16_6 X hi2 (by decide +kernel) dX2_draw_120 ?_
      refine g_top (y := nI b) rfl ?_
      refine g_iload X dX2_draw_123 rfl ?_
      refine g_iconstN X 2 dX2_draw_125 ?_
      refine g_callVi (na := 3) X hj (k_X3_layerFact l γ _ _ _ _ (by omega) (by omega) (by omega)) gW_1 rfl gX2_draw_X3_layerFact rfl ⟨rfl, rfl⟩ (by decide +kernel) rfl ⟨by decide, by decide⟩ rfl (Nat.le_of_ble_eq_true rfl) dX2_draw_126 ⟨by decide, by decide⟩ ?_
      refine g_min X (by decide +kernel) ⟨by decide, Nat.le_of_ble_eq_true rfl, by decide, by decide⟩ dX2_draw_129 ?_
      refine g_ast_20 X rfl (by omega) dX2_draw_132 ?_
      simp only [py_w20, py_20]
      refine g_aload_n X dX2_draw_133 rfl rfl ?_
      refine g_aload_n X dX2_draw_134 rfl rfl ?_
      refine g_iload X dX2_draw_135 rfl ?_
      refine g_callVv (na := 2) X hj (k_X2_payByLayer l γ σ _ _ _ _ _ _ _ _ _ _ _ _ b prn (su i) _ rfl hb rfl hpn (by omega) hsuI hsuI8) gW_16 rfl gX2_draw_X2_payByLayer rfl ⟨rfl, rfl⟩ (by decide +kernel) rfl ⟨by decide, by decide⟩ rfl (Nat.le_of_ble_eq_true rfl) dX2_draw_137 ⟨by decide, by decide⟩ ?_
      refine g_iincN5 (d := 1) X dX2_draw_140 (by decide) rfl ?_
      refine g_goto (tgt := 84) X dX2_draw_143 (by decide) ?_
      exact ih (r - 1) (by omega) _ _ ⟨i + 1, _, by omega, rfl, rfl, by rw [drI, ← ht]; simp only [dwS, tN_nI hsuI (show su i < 2 ^ 31 by omega), if_true, if_false]; try rfl⟩
set_option maxRecDepth 20000 in
theorem k_X2_leftOfLimitsThen (l : Launch) (γ : gG) (σ : gS) (bo pr am bp pd th : Int32) (ca ow mg du bl : Nat → Int32) (re : Nat → Int64) (b L : Nat) (hbo : bo = nI b) (hb : b < 10) (hL : σ.1 2 (117 + b * 31 + 3) = nI L) (hL4 : L ≤ 4) : gM l γ yX2_leftOfLimitsThen wsX2_leftOfLimitsThen ({ frames := 2, cells := 0, slots := 0, locals := 46 } : Room) [.ref (ad γ 16), .ref (ad γ 1)] (pyS σ bo pr am bp pd th ca ow mg du bl re) (gis (some (.int (lfT (σ.1 2) b L am bp pd))) (pyS σ bo pr am bp pd th ca ow mg du bl re)) 0 0 := by
  refine g_enter (own := RX2) (cc := cX2_leftOfLimitsThen) (nL := 3) (ret := (some .int)) [some (.ref (ad γ 16)), some (.ref (ad γ 1)), none] (by decide) rfl rfl (by simp [lg_sl, Value.category]) (by simp [gl_le, glE, Value.category]) (fun hj p e s m args below meth c X hr hlk hnm => ?_)
  have hi2 : ∀ w ∈ wsX20, w ∈ wsX2_leftOfLimitsThen := by decide +kernel
  refine g_aload_n X dX2_leftOfLimitsThen_0 rfl rfl ?_
  refine g_aload_n X dX2_leftOfLimitsThen_1 rfl rfl ?_
  refine g_get_16_6 X hi2 (by decide +kernel) dX2_leftOfLimitsThen_2 ?_
  refine g_top (y := nI b) hbo ?_
  refine g_callVi (na := 1) X hj (k_X3_leftOfLimits l γ _ _ L (by omega) hL hL4) gW_1 rfl gX2_leftOfLimitsThen_X3_leftOfLimits rfl ⟨rfl, rfl⟩ (by decide +kernel) rfl ⟨by decide, by decide⟩ rfl (Nat.le_of_ble_eq_true rfl) dX2_leftOfLimitsThen_5 ⟨by decide, by decide⟩ ?_
  refine g_aload_n X dX2_leftOfLimitsThen_8 rfl rfl ?_
  refine g_get_16_10 X hi2 (by decide +kernel) dX2_leftOfLimitsThen_9 ?_
  refine g_aload_n X dX2_leftOfLimitsThen_12 rfl rfl ?_
  refine g_get_16_9 X hi2 (by decide +kernel) dX2_leftOfLimitsThen_13 ?_
  refine g_isub X dX2_leftOfLimitsThen_16 ?_
  refine g_isub X dX2_leftOfLimitsThen_17 ?_
  refine g_istore_n2 X dX2_leftOfLimitsThen_18 rfl (by decide) rfl ?_
  refine g_iload_n X dX2_leftOfLimitsThen_19 rfl rfl ?_
  refine g_aload_n X dX2_leftOfLimitsThen_20 rfl rfl ?_
  refine g_aload_n X dX2_leftOfLimitsThen_21 rfl rfl ?_
  refine g_get_16_6 X hi2 (by decide +kernel) dX2_leftOfLimitsThen_22 ?_
  refine g_top (y := nI b) hbo ?_
  refine g_callVi (na := 1) X hj (k_X3_leftOfBond l γ _ _ (by omega)) gW_1 rfl gX2_leftOfLimitsThen_X3_leftOfBond rfl ⟨rfl, rfl⟩ (by decide +kernel) rfl ⟨by decide, by decide⟩ rfl (Nat.le_of_ble_eq_true rfl) dX2_leftOfLimitsThen_25 ⟨by decide, by decide⟩ ?_
  refine g_aload_n X dX2_leftOfLimitsThen_28 rfl rfl ?_
  refine g_get_16_8 X hi2 (by decide +kernel) dX2_leftOfLimitsThen_29 ?_
  refine g_isub X dX2_leftOfLimitsThen_32 ?_
  refine g_min X (by decide +kernel) ⟨by decide, Nat.le_of_ble_eq_true rfl, by decide, by decide⟩ dX2_leftOfLimitsThen_33 ?_
  exact g_iret X hr hlk dX2_leftOfLimitsThen_36 ⟨rfl, rfl⟩
set_option maxRecDepth 20000 in
theorem k_X2_effect (l : Launch) (γ : gG) (σ : gS) (bo pr am bp pd th : Int32) (ca ow mg du bl : Nat → Int32) (re : Nat → Int64) (b L w : Nat) (hbo : bo = nI b) (hb : b < 10) (hL : σ.1 2 (117 + b * 31 + 3) = nI L) (hL4 : L ≤ 4) (hw : w ≤ 10) : gM l γ yX2_effect wsX2_effect ({ frames := 3, cells := 0, slots := 0, locals := 68 } : Room) [.ref (ad γ 16), .ref (ad γ 1), .int (nI w)] (pyS σ bo pr am bp pd th ca ow mg du bl re) (gis (some (.int (efI (σ.1 2) b L am bp pd ca w))) (pyS σ bo pr am bp pd th ca ow mg du bl re)) 0 0 := by
  refine g_enter (own := RX2) (cc := cX2_effect) (nL := 3) (ret := (some .int)) [some (.ref (ad γ 16)), some (.ref (ad γ 1)), some (.int (nI w))] (by decide) rfl rfl (by simp [lg_sl, Value.category]) (by simp [gl_le, glE, Value.category]) (fun hj p e s m args below meth c X hr hlk hnm => ?_)
  have hi2 : ∀ w ∈ wsX20, w ∈ wsX2_effect := by decide +kernel
  refine g_iload_n X dX2_effect_0 rfl rfl ?_
  rcases (show w = 0 ∨ w = 1 ∨ w = 2 ∨ w = 3 ∨ w = 4 ∨ w = 5 ∨ w = 6 ∨ w = 7 ∨ w = 8 ∨ w = 9 ∨ w = 10 by omega) with rfl | rfl | rfl | rfl | rfl | rfl | rfl | rfl | rfl | rfl | rfl
  · refine g_lookup (tgt := 36) X dX2_effect_1 (by decide) rfl (by decide) ?_
    refine g_aload_n X dX2_effect_36 rfl rfl ?_
    refine g_get_16_10 X hi2 (by decide +kernel) dX2_effect_37 ?_
    exact g_iret X hr hlk dX2_effect_40 ⟨rfl, rfl⟩
  · refine g_lookup (tgt := 41) X dX2_effect_1 (by decide) rfl (by decide) ?_
    refine g_aload_n X dX2_effect_41 rfl rfl ?_
    refine g_callVi (na := 0) X hj (k_X2_loss l γ _) gW_16 rfl gX2_effect_X2_loss rfl ⟨rfl, rfl⟩ (by decide +kernel) rfl ⟨by decide, by decide⟩ rfl (Nat.le_of_ble_eq_true rfl) dX2_effect_42 ⟨by decide, by decide⟩ ?_
    exact g_iret X hr hlk dX2_effect_45 ⟨rfl, rfl⟩
  · refine g_lookup (tgt := 52) X dX2_effect_1 (by decide) rfl (by decide) ?_
    refine g_aload_n X dX2_effect_52 rfl rfl ?_
    refine g_get_16_0 X hi2 (by decide +kernel) dX2_effect_53 ?_
    refine g_iload_n X dX2_effect_56 rfl rfl ?_
    refine g_iconstN X 2 dX2_effect_57 ?_
    refine g_isubN X dX2_effect_58 (by decide) ?_
    refine g_ald_17 X rfl (by decide) dX2_effect_59 ?_
    refine g_aload_n X dX2_effect_60 rfl rfl ?_
    refine g_iload_n X dX2_effect_61 rfl rfl ?_
    refine g_iconstN X 2 dX2_effect_62 ?_
    refine g_isubN X dX2_effect_63 (by decide) ?_
    refine g_iconstN X 0 dX2_effect_64 ?_
    refine g_callVi (na := 2) X hj (k_X3_fact l γ _ _ _ (by omega)) gW_1 rfl gX2_effect_X3_fact rfl ⟨rfl, rfl⟩ (by decide +kernel) rfl ⟨by decide, by decide⟩ rfl (Nat.le_of_ble_eq_true rfl) dX2_effect_65 ⟨by decide, by decide⟩ ?_
    refine g_isub X dX2_effect_68 ?_
    exact g_iret X hr hlk dX2_effect_69 ⟨rfl, rfl⟩
  · refine g_lookup (tgt := 52) X dX2_effect_1 (by decide) rfl (by decide) ?_
    refine g_aload_n X dX2_effect_52 rfl rfl ?_
    refine g_get_16_0 X hi2 (by decide +kernel) dX2_effect_53 ?_
    refine g_iload_n X dX2_effect_56 rfl rfl ?_
    refine g_iconstN X 2 dX2_effect_57 ?_
    refine g_isubN X dX2_effect_58 (by decide) ?_
    refine g_ald_17 X rfl (by decide) dX2_effect_59 ?_
    refine g_aload_n X dX2_effect_60 rfl rfl ?_
    refine g_iload_n X dX2_effect_61 rfl rfl ?_
    refine g_iconstN X 2 dX2_effect_62 ?_
    refine g_isubN X dX2_effect_63 (by decide) ?_
    refine g_iconstN X 0 dX2_effect_64 ?_
    refine g_callVi (na := 2) X hj (k_X3_fact l γ _ _ _ (by omega)) gW_1 rfl gX2_effect_X3_fact rfl ⟨rfl, rfl⟩ (by decide +kernel) rfl ⟨by decide, by decide⟩ rfl (Nat.le_of_ble_eq_true rfl) dX2_effect_65 ⟨by decide, by decide⟩ ?_
    refine g_isub X dX2_effect_68 ?_
    exact g_iret X hr hlk dX2_effect_69 ⟨rfl, rfl⟩
  · refine g_lookup (tgt := 52) X dX2_effect_1 (by decide) rfl (by decide) ?_
    refine g_aload_n X dX2_effect_52 rfl rfl ?_
    refine g_get_16_0 X hi2 (by decide +kernel) dX2_effect_53 ?_
    refine g_iload_n X dX2_effect_56 rfl rfl ?_
    refine g_iconstN X 2 dX2_effect_57 ?_
    refine g_isubN X dX2_effect_58 (by decide) ?_
    refine g_ald_17 X rfl (by decide) dX2_effect_59 ?_
    refine g_aload_n X dX2_effect_60 rfl rfl ?_
    refine g_iload_n X dX2_effect_61 rfl rfl ?_
    refine g_iconstN X 2 dX2_effect_62 ?_
    refine g_isubN X dX2_effect_63 (by decide) ?_
    refine g_iconstN X 0 dX2_effect_64 ?_
    refine g_callVi (na := 2) X hj (k_X3_fact l γ _ _ _ (by omega)) gW_1 rfl gX2_effect_X3_fact rfl ⟨rfl, rfl⟩ (by decide +kernel) rfl ⟨by decide, by decide⟩ rfl (Nat.le_of_ble_eq_true rfl) dX2_effect_65 ⟨by decide, by decide⟩ ?_
    refine g_isub X dX2_effect_68 ?_
    exact g_iret X hr hlk dX2_effect_69 ⟨rfl, rfl⟩
  · refine g_lookup (tgt := 52) X dX2_effect_1 (by decide) rfl (by decide) ?_
    refine g_aload_n X dX2_effect_52 rfl rfl ?_
    refine g_get_16_0 X hi2 (by decide +kernel) dX2_effect_53 ?_
    refine g_iload_n X dX2_effect_56 rfl rfl ?_
    refine g_iconstN X 2 dX2_effect_57 ?_
    refine g_isubN X dX2_effect_58 (by decide) ?_
    refine g_ald_17 X rfl (by decide) dX2_effect_59 ?_
    refine g_aload_n X dX2_effect_60 rfl rfl ?_
    refine g_iload_n X dX2_effect_61 rfl rfl ?_
    refine g_iconstN X 2 dX2_effect_62 ?_
    refine g_isubN X dX2_effect_63 (by decide) ?_
    refine g_iconstN X 0 dX2_effect_64 ?_
    refine g_callVi (na := 2) X hj (k_X3_fact l γ _ _ _ (by omega)) gW_1 rfl gX2_effect_X3_fact rfl ⟨rfl, rfl⟩ (by decide +kernel) rfl ⟨by decide, by decide⟩ rfl (Nat.le_of_ble_eq_true rfl) dX2_effect_65 ⟨by decide, by decide⟩ ?_
    refine g_isub X dX2_effect_68 ?_
    exact g_iret X hr hlk dX2_effect_69 ⟨rfl, rfl⟩
  · refine g_lookup (tgt := 52) X dX2_effect_1 (by decide) rfl (by decide) ?_
    refine g_aload_n X dX2_effect_52 rfl rfl ?_
    refine g_get_16_0 X hi2 (by decide +kernel) dX2_effect_53 ?_
    refine g_iload_n X dX2_effect_56 rfl rfl ?_
    refine g_iconstN X 2 dX2_effect_57 ?_
    refine g_isubN X dX2_effect_58 (by decide) ?_
    refine g_ald_17 X rfl (by decide) dX2_effect_59 ?_
    refine g_aload_n X dX2_effect_60 rfl rfl ?_
    refine g_iload_n X dX2_effect_61 rfl rfl ?_
    refine g_iconstN X 2 dX2_effect_62 ?_
    refine g_isubN X dX2_effect_63 (by decide) ?_
    refine g_iconstN X 0 dX2_effect_64 ?_
    refine g_callVi (na := 2) X hj (k_X3_fact l γ _ _ _ (by omega)) gW_1 rfl gX2_effect_X3_fact rfl ⟨rfl, rfl⟩ (by decide +kernel) rfl ⟨by decide, by decide⟩ rfl (Nat.le_of_ble_eq_true rfl) dX2_effect_65 ⟨by decide, by decide⟩ ?_
    refine g_isub X dX2_effect_68 ?_
    exact g_iret X hr hlk dX2_effect_69 ⟨rfl, rfl⟩
  · refine g_lookup (tgt := 52) X dX2_effect_1 (by decide) rfl (by decide) ?_
    refine g_aload_n X dX2_effect_52 rfl rfl ?_
    refine g_get_16_0 X hi2 (by decide +kernel) dX2_effect_53 ?_
    refine g_iload_n X dX2_effect_56 rfl rfl ?_
    refine g_iconstN X 2 dX2_effect_57 ?_
    refine g_isubN X dX2_effect_58 (by decide) ?_
    refine g_ald_17 X rfl (by decide) dX2_effect_59 ?_
    refine g_aload_n X dX2_effect_60 rfl rfl ?_
    refine g_iload_n X dX2_effect_61 rfl rfl ?_
    refine g_iconstN X 2 dX2_effect_62 ?_
    refine g_isubN X dX2_effect_63 (by decide) ?_
    refine g_iconstN X 0 dX2_effect_64 ?_
    refine g_callVi (na := 2) X hj (k_X3_fact l γ _ _ _ (by omega)) gW_1 rfl gX2_effect_X3_fact rfl ⟨rfl, rfl⟩ (by decide +kernel) rfl ⟨by decide, by decide⟩ rfl (Nat.le_of_ble_eq_true rfl) dX2_effect_65 ⟨by decide, by decide⟩ ?_
    refine g_isub X dX2_effect_68 ?_
    exact g_iret X hr hlk dX2_effect_69 ⟨rfl, rfl⟩
  · refine g_lookup (tgt := 52) X dX2_effect_1 (by decide) rfl (by decide) ?_
    refine g_aload_n X dX2_effect_52 rfl rfl ?_
    refine g_get_16_0 X hi2 (by decide +kernel) dX2_effect_53 ?_
    refine g_iload_n X dX2_effect_56 rfl rfl ?_
    refine g_iconstN X 2 dX2_effect_57 ?_
    refine g_isubN X dX2_effect_58 (by decide) ?_
    refine g_ald_17 X rfl (by decide) dX2_effect_59 ?_
    refine g_aload_n X dX2_effect_60 rfl rfl ?_
    refine g_iload_n X dX2_effect_61 rfl rfl ?_
    refine g_iconstN X 2 dX2_effect_62 ?_
    refine g_isubN X dX2_effect_63 (by decide) ?_
    refine g_iconstN X 0 dX2_effect_64 ?_
    refine g_callVi (na := 2) X hj (k_X3_fact l γ _ _ _ (by omega)) gW_1 rfl gX2_effect_X3_fact rfl ⟨rfl, rfl⟩ (by decide +kernel) rfl ⟨by decide, by decide⟩ rfl (Nat.le_of_ble_eq_true rfl) dX2_effect_65 ⟨by decide, by decide⟩ ?_
    refine g_isub X dX2_effect_68 ?_
    exact g_iret X hr hlk dX2_effect_69 ⟨rfl, rfl⟩
  · refine g_lookup (tgt := 52) X dX2_effect_1 (by decide) rfl (by decide) ?_
    refine g_aload_n X dX2_effect_52 rfl rfl ?_
    refine g_get_16_0 X hi2 (by decide +kernel) dX2_effect_53 ?_
    refine g_iload_n X dX2_effect_56 rfl rfl ?_
    refine g_iconstN X 2 dX2_effect_57 ?_
    refine g_isubN X dX2_effect_58 (by decide) ?_
    refine g_ald_17 X rfl (by decide) dX2_effect_59 ?_
    refine g_aload_n X dX2_effect_60 rfl rfl ?_
    refine g_iload_n X dX2_effect_61 rfl rfl ?_
    refine g_iconstN X 2 dX2_effect_62 ?_
    refine g_isubN X dX2_effect_63 (by decide) ?_
    refine g_iconstN X 0 dX2_effect_64 ?_
    refine g_callVi (na := 2) X hj (k_X3_fact l γ _ _ _ (by omega)) gW_1 rfl gX2_effect_X3_fact rfl ⟨rfl, rfl⟩ (by decide +kernel) rfl ⟨by decide, by decide⟩ rfl (Nat.le_of_ble_eq_true rfl) dX2_effect_65 ⟨by decide, by decide⟩ ?_
    refine g_isub X dX2_effect_68 ?_
    exact g_iret X hr hlk dX2_effect_69 ⟨rfl, rfl⟩
  · refine g_lookup (tgt := 46) X dX2_effect_1 (by decide) rfl (by decide) ?_
    refine g_aload_n X dX2_effect_46 rfl rfl ?_
    refine g_aload_n X dX2_effect_47 rfl rfl ?_
    refine g_callVi (na := 1) X hj (k_X2_leftOfLimitsThen l γ σ _ _ _ _ _ _ _ _ _ _ _ _ b L hbo hb hL hL4) gW_16 rfl gX2_effect_X2_leftOfLimitsThen rfl ⟨rfl, rfl⟩ (by decide +kernel) rfl ⟨by decide, by decide⟩ rfl (Nat.le_of_ble_eq_true rfl) dX2_effect_48 ⟨by decide, by decide⟩ ?_
    exact g_iret X hr hlk dX2_effect_51 ⟨rfl, rfl⟩
set_option maxRecDepth 20000 in
theorem k_X2_carryOut (l : Launch) (γ : gG) (σ : gS) (bo pr am bp pd th : Int32) (ca ow mg du bl : Nat → Int32) (re : Nat → Int64) (b prn L : Nat) (su : Nat → Nat) (hbo : bo = nI b) (hpr : pr = nI prn) (hb : b < 10) (hpn : prn < 8) (hL : σ.1 2 (117 + b * 31 + 3) = nI L) (hL4 : L ≤ 4) (hsu : ∀ i, i < L → σ.1 2 (117 + b * 31 + 15 + i * 4 + 0) = nI (su i) ∧ su i < 8) : gM l γ yX2_carryOut wsX2_carryOut ({ frames := 3, cells := 0, slots := 0, locals := 70 } : Room) [.ref (ad γ 16), .ref (ad γ 1)] (pyS σ bo pr am bp pd th ca ow mg du bl re) (gis none (pyS (sA σ 2 (coV (σ.1 2) b prn L su am bp pd ca ow mg bl)) bo pr am bp pd th ca ow mg du bl re)) 0 0 := by
  refine g_enter (own := RX2) (cc := cX2_carryOut) (nL := 4) (ret := none) [some (.ref (ad γ 16)), some (.ref (ad γ 1)), none, none] (by decide) rfl rfl (by simp [lg_sl, Value.category]) (by simp [gl_le, glE, Value.category]) (fun hj p e s m args below meth c X hr hlk hnm => ?_)
  have hi2 : ∀ w ∈ wsX20, w ∈ wsX2_carryOut := by decide +kernel
  refine g_iconstN X 0 dX2_carryOut_0 ?_
  refine g_istore_n2 X dX2_carryOut_1 rfl (by decide) rfl ?_
  refine g_wf (fun r ls σ2 => ∃ (i : Nat), i + r = 8 ∧ σ2 = pyS (sA σ 2 (coA (σ.1 2) prn ca ow mg i)) bo pr am bp pd th ca ow mg du bl re ∧ ls = [some (.ref (ad γ 16)), some (.ref (ad γ 1)), some (.int (nI i)), none]) 8 ⟨0, by omega, by rw [coA, sA_self], rfl⟩ (fun r ls2 σ2 hI ih => ?_)
  obtain ⟨i, hi, rfl, rfl⟩ := hI
  refine g_iload_n X dX2_carryOut_2 rfl rfl ?_
  refine g_bipush (v := nI 8) X dX2_carryOut_3 (by decide) ?_
  refine g_icmpN_ge (tgt := 53) X dX2_carryOut_5 (by decide) (by omega) (by omega) (fun c_5 => ?_) (fun c_5 => ?_)
  · have e : i = 8 := by omega
    subst e
    refine g_aload_n X dX2_carryOut_53 rfl rfl ?_
    refine g_aload_n X dX2_carryOut_54 rfl rfl ?_
    refine g_get_16_7 X hi2 (by decide +kernel) dX2_carryOut_55 ?_
    refine g_top (y := nI prn) hpr ?_
    refine g_iconstN X 3 dX2_carryOut_58 ?_
    refine g_aload_n X dX2_carryOut_59 rfl rfl ?_
    refine g_get_16_9 X hi2 (by decide +kernel) dX2_carryOut_60 ?_
    simp only [py_16_9]
    refine g_callVv (na := 3) X hj (k_X3_addFact l γ _ _ _ _ (by omega)) gW_1 rfl gX2_carryOut_X3_addFact rfl ⟨rfl, rfl⟩ (by decide +kernel) rfl ⟨by decide, by decide⟩ rfl (Nat.le_of_ble_eq_true rfl) dX2_carryOut_63 ⟨by decide, by decide⟩ ?_
    simp only [py_c, sA_sA, py_2, sA_eq]
    have hw : ∀ q, 112 ≤ q → (coB (coA (σ.1 2) prn ca ow mg 8) prn bp) q = σ.1 2 q := fun q hq => by unfold coB; rw [upd, if_neg (by omega)]; exact coA_ge (σ.1 2) hpn ca ow mg hq 8 (by omega)
    have hLc : ∀ i, i ≤ L → coL (coB (coA (σ.1 2) prn ca ow mg 8) prn bp) b su bl i (117 + b * 31 + 3) = nI L := fun i hi => by rw [coL_at _ su bl (by omega) i (fun j hj => (hsu j (by omega)).2) (fun j hj => ⟨by omega, by omega⟩), hw _ (by omega)]; exact hL
    have hSc : ∀ i, i ≤ L → ∀ j, j < L → coL (coB (coA (σ.1 2) prn ca ow mg 8) prn bp) b su bl i (117 + b * 31 + 15 + j * 4 + 0) = nI (su j) := fun i hi j hj => by rw [coL_at _ su bl (by omega) i (fun j hj => (hsu j (by omega)).2) (fun j hj => ⟨by omega, by omega⟩), hw _ (by omega)]; exact (hsu j hj).1
    refine g_iconstN X 0 dX2_carryOut_66 ?_
    refine g_istore_n2 X dX2_carryOut_67 rfl (by decide) rfl ?_
    refine g_wf (fun r ls σ2 => ∃ (i : Nat), i + r = L ∧ σ2 = pyS (sA σ 2 (coL (coB (coA (σ.1 2) prn ca ow mg 8) prn bp) b su bl i)) bo pr am bp pd th ca ow mg du bl re ∧ ls = [some (.ref (ad γ 16)), some (.ref (ad γ 1)), some (.int (nI i)), none]) L ⟨0, by omega, rfl, by rfl⟩ (fun r ls2 σ2 hI ih => ?_)
    obtain ⟨i, hi, rfl, rfl⟩ := hI
    refine g_iload_n X dX2_carryOut_68 rfl rfl ?_
    refine g_aload_n X dX2_carryOut_69 rfl rfl ?_
    refine g_aload_n X dX2_carryOut_70 rfl rfl ?_
    refine g_get_16_6 X hi2 (by decide +kernel) dX2_carryOut_71 ?_
    refine g_top (y := nI b) hbo ?_
    refine g_iconstN X 3 dX2_carryOut_74 ?_
    refine g_callVi (na := 2) X hj (k_X3_bondFact l γ _ _ _ (by omega)) gW_1 rfl gX2_carryOut_X3_bondFact rfl ⟨rfl, rfl⟩ (by decide +kernel) rfl ⟨by decide, by decide⟩ rfl (Nat.le_of_ble_eq_true rfl) dX2_carryOut_75 ⟨by decide, by decide⟩ ?_
    refine g_top (y := nI L) (by rw [py_2, sA_eq]; exact hLc i (by omega)) ?_
    refine g_icmpN_ge (tgt := 143) X dX2_carryOut_78 (by decide) (by omega) (by omega) (fun c_78 => ?_) (fun c_78 => ?_)
    · have e : L = i := by omega
      subst e
      refine g_aload_n X dX2_carryOut_143 rfl rfl ?_
      refine g_aload_n X dX2_carryOut_144 rfl rfl ?_
      refine g_get_16_6 X hi2 (by decide +kernel) dX2_carryOut_145 ?_
      refine g_top (y := nI b) hbo ?_
      refine g_bipush (v := nI 6) X dX2_carryOut_148 (by decide) ?_
      refine g_aload_n X dX2_carryOut_150 rfl rfl ?_
      refine g_get_16_8 X hi2 (by decide +kernel) dX2_carryOut_151 ?_
      simp only [py_16_8]
      refine g_callVv (na := 3) X hj (k_X3_addBondFact l γ _ _ _ _ (by omega)) gW_1 rfl gX2_carryOut_X3_addBondFact rfl ⟨rfl, rfl⟩ (by decide +kernel) rfl ⟨by decide, by decide⟩ rfl (Nat.le_of_ble_eq_true rfl) dX2_carryOut_154 ⟨by decide, by decide⟩ ?_
      simp only [py_c, sA_sA, py_2, sA_eq]
      refine g_aload_n X dX2_carryOut_157 rfl rfl ?_
      refine g_aload_n X dX2_carryOut_158 rfl rfl ?_
      refine g_get_16_6 X hi2 (by decide +kernel) dX2_carryOut_159 ?_
      refine g_top (y := nI b) hbo ?_
      refine g_bipush (v := nI 7) X dX2_carryOut_162 (by decide) ?_
      refine g_aload_n X dX2_carryOut_164 rfl rfl ?_
      refine g_get_16_10 X hi2 (by decide +kernel) dX2_carryOut_165 ?_
      simp only [py_16_10]
      refine g_callVv (na := 3) X hj (k_X3_addBondFact l γ _ _ _ _ (by omega)) gW_1 rfl gX2_carryOut_X3_addBondFact rfl ⟨rfl, rfl⟩ (by decide +kernel) rfl ⟨by decide, by decide⟩ rfl (Nat.le_of_ble_eq_true rfl) dX2_carryOut_168 ⟨by decide, by decide⟩ ?_
      simp only [py_c, sA_sA, py_2, sA_eq]
      refine g_aload_n X dX2_carryOut_171 rfl rfl ?_
      refine g_aload_n X dX2_carryOut_172 rfl rfl ?_
      refine g_get_16_6 X hi2 (by decide +kernel) dX2_carryOut_173 ?_
      refine g_top (y := nI b) hbo ?_
      refine g_callVv (na := 1) X hj (k_X3_trim l γ _ _ L (by omega) (by rw [py_2, sA_eq]; simp only [upd]; rw [if_neg (by omega), if_neg (by omega)]; exact hLc L (by omega)) hL4) gW_1 rfl gX2_carryOut_X3_trim rfl ⟨rfl, rfl⟩ (by decide +kernel) rfl ⟨by decide, by decide⟩ rfl (Nat.le_of_ble_eq_true rfl) dX2_carryOut_176 ⟨by decide, by decide⟩ ?_
      simp only [py_c, sA_sA, py_2, sA_eq]
      exact g_vret X hr hlk dX2_carryOut_179 ⟨rfl, rfl⟩
    · have hsi := (hsu i c_78).2
      refine g_aload_n X dX2_carryOut_81 rfl rfl ?_
      refine g_aload_n X dX2_carryOut_82 rfl rfl ?_
      refine g_get_16_6 X hi2 (by decide +kernel) dX2_carryOut_83 ?_
      refine g_top (y := nI b) hbo ?_
      refine g_iload_n X dX2_carryOut_86 rfl rfl ?_
      refine g_iconstN X 0 dX2_carryOut_87 ?_
      refine g_callVi (na := 3) X hj (k_X3_layerFact l γ _ _ _ _ (by omega) (by omega) (by omega)) gW_1 rfl gX2_carryOut_X3_layerFact rfl ⟨rfl, rfl⟩ (by decide +kernel) rfl ⟨by decide, by decide⟩ rfl (Nat.le_of_ble_eq_true rfl) dX2_carryOut_88 ⟨by decide, by decide⟩ ?_
      refine g_top (y := nI (su i)) (by rw [py_2, sA_eq]; exact hSc i (by omega) i c_78) ?_
      refine g_istore_n3 X dX2_carryOut_91 rfl (by decide) rfl ?_
      refine g_aload_n X dX2_carryOut_92 rfl rfl ?_
      refine g_iload_n X dX2_carryOut_93 rfl rfl ?_
      refine g_iconstN X 4 dX2_carryOut_94 ?_
      refine g_aload_n X dX2_carryOut_95 rfl rfl ?_
      refine g_get_16_4 X hi2 (by decide +kernel) dX2_carryOut_96 ?_
      refine g_iload_n X dX2_carryOut_99 rfl rfl ?_
      refine g_ald_21 X rfl (by omega) dX2_carryOut_100 ?_
      simp only [py_21]
      refine g_callVv (na := 3) X hj (k_X3_addFact l γ _ _ _ _ (by omega)) gW_1 rfl gX2_carryOut_X3_addFact rfl ⟨rfl, rfl⟩ (by decide +kernel) rfl ⟨by decide, by decide⟩ rfl (Nat.le_of_ble_eq_true rfl) dX2_carryOut_101 ⟨by decide, by decide⟩ ?_
      simp only [py_c, sA_sA, py_2, sA_eq]
      refine g_aload_n X dX2_carryOut_104 rfl rfl ?_
      refine g_aload_n X dX2_carryOut_105 rfl rfl ?_
      refine g_get_16_6 X hi2 (by decide +kernel) dX2_carryOut_106 ?_
      refine g_top (y := nI b) hbo ?_
      refine g_iload_n X dX2_carryOut_109 rfl rfl ?_
      refine g_iconstN X 2 dX2_carryOut_110 ?_
      refine g_aload_n X dX2_carryOut_111 rfl rfl ?_
      refine g_get_16_4 X hi2 (by decide +kernel) dX2_carryOut_112 ?_
      refine g_iload_n X dX2_carryOut_115 rfl rfl ?_
      refine g_ald_21 X rfl (by omega) dX2_carryOut_116 ?_
      simp only [py_21]
      refine g_ineg X dX2_carryOut_117 ?_
      refine g_callVv (na := 4) X hj (k_X3_addLayerFact l γ _ _ _ _ _ (by omega) (by omega) (by omega)) gW_1 rfl gX2_carryOut_X3_addLayerFact rfl ⟨rfl, rfl⟩ (by decide +kernel) rfl ⟨by decide, by decide⟩ rfl (Nat.le_of_ble_eq_true rfl) dX2_carryOut_118 ⟨by decide, by decide⟩ ?_
      simp only [py_c, sA_sA, py_2, sA_eq]
      refine g_aload_n X dX2_carryOut_121 rfl rfl ?_
      refine g_aload_n X dX2_carryOut_122 rfl rfl ?_
      refine g_get_16_6 X hi2 (by decide +kernel) dX2_carryOut_123 ?_
      refine g_top (y := nI b) hbo ?_
      refine g_iload_n X dX2_carryOut_126 rfl rfl ?_
      refine g_iconstN X 3 dX2_carryOut_127 ?_
      refine g_aload_n X dX2_carryOut_128 rfl rfl ?_
      refine g_get_16_4 X hi2 (by decide +kernel) dX2_carryOut_129 ?_
      refine g_iload_n X dX2_carryOut_132 rfl rfl ?_
      refine g_ald_21 X rfl (by omega) dX2_carryOut_133 ?_
      simp only [py_21]
      refine g_callVv (na := 4) X hj (k_X3_addLayerFact l γ _ _ _ _ _ (by omega) (by omega) (by omega)) gW_1 rfl gX2_carryOut_X3_addLayerFact rfl ⟨rfl, rfl⟩ (by decide +kernel) rfl ⟨by decide, by decide⟩ rfl (Nat.le_of_ble_eq_true rfl) dX2_carryOut_134 ⟨by decide, by decide⟩ ?_
      simp only [py_c, sA_sA, py_2, sA_eq]
      refine g_iincN2 (d := 1) X dX2_carryOut_137 (by decide) rfl ?_
      refine g_goto (tgt := 68) X dX2_carryOut_140 (by decide) ?_
      exact g_le (by simp [gl_le]) (ih (r - 1) (by omega) _ _ ⟨i + 1, by omega, rfl, rfl⟩)
  · refine g_aload_n X dX2_carryOut_8 rfl rfl ?_
    refine g_iload_n X dX2_carryOut_9 rfl rfl ?_
    refine g_iconstN X 0 dX2_carryOut_10 ?_
    refine g_aload_n X dX2_carryOut_11 rfl rfl ?_
    refine g_get_16_0 X hi2 (by decide +kernel) dX2_carryOut_12 ?_
    refine g_iload_n X dX2_carryOut_15 rfl rfl ?_
    refine g_ald_17 X rfl (by omega) dX2_carryOut_16 ?_
    simp only [py_17]
    refine g_callVv (na := 3) X hj (k_X3_putFact l γ _ _ _ _ (by omega)) gW_1 rfl gX2_carryOut_X3_putFact rfl ⟨rfl, rfl⟩ (by decide +kernel) rfl ⟨by decide, by decide⟩ rfl (Nat.le_of_ble_eq_true rfl) dX2_carryOut_17 ⟨by decide, by decide⟩ ?_
    simp only [py_c, sA_sA, py_2, sA_eq]
    refine g_aload_n X dX2_carryOut_20 rfl rfl ?_
    refine g_iload_n X dX2_carryOut_21 rfl rfl ?_
    refine g_iconstN X 5 dX2_carryOut_22 ?_
    refine g_aload_n X dX2_carryOut_23 rfl rfl ?_
    refine g_get_16_2 X hi2 (by decide +kernel) dX2_carryOut_24 ?_
    refine g_iload_n X dX2_carryOut_27 rfl rfl ?_
    refine g_ald_19 X rfl (by omega) dX2_carryOut_28 ?_
    simp only [py_19]
    refine g_callVv (na := 3) X hj (k_X3_addFact l γ _ _ _ _ (by omega)) gW_1 rfl gX2_carryOut_X3_addFact rfl ⟨rfl, rfl⟩ (by decide +kernel) rfl ⟨by decide, by decide⟩ rfl (Nat.le_of_ble_eq_true rfl) dX2_carryOut_29 ⟨by decide, by decide⟩ ?_
    simp only [py_c, sA_sA, py_2, sA_eq]
    refine g_aload_n X dX2_carryOut_32 rfl rfl ?_
    refine g_aload_n X dX2_carryOut_33 rfl rfl ?_
    refine g_get_16_7 X hi2 (by decide +kernel) dX2_carryOut_34 ?_
    refine g_top (y := nI prn) hpr ?_
    refine g_iload_n X dX2_carryOut_37 rfl rfl ?_
    refine g_aload_n X dX2_carryOut_38 rfl rfl ?_
    refine g_get_16_1 X hi2 (by decide +kernel) dX2_carryOut_39 ?_
    refine g_iload_n X dX2_carryOut_42 rfl rfl ?_
    refine g_ald_18 X rfl (by omega) dX2_carryOut_43 ?_
    simp only [py_18]
    refine g_callVv (na := 3) X hj (k_X3_addOwed l γ _ _ _ _ (by omega) (by omega)) gW_1 rfl gX2_carryOut_X3_addOwed rfl ⟨rfl, rfl⟩ (by decide +kernel) rfl ⟨by decide, by decide⟩ rfl (Nat.le_of_ble_eq_true rfl) dX2_carryOut_44 ⟨by decide, by decide⟩ ?_
    simp only [py_c, sA_sA, py_2, sA_eq]
    refine g_iincN2 (d := 1) X dX2_carryOut_47 (by decide) rfl ?_
    refine g_goto (tgt := 2) X dX2_carryOut_50 (by decide) ?_
    exact ih (r - 1) (by omega) _ _ ⟨i + 1, by omega, rfl, rfl⟩
