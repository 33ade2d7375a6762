/-! THE WORST BOND, THE HASH -/
theorem dgF_congr {f g : Nat → Int64} {h : Int64} : ∀ n, (∀ i, i < n → f i = g i) → dgF f n h = dgF g n h
  | 0, _ => rfl
  | n + 1, hh => by rw [dgF, dgF, dgF_congr n (fun i hi => hh i (by omega)), hh n (by omega)]
def nul : Nat → Int32 := fun _ => 0
def efV (v z : Nat → Int32) (b w : Nat) : Int32 := coZ z nul nul b (pB v b) (lB v b) (sB v b) (nI 1000) w
def thV (v z : Nat → Int32) (b : Nat) : Int32 := thZ z nul nul b (pB v b) (lB v b) (sB v b) (lfZ z b)
def loV (v z : Nat → Int32) (b : Nat) : Int32 := coZ z nul nul b (pB v b) (lB v b) (sB v b) (lfZ z b) 1
section DIG
variable {v z : Nat → Int32} {K : Nat}
theorem Rel.lfz (h : Rel v z K) {b : Nat} (hb : b < nB v) : lfZ z b = nI (fB v b) := by
  have hn := h.n.2
  rw [h.1.left (by omega), (h.left hb).1]
theorem dr_ok (h : Rel v z K) (hK : K ≤ 1000) {σ : gS} (hv : σ.1 2 = v) {b : Nat} (hb : b < nB v) : DrOK σ b (pB v b) (lB v b) (efV v z b) (thV v z b) (loV v z b) := by
  rintro τ ⟨bo, pr, am, bp, pd, th, ca, ow, mg, du, bl, re, rfl⟩
  have hv2 : (pyS σ bo pr am bp pd th ca ow mg du bl re).1 2 = v := hv
  have hl := h.left hb
  obtain ⟨-, g1, -⟩ := look_rel h hK hv2 hb (A := 1000) (by decide) nul nul
  obtain ⟨-, g2, g3⟩ := look_rel h hK hv2 hb (A := fB v b) hl.2 nul nul
  rw [hv2, hl.1]
  unfold efV thV loV
  rw [h.lfz hb]
  refine ⟨g1, g3, ?_⟩
  have := g2 1 (by decide)
  unfold drE efI at this
  rw [if_neg (by decide), if_pos rfl] at this
  exact this
theorem bz_ok (h : Rel v z K) (hK : K ≤ 1000) {σ : gS} (hv : σ.1 2 = v) {b : Nat} (hb : b < nB v) : BZA z b (pB v b) (lB v b) (sB v b) (efV v z b) (thV v z b) (loV v z b) := by
  have hl := h.left hb
  refine ⟨fun hr => ?_, fun hr => ?_⟩
  · refine ⟨(look_rel h hK hv hb (A := 1000) (by decide) nul nul).1, ?_, fun f sh => ⟨fun w hw => ?_, ?_, ?_⟩⟩
    · rw [h.lfz hb]
      exact (look_rel h hK hv hb (A := fB v b) hl.2 nul nul).1
    · exact ((look_rel h hK hv hb (A := 1000) (by decide) f sh).2.1 w hw).symm.trans ((look_rel h hK hv hb (A := 1000) (by decide) nul nul).2.1 w hw)
    · unfold thV
      rw [h.lfz hb]
      exact (look_rel h hK hv hb (A := fB v b) hl.2 f sh).2.2.symm.trans (look_rel h hK hv hb (A := fB v b) hl.2 nul nul).2.2
    · unfold loV
      rw [h.lfz hb]
      exact ((look_rel h hK hv hb (A := fB v b) hl.2 f sh).2.1 1 (by decide)).symm.trans ((look_rel h hK hv hb (A := fB v b) hl.2 nul nul).2.1 1 (by decide))
  · refine ⟨fun w hw => ?_, ?_, ?_⟩
    · unfold efV coZ; rw [hr]; rfl
    · unfold thV thZ; rw [hr]; rfl
    · unfold loV coZ; rw [hr]; rfl
/-- what was called, what was paid: small numbers -/
theorem Rel.ps (h : Rel v z K) : ∃ p c, p ≤ c ∧ c < 2 ^ 20 ∧ bsum v (nB v) 6 = nI c ∧ bsum v (nB v) 7 = nI p := by
  have hn := h.n.2
  refine ⟨sN (fun b => if b < nB v then tN (v (117 + b * 31 + 7)) else 0) (nB v), sN (fun b => if b < nB v then tN (v (117 + b * 31 + 6)) else 0) (nB v), sN_mono _ (fun b hb => ?_), ?_, ?_, ?_⟩
  · rw [if_pos hb, if_pos hb]; exact h.c76 hb
  · have : ∀ n, n ≤ nB v → sN (fun b => if b < nB v then tN (v (117 + b * 31 + 6)) else 0) n ≤ n * 99999 := by
      intro n
      induction n with
      | zero => intro _; exact Nat.zero_le _
      | succ n ih =>
        intro hn
        have h1 := ih (by omega)
        have h2 := h.c68 (b := n) (by omega)
        have h3 := (h.c1 (b := n) (by omega)).2
        rw [sN, if_pos (by omega)]
        omega
    have h5 := this (nB v) (Nat.le_refl _)
    have h6 : nB v * 99999 ≤ 10 * 99999 := Nat.mul_le_mul_right _ hn
    omega
  · unfold bsum
    exact sumI_nI (nB v) (fun b hb => by rw [if_pos hb]; exact h.c6 hb)
  · unfold bsum
    exact sumI_nI (nB v) (fun b hb => by rw [if_pos hb]; exact h.c7 hb)
theorem Rel.share (h : Rel v z K) : psD (z 2) (z 3) = psD (bsum v (nB v) 6) (bsum v (nB v) 7) ∧ bitsI (psD (bsum v (nB v) 6) (bsum v (nB v) 7)) = (psD (z 2) (z 3)).toInt64 ∧ bitsOK (psD (bsum v (nB v) 6) (bsum v (nB v) 7)) ∧
    (bsum v (nB v) 6 = 0 ∨ vf_n64 (FP.ddiv (FP.i2d (bsum v (nB v) 7)) (FP.i2d (bsum v (nB v) 6)))) ∧ (z 2 = 0 ∨ vf_n64 (FP.ddiv (FP.i2d (z 3)) (FP.i2d (z 2)))) ∧ Op.cmpValue (FP.dcmp (psD (z 2) (z 3)) (psD (z 2) (z 3))) .l = 0 := by
  obtain ⟨p, c, hpc, hc, e6, e7⟩ := h.ps
  obtain ⟨s2, s3, -, -⟩ := h.2.2
  obtain ⟨g1, g2, g3, g4⟩ := psd_all hpc hc
  rw [s2, s3, e6, e7]
  exact ⟨rfl, g1, g2, g3, g3, g4⟩
theorem dl_rel (h : Rel v z K) {b : Nat} (hb : b < 10) (x : Int64) : ∀ L, L ≤ 4 → dgF (fun k => (z (121 + 31 * b + 15 + k)).toInt64) (4 * L) x = dlF v b L x
  | 0, _ => rfl
  | L + 1, hL => by
    have ih := dl_rel h hb x L (by omega)
    have e : ∀ w, w < 4 → z (121 + 31 * b + 15 + (4 * L + w)) = v (117 + b * 31 + 15 + L * 4 + w) := fun w hw => by
      have := h.1.l (b := b) (i := L) (j := w) hb (by omega) hw
      rw [← this]
      congr 1
      omega
    have hd : ∀ (f : Nat → Int64) n y, dgF f (n + 4) y = mixI (mixI (mixI (mixI (dgF f n y) (f (n + 0))) (f (n + 1))) (f (n + 2))) (f (n + 3)) := fun f n y => rfl
    have hd4 : ∀ (f : Nat → Int64) y, dgF f 4 y = mixI (mixI (mixI (mixI y (f 0)) (f 1)) (f 2)) (f 3) := fun f y => rfl
    rw [dlF, ← ih, show 4 * (L + 1) = 4 * L + 4 by omega, hd, hd4, e 0 (by decide), e 1 (by decide), e 2 (by decide), e 3 (by decide)]
theorem dgt_rel (h : Rel v z K) {hs : Int32} {k : Nat} {co co' : Nat → Int32} (hco : ∀ j, j < k → co' j = co j) (ef : Nat → Nat → Int32) (th lo : Nat → Int32) :
    dgZ z hs (nB v) (lB v) ef th lo k co' = dgI v hs (nB v) (lB v) ef th lo k co := by
  have hn := h.n.2
  have hp : ∀ q, q ≤ 8 → ∀ x, dpZ z (nB v) (lB v) q x = dpF v (nB v) (lB v) q x := by
    intro q
    induction q with
    | zero => intro _ x; rfl
    | succ q ih =>
      intro hq x
      rw [dpZ, dpF, ih (by omega) x]
      unfold prZ prI
      rw [dgF_congr (g := fun o => (v (48 + q * 8 + o)).toInt64) 8 (fun o ho => by rw [h.1.d (by omega) ho]), dgF_congr (g := fun w => (perI v (nB v) (lB v) q w).toInt64) 11 (fun w hw => by rw [h.per (by omega) (by omega)]), h.1.spare h.Sh (by omega)]
  have hb : ∀ b, b ≤ nB v → ∀ x, dbZ z (lB v) ef th b x = dbF v (lB v) ef th b x := by
    intro b
    induction b with
    | zero => intro _ x; rfl
    | succ b ih =>
      intro hb x
      have hL4 : lB v b ≤ 4 := (h.BH (b := b) (by omega)).2.2.2.1
      rw [dbZ, dbF, ih (by omega) x]
      unfold boH boI
      rw [dl_rel h (by omega) _ (lB v b) hL4, dgF_congr (g := fun w => (bonI v b (lB v b) w).toInt64) 12 (fun w hw => by rw [h.bon (by omega) (by omega)])]
  unfold dgZ dgI
  rw [h.share.2.1, hb _ (Nat.le_refl _), hp 8 (Nat.le_refl _), dgF_congr (f := fun j => (co' j).toInt64) (g := fun j => (co j).toInt64) k (fun j hj => by rw [hco j hj]),
    dgF_congr (f := fun j => (z (6 + j)).toInt64) (g := fun j => (v (112 + j)).toInt64) 3 (fun j hj => by rw [h.1.s hj]),
    dgF_congr (f := fun w => (cntZ z hs (nB v) (lB v) w).toInt64) (g := fun w => (cntI v hs (nB v) w).toInt64) 10 (fun w hw => by rw [h.cnt (by omega)])]
end DIG
