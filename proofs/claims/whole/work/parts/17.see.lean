/-! THE REFERENCE'S LOOKS: pure words -/
def ruS (z : Nat → Int32) (N : Nat) : Int32 := sumI (fun b => if ruB z b then nI 1 else nI 0) N
def bsZ (z : Nat → Int32) (N : Nat) (q : Int32) : Int32 := sumI (fun b => if ruB z b && decide (z (121 + 31 * b) = q) then nI 1 else nI 0) N
def perZ (z : Nat → Int32) (N : Nat) (L : Nat → Nat) (q w : Nat) : Int32 :=
  if w = 0 then z (9 + q) else if w = 1 then sumI (fun k => z (57 + 8 * q + k)) 8 else if w = 2 then sumI (fun k => z (57 + 8 * k + q)) 8
  else if w = 3 then boZ z N L (nI q) else if w = 4 then z (17 + q) else if w = 5 then z (25 + q) else if w = 6 then nI (chN z 8 (z (17 + q)))
  else if w = 7 then z (33 + q) else if w = 8 then z (41 + q) else if w = 9 then z (49 + q) else bsZ z N (nI q)
def bonZ (z : Nat → Int32) (b L w : Nat) : Int32 := if w = 9 then lfZ z b else if w = 10 then lmZ z b L else if w = 11 then z (121 + 31 * b + 9) else z (121 + 31 * b + w)
def cntZ (z : Nat → Int32) (sv : Int32) (N : Nat) (L : Nat → Nat) (w : Nat) : Int32 :=
  if w = 0 then z 0 else if w = 1 then ruS z N else if w = 2 then sumI (fun q => perZ z N L q 0) 8 else if w = 3 then z 1 else if w = 7 then sumI (fun q => perZ z N L q 1) 8
  else if w = 8 then z 5 else if w = 9 then sv else z (w - 2)
theorem trI_k {b k : Nat} (h : ∀ j, j < 4 → k ≠ 121 + 31 * b + 15 + 4 * j + 2) : ∀ (i : Nat) (z : Nat → Int32) (ov : Int32), i ≤ 4 → trI z b i ov k = z k
  | 0, _, _, _ => rfl
  | i + 1, z, ov, hi => by
    rw [trI]
    split
    · rfl
    · rw [trI_k h i _ _ (by omega), pk_un (h i (by omega))]
theorem trZ_k {z : Nat → Int32} {b L k : Nat} (h : ∀ j, j < 4 → k ≠ 121 + 31 * b + 15 + 4 * j + 2) (hL4 : L ≤ 4) : trZ z b L k = z k := trI_k h L z _ hL4
theorem cnZ_k {z f sh : Nat → Int32} {b prn L : Nat} {su : Nat → Nat} {am : Int32} (hC : CH z b prn L su am) {k : Nat} (hk : KL b k) (h6 : k ≠ 121 + 31 * b + 6) (h7 : k ≠ 121 + 31 * b + 7) (h2 : k ≠ 2) (h3 : k ≠ 3) (h4 : k ≠ 4) : cnZ z f sh b prn L su am k = z k := by
  obtain ⟨hpr, hp, hL, hL4, hsu, hch, hls⟩ := hC
  have hq := hk.1
  unfold Kq at hq
  unfold cnZ
  rw [trZ_k (fun j hj => (hk.2 j hj).1) hL4]
  unfold cn7
  rw [ad1_ne h4, ad1_ne h3, ad1_ne h2, ad1_ne h7]
  unfold cnE
  have hch3 : chOK (cn3 z b prn am) 8 (cn3 z b prn am (17 + prn)) := by rw [cn3_k (by omega) (by omega) (by omega)]; exact chOK_c (fun q hq => cn3_k (by omega) (by omega) (by omega)) _ _ hch
  rw [cnI_k (t0 := (cn3 z b prn am, upd (upd f 9 (-1)) 7 (cnO z b prn am), cnR z b prn am)) hp hL4 (fun i hi => (hsu i hi).2) hch3 L (Nat.le_refl _) k hk]
  exact cn3_k h6 (by omega) (by omega)
theorem cnIf_k {sh1 : Nat → Int32} {b prn k : Nat} {su : Nat → Nat} {t0 : T3z} (h7 : k ≠ 7) (h9 : k ≠ 9) : ∀ i, (cnI sh1 b prn su t0 i).2.1 k = t0.2.1 k
  | 0 => rfl
  | i + 1 => by
    rw [cnI_s]
    dsimp only
    unfold lpF
    rw [pk_un h7, pk_un h9, cnIf_k h7 h9 i]
theorem cnF_k {z f sh : Nat → Int32} {b prn L : Nat} {su : Nat → Nat} {am : Int32} {k : Nat} (h7 : k ≠ 7) (h8 : k ≠ 8) (h9 : k ≠ 9) : cnF z f sh b prn L su am k = f k := by
  unfold cnF
  rw [pk_un h8]
  unfold cnE
  rw [cnIf_k h7 h9]
  dsimp only
  rw [pk_un h7, pk_un h9]
/-- the row back again -/
theorem cp_back {z as f sh : Nat → Int32} {b prn L : Nat} {su : Nat → Nat} {am : Int32} (hb : b < 10) (hC : CH z b prn L su am) : cp431 (cp431 z as 431) (cnZ z f sh b prn L su am) 431 = z := by
  funext k
  unfold cp431
  by_cases h : k < 431
  · rw [if_pos h, if_pos h]
  · rw [if_neg h]
    exact cnZ_k hC ⟨Or.inl (by omega), fun j hj => ⟨by omega, by omega⟩⟩ (by omega) (by omega) (by omega) (by omega) (by omega)
/-- the world but for what a call that is undone leaves: row aside, record, shares, hash -/
def mV (σ : gS) (as f sh : Nat → Int32) (h : Int64) : gS := (fun o => if o = 26 then as else if o = 23 then f else if o = 28 then sh else σ.1 o, fun o => if o = 23 then vp_updL (σ.2 23) 13 h else σ.2 o)
def hM (σ : gS) (h : Int64) : gS := sL σ 23 (vp_updL (σ.2 23) 13 h)
theorem uL_self (f : Nat → Int64) (k : Nat) : vp_updL f k (f k) = f := by
  funext j
  by_cases h : j = k
  · subst h; exact pk_uLs
  · exact pk_uLn h
theorem uL_uL (f : Nat → Int64) (k : Nat) (x y : Int64) : vp_updL (vp_updL f k x) k y = vp_updL f k y := by
  funext j
  by_cases h : j = k
  · subst h; rw [pk_uLs, pk_uLs]
  · rw [pk_uLn h, pk_uLn h, pk_uLn h]
theorem mV_id (σ : gS) : mV σ (σ.1 26) (σ.1 23) (σ.1 28) (σ.2 23 13) = σ := by
  unfold mV
  refine Prod.ext (funext fun o => ?_) (funext fun o => ?_)
  · dsimp only
    split
    · rename_i h; subst h; rfl
    · split
      · rename_i h; subst h; rfl
      · split
        · rename_i h; subst h; rfl
        · rfl
  · dsimp only
    split
    · rename_i h; subst h; exact uL_self _ _
    · rfl
theorem mV_mV (σ : gS) (as f sh as' f' sh' : Nat → Int32) (h h' : Int64) : mV (mV σ as f sh h) as' f' sh' h' = mV σ as' f' sh' h' := by
  unfold mV
  refine Prod.ext (funext fun o => ?_) (funext fun o => ?_)
  · dsimp only
    repeat' split
    all_goals rfl
  · dsimp only
    split
    · rw [if_pos rfl]
      exact uL_uL _ _ _ _
    · rfl
theorem hM_mV (σ : gS) (as f sh : Nat → Int32) (h h' : Int64) : hM (mV σ as f sh h) h' = mV σ as f sh h' := by
  unfold hM mV sL
  refine Prod.ext rfl (funext fun o => ?_)
  dsimp only
  split
  · rw [if_pos rfl]
    exact uL_uL _ _ _ _
  · rfl
theorem hM_id (σ : gS) : hM σ (σ.2 23 13) = σ := by
  unfold hM sL
  refine Prod.ext rfl (funext fun o => ?_)
  dsimp only
  split
  · rename_i h; subst h; exact uL_self _ _
  · rfl
theorem hM_hM (σ : gS) (a b : Int64) : hM (hM σ a) b = hM σ b := by
  unfold hM sL
  refine Prod.ext rfl (funext fun o => ?_)
  dsimp only
  split
  · rw [if_pos rfl]
    exact uL_uL _ _ _ _
  · rfl
theorem hM_h (σ : gS) (a : Int64) : (hM σ a).2 23 13 = a := by
  unfold hM sL
  dsimp only
  rw [if_pos rfl]
  exact pk_uLs
theorem hM_1 (σ : gS) (a : Int64) : (hM σ a).1 = σ.1 := rfl
def QM (σ : gS) (h : Int64) (τ : gS) : Prop := ∃ (as f sh : Nat → Int32), τ = mV σ as f sh h ∧ ∀ k, k ≠ 7 → k ≠ 8 → k ≠ 9 → f k = σ.1 23 k
theorem QM.rf (σ : gS) : QM σ (σ.2 23 13) σ := ⟨_, _, _, (mV_id σ).symm, fun _ _ _ _ => rfl⟩
theorem QM.c {σ τ : gS} {h : Int64} (q : QM σ h τ) : τ.1 24 = σ.1 24 := by
  obtain ⟨as, f, sh, rfl, -⟩ := q
  rfl
theorem QM.b {σ τ : gS} {h : Int64} (q : QM σ h τ) : τ.1 27 = σ.1 27 := by
  obtain ⟨as, f, sh, rfl, -⟩ := q
  rfl
theorem QM.f {σ τ : gS} {h : Int64} (q : QM σ h τ) {k : Nat} (h7 : k ≠ 7) (h8 : k ≠ 8) (h9 : k ≠ 9) : τ.1 23 k = σ.1 23 k := by
  obtain ⟨as, f, sh, rfl, hf⟩ := q
  exact hf k h7 h8 h9
theorem QM.h {σ τ : gS} {h : Int64} (q : QM σ h τ) : τ.2 23 13 = h := by
  obtain ⟨as, f, sh, rfl, -⟩ := q
  unfold mV
  dsimp only
  rw [if_pos rfl]
  exact pk_uLs
theorem QM.tr {σ τ υ : gS} {h h' : Int64} (q : QM σ h τ) (q2 : QM τ h' υ) : QM σ h' υ := by
  have hf1 := fun k h7 h8 h9 => q.f (k := k) h7 h8 h9
  obtain ⟨as, f, sh, rfl, -⟩ := q
  obtain ⟨as', f', sh', rfl, hf⟩ := q2
  exact ⟨as', f', sh', mV_mV _ _ _ _ _ _ _ _ _, fun k h7 h8 h9 => (hf k h7 h8 h9).trans (hf1 k h7 h8 h9)⟩
theorem QM.hM {σ τ : gS} {h : Int64} (q : QM σ h τ) (h' : Int64) : QM σ h' (hM τ h') := by
  obtain ⟨as, f, sh, rfl, hf⟩ := q
  exact ⟨as, f, sh, hM_mV _ _ _ _ _ _, hf⟩
def ceI (z f sh : Nat → Int32) (b prn L : Nat) (su : Nat → Nat) (am : Int32) (w : Nat) : Int32 :=
  if w = 0 then cnF z f sh b prn L su am 7 else if w = 1 then cnF z f sh b prn L su am 8 else if w = 10 then lmZ (cnZ z f sh b prn L su am) b L
  else cnZ z f sh b prn L su am (9 + w - 2) - z (9 + w - 2)
def coZ (z f sh : Nat → Int32) (b prn L : Nat) (su : Nat → Nat) (am : Int32) (w : Nat) : Int32 := if ruB z b then ceI z f sh b prn L su am w else nI 0
def thZ (z f sh : Nat → Int32) (b prn L : Nat) (su : Nat → Nat) (am : Int32) : Int32 := if ruB z b then cnF z f sh b prn L su am 9 else -1
/-- a call, and the row back again -/
theorem aside_eq (σ : gS) (as f sh z' : Nat → Int32) (hz : cp431 as z' 431 = σ.1 24) : sA (mW (sA σ 26 as) z' f sh) 24 (cp431 as z' 431) = mV σ as f sh (σ.2 23 13) := by
  rw [mW_s24]
  unfold mW mV sA
  refine Prod.ext (funext fun o => ?_) (funext fun o => ?_)
  · dsimp only
    by_cases h24 : o = 24
    · subst h24
      rw [if_pos rfl]
      exact hz
    · rw [if_neg h24]
      by_cases h26 : o = 26
      · subst h26; rfl
      · by_cases h23 : o = 23
        · subst h23; rfl
        · by_cases h28 : o = 28
          · subst h28; rfl
          · simp only [if_neg h24, if_neg h26, if_neg h23, if_neg h28]
  · dsimp only
    split
    · rename_i h; subst h; exact (uL_self _ _).symm
    · rfl
section GD5
variable {p : Program} {l : Launch} {e : Env} {R : Room} {s : State} {m : MethodId} {args : Array Value} {below : List Frame} {meth : Method} {c : Code} {γ : gG} {A : Nat → Prop} {nL k n : Nat} {Q : State → Prop}
variable {cc : ByteArray} {own : String} {Ts : List Cond} {pc : Nat} {ls : List (Option Value)} {rest st : List Value} {σ : gS}
theorem g_rawBits (X : CX p s m args c cc own nL Ts γ A) {index : Nat} {u : UInt64} (h1 : Cond.methodLink own index ⟨"java/lang/Double", "doubleToRawLongBits", "(D)J"⟩ ∈ Ts) (h2 : Cond.native ⟨"java/lang/Double", "doubleToRawLongBits", "(D)J"⟩ ∈ Ts) (h3 : Cond.static ⟨"java/lang/Double", "doubleToRawLongBits", "(D)J"⟩ ∈ Ts) (h4 : Cond.initialized "java/lang/Double" ∈ Ts) (hf : 1 ≤ R.frames) (hlo : (rest.map fun v => v.category).sum + 15 ≤ R.locals) (hdg : decode cc pc = .ok (.invokestatic index, 3))
    (kk : G p l e R s m args below meth c γ A nL k n Q (pc + 3) ls (.long u.toInt64 :: rest) σ) : G p l e R s m args below meth c γ A nL k n Q pc ls (.double u :: rest) σ := fun H locs la hP hS hl =>
  vn_d2l X.1 X.2.1 (by rw [X.ml, hl.1]) X.ow (X.ts _ h1) (X.ts _ h2) (X.ts _ h3) (X.ts _ h4) hf hlo hdg (kk H locs la hP hS hl)
end GD5
/-- the hash's words over the row -/
def prZ (z : Nat → Int32) (N : Nat) (L : Nat → Nat) (q : Nat) (h : Int64) : Int64 :=
  dgF (fun o => (z (57 + 8 * q + o)).toInt64) 8 (mixI (dgF (fun w => (perZ z N L q w).toInt64) 11 h) (spZ z N L q).toInt64)
def boH (z : Nat → Int32) (b L : Nat) (ef : Nat → Int32) (th : Int32) (h : Int64) : Int64 :=
  mixI (dgF (fun w => (ef w).toInt64) 11 (dgF (fun k => (z (121 + 31 * b + 15 + k)).toInt64) (4 * L) (dgF (fun w => (bonZ z b L w).toInt64) 12 h))) th.toInt64
def dpZ (z : Nat → Int32) (N : Nat) (L : Nat → Nat) : Nat → Int64 → Int64
  | 0, h => h
  | q + 1, h => prZ z N L q (dpZ z N L q h)
def dbZ (z : Nat → Int32) (L : Nat → Nat) (ef : Nat → Nat → Int32) (th : Nat → Int32) : Nat → Int64 → Int64
  | 0, h => h
  | b + 1, h => boH z b (L b) (ef b) (th b) (dbZ z L ef th b h)
def dgZ (z : Nat → Int32) (sv : Int32) (N : Nat) (L : Nat → Nat) (ef : Nat → Nat → Int32) (th lo : Nat → Int32) (k : Nat) (co : Nat → Int32) : Int64 :=
  dgF (fun j => (co j).toInt64) k (mixI (mixI (mixI (dbZ z L ef th N (dpZ z N L 8 (dgF (fun j => (z (6 + j)).toInt64) 3 (dgF (fun w => (cntZ z sv N L w).toInt64) 10 2503)))) (woI lo N).1.toInt64) (psD (z 2) (z 3)).toInt64) (nI k).toInt64)
/-- what the calls of a bond that are only looked at want of the row, and what they answer -/
def BZ (z : Nat → Int32) (b prn L : Nat) (su : Nat → Nat) (ef : Nat → Int32) (th lo : Int32) : Prop := ruB z b = true → CH z b prn L su (nI 1000) ∧ CH z b prn L su (lfZ z b) ∧ ∀ f sh, (∀ w, w ≤ 10 → coZ z f sh b prn L su (nI 1000) w = ef w) ∧ thZ z f sh b prn L su (lfZ z b) = th ∧ coZ z f sh b prn L su (lfZ z b) 1 = lo
def BZ0 (z : Nat → Int32) (b : Nat) (ef : Nat → Int32) (th lo : Int32) : Prop := ruB z b = false → (∀ w, w ≤ 10 → ef w = nI 0) ∧ th = -1 ∧ lo = nI 0
def BZA (z : Nat → Int32) (b prn L : Nat) (su : Nat → Nat) (ef : Nat → Int32) (th lo : Int32) : Prop := BZ z b prn L su ef th lo ∧ BZ0 z b ef th lo
theorem BZA.ef {z f sh : Nat → Int32} {b prn L : Nat} {su : Nat → Nat} {ef : Nat → Int32} {th lo : Int32} (h : BZA z b prn L su ef th lo) {w : Nat} (hw : w ≤ 10) : coZ z f sh b prn L su (nI 1000) w = ef w := by
  by_cases hr : ruB z b = true
  · exact (((h.1 hr).2.2 f sh).1 w hw)
  · unfold coZ
    rw [if_neg hr, (h.2 (Bool.eq_false_iff.mpr hr)).1 w hw]
theorem BZA.th {z f sh : Nat → Int32} {b prn L : Nat} {su : Nat → Nat} {ef : Nat → Int32} {th lo : Int32} (h : BZA z b prn L su ef th lo) : thZ z f sh b prn L su (lfZ z b) = th := by
  by_cases hr : ruB z b = true
  · exact (((h.1 hr).2.2 f sh).2.1)
  · unfold thZ
    rw [if_neg hr, (h.2 (Bool.eq_false_iff.mpr hr)).2.1]
theorem BZA.lo {z f sh : Nat → Int32} {b prn L : Nat} {su : Nat → Nat} {ef : Nat → Int32} {th lo : Int32} (h : BZA z b prn L su ef th lo) : coZ z f sh b prn L su (lfZ z b) 1 = lo := by
  by_cases hr : ruB z b = true
  · exact (((h.1 hr).2.2 f sh).2.2)
  · unfold coZ
    rw [if_neg hr, (h.2 (Bool.eq_false_iff.mpr hr)).2.2]

set_option maxRecDepth 20000 in
theorem k_X5_personOf (l : Launch) (γ : gG) (σ : gS) (q w : Nat) (hq : q < 8) (hw : w ≤ 10) (N : Nat) (L : Nat → Nat) (hS : SZ (σ.1 24) N L) (hch : chOK (σ.1 24) 8 (σ.1 24 (17 + q))) : gM l γ yX5_personOf wsX5_personOf ({ frames := 3, cells := 0, slots := 0, locals := 65 } : Room) [.ref (ad γ 23), .int (nI q), .int (nI w)] σ (gis (some (.int (perZ (σ.1 24) N L q w))) σ) 0 0 := by
  refine g_enter (own := RX5) (cc := cX5_personOf) (nL := 3) (ret := (some .int)) [some (.ref (ad γ 23)), some (.int (nI q)), some (.int (nI w))] (by decide) rfl rfl (by simp [lg_sl, Value.category]) (by simp [gl_le, glE, Value.category]) (fun hj p e s m args below meth c X hr hlk hnm => ?_)
  have hi5 : ∀ w ∈ wsX50, w ∈ wsX5_personOf := by decide +kernel
  refine g_iload_n X dX5_personOf_0 rfl rfl ?_
  rcases (show w = 0 ∨ w = 1 ∨ w = 2 ∨ w = 3 ∨ w = 4 ∨ w = 5 ∨ w = 6 ∨ w = 7 ∨ w = 8 ∨ w = 9 ∨ w = 10 by omega) with rfl | rfl | rfl | rfl | rfl | rfl | rfl | rfl | rfl | rfl | rfl
  · refine g_tableIn (tgt := 56) (off := 55) X dX5_personOf_1 (by decide) (by decide) rfl (by decide) ?_
    refine g_aload_n X dX5_personOf_56 rfl rfl ?_
    refine g_get_23_0 X hi5 (by decide +kernel) dX5_personOf_57 ?_
    refine g_bipush (v := nI 9) X dX5_personOf_60 (by decide) ?_
    refine g_iload_n X dX5_personOf_62 rfl rfl ?_
    refine g_iaddN X dX5_personOf_63 ?_
    refine g_ald_24 X rfl (by omega) dX5_personOf_64 ?_
    exact g_iret X hr hlk dX5_personOf_65 ⟨rfl, rfl⟩
  · refine g_tableIn (tgt := 66) (off := 65) X dX5_personOf_1 (by decide) (by decide) rfl (by decide) ?_
    refine g_aload_n X dX5_personOf_66 rfl rfl ?_
    refine g_iload_n X dX5_personOf_67 rfl rfl ?_
    refine g_iload_n X dX5_personOf_68 rfl rfl ?_
    refine g_iconstN X 1 dX5_personOf_69 ?_
    refine g_icmpN_ne (tgt := 77) X dX5_personOf_70 (by decide) (by omega) (by omega) (fun c_70 => absurd rfl c_70) (fun c_70 => ?_)
    refine g_iconstN X 1 dX5_personOf_73 ?_
    refine g_goto (tgt := 78) X dX5_personOf_74 (by decide) ?_
    refine g_callVi (na := 2) X hj (k_X5_debts_1 l γ _ _ (by omega)) gW_23 rfl gX5_personOf_X5_debts rfl ⟨rfl, rfl⟩ (by decide +kernel) rfl ⟨by decide, by decide⟩ rfl (Nat.le_of_ble_eq_true rfl) dX5_personOf_78 ⟨by decide, by decide⟩ ?_
    exact g_iret X hr hlk dX5_personOf_81 ⟨rfl, rfl⟩
  · refine g_tableIn (tgt := 66) (off := 65) X dX5_personOf_1 (by decide) (by decide) rfl (by decide) ?_
    refine g_aload_n X dX5_personOf_66 rfl rfl ?_
    refine g_iload_n X dX5_personOf_67 rfl rfl ?_
    refine g_iload_n X dX5_personOf_68 rfl rfl ?_
    refine g_iconstN X 1 dX5_personOf_69 ?_
    refine g_icmpN_ne (tgt := 77) X dX5_personOf_70 (by decide) (by omega) (by omega) (fun c_70 => ?_) (fun c_70 => absurd c_70 (by decide))
    refine g_iconstN X 0 dX5_personOf_77 ?_
    refine g_callVi (na := 2) X hj (k_X5_debts_0 l γ _ _ (by omega)) gW_23 rfl gX5_personOf_X5_debts rfl ⟨rfl, rfl⟩ (by decide +kernel) rfl ⟨by decide, by decide⟩ rfl (Nat.le_of_ble_eq_true rfl) dX5_personOf_78 ⟨by decide, by decide⟩ ?_
    exact g_iret X hr hlk dX5_personOf_81 ⟨rfl, rfl⟩
  · refine g_tableIn (tgt := 82) (off := 81) X dX5_personOf_1 (by decide) (by decide) rfl (by decide) ?_
    refine g_aload_n X dX5_personOf_82 rfl rfl ?_
    refine g_iload_n X dX5_personOf_83 rfl rfl ?_
    refine g_callVi (na := 1) X hj (k_X5_bound l γ _ N L _ hS) gW_23 rfl gX5_personOf_X5_bound rfl ⟨rfl, rfl⟩ (by decide +kernel) rfl ⟨by decide, by decide⟩ rfl (Nat.le_of_ble_eq_true rfl) dX5_personOf_84 ⟨by decide, by decide⟩ ?_
    exact g_iret X hr hlk dX5_personOf_87 ⟨rfl, rfl⟩
  · refine g_tableIn (tgt := 88) (off := 87) X dX5_personOf_1 (by decide) (by decide) rfl (by decide) ?_
    refine g_aload_n X dX5_personOf_88 rfl rfl ?_
    refine g_get_23_0 X hi5 (by decide +kernel) dX5_personOf_89 ?_
    refine g_bipush (v := nI 17) X dX5_personOf_92 (by decide) ?_
    refine g_iload_n X dX5_personOf_94 rfl rfl ?_
    refine g_iaddN X dX5_personOf_95 ?_
    refine g_ald_24 X rfl (by omega) dX5_personOf_96 ?_
    exact g_iret X hr hlk dX5_personOf_97 ⟨rfl, rfl⟩
  · refine g_tableIn (tgt := 98) (off := 97) X dX5_personOf_1 (by decide) (by decide) rfl (by decide) ?_
    refine g_aload_n X dX5_personOf_98 rfl rfl ?_
    refine g_get_23_0 X hi5 (by decide +kernel) dX5_personOf_99 ?_
    refine g_bipush (v := nI 25) X dX5_personOf_102 (by decide) ?_
    refine g_iload_n X dX5_personOf_104 rfl rfl ?_
    refine g_iaddN X dX5_personOf_105 ?_
    refine g_ald_24 X rfl (by omega) dX5_personOf_106 ?_
    exact g_iret X hr hlk dX5_personOf_107 ⟨rfl, rfl⟩
  · refine g_tableIn (tgt := 108) (off := 107) X dX5_personOf_1 (by decide) (by decide) rfl (by decide) ?_
    refine g_aload_n X dX5_personOf_108 rfl rfl ?_
    refine g_iload_n X dX5_personOf_109 rfl rfl ?_
    refine g_callVi (na := 1) X hj (k_X5_chainOf l γ _ _ (by omega) hch) gW_23 rfl gX5_personOf_X5_chainOf rfl ⟨rfl, rfl⟩ (by decide +kernel) rfl ⟨by decide, by decide⟩ rfl (Nat.le_of_ble_eq_true rfl) dX5_personOf_110 ⟨by decide, by decide⟩ ?_
    exact g_iret X hr hlk dX5_personOf_113 ⟨rfl, rfl⟩
  · refine g_tableIn (tgt := 114) (off := 113) X dX5_personOf_1 (by decide) (by decide) rfl (by decide) ?_
    refine g_aload_n X dX5_personOf_114 rfl rfl ?_
    refine g_get_23_0 X hi5 (by decide +kernel) dX5_personOf_115 ?_
    refine g_bipush (v := nI 33) X dX5_personOf_118 (by decide) ?_
    refine g_bipush (v := nI 8) X dX5_personOf_120 (by decide) ?_
    refine g_iload_n X dX5_personOf_122 rfl rfl ?_
    refine g_bipush (v := nI 7) X dX5_personOf_123 (by decide) ?_
    refine g_isubN X dX5_personOf_125 (by decide) ?_
    refine g_imulN X dX5_personOf_126 ?_
    refine g_iaddN X dX5_personOf_127 ?_
    refine g_iload_n X dX5_personOf_128 rfl rfl ?_
    refine g_iaddN X dX5_personOf_129 ?_
    refine g_ald_24 X rfl (by omega) dX5_personOf_130 ?_
    exact g_iret X hr hlk dX5_personOf_131 ⟨rfl, rfl⟩
  · refine g_tableIn (tgt := 114) (off := 113) X dX5_personOf_1 (by decide) (by decide) rfl (by decide) ?_
    refine g_aload_n X dX5_personOf_114 rfl rfl ?_
    refine g_get_23_0 X hi5 (by decide +kernel) dX5_personOf_115 ?_
    refine g_bipush (v := nI 33) X dX5_personOf_118 (by decide) ?_
    refine g_bipush (v := nI 8) X dX5_personOf_120 (by decide) ?_
    refine g_iload_n X dX5_personOf_122 rfl rfl ?_
    refine g_bipush (v := nI 7) X dX5_personOf_123 (by decide) ?_
    refine g_isubN X dX5_personOf_125 (by decide) ?_
    refine g_imulN X dX5_personOf_126 ?_
    refine g_iaddN X dX5_personOf_127 ?_
    refine g_iload_n X dX5_personOf_128 rfl rfl ?_
    refine g_iaddN X dX5_personOf_129 ?_
    refine g_ald_24 X rfl (by omega) dX5_personOf_130 ?_
    exact g_iret X hr hlk dX5_personOf_131 ⟨rfl, rfl⟩
  · refine g_tableIn (tgt := 114) (off := 113) X dX5_personOf_1 (by decide) (by decide) rfl (by decide) ?_
    refine g_aload_n X dX5_personOf_114 rfl rfl ?_
    refine g_get_23_0 X hi5 (by decide +kernel) dX5_personOf_115 ?_
    refine g_bipush (v := nI 33) X dX5_personOf_118 (by decide) ?_
    refine g_bipush (v := nI 8) X dX5_personOf_120 (by decide) ?_
    refine g_iload_n X dX5_personOf_122 rfl rfl ?_
    refine g_bipush (v := nI 7) X dX5_personOf_123 (by decide) ?_
    refine g_isubN X dX5_personOf_125 (by decide) ?_
    refine g_imulN X dX5_personOf_126 ?_
    refine g_iaddN X dX5_personOf_127 ?_
    refine g_iload_n X dX5_personOf_128 rfl rfl ?_
    refine g_iaddN X dX5_personOf_129 ?_
    refine g_ald_24 X rfl (by omega) dX5_personOf_130 ?_
    exact g_iret X hr hlk dX5_personOf_131 ⟨rfl, rfl⟩
  · refine g_tableOut (tgt := 132) X dX5_personOf_1 (by decide) (by decide) ?_
    refine g_aload_n X dX5_personOf_132 rfl rfl ?_
    refine g_iload_n X dX5_personOf_133 rfl rfl ?_
    refine g_callVi (na := 1) X hj (k_X5_bondsOf l γ _ _ N hS.1 hS.2.1) gW_23 rfl gX5_personOf_X5_bondsOf rfl ⟨rfl, rfl⟩ (by decide +kernel) rfl ⟨by decide, by decide⟩ rfl (Nat.le_of_ble_eq_true rfl) dX5_personOf_134 ⟨by decide, by decide⟩ ?_
    exact g_iret X hr hlk dX5_personOf_137 ⟨rfl, rfl⟩
set_option maxRecDepth 20000 in
theorem k_X5_person (l : Launch) (γ : gG) (σ : gS) (q w : Nat) (hq : q < 8) (hw : w ≤ 10) (N : Nat) (L : Nat → Nat) (hS : SZ (σ.1 24) N L) (hch : chOK (σ.1 24) 8 (σ.1 24 (17 + q))) : gM l γ yX5_person wsX5_person ({ frames := 4, cells := 0, slots := 0, locals := 87 } : Room) [.ref (ad γ 23), .int (nI q), .int (nI w)] σ (gis (some (.int (perZ (σ.1 24) N L q w))) (okM σ)) 0 0 := by
  refine g_enter (own := RX5) (cc := cX5_person) (nL := 3) (ret := (some .int)) [some (.ref (ad γ 23)), some (.int (nI q)), some (.int (nI w))] (by decide) rfl rfl (by simp [lg_sl, Value.category]) (by simp [gl_le, glE, Value.category]) (fun hj p e s m args below meth c X hr hlk hnm => ?_)
  have hi5 : ∀ w ∈ wsX50, w ∈ wsX5_person := by decide +kernel
  refine g_aload_n X dX5_person_0 rfl rfl ?_
  refine g_iconstN X 0 dX5_person_1 ?_
  refine g_put_23_6 X hi5 (by decide +kernel) dX5_person_2 ?_
  refine g_eq rfl (σ' := okM σ) rfl ?_
  refine g_iload_n X dX5_person_5 rfl rfl ?_
  refine g_callSi (na := 1) X hj (k_X5_isPerson l γ _ _) gX5_person_X5_isPerson rfl ⟨rfl, rfl⟩ (by decide +kernel) rfl ⟨by decide, by decide⟩ rfl (Nat.le_of_ble_eq_true rfl) dX5_person_6 ⟨by decide, by decide⟩ ?_
  refine g_if_ne (tgt := 18) X dX5_person_9 (by decide) (fun c_9 => ?_) (fun c_9 => absurd c_9 (bI_1 (inP (by omega) (by decide))))
  refine g_iload_n X dX5_person_18 rfl rfl ?_
  refine g_iconstN X 0 dX5_person_19 ?_
  refine g_bipush (v := nI 10) X dX5_person_20 (by decide) ?_
  refine g_callSi (na := 3) X hj (k_X5_in l γ _ _ _ _) gX5_person_X5_in rfl ⟨rfl, rfl⟩ (by decide +kernel) rfl ⟨by decide, by decide⟩ rfl (Nat.le_of_ble_eq_true rfl) dX5_person_22 ⟨by decide, by decide⟩ ?_
  refine g_if_eq (tgt := 37) X dX5_person_25 (by decide) (fun c_25 => absurd c_25 (bI_1 (inP (by omega) (by decide)))) (fun c_25 => ?_)
  refine g_aload_n X dX5_person_28 rfl rfl ?_
  refine g_iload_n X dX5_person_29 rfl rfl ?_
  refine g_iload_n X dX5_person_30 rfl rfl ?_
  refine g_callVi (na := 2) X hj (k_X5_personOf l γ _ _ _ (by omega) (by omega) N L hS hch) gW_23 rfl gX5_person_X5_personOf rfl ⟨rfl, rfl⟩ (by decide +kernel) rfl ⟨by decide, by decide⟩ rfl (Nat.le_of_ble_eq_true rfl) dX5_person_31 ⟨by decide, by decide⟩ ?_
  refine g_goto (tgt := 42) X dX5_person_34 (by decide) ?_
  exact g_iret X hr hlk dX5_person_42 ⟨rfl, rfl⟩
set_option maxRecDepth 20000 in
theorem k_X5_person_1 (l : Launch) (γ : gG) (σ : gS) (y w : Int32) (h : inB y (nI 0) (nI 7) = false) : gM l γ yX5_person wsX5_person ({ frames := 4, cells := 0, slots := 0, locals := 87 } : Room) [.ref (ad γ 23), .int y, .int w] σ (gis (some (.int (nI 0))) (sM σ 6 (nI 1))) 0 0 := by
  refine g_enter (own := RX5) (cc := cX5_person) (nL := 3) (ret := (some .int)) [some (.ref (ad γ 23)), some (.int y), some (.int w)] (by decide) rfl rfl (by simp [lg_sl, Value.category]) (by simp [gl_le, glE, Value.category]) (fun hj p e s m args below meth c X hr hlk hnm => ?_)
  have hi5 : ∀ w ∈ wsX50, w ∈ wsX5_person := by decide +kernel
  refine g_aload_n X dX5_person_0 rfl rfl ?_
  refine g_iconstN X 0 dX5_person_1 ?_
  refine g_put_23_6 X hi5 (by decide +kernel) dX5_person_2 ?_
  refine g_eq rfl (σ' := okM σ) rfl ?_
  refine g_iload_n X dX5_person_5 rfl rfl ?_
  refine g_callSi (na := 1) X hj (k_X5_isPerson l γ _ _) gX5_person_X5_isPerson rfl ⟨rfl, rfl⟩ (by decide +kernel) rfl ⟨by decide, by decide⟩ rfl (Nat.le_of_ble_eq_true rfl) dX5_person_6 ⟨by decide, by decide⟩ ?_
  refine g_if_ne (tgt := 18) X dX5_person_9 (by decide) (fun c_9 => absurd (bI_0 h) c_9) (fun c_9 => ?_)
  refine g_aload_n X dX5_person_12 rfl rfl ?_
  refine g_iconstN X 1 dX5_person_13 ?_
  refine g_callVi (na := 1) X hj (k_X5_fails l γ _ _) gW_23 rfl gX5_person_X5_fails rfl ⟨rfl, rfl⟩ (by decide +kernel) rfl ⟨by decide, by decide⟩ rfl (Nat.le_of_ble_eq_true rfl) dX5_person_14 ⟨by decide, by decide⟩ ?_
  exact g_iret X hr hlk dX5_person_17 ⟨rfl, sM_ok σ _⟩
set_option maxRecDepth 20000 in
theorem k_X5_person_2 (l : Launch) (γ : gG) (σ : gS) (q : Nat) (w : Int32) (hq : q < 8) (h : inB w (nI 0) (nI 10) = false) : gM l γ yX5_person wsX5_person ({ frames := 4, cells := 0, slots := 0, locals := 87 } : Room) [.ref (ad γ 23), .int (nI q), .int w] σ (gis (some (.int (nI 0))) (sM σ 6 (nI 2))) 0 0 := by
  refine g_enter (own := RX5) (cc := cX5_person) (nL := 3) (ret := (some .int)) [some (.ref (ad γ 23)), some (.int (nI q)), some (.int w)] (by decide) rfl rfl (by simp [lg_sl, Value.category]) (by simp [gl_le, glE, Value.category]) (fun hj p e s m args below meth c X hr hlk hnm => ?_)
  have hi5 : ∀ w ∈ wsX50, w ∈ wsX5_person := by decide +kernel
  refine g_aload_n X dX5_person_0 rfl rfl ?_
  refine g_iconstN X 0 dX5_person_1 ?_
  refine g_put_23_6 X hi5 (by decide +kernel) dX5_person_2 ?_
  refine g_eq rfl (σ' := okM σ) rfl ?_
  refine g_iload_n X dX5_person_5 rfl rfl ?_
  refine g_callSi (na := 1) X hj (k_X5_isPerson l γ _ _) gX5_person_X5_isPerson rfl ⟨rfl, rfl⟩ (by decide +kernel) rfl ⟨by decide, by decide⟩ rfl (Nat.le_of_ble_eq_true rfl) dX5_person_6 ⟨by decide, by decide⟩ ?_
  refine g_if_ne (tgt := 18) X dX5_person_9 (by decide) (fun c_9 => ?_) (fun c_9 => absurd c_9 (bI_1 (inP (by omega) (by decide))))
  refine g_iload_n X dX5_person_18 rfl rfl ?_
  refine g_iconstN X 0 dX5_person_19 ?_
  refine g_bipush (v := nI 10) X dX5_person_20 (by decide) ?_
  refine g_callSi (na := 3) X hj (k_X5_in l γ _ _ _ _) gX5_person_X5_in rfl ⟨rfl, rfl⟩ (by decide +kernel) rfl ⟨by decide, by decide⟩ rfl (Nat.le_of_ble_eq_true rfl) dX5_person_22 ⟨by decide, by decide⟩ ?_
  refine g_if_eq (tgt := 37) X dX5_person_25 (by decide) (fun c_25 => ?_) (fun c_25 => absurd (bI_0 h) c_25)
  refine g_aload_n X dX5_person_37 rfl rfl ?_
  refine g_iconstN X 2 dX5_person_38 ?_
  refine g_callVi (na := 1) X hj (k_X5_fails l γ _ _) gW_23 rfl gX5_person_X5_fails rfl ⟨rfl, rfl⟩ (by decide +kernel) rfl ⟨by decide, by decide⟩ rfl (Nat.le_of_ble_eq_true rfl) dX5_person_39 ⟨by decide, by decide⟩ ?_
  exact g_iret X hr hlk dX5_person_42 ⟨rfl, sM_ok σ _⟩
set_option maxRecDepth 20000 in
theorem k_X5_bondOf (l : Launch) (γ : gG) (σ : gS) (b L : Nat) (hb : b < 10) (hL : σ.1 24 (121 + 31 * b + 3) = nI L) (hL4 : L ≤ 4) (w : Nat) (hw : w ≤ 11) : gM l γ yX5_bondOf wsX5_bondOf ({ frames := 3, cells := 0, slots := 0, locals := 64 } : Room) [.ref (ad γ 23), .int (nI b), .int (nI w)] σ (gis (some (.int (bonZ (σ.1 24) b L w))) σ) 0 0 := by
  refine g_enter (own := RX5) (cc := cX5_bondOf) (nL := 3) (ret := (some .int)) [some (.ref (ad γ 23)), some (.int (nI b)), some (.int (nI w))] (by decide) rfl rfl (by simp [lg_sl, Value.category]) (by simp [gl_le, glE, Value.category]) (fun hj p e s m args below meth c X hr hlk hnm => ?_)
  have hi5 : ∀ w ∈ wsX50, w ∈ wsX5_bondOf := by decide +kernel
  refine g_iload_n X dX5_bondOf_0 rfl rfl ?_
  refine g_bipush (v := nI 9) X dX5_bondOf_1 (by decide) ?_
  refine g_icmpN_ge (tgt := 18) X dX5_bondOf_3 (by decide) (by omega) (by omega) (fun c_3 => ?_) (fun c_3 => ?_)
  · refine g_iload_n X dX5_bondOf_18 rfl rfl ?_
    refine g_bipush (v := nI 9) X dX5_bondOf_19 (by decide) ?_
    refine g_icmpN_ne (tgt := 32) X dX5_bondOf_21 (by decide) (by omega) (by omega) (fun c_21 => ?_) (fun c_21 => ?_)
    · refine g_iload_n X dX5_bondOf_32 rfl rfl ?_
      refine g_bipush (v := nI 10) X dX5_bondOf_33 (by decide) ?_
      refine g_icmpN_ne (tgt := 46) X dX5_bondOf_35 (by decide) (by omega) (by omega) (fun c_35 => ?_) (fun c_35 => ?_)
      · refine g_aload_n X dX5_bondOf_46 rfl rfl ?_
        refine g_get_23_0 X hi5 (by decide +kernel) dX5_bondOf_47 ?_
        refine g_iload_n X dX5_bondOf_50 rfl rfl ?_
        refine g_callSi (na := 1) X hj (k_X5_at l γ _ _) gX5_bondOf_X5_at rfl ⟨rfl, rfl⟩ (by decide +kernel) rfl ⟨by decide, by decide⟩ rfl (Nat.le_of_ble_eq_true rfl) dX5_bondOf_51 ⟨by decide, by decide⟩ ?_
        refine g_bipush (v := nI 9) X dX5_bondOf_54 (by decide) ?_
        refine g_iaddN X dX5_bondOf_56 ?_
        refine g_ald_24 X rfl (by omega) dX5_bondOf_57 ?_
        exact g_iret X hr hlk dX5_bondOf_58 ⟨by unfold bonZ; first | (have e : w = 9 := (by omega); subst e; rfl) | (have e : w = 10 := (by omega); subst e; rfl) | (have e : w = 11 := (by omega); subst e; rfl) | (rw [if_neg (by omega), if_neg (by omega), if_neg (by omega)]), rfl⟩
      · refine g_aload_n X dX5_bondOf_38 rfl rfl ?_
        refine g_iload_n X dX5_bondOf_39 rfl rfl ?_
        refine g_callVi (na := 1) X hj (k_X5_limitsOf l γ _ _ L (by omega) hL hL4) gW_23 rfl gX5_bondOf_X5_limitsOf rfl ⟨rfl, rfl⟩ (by decide +kernel) rfl ⟨by decide, by decide⟩ rfl (Nat.le_of_ble_eq_true rfl) dX5_bondOf_40 ⟨by decide, by decide⟩ ?_
        refine g_goto (tgt := 58) X dX5_bondOf_43 (by decide) ?_
        exact g_iret X hr hlk dX5_bondOf_58 ⟨by unfold bonZ; first | (have e : w = 9 := (by omega); subst e; rfl) | (have e : w = 10 := (by omega); subst e; rfl) | (have e : w = 11 := (by omega); subst e; rfl) | (rw [if_neg (by omega), if_neg (by omega), if_neg (by omega)]), rfl⟩
    · refine g_aload_n X dX5_bondOf_24 rfl rfl ?_
      refine g_iload_n X dX5_bondOf_25 rfl rfl ?_
      refine g_callVi (na := 1) X hj (k_X5_leftOf l γ _ _ (by omega)) gW_23 rfl gX5_bondOf_X5_leftOf rfl ⟨rfl, rfl⟩ (by decide +kernel) rfl ⟨by decide, by decide⟩ rfl (Nat.le_of_ble_eq_true rfl) dX5_bondOf_26 ⟨by decide, by decide⟩ ?_
      refine g_goto (tgt := 58) X dX5_bondOf_29 (by decide) ?_
      exact g_iret X hr hlk dX5_bondOf_58 ⟨by unfold bonZ; first | (have e : w = 9 := (by omega); subst e; rfl) | (have e : w = 10 := (by omega); subst e; rfl) | (have e : w = 11 := (by omega); subst e; rfl) | (rw [if_neg (by omega), if_neg (by omega), if_neg (by omega)]), rfl⟩
  · refine g_aload_n X dX5_bondOf_6 rfl rfl ?_
    refine g_get_23_0 X hi5 (by decide +kernel) dX5_bondOf_7 ?_
    refine g_iload_n X dX5_bondOf_10 rfl rfl ?_
    refine g_callSi (na := 1) X hj (k_X5_at l γ _ _) gX5_bondOf_X5_at rfl ⟨rfl, rfl⟩ (by decide +kernel) rfl ⟨by decide, by decide⟩ rfl (Nat.le_of_ble_eq_true rfl) dX5_bondOf_11 ⟨by decide, by decide⟩ ?_
    refine g_iload_n X dX5_bondOf_14 rfl rfl ?_
    refine g_iaddN X dX5_bondOf_15 ?_
    refine g_ald_24 X rfl (by omega) dX5_bondOf_16 ?_
    exact g_iret X hr hlk dX5_bondOf_17 ⟨by unfold bonZ; first | (have e : w = 9 := (by omega); subst e; rfl) | (have e : w = 10 := (by omega); subst e; rfl) | (have e : w = 11 := (by omega); subst e; rfl) | (rw [if_neg (by omega), if_neg (by omega), if_neg (by omega)]), rfl⟩
set_option maxRecDepth 20000 in
theorem k_X5_bond (l : Launch) (γ : gG) (σ : gS) (b L : Nat) (hb : b < 10) (hL : σ.1 24 (121 + 31 * b + 3) = nI L) (hL4 : L ≤ 4) (N : Nat) (hN : σ.1 24 0 = nI N) (hN10 : N ≤ 10) (hbN : b < N) (w : Nat) (hw : w ≤ 11) : gM l γ yX5_bond wsX5_bond ({ frames := 4, cells := 0, slots := 0, locals := 86 } : Room) [.ref (ad γ 23), .int (nI b), .int (nI w)] σ (gis (some (.int (bonZ (σ.1 24) b L w))) (okM σ)) 0 0 := by
  refine g_enter (own := RX5) (cc := cX5_bond) (nL := 3) (ret := (some .int)) [some (.ref (ad γ 23)), some (.int (nI b)), some (.int (nI w))] (by decide) rfl rfl (by simp [lg_sl, Value.category]) (by simp [gl_le, glE, Value.category]) (fun hj p e s m args below meth c X hr hlk hnm => ?_)
  have hi5 : ∀ w ∈ wsX50, w ∈ wsX5_bond := by decide +kernel
  refine g_aload_n X dX5_bond_0 rfl rfl ?_
  refine g_iconstN X 0 dX5_bond_1 ?_
  refine g_put_23_6 X hi5 (by decide +kernel) dX5_bond_2 ?_
  refine g_eq rfl (σ' := okM σ) rfl ?_
  refine g_aload_n X dX5_bond_5 rfl rfl ?_
  refine g_iload_n X dX5_bond_6 rfl rfl ?_
  refine g_callVi (na := 1) X hj (k_X5_isBond l γ _ _) gW_23 rfl gX5_bond_X5_isBond rfl ⟨rfl, rfl⟩ (by decide +kernel) rfl ⟨by decide, by decide⟩ rfl (Nat.le_of_ble_eq_true rfl) dX5_bond_7 ⟨by decide, by decide⟩ ?_
  refine g_if_ne (tgt := 19) X dX5_bond_10 (by decide) (fun c_10 => ?_) (fun c_10 => absurd c_10 (bI_1 (isB_1 hN hbN hN10)))
  refine g_iload_n X dX5_bond_19 rfl rfl ?_
  refine g_iconstN X 0 dX5_bond_20 ?_
  refine g_bipush (v := nI 11) X dX5_bond_21 (by decide) ?_
  refine g_callSi (na := 3) X hj (k_X5_in l γ _ _ _ _) gX5_bond_X5_in rfl ⟨rfl, rfl⟩ (by decide +kernel) rfl ⟨by decide, by decide⟩ rfl (Nat.le_of_ble_eq_true rfl) dX5_bond_23 ⟨by decide, by decide⟩ ?_
  refine g_if_eq (tgt := 38) X dX5_bond_26 (by decide) (fun c_26 => absurd c_26 (bI_1 (inP (by omega) (by decide)))) (fun c_26 => ?_)
  refine g_aload_n X dX5_bond_29 rfl rfl ?_
  refine g_iload_n X dX5_bond_30 rfl rfl ?_
  refine g_iload_n X dX5_bond_31 rfl rfl ?_
  refine g_callVi (na := 2) X hj (k_X5_bondOf l γ (okM σ) b L hb hL hL4 _ hw) gW_23 rfl gX5_bond_X5_bondOf rfl ⟨rfl, rfl⟩ (by decide +kernel) rfl ⟨by decide, by decide⟩ rfl (Nat.le_of_ble_eq_true rfl) dX5_bond_32 ⟨by decide, by decide⟩ ?_
  refine g_goto (tgt := 43) X dX5_bond_35 (by decide) ?_
  exact g_iret X hr hlk dX5_bond_43 ⟨rfl, rfl⟩
set_option maxRecDepth 20000 in
theorem k_X5_bond_1 (l : Launch) (γ : gG) (σ : gS) (y w : Int32) (h : inB y (nI 0) (σ.1 24 0 - nI 1) = false) : gM l γ yX5_bond wsX5_bond ({ frames := 4, cells := 0, slots := 0, locals := 86 } : Room) [.ref (ad γ 23), .int y, .int w] σ (gis (some (.int (nI 0))) (sM σ 6 (nI 1))) 0 0 := by
  refine g_enter (own := RX5) (cc := cX5_bond) (nL := 3) (ret := (some .int)) [some (.ref (ad γ 23)), some (.int y), some (.int w)] (by decide) rfl rfl (by simp [lg_sl, Value.category]) (by simp [gl_le, glE, Value.category]) (fun hj p e s m args below meth c X hr hlk hnm => ?_)
  have hi5 : ∀ w ∈ wsX50, w ∈ wsX5_bond := by decide +kernel
  refine g_aload_n X dX5_bond_0 rfl rfl ?_
  refine g_iconstN X 0 dX5_bond_1 ?_
  refine g_put_23_6 X hi5 (by decide +kernel) dX5_bond_2 ?_
  refine g_eq rfl (σ' := okM σ) rfl ?_
  refine g_aload_n X dX5_bond_5 rfl rfl ?_
  refine g_iload_n X dX5_bond_6 rfl rfl ?_
  refine g_callVi (na := 1) X hj (k_X5_isBond l γ _ _) gW_23 rfl gX5_bond_X5_isBond rfl ⟨rfl, rfl⟩ (by decide +kernel) rfl ⟨by decide, by decide⟩ rfl (Nat.le_of_ble_eq_true rfl) dX5_bond_7 ⟨by decide, by decide⟩ ?_
  refine g_if_ne (tgt := 19) X dX5_bond_10 (by decide) (fun c_10 => absurd (bI_0 h) c_10) (fun c_10 => ?_)
  refine g_aload_n X dX5_bond_13 rfl rfl ?_
  refine g_iconstN X 1 dX5_bond_14 ?_
  refine g_callVi (na := 1) X hj (k_X5_fails l γ _ _) gW_23 rfl gX5_bond_X5_fails rfl ⟨rfl, rfl⟩ (by decide +kernel) rfl ⟨by decide, by decide⟩ rfl (Nat.le_of_ble_eq_true rfl) dX5_bond_15 ⟨by decide, by decide⟩ ?_
  exact g_iret X hr hlk dX5_bond_18 ⟨rfl, sM_ok σ _⟩
set_option maxRecDepth 20000 in
theorem k_X5_bond_2 (l : Launch) (γ : gG) (σ : gS) (b : Nat) (N : Nat) (hN : σ.1 24 0 = nI N) (hN10 : N ≤ 10) (hbN : b < N) (w : Int32) (h : inB w (nI 0) (nI 11) = false) : gM l γ yX5_bond wsX5_bond ({ frames := 4, cells := 0, slots := 0, locals := 86 } : Room) [.ref (ad γ 23), .int (nI b), .int w] σ (gis (some (.int (nI 0))) (sM σ 6 (nI 2))) 0 0 := by
  refine g_enter (own := RX5) (cc := cX5_bond) (nL := 3) (ret := (some .int)) [some (.ref (ad γ 23)), some (.int (nI b)), some (.int w)] (by decide) rfl rfl (by simp [lg_sl, Value.category]) (by simp [gl_le, glE, Value.category]) (fun hj p e s m args below meth c X hr hlk hnm => ?_)
  have hi5 : ∀ w ∈ wsX50, w ∈ wsX5_bond := by decide +kernel
  refine g_aload_n X dX5_bond_0 rfl rfl ?_
  refine g_iconstN X 0 dX5_bond_1 ?_
  refine g_put_23_6 X hi5 (by decide +kernel) dX5_bond_2 ?_
  refine g_eq rfl (σ' := okM σ) rfl ?_
  refine g_aload_n X dX5_bond_5 rfl rfl ?_
  refine g_iload_n X dX5_bond_6 rfl rfl ?_
  refine g_callVi (na := 1) X hj (k_X5_isBond l γ _ _) gW_23 rfl gX5_bond_X5_isBond rfl ⟨rfl, rfl⟩ (by decide +kernel) rfl ⟨by decide, by decide⟩ rfl (Nat.le_of_ble_eq_true rfl) dX5_bond_7 ⟨by decide, by decide⟩ ?_
  refine g_if_ne (tgt := 19) X dX5_bond_10 (by decide) (fun c_10 => ?_) (fun c_10 => absurd c_10 (bI_1 (isB_1 hN hbN hN10)))
  refine g_iload_n X dX5_bond_19 rfl rfl ?_
  refine g_iconstN X 0 dX5_bond_20 ?_
  refine g_bipush (v := nI 11) X dX5_bond_21 (by decide) ?_
  refine g_callSi (na := 3) X hj (k_X5_in l γ _ _ _ _) gX5_bond_X5_in rfl ⟨rfl, rfl⟩ (by decide +kernel) rfl ⟨by decide, by decide⟩ rfl (Nat.le_of_ble_eq_true rfl) dX5_bond_23 ⟨by decide, by decide⟩ ?_
  refine g_if_eq (tgt := 38) X dX5_bond_26 (by decide) (fun c_26 => ?_) (fun c_26 => absurd (bI_0 h) c_26)
  refine g_aload_n X dX5_bond_38 rfl rfl ?_
  refine g_iconstN X 2 dX5_bond_39 ?_
  refine g_callVi (na := 1) X hj (k_X5_fails l γ _ _) gW_23 rfl gX5_bond_X5_fails rfl ⟨rfl, rfl⟩ (by decide +kernel) rfl ⟨by decide, by decide⟩ rfl (Nat.le_of_ble_eq_true rfl) dX5_bond_40 ⟨by decide, by decide⟩ ?_
  exact g_iret X hr hlk dX5_bond_43 ⟨rfl, sM_ok σ _⟩
set_option maxRecDepth 20000 in
theorem k_X5_layer (l : Launch) (γ : gG) (σ : gS) (b L : Nat) (hb : b < 10) (hL : σ.1 24 (121 + 31 * b + 3) = nI L) (hL4 : L ≤ 4) (N : Nat) (hN : σ.1 24 0 = nI N) (hN10 : N ≤ 10) (hbN : b < N) (k w : Nat) (hk : k < L) (hw : w ≤ 3) : gM l γ yX5_layer wsX5_layer ({ frames := 2, cells := 0, slots := 0, locals := 43 } : Room) [.ref (ad γ 23), .int (nI b), .int (nI k), .int (nI w)] σ (gis (some (.int (σ.1 24 (121 + 31 * b + 15 + 4 * k + w)))) (okM σ)) 0 0 := by
  refine g_enter (own := RX5) (cc := cX5_layer) (nL := 4) (ret := (some .int)) [some (.ref (ad γ 23)), some (.int (nI b)), some (.int (nI k)), some (.int (nI w))] (by decide) rfl rfl (by simp [lg_sl, Value.category]) (by simp [gl_le, glE, Value.category]) (fun hj p e s m args below meth c X hr hlk hnm => ?_)
  have hi5 : ∀ w ∈ wsX50, w ∈ wsX5_layer := by decide +kernel
  refine g_aload_n X dX5_layer_0 rfl rfl ?_
  refine g_iconstN X 0 dX5_layer_1 ?_
  refine g_put_23_6 X hi5 (by decide +kernel) dX5_layer_2 ?_
  refine g_eq rfl (σ' := okM σ) rfl ?_
  refine g_aload_n X dX5_layer_5 rfl rfl ?_
  refine g_iload_n X dX5_layer_6 rfl rfl ?_
  refine g_callVi (na := 1) X hj (k_X5_isBond l γ _ _) gW_23 rfl gX5_layer_X5_isBond rfl ⟨rfl, rfl⟩ (by decide +kernel) rfl ⟨by decide, by decide⟩ rfl (Nat.le_of_ble_eq_true rfl) dX5_layer_7 ⟨by decide, by decide⟩ ?_
  refine g_if_eq (tgt := 34) X dX5_layer_10 (by decide) (fun c_10 => absurd c_10 (bI_1 (isB_1 hN hbN hN10))) (fun c_10 => ?_)
  refine g_iload_n X dX5_layer_13 rfl rfl ?_
  refine g_iconstN X 0 dX5_layer_14 ?_
  refine g_aload_n X dX5_layer_15 rfl rfl ?_
  refine g_get_23_0 X hi5 (by decide +kernel) dX5_layer_16 ?_
  refine g_iload_n X dX5_layer_19 rfl rfl ?_
  refine g_callSi (na := 1) X hj (k_X5_at l γ _ _) gX5_layer_X5_at rfl ⟨rfl, rfl⟩ (by decide +kernel) rfl ⟨by decide, by decide⟩ rfl (Nat.le_of_ble_eq_true rfl) dX5_layer_20 ⟨by decide, by decide⟩ ?_
  refine g_iconstN X 3 dX5_layer_23 ?_
  refine g_iaddN X dX5_layer_24 ?_
  refine g_ald_24 X rfl (by omega) dX5_layer_25 ?_
  refine g_top (y := nI L) hL ?_
  refine g_iconstN X 1 dX5_layer_26 ?_
  refine g_isubN X dX5_layer_27 (by omega) ?_
  refine g_callSi (na := 3) X hj (k_X5_in l γ _ _ _ _) gX5_layer_X5_in rfl ⟨rfl, rfl⟩ (by decide +kernel) rfl ⟨by decide, by decide⟩ rfl (Nat.le_of_ble_eq_true rfl) dX5_layer_28 ⟨by decide, by decide⟩ ?_
  refine g_if_ne (tgt := 40) X dX5_layer_31 (by decide) (fun c_31 => ?_) (fun c_31 => absurd c_31 (bI_1 (inP (by omega) (by omega))))
  refine g_iload_n X dX5_layer_40 rfl rfl ?_
  refine g_iconstN X 0 dX5_layer_41 ?_
  refine g_iconstN X 3 dX5_layer_42 ?_
  refine g_callSi (na := 3) X hj (k_X5_in l γ _ _ _ _) gX5_layer_X5_in rfl ⟨rfl, rfl⟩ (by decide +kernel) rfl ⟨by decide, by decide⟩ rfl (Nat.le_of_ble_eq_true rfl) dX5_layer_43 ⟨by decide, by decide⟩ ?_
  refine g_if_eq (tgt := 64) X dX5_layer_46 (by decide) (fun c_46 => absurd c_46 (bI_1 (inP (by omega) (by decide)))) (fun c_46 => ?_)
  refine g_aload_n X dX5_layer_49 rfl rfl ?_
  refine g_get_23_0 X hi5 (by decide +kernel) dX5_layer_50 ?_
  refine g_iload_n X dX5_layer_53 rfl rfl ?_
  refine g_iload_n X dX5_layer_54 rfl rfl ?_
  refine g_callSi (na := 2) X hj (k_X5_layerAt l γ _ _ _) gX5_layer_X5_layerAt rfl ⟨rfl, rfl⟩ (by decide +kernel) rfl ⟨by decide, by decide⟩ rfl (Nat.le_of_ble_eq_true rfl) dX5_layer_55 ⟨by decide, by decide⟩ ?_
  refine g_iload_n X dX5_layer_58 rfl rfl ?_
  refine g_iaddN X dX5_layer_59 ?_
  refine g_ald_24 X rfl (by omega) dX5_layer_60 ?_
  refine g_goto (tgt := 69) X dX5_layer_61 (by decide) ?_
  exact g_iret X hr hlk dX5_layer_69 ⟨rfl, rfl⟩
set_option maxRecDepth 20000 in
theorem k_X5_layer_1 (l : Launch) (γ : gG) (σ : gS) (y k w : Int32) (h : inB y (nI 0) (σ.1 24 0 - nI 1) = false) : gM l γ yX5_layer wsX5_layer ({ frames := 2, cells := 0, slots := 0, locals := 43 } : Room) [.ref (ad γ 23), .int y, .int k, .int w] σ (gis (some (.int (nI 0))) (sM σ 6 (nI 1))) 0 0 := by
  refine g_enter (own := RX5) (cc := cX5_layer) (nL := 4) (ret := (some .int)) [some (.ref (ad γ 23)), some (.int y), some (.int k), some (.int w)] (by decide) rfl rfl (by simp [lg_sl, Value.category]) (by simp [gl_le, glE, Value.category]) (fun hj p e s m args below meth c X hr hlk hnm => ?_)
  have hi5 : ∀ w ∈ wsX50, w ∈ wsX5_layer := by decide +kernel
  refine g_aload_n X dX5_layer_0 rfl rfl ?_
  refine g_iconstN X 0 dX5_layer_1 ?_
  refine g_put_23_6 X hi5 (by decide +kernel) dX5_layer_2 ?_
  refine g_eq rfl (σ' := okM σ) rfl ?_
  refine g_aload_n X dX5_layer_5 rfl rfl ?_
  refine g_iload_n X dX5_layer_6 rfl rfl ?_
  refine g_callVi (na := 1) X hj (k_X5_isBond l γ _ _) gW_23 rfl gX5_layer_X5_isBond rfl ⟨rfl, rfl⟩ (by decide +kernel) rfl ⟨by decide, by decide⟩ rfl (Nat.le_of_ble_eq_true rfl) dX5_layer_7 ⟨by decide, by decide⟩ ?_
  refine g_if_eq (tgt := 34) X dX5_layer_10 (by decide) (fun c_10 => ?_) (fun c_10 => absurd (bI_0 h) c_10)
  refine g_aload_n X dX5_layer_34 rfl rfl ?_
  refine g_iconstN X 1 dX5_layer_35 ?_
  refine g_callVi (na := 1) X hj (k_X5_fails l γ _ _) gW_23 rfl gX5_layer_X5_fails rfl ⟨rfl, rfl⟩ (by decide +kernel) rfl ⟨by decide, by decide⟩ rfl (Nat.le_of_ble_eq_true rfl) dX5_layer_36 ⟨by decide, by decide⟩ ?_
  exact g_iret X hr hlk dX5_layer_39 ⟨rfl, sM_ok σ _⟩
set_option maxRecDepth 20000 in
theorem k_X5_layer_1k (l : Launch) (γ : gG) (σ : gS) (b L : Nat) (hb : b < 10) (hL : σ.1 24 (121 + 31 * b + 3) = nI L) (hL4 : L ≤ 4) (N : Nat) (hN : σ.1 24 0 = nI N) (hN10 : N ≤ 10) (hbN : b < N) (k w : Int32) (h : inB k (nI 0) (σ.1 24 (121 + 31 * b + 3) - nI 1) = false) : gM l γ yX5_layer wsX5_layer ({ frames := 2, cells := 0, slots := 0, locals := 43 } : Room) [.ref (ad γ 23), .int (nI b), .int k, .int w] σ (gis (some (.int (nI 0))) (sM σ 6 (nI 1))) 0 0 := by
  refine g_enter (own := RX5) (cc := cX5_layer) (nL := 4) (ret := (some .int)) [some (.ref (ad γ 23)), some (.int (nI b)), some (.int k), some (.int w)] (by decide) rfl rfl (by simp [lg_sl, Value.category]) (by simp [gl_le, glE, Value.category]) (fun hj p e s m args below meth c X hr hlk hnm => ?_)
  have hi5 : ∀ w ∈ wsX50, w ∈ wsX5_layer := by decide +kernel
  refine g_aload_n X dX5_layer_0 rfl rfl ?_
  refine g_iconstN X 0 dX5_layer_1 ?_
  refine g_put_23_6 X hi5 (by decide +kernel) dX5_layer_2 ?_
  refine g_eq rfl (σ' := okM σ) rfl ?_
  refine g_aload_n X dX5_layer_5 rfl rfl ?_
  refine g_iload_n X dX5_layer_6 rfl rfl ?_
  refine g_callVi (na := 1) X hj (k_X5_isBond l γ _ _) gW_23 rfl gX5_layer_X5_isBond rfl ⟨rfl, rfl⟩ (by decide +kernel) rfl ⟨by decide, by decide⟩ rfl (Nat.le_of_ble_eq_true rfl) dX5_layer_7 ⟨by decide, by decide⟩ ?_
  refine g_if_eq (tgt := 34) X dX5_layer_10 (by decide) (fun c_10 => absurd c_10 (bI_1 (isB_1 hN hbN hN10))) (fun c_10 => ?_)
  refine g_iload_n X dX5_layer_13 rfl rfl ?_
  refine g_iconstN X 0 dX5_layer_14 ?_
  refine g_aload_n X dX5_layer_15 rfl rfl ?_
  refine g_get_23_0 X hi5 (by decide +kernel) dX5_layer_16 ?_
  refine g_iload_n X dX5_layer_19 rfl rfl ?_
  refine g_callSi (na := 1) X hj (k_X5_at l γ _ _) gX5_layer_X5_at rfl ⟨rfl, rfl⟩ (by decide +kernel) rfl ⟨by decide, by decide⟩ rfl (Nat.le_of_ble_eq_true rfl) dX5_layer_20 ⟨by decide, by decide⟩ ?_
  refine g_iconstN X 3 dX5_layer_23 ?_
  refine g_iaddN X dX5_layer_24 ?_
  refine g_ald_24 X rfl (by omega) dX5_layer_25 ?_
  refine g_iconstN X 1 dX5_layer_26 ?_
  refine g_isub X dX5_layer_27 ?_
  refine g_callSi (na := 3) X hj (k_X5_in l γ _ _ _ _) gX5_layer_X5_in rfl ⟨rfl, rfl⟩ (by decide +kernel) rfl ⟨by decide, by decide⟩ rfl (Nat.le_of_ble_eq_true rfl) dX5_layer_28 ⟨by decide, by decide⟩ ?_
  refine g_if_ne (tgt := 40) X dX5_layer_31 (by decide) (fun c_31 => absurd (bI_0 h) c_31) (fun c_31 => ?_)
  refine g_aload_n X dX5_layer_34 rfl rfl ?_
  refine g_iconstN X 1 dX5_layer_35 ?_
  refine g_callVi (na := 1) X hj (k_X5_fails l γ _ _) gW_23 rfl gX5_layer_X5_fails rfl ⟨rfl, rfl⟩ (by decide +kernel) rfl ⟨by decide, by decide⟩ rfl (Nat.le_of_ble_eq_true rfl) dX5_layer_36 ⟨by decide, by decide⟩ ?_
  exact g_iret X hr hlk dX5_layer_39 ⟨rfl, sM_ok σ _⟩
set_option maxRecDepth 20000 in
theorem k_X5_layer_2 (l : Launch) (γ : gG) (σ : gS) (b L : Nat) (hb : b < 10) (hL : σ.1 24 (121 + 31 * b + 3) = nI L) (hL4 : L ≤ 4) (N : Nat) (hN : σ.1 24 0 = nI N) (hN10 : N ≤ 10) (hbN : b < N) (k : Nat) (w : Int32) (hk : k < L) (h : inB w (nI 0) (nI 3) = false) : gM l γ yX5_layer wsX5_layer ({ frames := 2, cells := 0, slots := 0, locals := 43 } : Room) [.ref (ad γ 23), .int (nI b), .int (nI k), .int w] σ (gis (some (.int (nI 0))) (sM σ 6 (nI 2))) 0 0 := by
  refine g_enter (own := RX5) (cc := cX5_layer) (nL := 4) (ret := (some .int)) [some (.ref (ad γ 23)), some (.int (nI b)), some (.int (nI k)), some (.int w)] (by decide) rfl rfl (by simp [lg_sl, Value.category]) (by simp [gl_le, glE, Value.category]) (fun hj p e s m args below meth c X hr hlk hnm => ?_)
  have hi5 : ∀ w ∈ wsX50, w ∈ wsX5_layer := by decide +kernel
  refine g_aload_n X dX5_layer_0 rfl rfl ?_
  refine g_iconstN X 0 dX5_layer_1 ?_
  refine g_put_23_6 X hi5 (by decide +kernel) dX5_layer_2 ?_
  refine g_eq rfl (σ' := okM σ) rfl ?_
  refine g_aload_n X dX5_layer_5 rfl rfl ?_
  refine g_iload_n X dX5_layer_6 rfl rfl ?_
  refine g_callVi (na := 1) X hj (k_X5_isBond l γ _ _) gW_23 rfl gX5_layer_X5_isBond rfl ⟨rfl, rfl⟩ (by decide +kernel) rfl ⟨by decide, by decide⟩ rfl (Nat.le_of_ble_eq_true rfl) dX5_layer_7 ⟨by decide, by decide⟩ ?_
  refine g_if_eq (tgt := 34) X dX5_layer_10 (by decide) (fun c_10 => absurd c_10 (bI_1 (isB_1 hN hbN hN10))) (fun c_10 => ?_)
  refine g_iload_n X dX5_layer_13 rfl rfl ?_
  refine g_iconstN X 0 dX5_layer_14 ?_
  refine g_aload_n X dX5_layer_15 rfl rfl ?_
  refine g_get_23_0 X hi5 (by decide +kernel) dX5_layer_16 ?_
  refine g_iload_n X dX5_layer_19 rfl rfl ?_
  refine g_callSi (na := 1) X hj (k_X5_at l γ _ _) gX5_layer_X5_at rfl ⟨rfl, rfl⟩ (by decide +kernel) rfl ⟨by decide, by decide⟩ rfl (Nat.le_of_ble_eq_true rfl) dX5_layer_20 ⟨by decide, by decide⟩ ?_
  refine g_iconstN X 3 dX5_layer_23 ?_
  refine g_iaddN X dX5_layer_24 ?_
  refine g_ald_24 X rfl (by omega) dX5_layer_25 ?_
  refine g_top (y := nI L) hL ?_
  refine g_iconstN X 1 dX5_layer_26 ?_
  refine g_isubN X dX5_layer_27 (by omega) ?_
  refine g_callSi (na := 3) X hj (k_X5_in l γ _ _ _ _) gX5_layer_X5_in rfl ⟨rfl, rfl⟩ (by decide +kernel) rfl ⟨by decide, by decide⟩ rfl (Nat.le_of_ble_eq_true rfl) dX5_layer_28 ⟨by decide, by decide⟩ ?_
  refine g_if_ne (tgt := 40) X dX5_layer_31 (by decide) (fun c_31 => ?_) (fun c_31 => absurd c_31 (bI_1 (inP (by omega) (by omega))))
  refine g_iload_n X dX5_layer_40 rfl rfl ?_
  refine g_iconstN X 0 dX5_layer_41 ?_
  refine g_iconstN X 3 dX5_layer_42 ?_
  refine g_callSi (na := 3) X hj (k_X5_in l γ _ _ _ _) gX5_layer_X5_in rfl ⟨rfl, rfl⟩ (by decide +kernel) rfl ⟨by decide, by decide⟩ rfl (Nat.le_of_ble_eq_true rfl) dX5_layer_43 ⟨by decide, by decide⟩ ?_
  refine g_if_eq (tgt := 64) X dX5_layer_46 (by decide) (fun c_46 => ?_) (fun c_46 => absurd (bI_0 h) c_46)
  refine g_aload_n X dX5_layer_64 rfl rfl ?_
  refine g_iconstN X 2 dX5_layer_65 ?_
  refine g_callVi (na := 1) X hj (k_X5_fails l γ _ _) gW_23 rfl gX5_layer_X5_fails rfl ⟨rfl, rfl⟩ (by decide +kernel) rfl ⟨by decide, by decide⟩ rfl (Nat.le_of_ble_eq_true rfl) dX5_layer_66 ⟨by decide, by decide⟩ ?_
  exact g_iret X hr hlk dX5_layer_69 ⟨rfl, sM_ok σ _⟩
set_option maxRecDepth 20000 in
theorem k_X5_debt (l : Launch) (γ : gG) (σ : gS) (q o : Nat) (hq : q < 8) (ho : o < 8) : gM l γ yX5_debt wsX5_debt ({ frames := 2, cells := 0, slots := 0, locals := 42 } : Room) [.ref (ad γ 23), .int (nI q), .int (nI o)] σ (gis (some (.int (σ.1 24 (57 + 8 * q + o)))) (okM σ)) 0 0 := by
  refine g_enter (own := RX5) (cc := cX5_debt) (nL := 3) (ret := (some .int)) [some (.ref (ad γ 23)), some (.int (nI q)), some (.int (nI o))] (by decide) rfl rfl (by simp [lg_sl, Value.category]) (by simp [gl_le, glE, Value.category]) (fun hj p e s m args below meth c X hr hlk hnm => ?_)
  have hi5 : ∀ w ∈ wsX50, w ∈ wsX5_debt := by decide +kernel
  refine g_aload_n X dX5_debt_0 rfl rfl ?_
  refine g_iconstN X 0 dX5_debt_1 ?_
  refine g_put_23_6 X hi5 (by decide +kernel) dX5_debt_2 ?_
  refine g_eq rfl (σ' := okM σ) rfl ?_
  refine g_iload_n X dX5_debt_5 rfl rfl ?_
  refine g_callSi (na := 1) X hj (k_X5_isPerson l γ _ _) gX5_debt_X5_isPerson rfl ⟨rfl, rfl⟩ (by decide +kernel) rfl ⟨by decide, by decide⟩ rfl (Nat.le_of_ble_eq_true rfl) dX5_debt_6 ⟨by decide, by decide⟩ ?_
  refine g_if_eq (tgt := 32) X dX5_debt_9 (by decide) (fun c_9 => absurd c_9 (bI_1 (inP (by omega) (by decide)))) (fun c_9 => ?_)
  refine g_iload_n X dX5_debt_12 rfl rfl ?_
  refine g_callSi (na := 1) X hj (k_X5_isPerson l γ _ _) gX5_debt_X5_isPerson rfl ⟨rfl, rfl⟩ (by decide +kernel) rfl ⟨by decide, by decide⟩ rfl (Nat.le_of_ble_eq_true rfl) dX5_debt_13 ⟨by decide, by decide⟩ ?_
  refine g_if_eq (tgt := 32) X dX5_debt_16 (by decide) (fun c_16 => absurd c_16 (bI_1 (inP (by omega) (by decide)))) (fun c_16 => ?_)
  refine g_aload_n X dX5_debt_19 rfl rfl ?_
  refine g_get_23_0 X hi5 (by decide +kernel) dX5_debt_20 ?_
  refine g_iload_n X dX5_debt_23 rfl rfl ?_
  refine g_iload_n X dX5_debt_24 rfl rfl ?_
  refine g_callSi (na := 2) X hj (k_X5_debtAt l γ _ _ _) gX5_debt_X5_debtAt rfl ⟨rfl, rfl⟩ (by decide +kernel) rfl ⟨by decide, by decide⟩ rfl (Nat.le_of_ble_eq_true rfl) dX5_debt_25 ⟨by decide, by decide⟩ ?_
  refine g_ald_24 X rfl (by omega) dX5_debt_28 ?_
  refine g_goto (tgt := 37) X dX5_debt_29 (by decide) ?_
  exact g_iret X hr hlk dX5_debt_37 ⟨rfl, rfl⟩
set_option maxRecDepth 20000 in
theorem k_X5_debt_1 (l : Launch) (γ : gG) (σ : gS) (y o : Int32) (h : inB y (nI 0) (nI 7) = false) : gM l γ yX5_debt wsX5_debt ({ frames := 2, cells := 0, slots := 0, locals := 42 } : Room) [.ref (ad γ 23), .int y, .int o] σ (gis (some (.int (nI 0))) (sM σ 6 (nI 1))) 0 0 := by
  refine g_enter (own := RX5) (cc := cX5_debt) (nL := 3) (ret := (some .int)) [some (.ref (ad γ 23)), some (.int y), some (.int o)] (by decide) rfl rfl (by simp [lg_sl, Value.category]) (by simp [gl_le, glE, Value.category]) (fun hj p e s m args below meth c X hr hlk hnm => ?_)
  have hi5 : ∀ w ∈ wsX50, w ∈ wsX5_debt := by decide +kernel
  refine g_aload_n X dX5_debt_0 rfl rfl ?_
  refine g_iconstN X 0 dX5_debt_1 ?_
  refine g_put_23_6 X hi5 (by decide +kernel) dX5_debt_2 ?_
  refine g_eq rfl (σ' := okM σ) rfl ?_
  refine g_iload_n X dX5_debt_5 rfl rfl ?_
  refine g_callSi (na := 1) X hj (k_X5_isPerson l γ _ _) gX5_debt_X5_isPerson rfl ⟨rfl, rfl⟩ (by decide +kernel) rfl ⟨by decide, by decide⟩ rfl (Nat.le_of_ble_eq_true rfl) dX5_debt_6 ⟨by decide, by decide⟩ ?_
  refine g_if_eq (tgt := 32) X dX5_debt_9 (by decide) (fun c_9 => ?_) (fun c_9 => absurd (bI_0 h) c_9)
  refine g_aload_n X dX5_debt_32 rfl rfl ?_
  refine g_iconstN X 1 dX5_debt_33 ?_
  refine g_callVi (na := 1) X hj (k_X5_fails l γ _ _) gW_23 rfl gX5_debt_X5_fails rfl ⟨rfl, rfl⟩ (by decide +kernel) rfl ⟨by decide, by decide⟩ rfl (Nat.le_of_ble_eq_true rfl) dX5_debt_34 ⟨by decide, by decide⟩ ?_
  exact g_iret X hr hlk dX5_debt_37 ⟨rfl, sM_ok σ _⟩
set_option maxRecDepth 20000 in
theorem k_X5_debt_1o (l : Launch) (γ : gG) (σ : gS) (q : Nat) (o : Int32) (hq : q < 8) (h : inB o (nI 0) (nI 7) = false) : gM l γ yX5_debt wsX5_debt ({ frames := 2, cells := 0, slots := 0, locals := 42 } : Room) [.ref (ad γ 23), .int (nI q), .int o] σ (gis (some (.int (nI 0))) (sM σ 6 (nI 1))) 0 0 := by
  refine g_enter (own := RX5) (cc := cX5_debt) (nL := 3) (ret := (some .int)) [some (.ref (ad γ 23)), some (.int (nI q)), some (.int o)] (by decide) rfl rfl (by simp [lg_sl, Value.category]) (by simp [gl_le, glE, Value.category]) (fun hj p e s m args below meth c X hr hlk hnm => ?_)
  have hi5 : ∀ w ∈ wsX50, w ∈ wsX5_debt := by decide +kernel
  refine g_aload_n X dX5_debt_0 rfl rfl ?_
  refine g_iconstN X 0 dX5_debt_1 ?_
  refine g_put_23_6 X hi5 (by decide +kernel) dX5_debt_2 ?_
  refine g_eq rfl (σ' := okM σ) rfl ?_
  refine g_iload_n X dX5_debt_5 rfl rfl ?_
  refine g_callSi (na := 1) X hj (k_X5_isPerson l γ _ _) gX5_debt_X5_isPerson rfl ⟨rfl, rfl⟩ (by decide +kernel) rfl ⟨by decide, by decide⟩ rfl (Nat.le_of_ble_eq_true rfl) dX5_debt_6 ⟨by decide, by decide⟩ ?_
  refine g_if_eq (tgt := 32) X dX5_debt_9 (by decide) (fun c_9 => absurd c_9 (bI_1 (inP (by omega) (by decide)))) (fun c_9 => ?_)
  refine g_iload_n X dX5_debt_12 rfl rfl ?_
  refine g_callSi (na := 1) X hj (k_X5_isPerson l γ _ _) gX5_debt_X5_isPerson rfl ⟨rfl, rfl⟩ (by decide +kernel) rfl ⟨by decide, by decide⟩ rfl (Nat.le_of_ble_eq_true rfl) dX5_debt_13 ⟨by decide, by decide⟩ ?_
  refine g_if_eq (tgt := 32) X dX5_debt_16 (by decide) (fun c_16 => ?_) (fun c_16 => absurd (bI_0 h) c_16)
  refine g_aload_n X dX5_debt_32 rfl rfl ?_
  refine g_iconstN X 1 dX5_debt_33 ?_
  refine g_callVi (na := 1) X hj (k_X5_fails l γ _ _) gW_23 rfl gX5_debt_X5_fails rfl ⟨rfl, rfl⟩ (by decide +kernel) rfl ⟨by decide, by decide⟩ rfl (Nat.le_of_ble_eq_true rfl) dX5_debt_34 ⟨by decide, by decide⟩ ?_
  exact g_iret X hr hlk dX5_debt_37 ⟨rfl, sM_ok σ _⟩
set_option maxRecDepth 20000 in
theorem k_X5_setting (l : Launch) (γ : gG) (σ : gS) (k : Nat) (hk : k < 3) : gM l γ yX5_setting wsX5_setting ({ frames := 1, cells := 0, slots := 0, locals := 22 } : Room) [.ref (ad γ 23), .int (nI k)] σ (gis (some (.int (σ.1 24 (6 + k)))) (okM σ)) 0 0 := by
  refine g_enter (own := RX5) (cc := cX5_setting) (nL := 2) (ret := (some .int)) [some (.ref (ad γ 23)), some (.int (nI k))] (by decide) rfl rfl (by simp [lg_sl, Value.category]) (by simp [gl_le, glE, Value.category]) (fun hj p e s m args below meth c X hr hlk hnm => ?_)
  have hi5 : ∀ w ∈ wsX50, w ∈ wsX5_setting := by decide +kernel
  refine g_aload_n X dX5_setting_0 rfl rfl ?_
  refine g_iconstN X 0 dX5_setting_1 ?_
  refine g_put_23_6 X hi5 (by decide +kernel) dX5_setting_2 ?_
  refine g_eq rfl (σ' := okM σ) rfl ?_
  refine g_iload_n X dX5_setting_5 rfl rfl ?_
  refine g_iconstN X 0 dX5_setting_6 ?_
  refine g_iconstN X 2 dX5_setting_7 ?_
  refine g_callSi (na := 3) X hj (k_X5_in l γ _ _ _ _) gX5_setting_X5_in rfl ⟨rfl, rfl⟩ (by decide +kernel) rfl ⟨by decide, by decide⟩ rfl (Nat.le_of_ble_eq_true rfl) dX5_setting_8 ⟨by decide, by decide⟩ ?_
  refine g_if_eq (tgt := 26) X dX5_setting_11 (by decide) (fun c_11 => absurd c_11 (bI_1 (inP (by omega) (by decide)))) (fun c_11 => ?_)
  refine g_aload_n X dX5_setting_14 rfl rfl ?_
  refine g_get_23_0 X hi5 (by decide +kernel) dX5_setting_15 ?_
  refine g_bipush (v := nI 6) X dX5_setting_18 (by decide) ?_
  refine g_iload_n X dX5_setting_20 rfl rfl ?_
  refine g_iaddN X dX5_setting_21 ?_
  refine g_ald_24 X rfl (by omega) dX5_setting_22 ?_
  refine g_goto (tgt := 31) X dX5_setting_23 (by decide) ?_
  exact g_iret X hr hlk dX5_setting_31 ⟨rfl, rfl⟩
set_option maxRecDepth 20000 in
theorem k_X5_setting_1 (l : Launch) (γ : gG) (σ : gS) (y : Int32) (h : inB y (nI 0) (nI 2) = false) : gM l γ yX5_setting wsX5_setting ({ frames := 1, cells := 0, slots := 0, locals := 22 } : Room) [.ref (ad γ 23), .int y] σ (gis (some (.int (nI 0))) (sM σ 6 (nI 1))) 0 0 := by
  refine g_enter (own := RX5) (cc := cX5_setting) (nL := 2) (ret := (some .int)) [some (.ref (ad γ 23)), some (.int y)] (by decide) rfl rfl (by simp [lg_sl, Value.category]) (by simp [gl_le, glE, Value.category]) (fun hj p e s m args below meth c X hr hlk hnm => ?_)
  have hi5 : ∀ w ∈ wsX50, w ∈ wsX5_setting := by decide +kernel
  refine g_aload_n X dX5_setting_0 rfl rfl ?_
  refine g_iconstN X 0 dX5_setting_1 ?_
  refine g_put_23_6 X hi5 (by decide +kernel) dX5_setting_2 ?_
  refine g_eq rfl (σ' := okM σ) rfl ?_
  refine g_iload_n X dX5_setting_5 rfl rfl ?_
  refine g_iconstN X 0 dX5_setting_6 ?_
  refine g_iconstN X 2 dX5_setting_7 ?_
  refine g_callSi (na := 3) X hj (k_X5_in l γ _ _ _ _) gX5_setting_X5_in rfl ⟨rfl, rfl⟩ (by decide +kernel) rfl ⟨by decide, by decide⟩ rfl (Nat.le_of_ble_eq_true rfl) dX5_setting_8 ⟨by decide, by decide⟩ ?_
  refine g_if_eq (tgt := 26) X dX5_setting_11 (by decide) (fun c_11 => ?_) (fun c_11 => absurd (bI_0 h) c_11)
  refine g_aload_n X dX5_setting_26 rfl rfl ?_
  refine g_iconstN X 1 dX5_setting_27 ?_
  refine g_callVi (na := 1) X hj (k_X5_fails l γ _ _) gW_23 rfl gX5_setting_X5_fails rfl ⟨rfl, rfl⟩ (by decide +kernel) rfl ⟨by decide, by decide⟩ rfl (Nat.le_of_ble_eq_true rfl) dX5_setting_28 ⟨by decide, by decide⟩ ?_
  exact g_iret X hr hlk dX5_setting_31 ⟨rfl, sM_ok σ _⟩
set_option maxRecDepth 20000 in
theorem k_X5_spare (l : Launch) (γ : gG) (σ : gS) (q : Nat) (hq : q < 8) (N : Nat) (L : Nat → Nat) (hS : SZ (σ.1 24) N L) : gM l γ yX5_spare wsX5_spare ({ frames := 4, cells := 0, slots := 0, locals := 87 } : Room) [.ref (ad γ 23), .int (nI q)] σ (gis (some (.int (spZ (σ.1 24) N L q))) (okM σ)) 0 0 := by
  refine g_enter (own := RX5) (cc := cX5_spare) (nL := 2) (ret := (some .int)) [some (.ref (ad γ 23)), some (.int (nI q))] (by decide) rfl rfl (by simp [lg_sl, Value.category]) (by simp [gl_le, glE, Value.category]) (fun hj p e s m args below meth c X hr hlk hnm => ?_)
  have hi5 : ∀ w ∈ wsX50, w ∈ wsX5_spare := by decide +kernel
  refine g_aload_n X dX5_spare_0 rfl rfl ?_
  refine g_iconstN X 0 dX5_spare_1 ?_
  refine g_put_23_6 X hi5 (by decide +kernel) dX5_spare_2 ?_
  refine g_eq rfl (σ' := okM σ) rfl ?_
  refine g_iload_n X dX5_spare_5 rfl rfl ?_
  refine g_callSi (na := 1) X hj (k_X5_isPerson l γ _ _) gX5_spare_X5_isPerson rfl ⟨rfl, rfl⟩ (by decide +kernel) rfl ⟨by decide, by decide⟩ rfl (Nat.le_of_ble_eq_true rfl) dX5_spare_6 ⟨by decide, by decide⟩ ?_
  refine g_if_eq (tgt := 20) X dX5_spare_9 (by decide) (fun c_9 => absurd c_9 (bI_1 (inP (by omega) (by decide)))) (fun c_9 => ?_)
  refine g_aload_n X dX5_spare_12 rfl rfl ?_
  refine g_iload_n X dX5_spare_13 rfl rfl ?_
  refine g_callVi (na := 1) X hj (k_X5_spareOf l γ _ N L _ hS (by omega)) gW_23 rfl gX5_spare_X5_spareOf rfl ⟨rfl, rfl⟩ (by decide +kernel) rfl ⟨by decide, by decide⟩ rfl (Nat.le_of_ble_eq_true rfl) dX5_spare_14 ⟨by decide, by decide⟩ ?_
  refine g_goto (tgt := 25) X dX5_spare_17 (by decide) ?_
  exact g_iret X hr hlk dX5_spare_25 ⟨rfl, rfl⟩
set_option maxRecDepth 20000 in
theorem k_X5_spare_1 (l : Launch) (γ : gG) (σ : gS) (y : Int32) (h : inB y (nI 0) (nI 7) = false) : gM l γ yX5_spare wsX5_spare ({ frames := 4, cells := 0, slots := 0, locals := 87 } : Room) [.ref (ad γ 23), .int y] σ (gis (some (.int (nI 0))) (sM σ 6 (nI 1))) 0 0 := by
  refine g_enter (own := RX5) (cc := cX5_spare) (nL := 2) (ret := (some .int)) [some (.ref (ad γ 23)), some (.int y)] (by decide) rfl rfl (by simp [lg_sl, Value.category]) (by simp [gl_le, glE, Value.category]) (fun hj p e s m args below meth c X hr hlk hnm => ?_)
  have hi5 : ∀ w ∈ wsX50, w ∈ wsX5_spare := by decide +kernel
  refine g_aload_n X dX5_spare_0 rfl rfl ?_
  refine g_iconstN X 0 dX5_spare_1 ?_
  refine g_put_23_6 X hi5 (by decide +kernel) dX5_spare_2 ?_
  refine g_eq rfl (σ' := okM σ) rfl ?_
  refine g_iload_n X dX5_spare_5 rfl rfl ?_
  refine g_callSi (na := 1) X hj (k_X5_isPerson l γ _ _) gX5_spare_X5_isPerson rfl ⟨rfl, rfl⟩ (by decide +kernel) rfl ⟨by decide, by decide⟩ rfl (Nat.le_of_ble_eq_true rfl) dX5_spare_6 ⟨by decide, by decide⟩ ?_
  refine g_if_eq (tgt := 20) X dX5_spare_9 (by decide) (fun c_9 => ?_) (fun c_9 => absurd (bI_0 h) c_9)
  refine g_aload_n X dX5_spare_20 rfl rfl ?_
  refine g_iconstN X 1 dX5_spare_21 ?_
  refine g_callVi (na := 1) X hj (k_X5_fails l γ _ _) gW_23 rfl gX5_spare_X5_fails rfl ⟨rfl, rfl⟩ (by decide +kernel) rfl ⟨by decide, by decide⟩ rfl (Nat.le_of_ble_eq_true rfl) dX5_spare_22 ⟨by decide, by decide⟩ ?_
  exact g_iret X hr hlk dX5_spare_25 ⟨rfl, sM_ok σ _⟩
set_option maxRecDepth 20000 in
theorem k_X5_running (l : Launch) (γ : gG) (σ : gS) (N : Nat) (hN : σ.1 24 0 = nI N) (hN10 : N ≤ 10) : gM l γ yX5_running wsX5_running ({ frames := 2, cells := 0, slots := 0, locals := 41 } : Room) [.ref (ad γ 23)] σ (gis (some (.int (ruS (σ.1 24) N))) σ) 0 0 := by
  refine g_enter (own := RX5) (cc := cX5_running) (nL := 3) (ret := (some .int)) [some (.ref (ad γ 23)), none, none] (by decide) rfl rfl (by simp [lg_sl, Value.category]) (by simp [gl_le, glE, Value.category]) (fun hj p e s m args below meth c X hr hlk hnm => ?_)
  have hi5 : ∀ w ∈ wsX50, w ∈ wsX5_running := by decide +kernel
  refine g_iconstN X 0 dX5_running_0 ?_
  refine g_istore_n1 X dX5_running_1 rfl (by decide) rfl ?_
  refine g_iconstN X 0 dX5_running_2 ?_
  refine g_istore_n2 X dX5_running_3 rfl (by decide) rfl ?_
  refine g_up (i0 := 0) (N := N) (fun b => [some (.ref (ad γ 23)), some (.int (sumI (fun b => if ruB (σ.1 24) b then nI 1 else nI 0) b)), some (.int (nI b))]) (fun b => σ) (by simp [gl_le, sumI]) rfl (by omega) (fun b hb ih4 => ?_)
  refine g_iload_n X dX5_running_4 rfl rfl ?_
  refine g_aload_n X dX5_running_5 rfl rfl ?_
  refine g_get_23_0 X hi5 (by decide +kernel) dX5_running_6 ?_
  refine g_iconstN X 0 dX5_running_9 ?_
  refine g_ald_24 X rfl (by omega) dX5_running_10 ?_
  refine g_top hN ?_
  refine g_icmpN_ge (tgt := 36) X dX5_running_11 (by decide) (by omega) (by omega) (fun c_11 => ?_) (fun c_11 => ?_)
  · refine g_iload_n X dX5_running_36 rfl rfl ?_
    exact g_iret X hr hlk dX5_running_37 (by have e : b = N := (by omega); subst e; exact ⟨rfl, rfl⟩)
  · refine g_iload_n X dX5_running_14 rfl rfl ?_
    refine g_aload_n X dX5_running_15 rfl rfl ?_
    refine g_iload_n X dX5_running_16 rfl rfl ?_
    refine g_callVi (na := 1) X hj (k_X5_runs l γ _ _ (by omega)) gW_23 rfl gX5_running_X5_runs rfl ⟨rfl, rfl⟩ (by decide +kernel) rfl ⟨by decide, by decide⟩ rfl (Nat.le_of_ble_eq_true rfl) dX5_running_17 ⟨by decide, by decide⟩ ?_
    refine g_if_eq (tgt := 27) X dX5_running_20 (by decide) (fun c_20 => ?_) (fun c_20 => ?_)
    · replace c_20 := bI_f c_20
      refine g_iconstN X 0 dX5_running_27 ?_
      refine g_iadd X dX5_running_28 ?_
      refine g_istore_n1 X dX5_running_29 rfl (by decide) rfl ?_
      refine g_iincN2 (d := 1) X dX5_running_30 (by decide) rfl ?_
      refine g_goto (tgt := 4) X dX5_running_33 (by decide) ?_
      exact g_le (by simp [gl_le, sumI, c_20]) (ih4 (by omega))
    · replace c_20 := bI_t c_20
      refine g_iconstN X 1 dX5_running_23 ?_
      refine g_goto (tgt := 28) X dX5_running_24 (by decide) ?_
      refine g_iadd X dX5_running_28 ?_
      refine g_istore_n1 X dX5_running_29 rfl (by decide) rfl ?_
      refine g_iincN2 (d := 1) X dX5_running_30 (by decide) rfl ?_
      refine g_goto (tgt := 4) X dX5_running_33 (by decide) ?_
      exact g_le (by simp [gl_le, sumI, c_20]) (ih4 (by omega))
set_option maxRecDepth 20000 in
theorem k_X5_ofPersons (l : Launch) (γ : gG) (σ : gS) (w : Nat) (hw : w ≤ 10) (N : Nat) (L : Nat → Nat) (hS : SZ (σ.1 24) N L) (hca : ∀ q, q < 8 → chOK (σ.1 24) 8 (σ.1 24 (17 + q))) : gM l γ yX5_ofPersons wsX5_ofPersons ({ frames := 4, cells := 0, slots := 0, locals := 87 } : Room) [.ref (ad γ 23), .int (nI w)] σ (gis (some (.int (sumI (fun q => perZ (σ.1 24) N L q w) 8))) σ) 0 0 := by
  refine g_enter (own := RX5) (cc := cX5_ofPersons) (nL := 4) (ret := (some .int)) [some (.ref (ad γ 23)), some (.int (nI w)), none, none] (by decide) rfl rfl (by simp [lg_sl, Value.category]) (by simp [gl_le, glE, Value.category]) (fun hj p e s m args below meth c X hr hlk hnm => ?_)
  refine g_iconstN X 0 dX5_ofPersons_0 ?_
  refine g_istore_n2 X dX5_ofPersons_1 rfl (by decide) rfl ?_
  refine g_iconstN X 0 dX5_ofPersons_2 ?_
  refine g_istore_n3 X dX5_ofPersons_3 rfl (by decide) rfl ?_
  refine g_up (i0 := 0) (N := 8) (fun i => [some (.ref (ad γ 23)), some (.int (nI w)), some (.int (sumI (fun q => perZ (σ.1 24) N L q w) i)), some (.int (nI i))]) (fun i => σ) (by simp [gl_le, sumI]) rfl (by omega) (fun i hi ih4 => ?_)
  refine g_iload_n X dX5_ofPersons_4 rfl rfl ?_
  refine g_bipush (v := nI 8) X dX5_ofPersons_5 (by decide) ?_
  refine g_icmpN_ge (tgt := 25) X dX5_ofPersons_7 (by decide) (by omega) (by omega) (fun c_7 => ?_) (fun c_7 => ?_)
  · refine g_iload_n X dX5_ofPersons_25 rfl rfl ?_
    exact g_iret X hr hlk dX5_ofPersons_26 (by have e : i = 8 := (by omega); subst e; exact ⟨rfl, rfl⟩)
  · refine g_iload_n X dX5_ofPersons_10 rfl rfl ?_
    refine g_aload_n X dX5_ofPersons_11 rfl rfl ?_
    refine g_iload_n X dX5_ofPersons_12 rfl rfl ?_
    refine g_iload_n X dX5_ofPersons_13 rfl rfl ?_
    refine g_callVi (na := 2) X hj (k_X5_personOf l γ _ _ _ (by omega) (by omega) N L hS (hca _ (by omega))) gW_23 rfl gX5_ofPersons_X5_personOf rfl ⟨rfl, rfl⟩ (by decide +kernel) rfl ⟨by decide, by decide⟩ rfl (Nat.le_of_ble_eq_true rfl) dX5_ofPersons_14 ⟨by decide, by decide⟩ ?_
    refine g_iadd X dX5_ofPersons_17 ?_
    refine g_istore_n2 X dX5_ofPersons_18 rfl (by decide) rfl ?_
    refine g_iincN3 (d := 1) X dX5_ofPersons_19 (by decide) rfl ?_
    refine g_goto (tgt := 4) X dX5_ofPersons_22 (by decide) ?_
    exact g_le (by simp [gl_le, sumI]) (ih4 (by omega))
set_option maxRecDepth 20000 in
theorem k_X5_counted (l : Launch) (γ : gG) (σ : gS) (w : Nat) (hw : w ≤ 9) (N : Nat) (L : Nat → Nat) (hS : SZ (σ.1 24) N L) (hca : ∀ q, q < 8 → chOK (σ.1 24) 8 (σ.1 24 (17 + q))) : gM l γ yX5_counted wsX5_counted ({ frames := 5, cells := 0, slots := 0, locals := 110 } : Room) [.ref (ad γ 23), .int (nI w)] σ (gis (some (.int (cntZ (σ.1 24) (σ.1 23 3) N L w))) σ) 0 0 := by
  refine g_enter (own := RX5) (cc := cX5_counted) (nL := 2) (ret := (some .int)) [some (.ref (ad γ 23)), some (.int (nI w))] (by decide) rfl rfl (by simp [lg_sl, Value.category]) (by simp [gl_le, glE, Value.category]) (fun hj p e s m args below meth c X hr hlk hnm => ?_)
  have hi5 : ∀ w ∈ wsX50, w ∈ wsX5_counted := by decide +kernel
  refine g_iload_n X dX5_counted_0 rfl rfl ?_
  rcases (show w = 0 ∨ w = 1 ∨ w = 2 ∨ w = 3 ∨ w = 4 ∨ w = 5 ∨ w = 6 ∨ w = 7 ∨ w = 8 ∨ w = 9 by omega) with rfl | rfl | rfl | rfl | rfl | rfl | rfl | rfl | rfl | rfl
  · refine g_tableIn (tgt := 56) (off := 55) X dX5_counted_1 (by decide) (by decide) rfl (by decide) ?_
    refine g_aload_n X dX5_counted_56 rfl rfl ?_
    refine g_get_23_0 X hi5 (by decide +kernel) dX5_counted_57 ?_
    refine g_iconstN X 0 dX5_counted_60 ?_
    refine g_ald_24 X rfl (by omega) dX5_counted_61 ?_
    exact g_iret X hr hlk dX5_counted_62 ⟨rfl, rfl⟩
  · refine g_tableIn (tgt := 63) (off := 62) X dX5_counted_1 (by decide) (by decide) rfl (by decide) ?_
    refine g_aload_n X dX5_counted_63 rfl rfl ?_
    refine g_callVi (na := 0) X hj (k_X5_running l γ _ N hS.1 hS.2.1) gW_23 rfl gX5_counted_X5_running rfl ⟨rfl, rfl⟩ (by decide +kernel) rfl ⟨by decide, by decide⟩ rfl (Nat.le_of_ble_eq_true rfl) dX5_counted_64 ⟨by decide, by decide⟩ ?_
    exact g_iret X hr hlk dX5_counted_67 ⟨rfl, rfl⟩
  · refine g_tableIn (tgt := 68) (off := 67) X dX5_counted_1 (by decide) (by decide) rfl (by decide) ?_
    refine g_aload_n X dX5_counted_68 rfl rfl ?_
    refine g_iconstN X 0 dX5_counted_69 ?_
    refine g_callVi (na := 1) X hj (k_X5_ofPersons l γ _ _ (by omega) N L hS hca) gW_23 rfl gX5_counted_X5_ofPersons rfl ⟨rfl, rfl⟩ (by decide +kernel) rfl ⟨by decide, by decide⟩ rfl (Nat.le_of_ble_eq_true rfl) dX5_counted_70 ⟨by decide, by decide⟩ ?_
    exact g_iret X hr hlk dX5_counted_73 ⟨rfl, rfl⟩
  · refine g_tableIn (tgt := 74) (off := 73) X dX5_counted_1 (by decide) (by decide) rfl (by decide) ?_
    refine g_aload_n X dX5_counted_74 rfl rfl ?_
    refine g_get_23_0 X hi5 (by decide +kernel) dX5_counted_75 ?_
    refine g_iconstN X 1 dX5_counted_78 ?_
    refine g_ald_24 X rfl (by omega) dX5_counted_79 ?_
    exact g_iret X hr hlk dX5_counted_80 ⟨rfl, rfl⟩
  · refine g_tableIn (tgt := 99) (off := 98) X dX5_counted_1 (by decide) (by decide) rfl (by decide) ?_
    refine g_aload_n X dX5_counted_99 rfl rfl ?_
    refine g_get_23_0 X hi5 (by decide +kernel) dX5_counted_100 ?_
    refine g_iload_n X dX5_counted_103 rfl rfl ?_
    refine g_iconstN X 2 dX5_counted_104 ?_
    refine g_isubN X dX5_counted_105 (by decide) ?_
    refine g_ald_24 X rfl (by omega) dX5_counted_106 ?_
    exact g_iret X hr hlk dX5_counted_107 ⟨rfl, rfl⟩
  · refine g_tableIn (tgt := 99) (off := 98) X dX5_counted_1 (by decide) (by decide) rfl (by decide) ?_
    refine g_aload_n X dX5_counted_99 rfl rfl ?_
    refine g_get_23_0 X hi5 (by decide +kernel) dX5_counted_100 ?_
    refine g_iload_n X dX5_counted_103 rfl rfl ?_
    refine g_iconstN X 2 dX5_counted_104 ?_
    refine g_isubN X dX5_counted_105 (by decide) ?_
    refine g_ald_24 X rfl (by omega) dX5_counted_106 ?_
    exact g_iret X hr hlk dX5_counted_107 ⟨rfl, rfl⟩
  · refine g_tableIn (tgt := 99) (off := 98) X dX5_counted_1 (by decide) (by decide) rfl (by decide) ?_
    refine g_aload_n X dX5_counted_99 rfl rfl ?_
    refine g_get_23_0 X hi5 (by decide +kernel) dX5_counted_100 ?_
    refine g_iload_n X dX5_counted_103 rfl rfl ?_
    refine g_iconstN X 2 dX5_counted_104 ?_
    refine g_isubN X dX5_counted_105 (by decide) ?_
    refine g_ald_24 X rfl (by omega) dX5_counted_106 ?_
    exact g_iret X hr hlk dX5_counted_107 ⟨rfl, rfl⟩
  · refine g_tableIn (tgt := 81) (off := 80) X dX5_counted_1 (by decide) (by decide) rfl (by decide) ?_
    refine g_aload_n X dX5_counted_81 rfl rfl ?_
    refine g_iconstN X 1 dX5_counted_82 ?_
    refine g_callVi (na := 1) X hj (k_X5_ofPersons l γ _ _ (by omega) N L hS hca) gW_23 rfl gX5_counted_X5_ofPersons rfl ⟨rfl, rfl⟩ (by decide +kernel) rfl ⟨by decide, by decide⟩ rfl (Nat.le_of_ble_eq_true rfl) dX5_counted_83 ⟨by decide, by decide⟩ ?_
    exact g_iret X hr hlk dX5_counted_86 ⟨rfl, rfl⟩
  · refine g_tableIn (tgt := 87) (off := 86) X dX5_counted_1 (by decide) (by decide) rfl (by decide) ?_
    refine g_aload_n X dX5_counted_87 rfl rfl ?_
    refine g_get_23_0 X hi5 (by decide +kernel) dX5_counted_88 ?_
    refine g_iconstN X 5 dX5_counted_91 ?_
    refine g_ald_24 X rfl (by omega) dX5_counted_92 ?_
    exact g_iret X hr hlk dX5_counted_93 ⟨rfl, rfl⟩
  · refine g_tableIn (tgt := 94) (off := 93) X dX5_counted_1 (by decide) (by decide) rfl (by decide) ?_
    refine g_aload_n X dX5_counted_94 rfl rfl ?_
    refine g_get_23_3 X hi5 (by decide +kernel) dX5_counted_95 ?_
    exact g_iret X hr hlk dX5_counted_98 ⟨rfl, rfl⟩
set_option maxRecDepth 20000 in
theorem k_X5_count (l : Launch) (γ : gG) (σ : gS) (w : Nat) (hw : w ≤ 9) (N : Nat) (L : Nat → Nat) (hS : SZ (σ.1 24) N L) (hca : ∀ q, q < 8 → chOK (σ.1 24) 8 (σ.1 24 (17 + q))) : gM l γ yX5_count wsX5_count ({ frames := 6, cells := 0, slots := 0, locals := 131 } : Room) [.ref (ad γ 23), .int (nI w)] σ (gis (some (.int (cntZ (σ.1 24) (σ.1 23 3) N L w))) (okM σ)) 0 0 := by
  refine g_enter (own := RX5) (cc := cX5_count) (nL := 2) (ret := (some .int)) [some (.ref (ad γ 23)), some (.int (nI w))] (by decide) rfl rfl (by simp [lg_sl, Value.category]) (by simp [gl_le, glE, Value.category]) (fun hj p e s m args below meth c X hr hlk hnm => ?_)
  have hi5 : ∀ w ∈ wsX50, w ∈ wsX5_count := by decide +kernel
  refine g_aload_n X dX5_count_0 rfl rfl ?_
  refine g_iconstN X 0 dX5_count_1 ?_
  refine g_put_23_6 X hi5 (by decide +kernel) dX5_count_2 ?_
  refine g_eq rfl (σ' := okM σ) rfl ?_
  refine g_iload_n X dX5_count_5 rfl rfl ?_
  refine g_iconstN X 0 dX5_count_6 ?_
  refine g_bipush (v := nI 9) X dX5_count_7 (by decide) ?_
  refine g_callSi (na := 3) X hj (k_X5_in l γ _ _ _ _) gX5_count_X5_in rfl ⟨rfl, rfl⟩ (by decide +kernel) rfl ⟨by decide, by decide⟩ rfl (Nat.le_of_ble_eq_true rfl) dX5_count_9 ⟨by decide, by decide⟩ ?_
  refine g_if_eq (tgt := 23) X dX5_count_12 (by decide) (fun c_12 => absurd c_12 (bI_1 (inP (by omega) (by decide)))) (fun c_12 => ?_)
  refine g_aload_n X dX5_count_15 rfl rfl ?_
  refine g_iload_n X dX5_count_16 rfl rfl ?_
  refine g_callVi (na := 1) X hj (k_X5_counted l γ _ _ (by omega) N L hS hca) gW_23 rfl gX5_count_X5_counted rfl ⟨rfl, rfl⟩ (by decide +kernel) rfl ⟨by decide, by decide⟩ rfl (Nat.le_of_ble_eq_true rfl) dX5_count_17 ⟨by decide, by decide⟩ ?_
  refine g_goto (tgt := 28) X dX5_count_20 (by decide) ?_
  exact g_iret X hr hlk dX5_count_28 ⟨rfl, rfl⟩
set_option maxRecDepth 20000 in
theorem k_X5_count_1 (l : Launch) (γ : gG) (σ : gS) (y : Int32) (h : inB y (nI 0) (nI 9) = false) : gM l γ yX5_count wsX5_count ({ frames := 6, cells := 0, slots := 0, locals := 131 } : Room) [.ref (ad γ 23), .int y] σ (gis (some (.int (nI 0))) (sM σ 6 (nI 1))) 0 0 := by
  refine g_enter (own := RX5) (cc := cX5_count) (nL := 2) (ret := (some .int)) [some (.ref (ad γ 23)), some (.int y)] (by decide) rfl rfl (by simp [lg_sl, Value.category]) (by simp [gl_le, glE, Value.category]) (fun hj p e s m args below meth c X hr hlk hnm => ?_)
  have hi5 : ∀ w ∈ wsX50, w ∈ wsX5_count := by decide +kernel
  refine g_aload_n X dX5_count_0 rfl rfl ?_
  refine g_iconstN X 0 dX5_count_1 ?_
  refine g_put_23_6 X hi5 (by decide +kernel) dX5_count_2 ?_
  refine g_eq rfl (σ' := okM σ) rfl ?_
  refine g_iload_n X dX5_count_5 rfl rfl ?_
  refine g_iconstN X 0 dX5_count_6 ?_
  refine g_bipush (v := nI 9) X dX5_count_7 (by decide) ?_
  refine g_callSi (na := 3) X hj (k_X5_in l γ _ _ _ _) gX5_count_X5_in rfl ⟨rfl, rfl⟩ (by decide +kernel) rfl ⟨by decide, by decide⟩ rfl (Nat.le_of_ble_eq_true rfl) dX5_count_9 ⟨by decide, by decide⟩ ?_
  refine g_if_eq (tgt := 23) X dX5_count_12 (by decide) (fun c_12 => ?_) (fun c_12 => absurd (bI_0 h) c_12)
  refine g_aload_n X dX5_count_23 rfl rfl ?_
  refine g_iconstN X 1 dX5_count_24 ?_
  refine g_callVi (na := 1) X hj (k_X5_fails l γ _ _) gW_23 rfl gX5_count_X5_fails rfl ⟨rfl, rfl⟩ (by decide +kernel) rfl ⟨by decide, by decide⟩ rfl (Nat.le_of_ble_eq_true rfl) dX5_count_25 ⟨by decide, by decide⟩ ?_
  exact g_iret X hr hlk dX5_count_28 ⟨rfl, sM_ok σ _⟩
set_option maxRecDepth 20000 in
theorem k_X5_calledOf (l : Launch) (γ : gG) (σ : gS) (b prn L : Nat) (su : Nat → Nat) (hb : b < 10) (am : Int32) (w : Nat) (hw : w ≤ 10) (hC : ruB (σ.1 24) b = true → CH (σ.1 24) b prn L su am) : gM l γ yX5_calledOf wsX5_calledOf ({ frames := 5, cells := 0, slots := 0, locals := 125 } : Room) [.ref (ad γ 23), .int (nI b), .int am, .int (nI w)] σ (fun v2 σ2 => v2 = some (.int (coZ (σ.1 24) (σ.1 23) (σ.1 28) b prn L su am w)) ∧ QM σ (σ.2 23 13) σ2) 0 0 := by
  refine g_enter (own := RX5) (cc := cX5_calledOf) (nL := 5) (ret := (some .int)) [some (.ref (ad γ 23)), some (.int (nI b)), some (.int am), some (.int (nI w)), none] (by decide) rfl rfl (by simp [lg_sl, Value.category]) (by simp [gl_le, glE, Value.category]) (fun hj p e s m args below meth c X hr hlk hnm => ?_)
  have hi5 : ∀ w ∈ wsX50, w ∈ wsX5_calledOf := by decide +kernel
  refine g_aload_n X dX5_calledOf_0 rfl rfl ?_
  refine g_iload_n X dX5_calledOf_1 rfl rfl ?_
  refine g_callVi (na := 1) X hj (k_X5_runs l γ _ _ (by omega)) gW_23 rfl gX5_calledOf_X5_runs rfl ⟨rfl, rfl⟩ (by decide +kernel) rfl ⟨by decide, by decide⟩ rfl (Nat.le_of_ble_eq_true rfl) dX5_calledOf_2 ⟨by decide, by decide⟩ ?_
  refine g_if_ne (tgt := 10) X dX5_calledOf_5 (by decide) (fun c_5 => ?_) (fun c_5 => ?_)
  · replace c_5 := bI_t c_5
    replace hC := hC c_5
    refine g_aload_n X dX5_calledOf_10 rfl rfl ?_
    refine g_callVv (na := 0) X hj (k_X5_putAside l γ _) gW_23 rfl gX5_calledOf_X5_putAside rfl ⟨rfl, rfl⟩ (by decide +kernel) rfl ⟨by decide, by decide⟩ rfl (Nat.le_of_ble_eq_true rfl) dX5_calledOf_11 ⟨by decide, by decide⟩ ?_
    refine g_eq rfl (σ' := mW (sA σ 26 (cp431 (σ.1 24) (σ.1 26) 431)) (σ.1 24) (σ.1 23) (σ.1 28)) (mW_id (sA σ 26 (cp431 (σ.1 24) (σ.1 26) 431))).symm ?_
    refine g_aload_n X dX5_calledOf_14 rfl rfl ?_
    refine g_iload_n X dX5_calledOf_15 rfl rfl ?_
    refine g_iload_n X dX5_calledOf_16 rfl rfl ?_
    refine g_callVv (na := 2) X hj (k_X5_callNow l γ _ _ _ _ b prn L su am hb hC) gW_23 rfl gX5_calledOf_X5_callNow rfl ⟨rfl, rfl⟩ (by decide +kernel) rfl ⟨by decide, by decide⟩ rfl (Nat.le_of_ble_eq_true rfl) dX5_calledOf_17 ⟨by decide, by decide⟩ ?_
    rcases (show w = 0 ∨ w = 1 ∨ w = 2 ∨ w = 3 ∨ w = 4 ∨ w = 5 ∨ w = 6 ∨ w = 7 ∨ w = 8 ∨ w = 9 ∨ w = 10 by omega) with rfl | rfl | rfl | rfl | rfl | rfl | rfl | rfl | rfl | rfl | rfl
    · skip
      refine g_iload_n X dX5_calledOf_20 rfl rfl ?_
      refine g_if_ne (tgt := 31) X dX5_calledOf_21 (by decide) (fun c_21 => absurd (by decide) c_21) (fun c_21 => ?_)
      refine g_aload_n X dX5_calledOf_24 rfl rfl ?_
      refine g_get_23_7 X hi5 (by decide +kernel) dX5_calledOf_25 ?_
      simp only [mW_23]
      refine g_goto (tgt := 68) X dX5_calledOf_28 (by decide) ?_
      refine g_istore_s4 X dX5_calledOf_68 (by decide) rfl ?_
      refine g_aload_n X dX5_calledOf_70 rfl rfl ?_
      refine g_callVv (na := 0) X hj (k_X5_putBack l γ _) gW_23 rfl gX5_calledOf_X5_putBack rfl ⟨rfl, rfl⟩ (by decide +kernel) rfl ⟨by decide, by decide⟩ rfl (Nat.le_of_ble_eq_true rfl) dX5_calledOf_71 ⟨by decide, by decide⟩ ?_
      refine g_eq rfl (σ' := mV σ (cp431 (σ.1 24) (σ.1 26) 431) (cnF (σ.1 24) (σ.1 23) (σ.1 28) b prn L su am) (cnSh (σ.1 24) (σ.1 28) b prn L am) (σ.2 23 13)) (aside_eq σ (cp431 (σ.1 24) (σ.1 26) 431) (cnF (σ.1 24) (σ.1 23) (σ.1 28) b prn L su am) (cnSh (σ.1 24) (σ.1 28) b prn L am) (cnZ (σ.1 24) (σ.1 23) (σ.1 28) b prn L su am) (cp_back hb hC)) ?_
      refine g_iload_n X dX5_calledOf_74 rfl rfl ?_
      refine g_iconstN X 1 dX5_calledOf_75 ?_
      refine g_icmpN_le (tgt := 102) X dX5_calledOf_76 (by decide) (by omega) (by omega) (fun c_76 => ?_) (fun c_76 => absurd c_76 (by omega))
      refine g_iload X dX5_calledOf_102 rfl ?_
      exact g_iret X hr hlk dX5_calledOf_104 ⟨by unfold coZ; rw [if_pos c_5]; rfl, _, _, _, rfl, fun k h7 h8 h9 => cnF_k h7 h8 h9⟩
    · skip
      refine g_iload_n X dX5_calledOf_20 rfl rfl ?_
      refine g_if_ne (tgt := 31) X dX5_calledOf_21 (by decide) (fun c_21 => ?_) (fun c_21 => absurd c_21 (by decide))
      refine g_iload_n X dX5_calledOf_31 rfl rfl ?_
      refine g_iconstN X 1 dX5_calledOf_32 ?_
      refine g_icmpN_ne (tgt := 43) X dX5_calledOf_33 (by decide) (by omega) (by omega) (fun c_33 => absurd c_33 (by omega)) (fun c_33 => ?_)
      refine g_aload_n X dX5_calledOf_36 rfl rfl ?_
      refine g_get_23_8 X hi5 (by decide +kernel) dX5_calledOf_37 ?_
      simp only [mW_23]
      refine g_goto (tgt := 68) X dX5_calledOf_40 (by decide) ?_
      refine g_istore_s4 X dX5_calledOf_68 (by decide) rfl ?_
      refine g_aload_n X dX5_calledOf_70 rfl rfl ?_
      refine g_callVv (na := 0) X hj (k_X5_putBack l γ _) gW_23 rfl gX5_calledOf_X5_putBack rfl ⟨rfl, rfl⟩ (by decide +kernel) rfl ⟨by decide, by decide⟩ rfl (Nat.le_of_ble_eq_true rfl) dX5_calledOf_71 ⟨by decide, by decide⟩ ?_
      refine g_eq rfl (σ' := mV σ (cp431 (σ.1 24) (σ.1 26) 431) (cnF (σ.1 24) (σ.1 23) (σ.1 28) b prn L su am) (cnSh (σ.1 24) (σ.1 28) b prn L am) (σ.2 23 13)) (aside_eq σ (cp431 (σ.1 24) (σ.1 26) 431) (cnF (σ.1 24) (σ.1 23) (σ.1 28) b prn L su am) (cnSh (σ.1 24) (σ.1 28) b prn L am) (cnZ (σ.1 24) (σ.1 23) (σ.1 28) b prn L su am) (cp_back hb hC)) ?_
      refine g_iload_n X dX5_calledOf_74 rfl rfl ?_
      refine g_iconstN X 1 dX5_calledOf_75 ?_
      refine g_icmpN_le (tgt := 102) X dX5_calledOf_76 (by decide) (by omega) (by omega) (fun c_76 => ?_) (fun c_76 => absurd c_76 (by omega))
      refine g_iload X dX5_calledOf_102 rfl ?_
      exact g_iret X hr hlk dX5_calledOf_104 ⟨by unfold coZ; rw [if_pos c_5]; rfl, _, _, _, rfl, fun k h7 h8 h9 => cnF_k h7 h8 h9⟩
    · skip
      refine g_iload_n X dX5_calledOf_20 rfl rfl ?_
      refine g_if_ne (tgt := 31) X dX5_calledOf_21 (by decide) (fun c_21 => ?_) (fun c_21 => absurd c_21 (by decide))
      refine g_iload_n X dX5_calledOf_31 rfl rfl ?_
      refine g_iconstN X 1 dX5_calledOf_32 ?_
      refine g_icmpN_ne (tgt := 43) X dX5_calledOf_33 (by decide) (by omega) (by omega) (fun c_33 => ?_) (fun c_33 => absurd c_33 (by omega))
      refine g_iload_n X dX5_calledOf_43 rfl rfl ?_
      refine g_bipush (v := nI 10) X dX5_calledOf_44 (by decide) ?_
      refine g_icmpN_ne (tgt := 57) X dX5_calledOf_46 (by decide) (by omega) (by omega) (fun c_46 => ?_) (fun c_46 => absurd c_46 (by omega))
      refine g_aload_n X dX5_calledOf_57 rfl rfl ?_
      refine g_get_23_0 X hi5 (by decide +kernel) dX5_calledOf_58 ?_
      refine g_bipush (v := nI 9) X dX5_calledOf_61 (by decide) ?_
      refine g_iload_n X dX5_calledOf_63 rfl rfl ?_
      refine g_iaddN X dX5_calledOf_64 ?_
      refine g_iconstN X 2 dX5_calledOf_65 ?_
      refine g_isubN X dX5_calledOf_66 (by omega) ?_
      refine g_ald_24 X rfl (by omega) dX5_calledOf_67 ?_
      simp only [mW_24]
      refine g_istore_s4 X dX5_calledOf_68 (by decide) rfl ?_
      refine g_aload_n X dX5_calledOf_70 rfl rfl ?_
      refine g_callVv (na := 0) X hj (k_X5_putBack l γ _) gW_23 rfl gX5_calledOf_X5_putBack rfl ⟨rfl, rfl⟩ (by decide +kernel) rfl ⟨by decide, by decide⟩ rfl (Nat.le_of_ble_eq_true rfl) dX5_calledOf_71 ⟨by decide, by decide⟩ ?_
      refine g_eq rfl (σ' := mV σ (cp431 (σ.1 24) (σ.1 26) 431) (cnF (σ.1 24) (σ.1 23) (σ.1 28) b prn L su am) (cnSh (σ.1 24) (σ.1 28) b prn L am) (σ.2 23 13)) (aside_eq σ (cp431 (σ.1 24) (σ.1 26) 431) (cnF (σ.1 24) (σ.1 23) (σ.1 28) b prn L su am) (cnSh (σ.1 24) (σ.1 28) b prn L am) (cnZ (σ.1 24) (σ.1 23) (σ.1 28) b prn L su am) (cp_back hb hC)) ?_
      refine g_iload_n X dX5_calledOf_74 rfl rfl ?_
      refine g_iconstN X 1 dX5_calledOf_75 ?_
      refine g_icmpN_le (tgt := 102) X dX5_calledOf_76 (by decide) (by omega) (by omega) (fun c_76 => absurd c_76 (by omega)) (fun c_76 => ?_)
      refine g_iload_n X dX5_calledOf_79 rfl rfl ?_
      refine g_bipush (v := nI 10) X dX5_calledOf_80 (by decide) ?_
      refine g_icmpN_ge (tgt := 102) X dX5_calledOf_82 (by decide) (by omega) (by omega) (fun c_82 => absurd c_82 (by omega)) (fun c_82 => ?_)
      refine g_iload X dX5_calledOf_85 rfl ?_
      refine g_aload_n X dX5_calledOf_87 rfl rfl ?_
      refine g_get_23_0 X hi5 (by decide +kernel) dX5_calledOf_88 ?_
      refine g_bipush (v := nI 9) X dX5_calledOf_91 (by decide) ?_
      refine g_iload_n X dX5_calledOf_93 rfl rfl ?_
      refine g_iaddN X dX5_calledOf_94 ?_
      refine g_iconstN X 2 dX5_calledOf_95 ?_
      refine g_isubN X dX5_calledOf_96 (by omega) ?_
      refine g_ald_24 X rfl (by omega) dX5_calledOf_97 ?_
      refine g_isub X dX5_calledOf_98 ?_
      refine g_goto (tgt := 104) X dX5_calledOf_99 (by decide) ?_
      exact g_iret X hr hlk dX5_calledOf_104 ⟨by unfold coZ; rw [if_pos c_5]; rfl, _, _, _, rfl, fun k h7 h8 h9 => cnF_k h7 h8 h9⟩
    · skip
      refine g_iload_n X dX5_calledOf_20 rfl rfl ?_
      refine g_if_ne (tgt := 31) X dX5_calledOf_21 (by decide) (fun c_21 => ?_) (fun c_21 => absurd c_21 (by decide))
      refine g_iload_n X dX5_calledOf_31 rfl rfl ?_
      refine g_iconstN X 1 dX5_calledOf_32 ?_
      refine g_icmpN_ne (tgt := 43) X dX5_calledOf_33 (by decide) (by omega) (by omega) (fun c_33 => ?_) (fun c_33 => absurd c_33 (by omega))
      refine g_iload_n X dX5_calledOf_43 rfl rfl ?_
      refine g_bipush (v := nI 10) X dX5_calledOf_44 (by decide) ?_
      refine g_icmpN_ne (tgt := 57) X dX5_calledOf_46 (by decide) (by omega) (by omega) (fun c_46 => ?_) (fun c_46 => absurd c_46 (by omega))
      refine g_aload_n X dX5_calledOf_57 rfl rfl ?_
      refine g_get_23_0 X hi5 (by decide +kernel) dX5_calledOf_58 ?_
      refine g_bipush (v := nI 9) X dX5_calledOf_61 (by decide) ?_
      refine g_iload_n X dX5_calledOf_63 rfl rfl ?_
      refine g_iaddN X dX5_calledOf_64 ?_
      refine g_iconstN X 2 dX5_calledOf_65 ?_
      refine g_isubN X dX5_calledOf_66 (by omega) ?_
      refine g_ald_24 X rfl (by omega) dX5_calledOf_67 ?_
      simp only [mW_24]
      refine g_istore_s4 X dX5_calledOf_68 (by decide) rfl ?_
      refine g_aload_n X dX5_calledOf_70 rfl rfl ?_
      refine g_callVv (na := 0) X hj (k_X5_putBack l γ _) gW_23 rfl gX5_calledOf_X5_putBack rfl ⟨rfl, rfl⟩ (by decide +kernel) rfl ⟨by decide, by decide⟩ rfl (Nat.le_of_ble_eq_true rfl) dX5_calledOf_71 ⟨by decide, by decide⟩ ?_
      refine g_eq rfl (σ' := mV σ (cp431 (σ.1 24) (σ.1 26) 431) (cnF (σ.1 24) (σ.1 23) (σ.1 28) b prn L su am) (cnSh (σ.1 24) (σ.1 28) b prn L am) (σ.2 23 13)) (aside_eq σ (cp431 (σ.1 24) (σ.1 26) 431) (cnF (σ.1 24) (σ.1 23) (σ.1 28) b prn L su am) (cnSh (σ.1 24) (σ.1 28) b prn L am) (cnZ (σ.1 24) (σ.1 23) (σ.1 28) b prn L su am) (cp_back hb hC)) ?_
      refine g_iload_n X dX5_calledOf_74 rfl rfl ?_
      refine g_iconstN X 1 dX5_calledOf_75 ?_
      refine g_icmpN_le (tgt := 102) X dX5_calledOf_76 (by decide) (by omega) (by omega) (fun c_76 => absurd c_76 (by omega)) (fun c_76 => ?_)
      refine g_iload_n X dX5_calledOf_79 rfl rfl ?_
      refine g_bipush (v := nI 10) X dX5_calledOf_80 (by decide) ?_
      refine g_icmpN_ge (tgt := 102) X dX5_calledOf_82 (by decide) (by omega) (by omega) (fun c_82 => absurd c_82 (by omega)) (fun c_82 => ?_)
      refine g_iload X dX5_calledOf_85 rfl ?_
      refine g_aload_n X dX5_calledOf_87 rfl rfl ?_
      refine g_get_23_0 X hi5 (by decide +kernel) dX5_calledOf_88 ?_
      refine g_bipush (v := nI 9) X dX5_calledOf_91 (by decide) ?_
      refine g_iload_n X dX5_calledOf_93 rfl rfl ?_
      refine g_iaddN X dX5_calledOf_94 ?_
      refine g_iconstN X 2 dX5_calledOf_95 ?_
      refine g_isubN X dX5_calledOf_96 (by omega) ?_
      refine g_ald_24 X rfl (by omega) dX5_calledOf_97 ?_
      refine g_isub X dX5_calledOf_98 ?_
      refine g_goto (tgt := 104) X dX5_calledOf_99 (by decide) ?_
      exact g_iret X hr hlk dX5_calledOf_104 ⟨by unfold coZ; rw [if_pos c_5]; rfl, _, _, _, rfl, fun k h7 h8 h9 => cnF_k h7 h8 h9⟩
    · skip
      refine g_iload_n X dX5_calledOf_20 rfl rfl ?_
      refine g_if_ne (tgt := 31) X dX5_calledOf_21 (by decide) (fun c_21 => ?_) (fun c_21 => absurd c_21 (by decide))
      refine g_iload_n X dX5_calledOf_31 rfl rfl ?_
      refine g_iconstN X 1 dX5_calledOf_32 ?_
      refine g_icmpN_ne (tgt := 43) X dX5_calledOf_33 (by decide) (by omega) (by omega) (fun c_33 => ?_) (fun c_33 => absurd c_33 (by omega))
      refine g_iload_n X dX5_calledOf_43 rfl rfl ?_
      refine g_bipush (v := nI 10) X dX5_calledOf_44 (by decide) ?_
      refine g_icmpN_ne (tgt := 57) X dX5_calledOf_46 (by decide) (by omega) (by omega) (fun c_46 => ?_) (fun c_46 => absurd c_46 (by omega))
      refine g_aload_n X dX5_calledOf_57 rfl rfl ?_
      refine g_get_23_0 X hi5 (by decide +kernel) dX5_calledOf_58 ?_
      refine g_bipush (v := nI 9) X dX5_calledOf_61 (by decide) ?_
      refine g_iload_n X dX5_calledOf_63 rfl rfl ?_
      refine g_iaddN X dX5_calledOf_64 ?_
      refine g_iconstN X 2 dX5_calledOf_65 ?_
      refine g_isubN X dX5_calledOf_66 (by omega) ?_
      refine g_ald_24 X rfl (by omega) dX5_calledOf_67 ?_
      simp only [mW_24]
      refine g_istore_s4 X dX5_calledOf_68 (by decide) rfl ?_
      refine g_aload_n X dX5_calledOf_70 rfl rfl ?_
      refine g_callVv (na := 0) X hj (k_X5_putBack l γ _) gW_23 rfl gX5_calledOf_X5_putBack rfl ⟨rfl, rfl⟩ (by decide +kernel) rfl ⟨by decide, by decide⟩ rfl (Nat.le_of_ble_eq_true rfl) dX5_calledOf_71 ⟨by decide, by decide⟩ ?_
      refine g_eq rfl (σ' := mV σ (cp431 (σ.1 24) (σ.1 26) 431) (cnF (σ.1 24) (σ.1 23) (σ.1 28) b prn L su am) (cnSh (σ.1 24) (σ.1 28) b prn L am) (σ.2 23 13)) (aside_eq σ (cp431 (σ.1 24) (σ.1 26) 431) (cnF (σ.1 24) (σ.1 23) (σ.1 28) b prn L su am) (cnSh (σ.1 24) (σ.1 28) b prn L am) (cnZ (σ.1 24) (σ.1 23) (σ.1 28) b prn L su am) (cp_back hb hC)) ?_
      refine g_iload_n X dX5_calledOf_74 rfl rfl ?_
      refine g_iconstN X 1 dX5_calledOf_75 ?_
      refine g_icmpN_le (tgt := 102) X dX5_calledOf_76 (by decide) (by omega) (by omega) (fun c_76 => absurd c_76 (by omega)) (fun c_76 => ?_)
      refine g_iload_n X dX5_calledOf_79 rfl rfl ?_
      refine g_bipush (v := nI 10) X dX5_calledOf_80 (by decide) ?_
      refine g_icmpN_ge (tgt := 102) X dX5_calledOf_82 (by decide) (by omega) (by omega) (fun c_82 => absurd c_82 (by omega)) (fun c_82 => ?_)
      refine g_iload X dX5_calledOf_85 rfl ?_
      refine g_aload_n X dX5_calledOf_87 rfl rfl ?_
      refine g_get_23_0 X hi5 (by decide +kernel) dX5_calledOf_88 ?_
      refine g_bipush (v := nI 9) X dX5_calledOf_91 (by decide) ?_
      refine g_iload_n X dX5_calledOf_93 rfl rfl ?_
      refine g_iaddN X dX5_calledOf_94 ?_
      refine g_iconstN X 2 dX5_calledOf_95 ?_
      refine g_isubN X dX5_calledOf_96 (by omega) ?_
      refine g_ald_24 X rfl (by omega) dX5_calledOf_97 ?_
      refine g_isub X dX5_calledOf_98 ?_
      refine g_goto (tgt := 104) X dX5_calledOf_99 (by decide) ?_
      exact g_iret X hr hlk dX5_calledOf_104 ⟨by unfold coZ; rw [if_pos c_5]; rfl, _, _, _, rfl, fun k h7 h8 h9 => cnF_k h7 h8 h9⟩
    · skip
      refine g_iload_n X dX5_calledOf_20 rfl rfl ?_
      refine g_if_ne (tgt := 31) X dX5_calledOf_21 (by decide) (fun c_21 => ?_) (fun c_21 => absurd c_21 (by decide))
      refine g_iload_n X dX5_calledOf_31 rfl rfl ?_
      refine g_iconstN X 1 dX5_calledOf_32 ?_
      refine g_icmpN_ne (tgt := 43) X dX5_calledOf_33 (by decide) (by omega) (by omega) (fun c_33 => ?_) (fun c_33 => absurd c_33 (by omega))
      refine g_iload_n X dX5_calledOf_43 rfl rfl ?_
      refine g_bipush (v := nI 10) X dX5_calledOf_44 (by decide) ?_
      refine g_icmpN_ne (tgt := 57) X dX5_calledOf_46 (by decide) (by omega) (by omega) (fun c_46 => ?_) (fun c_46 => absurd c_46 (by omega))
      refine g_aload_n X dX5_calledOf_57 rfl rfl ?_
      refine g_get_23_0 X hi5 (by decide +kernel) dX5_calledOf_58 ?_
      refine g_bipush (v := nI 9) X dX5_calledOf_61 (by decide) ?_
      refine g_iload_n X dX5_calledOf_63 rfl rfl ?_
      refine g_iaddN X dX5_calledOf_64 ?_
      refine g_iconstN X 2 dX5_calledOf_65 ?_
      refine g_isubN X dX5_calledOf_66 (by omega) ?_
      refine g_ald_24 X rfl (by omega) dX5_calledOf_67 ?_
      simp only [mW_24]
      refine g_istore_s4 X dX5_calledOf_68 (by decide) rfl ?_
      refine g_aload_n X dX5_calledOf_70 rfl rfl ?_
      refine g_callVv (na := 0) X hj (k_X5_putBack l γ _) gW_23 rfl gX5_calledOf_X5_putBack rfl ⟨rfl, rfl⟩ (by decide +kernel) rfl ⟨by decide, by decide⟩ rfl (Nat.le_of_ble_eq_true rfl) dX5_calledOf_71 ⟨by decide, by decide⟩ ?_
      refine g_eq rfl (σ' := mV σ (cp431 (σ.1 24) (σ.1 26) 431) (cnF (σ.1 24) (σ.1 23) (σ.1 28) b prn L su am) (cnSh (σ.1 24) (σ.1 28) b prn L am) (σ.2 23 13)) (aside_eq σ (cp431 (σ.1 24) (σ.1 26) 431) (cnF (σ.1 24) (σ.1 23) (σ.1 28) b prn L su am) (cnSh (σ.1 24) (σ.1 28) b prn L am) (cnZ (σ.1 24) (σ.1 23) (σ.1 28) b prn L su am) (cp_back hb hC)) ?_
      refine g_iload_n X dX5_calledOf_74 rfl rfl ?_
      refine g_iconstN X 1 dX5_calledOf_75 ?_
      refine g_icmpN_le (tgt := 102) X dX5_calledOf_76 (by decide) (by omega) (by omega) (fun c_76 => absurd c_76 (by omega)) (fun c_76 => ?_)
      refine g_iload_n X dX5_calledOf_79 rfl rfl ?_
      refine g_bipush (v := nI 10) X dX5_calledOf_80 (by decide) ?_
      refine g_icmpN_ge (tgt := 102) X dX5_calledOf_82 (by decide) (by omega) (by omega) (fun c_82 => absurd c_82 (by omega)) (fun c_82 => ?_)
      refine g_iload X dX5_calledOf_85 rfl ?_
      refine g_aload_n X dX5_calledOf_87 rfl rfl ?_
      refine g_get_23_0 X hi5 (by decide +kernel) dX5_calledOf_88 ?_
      refine g_bipush (v := nI 9) X dX5_calledOf_91 (by decide) ?_
      refine g_iload_n X dX5_calledOf_93 rfl rfl ?_
      refine g_iaddN X dX5_calledOf_94 ?_
      refine g_iconstN X 2 dX5_calledOf_95 ?_
      refine g_isubN X dX5_calledOf_96 (by omega) ?_
      refine g_ald_24 X rfl (by omega) dX5_calledOf_97 ?_
      refine g_isub X dX5_calledOf_98 ?_
      refine g_goto (tgt := 104) X dX5_calledOf_99 (by decide) ?_
      exact g_iret X hr hlk dX5_calledOf_104 ⟨by unfold coZ; rw [if_pos c_5]; rfl, _, _, _, rfl, fun k h7 h8 h9 => cnF_k h7 h8 h9⟩
    · skip
      refine g_iload_n X dX5_calledOf_20 rfl rfl ?_
      refine g_if_ne (tgt := 31) X dX5_calledOf_21 (by decide) (fun c_21 => ?_) (fun c_21 => absurd c_21 (by decide))
      refine g_iload_n X dX5_calledOf_31 rfl rfl ?_
      refine g_iconstN X 1 dX5_calledOf_32 ?_
      refine g_icmpN_ne (tgt := 43) X dX5_calledOf_33 (by decide) (by omega) (by omega) (fun c_33 => ?_) (fun c_33 => absurd c_33 (by omega))
      refine g_iload_n X dX5_calledOf_43 rfl rfl ?_
      refine g_bipush (v := nI 10) X dX5_calledOf_44 (by decide) ?_
      refine g_icmpN_ne (tgt := 57) X dX5_calledOf_46 (by decide) (by omega) (by omega) (fun c_46 => ?_) (fun c_46 => absurd c_46 (by omega))
      refine g_aload_n X dX5_calledOf_57 rfl rfl ?_
      refine g_get_23_0 X hi5 (by decide +kernel) dX5_calledOf_58 ?_
      refine g_bipush (v := nI 9) X dX5_calledOf_61 (by decide) ?_
      refine g_iload_n X dX5_calledOf_63 rfl rfl ?_
      refine g_iaddN X dX5_calledOf_64 ?_
      refine g_iconstN X 2 dX5_calledOf_65 ?_
      refine g_isubN X dX5_calledOf_66 (by omega) ?_
      refine g_ald_24 X rfl (by omega) dX5_calledOf_67 ?_
      simp only [mW_24]
      refine g_istore_s4 X dX5_calledOf_68 (by decide) rfl ?_
      refine g_aload_n X dX5_calledOf_70 rfl rfl ?_
      refine g_callVv (na := 0) X hj (k_X5_putBack l γ _) gW_23 rfl gX5_calledOf_X5_putBack rfl ⟨rfl, rfl⟩ (by decide +kernel) rfl ⟨by decide, by decide⟩ rfl (Nat.le_of_ble_eq_true rfl) dX5_calledOf_71 ⟨by decide, by decide⟩ ?_
      refine g_eq rfl (σ' := mV σ (cp431 (σ.1 24) (σ.1 26) 431) (cnF (σ.1 24) (σ.1 23) (σ.1 28) b prn L su am) (cnSh (σ.1 24) (σ.1 28) b prn L am) (σ.2 23 13)) (aside_eq σ (cp431 (σ.1 24) (σ.1 26) 431) (cnF (σ.1 24) (σ.1 23) (σ.1 28) b prn L su am) (cnSh (σ.1 24) (σ.1 28) b prn L am) (cnZ (σ.1 24) (σ.1 23) (σ.1 28) b prn L su am) (cp_back hb hC)) ?_
      refine g_iload_n X dX5_calledOf_74 rfl rfl ?_
      refine g_iconstN X 1 dX5_calledOf_75 ?_
      refine g_icmpN_le (tgt := 102) X dX5_calledOf_76 (by decide) (by omega) (by omega) (fun c_76 => absurd c_76 (by omega)) (fun c_76 => ?_)
      refine g_iload_n X dX5_calledOf_79 rfl rfl ?_
      refine g_bipush (v := nI 10) X dX5_calledOf_80 (by decide) ?_
      refine g_icmpN_ge (tgt := 102) X dX5_calledOf_82 (by decide) (by omega) (by omega) (fun c_82 => absurd c_82 (by omega)) (fun c_82 => ?_)
      refine g_iload X dX5_calledOf_85 rfl ?_
      refine g_aload_n X dX5_calledOf_87 rfl rfl ?_
      refine g_get_23_0 X hi5 (by decide +kernel) dX5_calledOf_88 ?_
      refine g_bipush (v := nI 9) X dX5_calledOf_91 (by decide) ?_
      refine g_iload_n X dX5_calledOf_93 rfl rfl ?_
      refine g_iaddN X dX5_calledOf_94 ?_
      refine g_iconstN X 2 dX5_calledOf_95 ?_
      refine g_isubN X dX5_calledOf_96 (by omega) ?_
      refine g_ald_24 X rfl (by omega) dX5_calledOf_97 ?_
      refine g_isub X dX5_calledOf_98 ?_
      refine g_goto (tgt := 104) X dX5_calledOf_99 (by decide) ?_
      exact g_iret X hr hlk dX5_calledOf_104 ⟨by unfold coZ; rw [if_pos c_5]; rfl, _, _, _, rfl, fun k h7 h8 h9 => cnF_k h7 h8 h9⟩
    · skip
      refine g_iload_n X dX5_calledOf_20 rfl rfl ?_
      refine g_if_ne (tgt := 31) X dX5_calledOf_21 (by decide) (fun c_21 => ?_) (fun c_21 => absurd c_21 (by decide))
      refine g_iload_n X dX5_calledOf_31 rfl rfl ?_
      refine g_iconstN X 1 dX5_calledOf_32 ?_
      refine g_icmpN_ne (tgt := 43) X dX5_calledOf_33 (by decide) (by omega) (by omega) (fun c_33 => ?_) (fun c_33 => absurd c_33 (by omega))
      refine g_iload_n X dX5_calledOf_43 rfl rfl ?_
      refine g_bipush (v := nI 10) X dX5_calledOf_44 (by decide) ?_
      refine g_icmpN_ne (tgt := 57) X dX5_calledOf_46 (by decide) (by omega) (by omega) (fun c_46 => ?_) (fun c_46 => absurd c_46 (by omega))
      refine g_aload_n X dX5_calledOf_57 rfl rfl ?_
      refine g_get_23_0 X hi5 (by decide +kernel) dX5_calledOf_58 ?_
      refine g_bipush (v := nI 9) X dX5_calledOf_61 (by decide) ?_
      refine g_iload_n X dX5_calledOf_63 rfl rfl ?_
      refine g_iaddN X dX5_calledOf_64 ?_
      refine g_iconstN X 2 dX5_calledOf_65 ?_
      refine g_isubN X dX5_calledOf_66 (by omega) ?_
      refine g_ald_24 X rfl (by omega) dX5_calledOf_67 ?_
      simp only [mW_24]
      refine g_istore_s4 X dX5_calledOf_68 (by decide) rfl ?_
      refine g_aload_n X dX5_calledOf_70 rfl rfl ?_
      refine g_callVv (na := 0) X hj (k_X5_putBack l γ _) gW_23 rfl gX5_calledOf_X5_putBack rfl ⟨rfl, rfl⟩ (by decide +kernel) rfl ⟨by decide, by decide⟩ rfl (Nat.le_of_ble_eq_true rfl) dX5_calledOf_71 ⟨by decide, by decide⟩ ?_
      refine g_eq rfl (σ' := mV σ (cp431 (σ.1 24) (σ.1 26) 431) (cnF (σ.1 24) (σ.1 23) (σ.1 28) b prn L su am) (cnSh (σ.1 24) (σ.1 28) b prn L am) (σ.2 23 13)) (aside_eq σ (cp431 (σ.1 24) (σ.1 26) 431) (cnF (σ.1 24) (σ.1 23) (σ.1 28) b prn L su am) (cnSh (σ.1 24) (σ.1 28) b prn L am) (cnZ (σ.1 24) (σ.1 23) (σ.1 28) b prn L su am) (cp_back hb hC)) ?_
      refine g_iload_n X dX5_calledOf_74 rfl rfl ?_
      refine g_iconstN X 1 dX5_calledOf_75 ?_
      refine g_icmpN_le (tgt := 102) X dX5_calledOf_76 (by decide) (by omega) (by omega) (fun c_76 => absurd c_76 (by omega)) (fun c_76 => ?_)
      refine g_iload_n X dX5_calledOf_79 rfl rfl ?_
      refine g_bipush (v := nI 10) X dX5_calledOf_80 (by decide) ?_
      refine g_icmpN_ge (tgt := 102) X dX5_calledOf_82 (by decide) (by omega) (by omega) (fun c_82 => absurd c_82 (by omega)) (fun c_82 => ?_)
      refine g_iload X dX5_calledOf_85 rfl ?_
      refine g_aload_n X dX5_calledOf_87 rfl rfl ?_
      refine g_get_23_0 X hi5 (by decide +kernel) dX5_calledOf_88 ?_
      refine g_bipush (v := nI 9) X dX5_calledOf_91 (by decide) ?_
      refine g_iload_n X dX5_calledOf_93 rfl rfl ?_
      refine g_iaddN X dX5_calledOf_94 ?_
      refine g_iconstN X 2 dX5_calledOf_95 ?_
      refine g_isubN X dX5_calledOf_96 (by omega) ?_
      refine g_ald_24 X rfl (by omega) dX5_calledOf_97 ?_
      refine g_isub X dX5_calledOf_98 ?_
      refine g_goto (tgt := 104) X dX5_calledOf_99 (by decide) ?_
      exact g_iret X hr hlk dX5_calledOf_104 ⟨by unfold coZ; rw [if_pos c_5]; rfl, _, _, _, rfl, fun k h7 h8 h9 => cnF_k h7 h8 h9⟩
    · skip
      refine g_iload_n X dX5_calledOf_20 rfl rfl ?_
      refine g_if_ne (tgt := 31) X dX5_calledOf_21 (by decide) (fun c_21 => ?_) (fun c_21 => absurd c_21 (by decide))
      refine g_iload_n X dX5_calledOf_31 rfl rfl ?_
      refine g_iconstN X 1 dX5_calledOf_32 ?_
      refine g_icmpN_ne (tgt := 43) X dX5_calledOf_33 (by decide) (by omega) (by omega) (fun c_33 => ?_) (fun c_33 => absurd c_33 (by omega))
      refine g_iload_n X dX5_calledOf_43 rfl rfl ?_
      refine g_bipush (v := nI 10) X dX5_calledOf_44 (by decide) ?_
      refine g_icmpN_ne (tgt := 57) X dX5_calledOf_46 (by decide) (by omega) (by omega) (fun c_46 => ?_) (fun c_46 => absurd c_46 (by omega))
      refine g_aload_n X dX5_calledOf_57 rfl rfl ?_
      refine g_get_23_0 X hi5 (by decide +kernel) dX5_calledOf_58 ?_
      refine g_bipush (v := nI 9) X dX5_calledOf_61 (by decide) ?_
      refine g_iload_n X dX5_calledOf_63 rfl rfl ?_
      refine g_iaddN X dX5_calledOf_64 ?_
      refine g_iconstN X 2 dX5_calledOf_65 ?_
      refine g_isubN X dX5_calledOf_66 (by omega) ?_
      refine g_ald_24 X rfl (by omega) dX5_calledOf_67 ?_
      simp only [mW_24]
      refine g_istore_s4 X dX5_calledOf_68 (by decide) rfl ?_
      refine g_aload_n X dX5_calledOf_70 rfl rfl ?_
      refine g_callVv (na := 0) X hj (k_X5_putBack l γ _) gW_23 rfl gX5_calledOf_X5_putBack rfl ⟨rfl, rfl⟩ (by decide +kernel) rfl ⟨by decide, by decide⟩ rfl (Nat.le_of_ble_eq_true rfl) dX5_calledOf_71 ⟨by decide, by decide⟩ ?_
      refine g_eq rfl (σ' := mV σ (cp431 (σ.1 24) (σ.1 26) 431) (cnF (σ.1 24) (σ.1 23) (σ.1 28) b prn L su am) (cnSh (σ.1 24) (σ.1 28) b prn L am) (σ.2 23 13)) (aside_eq σ (cp431 (σ.1 24) (σ.1 26) 431) (cnF (σ.1 24) (σ.1 23) (σ.1 28) b prn L su am) (cnSh (σ.1 24) (σ.1 28) b prn L am) (cnZ (σ.1 24) (σ.1 23) (σ.1 28) b prn L su am) (cp_back hb hC)) ?_
      refine g_iload_n X dX5_calledOf_74 rfl rfl ?_
      refine g_iconstN X 1 dX5_calledOf_75 ?_
      refine g_icmpN_le (tgt := 102) X dX5_calledOf_76 (by decide) (by omega) (by omega) (fun c_76 => absurd c_76 (by omega)) (fun c_76 => ?_)
      refine g_iload_n X dX5_calledOf_79 rfl rfl ?_
      refine g_bipush (v := nI 10) X dX5_calledOf_80 (by decide) ?_
      refine g_icmpN_ge (tgt := 102) X dX5_calledOf_82 (by decide) (by omega) (by omega) (fun c_82 => absurd c_82 (by omega)) (fun c_82 => ?_)
      refine g_iload X dX5_calledOf_85 rfl ?_
      refine g_aload_n X dX5_calledOf_87 rfl rfl ?_
      refine g_get_23_0 X hi5 (by decide +kernel) dX5_calledOf_88 ?_
      refine g_bipush (v := nI 9) X dX5_calledOf_91 (by decide) ?_
      refine g_iload_n X dX5_calledOf_93 rfl rfl ?_
      refine g_iaddN X dX5_calledOf_94 ?_
      refine g_iconstN X 2 dX5_calledOf_95 ?_
      refine g_isubN X dX5_calledOf_96 (by omega) ?_
      refine g_ald_24 X rfl (by omega) dX5_calledOf_97 ?_
      refine g_isub X dX5_calledOf_98 ?_
      refine g_goto (tgt := 104) X dX5_calledOf_99 (by decide) ?_
      exact g_iret X hr hlk dX5_calledOf_104 ⟨by unfold coZ; rw [if_pos c_5]; rfl, _, _, _, rfl, fun k h7 h8 h9 => cnF_k h7 h8 h9⟩
    · skip
      refine g_iload_n X dX5_calledOf_20 rfl rfl ?_
      refine g_if_ne (tgt := 31) X dX5_calledOf_21 (by decide) (fun c_21 => ?_) (fun c_21 => absurd c_21 (by decide))
      refine g_iload_n X dX5_calledOf_31 rfl rfl ?_
      refine g_iconstN X 1 dX5_calledOf_32 ?_
      refine g_icmpN_ne (tgt := 43) X dX5_calledOf_33 (by decide) (by omega) (by omega) (fun c_33 => ?_) (fun c_33 => absurd c_33 (by omega))
      refine g_iload_n X dX5_calledOf_43 rfl rfl ?_
      refine g_bipush (v := nI 10) X dX5_calledOf_44 (by decide) ?_
      refine g_icmpN_ne (tgt := 57) X dX5_calledOf_46 (by decide) (by omega) (by omega) (fun c_46 => ?_) (fun c_46 => absurd c_46 (by omega))
      refine g_aload_n X dX5_calledOf_57 rfl rfl ?_
      refine g_get_23_0 X hi5 (by decide +kernel) dX5_calledOf_58 ?_
      refine g_bipush (v := nI 9) X dX5_calledOf_61 (by decide) ?_
      refine g_iload_n X dX5_calledOf_63 rfl rfl ?_
      refine g_iaddN X dX5_calledOf_64 ?_
      refine g_iconstN X 2 dX5_calledOf_65 ?_
      refine g_isubN X dX5_calledOf_66 (by omega) ?_
      refine g_ald_24 X rfl (by omega) dX5_calledOf_67 ?_
      simp only [mW_24]
      refine g_istore_s4 X dX5_calledOf_68 (by decide) rfl ?_
      refine g_aload_n X dX5_calledOf_70 rfl rfl ?_
      refine g_callVv (na := 0) X hj (k_X5_putBack l γ _) gW_23 rfl gX5_calledOf_X5_putBack rfl ⟨rfl, rfl⟩ (by decide +kernel) rfl ⟨by decide, by decide⟩ rfl (Nat.le_of_ble_eq_true rfl) dX5_calledOf_71 ⟨by decide, by decide⟩ ?_
      refine g_eq rfl (σ' := mV σ (cp431 (σ.1 24) (σ.1 26) 431) (cnF (σ.1 24) (σ.1 23) (σ.1 28) b prn L su am) (cnSh (σ.1 24) (σ.1 28) b prn L am) (σ.2 23 13)) (aside_eq σ (cp431 (σ.1 24) (σ.1 26) 431) (cnF (σ.1 24) (σ.1 23) (σ.1 28) b prn L su am) (cnSh (σ.1 24) (σ.1 28) b prn L am) (cnZ (σ.1 24) (σ.1 23) (σ.1 28) b prn L su am) (cp_back hb hC)) ?_
      refine g_iload_n X dX5_calledOf_74 rfl rfl ?_
      refine g_iconstN X 1 dX5_calledOf_75 ?_
      refine g_icmpN_le (tgt := 102) X dX5_calledOf_76 (by decide) (by omega) (by omega) (fun c_76 => absurd c_76 (by omega)) (fun c_76 => ?_)
      refine g_iload_n X dX5_calledOf_79 rfl rfl ?_
      refine g_bipush (v := nI 10) X dX5_calledOf_80 (by decide) ?_
      refine g_icmpN_ge (tgt := 102) X dX5_calledOf_82 (by decide) (by omega) (by omega) (fun c_82 => absurd c_82 (by omega)) (fun c_82 => ?_)
      refine g_iload X dX5_calledOf_85 rfl ?_
      refine g_aload_n X dX5_calledOf_87 rfl rfl ?_
      refine g_get_23_0 X hi5 (by decide +kernel) dX5_calledOf_88 ?_
      refine g_bipush (v := nI 9) X dX5_calledOf_91 (by decide) ?_
      refine g_iload_n X dX5_calledOf_93 rfl rfl ?_
      refine g_iaddN X dX5_calledOf_94 ?_
      refine g_iconstN X 2 dX5_calledOf_95 ?_
      refine g_isubN X dX5_calledOf_96 (by omega) ?_
      refine g_ald_24 X rfl (by omega) dX5_calledOf_97 ?_
      refine g_isub X dX5_calledOf_98 ?_
      refine g_goto (tgt := 104) X dX5_calledOf_99 (by decide) ?_
      exact g_iret X hr hlk dX5_calledOf_104 ⟨by unfold coZ; rw [if_pos c_5]; rfl, _, _, _, rfl, fun k h7 h8 h9 => cnF_k h7 h8 h9⟩
    · skip
      refine g_iload_n X dX5_calledOf_20 rfl rfl ?_
      refine g_if_ne (tgt := 31) X dX5_calledOf_21 (by decide) (fun c_21 => ?_) (fun c_21 => absurd c_21 (by decide))
      refine g_iload_n X dX5_calledOf_31 rfl rfl ?_
      refine g_iconstN X 1 dX5_calledOf_32 ?_
      refine g_icmpN_ne (tgt := 43) X dX5_calledOf_33 (by decide) (by omega) (by omega) (fun c_33 => ?_) (fun c_33 => absurd c_33 (by omega))
      refine g_iload_n X dX5_calledOf_43 rfl rfl ?_
      refine g_bipush (v := nI 10) X dX5_calledOf_44 (by decide) ?_
      refine g_icmpN_ne (tgt := 57) X dX5_calledOf_46 (by decide) (by omega) (by omega) (fun c_46 => absurd c_46 (by omega)) (fun c_46 => ?_)
      refine g_aload_n X dX5_calledOf_49 rfl rfl ?_
      refine g_iload_n X dX5_calledOf_50 rfl rfl ?_
      refine g_callVi (na := 1) X hj (k_X5_limitsOf l γ _ b L hb (by rw [mW_24, cnZ_k hC (KL_lo (by omega)) (by omega) (by omega) (by omega) (by omega) (by omega)]; exact hC.2.2.1) hC.2.2.2.1) gW_23 rfl gX5_calledOf_X5_limitsOf rfl ⟨rfl, rfl⟩ (by decide +kernel) rfl ⟨by decide, by decide⟩ rfl (Nat.le_of_ble_eq_true rfl) dX5_calledOf_51 ⟨by decide, by decide⟩ ?_
      refine g_goto (tgt := 68) X dX5_calledOf_54 (by decide) ?_
      refine g_istore_s4 X dX5_calledOf_68 (by decide) rfl ?_
      refine g_aload_n X dX5_calledOf_70 rfl rfl ?_
      refine g_callVv (na := 0) X hj (k_X5_putBack l γ _) gW_23 rfl gX5_calledOf_X5_putBack rfl ⟨rfl, rfl⟩ (by decide +kernel) rfl ⟨by decide, by decide⟩ rfl (Nat.le_of_ble_eq_true rfl) dX5_calledOf_71 ⟨by decide, by decide⟩ ?_
      refine g_eq rfl (σ' := mV σ (cp431 (σ.1 24) (σ.1 26) 431) (cnF (σ.1 24) (σ.1 23) (σ.1 28) b prn L su am) (cnSh (σ.1 24) (σ.1 28) b prn L am) (σ.2 23 13)) (aside_eq σ (cp431 (σ.1 24) (σ.1 26) 431) (cnF (σ.1 24) (σ.1 23) (σ.1 28) b prn L su am) (cnSh (σ.1 24) (σ.1 28) b prn L am) (cnZ (σ.1 24) (σ.1 23) (σ.1 28) b prn L su am) (cp_back hb hC)) ?_
      refine g_iload_n X dX5_calledOf_74 rfl rfl ?_
      refine g_iconstN X 1 dX5_calledOf_75 ?_
      refine g_icmpN_le (tgt := 102) X dX5_calledOf_76 (by decide) (by omega) (by omega) (fun c_76 => absurd c_76 (by omega)) (fun c_76 => ?_)
      refine g_iload_n X dX5_calledOf_79 rfl rfl ?_
      refine g_bipush (v := nI 10) X dX5_calledOf_80 (by decide) ?_
      refine g_icmpN_ge (tgt := 102) X dX5_calledOf_82 (by decide) (by omega) (by omega) (fun c_82 => ?_) (fun c_82 => absurd c_82 (by omega))
      refine g_iload X dX5_calledOf_102 rfl ?_
      exact g_iret X hr hlk dX5_calledOf_104 ⟨by unfold coZ; rw [if_pos c_5]; rfl, _, _, _, rfl, fun k h7 h8 h9 => cnF_k h7 h8 h9⟩
  · replace c_5 := bI_f c_5
    refine g_iconstN X 0 dX5_calledOf_8 ?_
    exact g_iret X hr hlk dX5_calledOf_9 ⟨by unfold coZ; rw [if_neg (by rw [c_5]; decide)], QM.rf σ⟩
set_option maxRecDepth 20000 in
theorem k_X5_ifCalled (l : Launch) (γ : gG) (σ : gS) (b prn L : Nat) (su : Nat → Nat) (hb : b < 10) (am : Int32) (N : Nat) (hN : σ.1 24 0 = nI N) (hN10 : N ≤ 10) (hbN : b < N) (w : Nat) (hw : w ≤ 10) (hC : ruB (σ.1 24) b = true → CH (σ.1 24) b prn L su am) (h1 : inB am (nI 1) (nI 99999) = true) : gM l γ yX5_ifCalled wsX5_ifCalled ({ frames := 6, cells := 0, slots := 0, locals := 149 } : Room) [.ref (ad γ 23), .int (nI b), .int am, .int (nI w)] σ (fun v2 σ2 => v2 = some (.int (coZ (σ.1 24) ((okM σ).1 23) (σ.1 28) b prn L su am w)) ∧ QM (okM σ) (σ.2 23 13) σ2) 0 0 := by
  refine g_enter (own := RX5) (cc := cX5_ifCalled) (nL := 4) (ret := (some .int)) [some (.ref (ad γ 23)), some (.int (nI b)), some (.int am), some (.int (nI w))] (by decide) rfl rfl (by simp [lg_sl, Value.category]) (by simp [gl_le, glE, Value.category]) (fun hj p e s m args below meth c X hr hlk hnm => ?_)
  have hi5 : ∀ w ∈ wsX50, w ∈ wsX5_ifCalled := by decide +kernel
  refine g_aload_n X dX5_ifCalled_0 rfl rfl ?_
  refine g_iconstN X 0 dX5_ifCalled_1 ?_
  refine g_put_23_6 X hi5 (by decide +kernel) dX5_ifCalled_2 ?_
  refine g_eq rfl (σ' := okM σ) rfl ?_
  refine g_aload_n X dX5_ifCalled_5 rfl rfl ?_
  refine g_iload_n X dX5_ifCalled_6 rfl rfl ?_
  refine g_callVi (na := 1) X hj (k_X5_isBond l γ _ _) gW_23 rfl gX5_ifCalled_X5_isBond rfl ⟨rfl, rfl⟩ (by decide +kernel) rfl ⟨by decide, by decide⟩ rfl (Nat.le_of_ble_eq_true rfl) dX5_ifCalled_7 ⟨by decide, by decide⟩ ?_
  refine g_if_ne (tgt := 19) X dX5_ifCalled_10 (by decide) (fun c_10 => ?_) (fun c_10 => absurd c_10 (bI_1 (isB_1 hN hbN hN10)))
  refine g_iload_n X dX5_ifCalled_19 rfl rfl ?_
  refine g_callSi (na := 1) X hj (k_X5_isMoney l γ _ _) gX5_ifCalled_X5_isMoney rfl ⟨rfl, rfl⟩ (by decide +kernel) rfl ⟨by decide, by decide⟩ rfl (Nat.le_of_ble_eq_true rfl) dX5_ifCalled_20 ⟨by decide, by decide⟩ ?_
  refine g_if_eq (tgt := 46) X dX5_ifCalled_23 (by decide) (fun c_23 => absurd c_23 (bI_1 h1)) (fun c_23 => ?_)
  refine g_iload_n X dX5_ifCalled_26 rfl rfl ?_
  refine g_iconstN X 0 dX5_ifCalled_27 ?_
  refine g_bipush (v := nI 10) X dX5_ifCalled_28 (by decide) ?_
  refine g_callSi (na := 3) X hj (k_X5_in l γ _ _ _ _) gX5_ifCalled_X5_in rfl ⟨rfl, rfl⟩ (by decide +kernel) rfl ⟨by decide, by decide⟩ rfl (Nat.le_of_ble_eq_true rfl) dX5_ifCalled_30 ⟨by decide, by decide⟩ ?_
  refine g_if_eq (tgt := 46) X dX5_ifCalled_33 (by decide) (fun c_33 => absurd c_33 (bI_1 (inP (by omega) (by decide)))) (fun c_33 => ?_)
  refine g_aload_n X dX5_ifCalled_36 rfl rfl ?_
  refine g_iload_n X dX5_ifCalled_37 rfl rfl ?_
  refine g_iload_n X dX5_ifCalled_38 rfl rfl ?_
  refine g_iload_n X dX5_ifCalled_39 rfl rfl ?_
  refine g_callV (na := 3) X hj _ (k_X5_calledOf l γ (okM σ) b prn L su hb am _ (by omega) hC) gW_23 rfl gX5_ifCalled_X5_calledOf rfl ⟨rfl, rfl⟩ (by decide +kernel) rfl ⟨by decide, by decide⟩ rfl (Nat.le_of_ble_eq_true rfl) dX5_ifCalled_40 ⟨by decide, by decide⟩ ?_
  rintro v2 σ2 ⟨rfl, hq⟩
  refine g_goto (tgt := 51) X dX5_ifCalled_43 (by decide) ?_
  exact g_iret X hr hlk dX5_ifCalled_51 ⟨rfl, hq⟩
set_option maxRecDepth 20000 in
theorem k_X5_ifCalled_1 (l : Launch) (γ : gG) (σ : gS) (y x w : Int32) (h : inB y (nI 0) (σ.1 24 0 - nI 1) = false) : gM l γ yX5_ifCalled wsX5_ifCalled ({ frames := 6, cells := 0, slots := 0, locals := 149 } : Room) [.ref (ad γ 23), .int y, .int x, .int w] σ (gis (some (.int (nI 0))) (sM σ 6 (nI 1))) 0 0 := by
  refine g_enter (own := RX5) (cc := cX5_ifCalled) (nL := 4) (ret := (some .int)) [some (.ref (ad γ 23)), some (.int y), some (.int x), some (.int w)] (by decide) rfl rfl (by simp [lg_sl, Value.category]) (by simp [gl_le, glE, Value.category]) (fun hj p e s m args below meth c X hr hlk hnm => ?_)
  have hi5 : ∀ w ∈ wsX50, w ∈ wsX5_ifCalled := by decide +kernel
  refine g_aload_n X dX5_ifCalled_0 rfl rfl ?_
  refine g_iconstN X 0 dX5_ifCalled_1 ?_
  refine g_put_23_6 X hi5 (by decide +kernel) dX5_ifCalled_2 ?_
  refine g_eq rfl (σ' := okM σ) rfl ?_
  refine g_aload_n X dX5_ifCalled_5 rfl rfl ?_
  refine g_iload_n X dX5_ifCalled_6 rfl rfl ?_
  refine g_callVi (na := 1) X hj (k_X5_isBond l γ _ _) gW_23 rfl gX5_ifCalled_X5_isBond rfl ⟨rfl, rfl⟩ (by decide +kernel) rfl ⟨by decide, by decide⟩ rfl (Nat.le_of_ble_eq_true rfl) dX5_ifCalled_7 ⟨by decide, by decide⟩ ?_
  refine g_if_ne (tgt := 19) X dX5_ifCalled_10 (by decide) (fun c_10 => absurd (bI_0 h) c_10) (fun c_10 => ?_)
  refine g_aload_n X dX5_ifCalled_13 rfl rfl ?_
  refine g_iconstN X 1 dX5_ifCalled_14 ?_
  refine g_callVi (na := 1) X hj (k_X5_fails l γ _ _) gW_23 rfl gX5_ifCalled_X5_fails rfl ⟨rfl, rfl⟩ (by decide +kernel) rfl ⟨by decide, by decide⟩ rfl (Nat.le_of_ble_eq_true rfl) dX5_ifCalled_15 ⟨by decide, by decide⟩ ?_
  exact g_iret X hr hlk dX5_ifCalled_18 ⟨rfl, sM_ok σ _⟩
set_option maxRecDepth 20000 in
theorem k_X5_ifCalled_2 (l : Launch) (γ : gG) (σ : gS) (b : Nat) (x w : Int32) (N : Nat) (hN : σ.1 24 0 = nI N) (hN10 : N ≤ 10) (hbN : b < N) (h : inB x (nI 1) (nI 99999) = false ∨ inB w (nI 0) (nI 10) = false) : gM l γ yX5_ifCalled wsX5_ifCalled ({ frames := 6, cells := 0, slots := 0, locals := 149 } : Room) [.ref (ad γ 23), .int (nI b), .int x, .int w] σ (gis (some (.int (nI 0))) (sM σ 6 (nI 2))) 0 0 := by
  refine g_enter (own := RX5) (cc := cX5_ifCalled) (nL := 4) (ret := (some .int)) [some (.ref (ad γ 23)), some (.int (nI b)), some (.int x), some (.int w)] (by decide) rfl rfl (by simp [lg_sl, Value.category]) (by simp [gl_le, glE, Value.category]) (fun hj p e s m args below meth c X hr hlk hnm => ?_)
  have hi5 : ∀ w ∈ wsX50, w ∈ wsX5_ifCalled := by decide +kernel
  refine g_aload_n X dX5_ifCalled_0 rfl rfl ?_
  refine g_iconstN X 0 dX5_ifCalled_1 ?_
  refine g_put_23_6 X hi5 (by decide +kernel) dX5_ifCalled_2 ?_
  refine g_eq rfl (σ' := okM σ) rfl ?_
  refine g_aload_n X dX5_ifCalled_5 rfl rfl ?_
  refine g_iload_n X dX5_ifCalled_6 rfl rfl ?_
  refine g_callVi (na := 1) X hj (k_X5_isBond l γ _ _) gW_23 rfl gX5_ifCalled_X5_isBond rfl ⟨rfl, rfl⟩ (by decide +kernel) rfl ⟨by decide, by decide⟩ rfl (Nat.le_of_ble_eq_true rfl) dX5_ifCalled_7 ⟨by decide, by decide⟩ ?_
  refine g_if_ne (tgt := 19) X dX5_ifCalled_10 (by decide) (fun c_10 => ?_) (fun c_10 => absurd c_10 (bI_1 (isB_1 hN hbN hN10)))
  refine g_iload_n X dX5_ifCalled_19 rfl rfl ?_
  refine g_callSi (na := 1) X hj (k_X5_isMoney l γ _ _) gX5_ifCalled_X5_isMoney rfl ⟨rfl, rfl⟩ (by decide +kernel) rfl ⟨by decide, by decide⟩ rfl (Nat.le_of_ble_eq_true rfl) dX5_ifCalled_20 ⟨by decide, by decide⟩ ?_
  refine g_if_eq (tgt := 46) X dX5_ifCalled_23 (by decide) (fun c_23 => ?_) (fun c_23 => ?_)
  · replace c_23 := bI_f c_23
    refine g_aload_n X dX5_ifCalled_46 rfl rfl ?_
    refine g_iconstN X 2 dX5_ifCalled_47 ?_
    refine g_callVi (na := 1) X hj (k_X5_fails l γ _ _) gW_23 rfl gX5_ifCalled_X5_fails rfl ⟨rfl, rfl⟩ (by decide +kernel) rfl ⟨by decide, by decide⟩ rfl (Nat.le_of_ble_eq_true rfl) dX5_ifCalled_48 ⟨by decide, by decide⟩ ?_
    exact g_iret X hr hlk dX5_ifCalled_51 ⟨rfl, sM_ok σ _⟩
  · replace c_23 := bI_t c_23
    refine g_iload_n X dX5_ifCalled_26 rfl rfl ?_
    refine g_iconstN X 0 dX5_ifCalled_27 ?_
    refine g_bipush (v := nI 10) X dX5_ifCalled_28 (by decide) ?_
    refine g_callSi (na := 3) X hj (k_X5_in l γ _ _ _ _) gX5_ifCalled_X5_in rfl ⟨rfl, rfl⟩ (by decide +kernel) rfl ⟨by decide, by decide⟩ rfl (Nat.le_of_ble_eq_true rfl) dX5_ifCalled_30 ⟨by decide, by decide⟩ ?_
    refine g_if_eq (tgt := 46) X dX5_ifCalled_33 (by decide) (fun c_33 => ?_) (fun c_33 => h.elim (fun w => absurd c_23 (Bool.eq_false_iff.mp w)) (fun w => absurd (bI_0 w) c_33))
    refine g_aload_n X dX5_ifCalled_46 rfl rfl ?_
    refine g_iconstN X 2 dX5_ifCalled_47 ?_
    refine g_callVi (na := 1) X hj (k_X5_fails l γ _ _) gW_23 rfl gX5_ifCalled_X5_fails rfl ⟨rfl, rfl⟩ (by decide +kernel) rfl ⟨by decide, by decide⟩ rfl (Nat.le_of_ble_eq_true rfl) dX5_ifCalled_48 ⟨by decide, by decide⟩ ?_
    exact g_iret X hr hlk dX5_ifCalled_51 ⟨rfl, sM_ok σ _⟩
set_option maxRecDepth 20000 in
theorem k_X5_thinOf (l : Launch) (γ : gG) (σ : gS) (b prn L : Nat) (su : Nat → Nat) (hb : b < 10) (am : Int32) (hd : lfZ (σ.1 24) b = am) (hC : ruB (σ.1 24) b = true → CH (σ.1 24) b prn L su am) : gM l γ yX5_thinOf wsX5_thinOf ({ frames := 5, cells := 0, slots := 0, locals := 125 } : Room) [.ref (ad γ 23), .int (nI b)] σ (fun v2 σ2 => v2 = some (.int (thZ (σ.1 24) (σ.1 23) (σ.1 28) b prn L su am)) ∧ QM σ (σ.2 23 13) σ2) 0 0 := by
  refine g_enter (own := RX5) (cc := cX5_thinOf) (nL := 2) (ret := (some .int)) [some (.ref (ad γ 23)), some (.int (nI b))] (by decide) rfl rfl (by simp [lg_sl, Value.category]) (by simp [gl_le, glE, Value.category]) (fun hj p e s m args below meth c X hr hlk hnm => ?_)
  have hi5 : ∀ w ∈ wsX50, w ∈ wsX5_thinOf := by decide +kernel
  refine g_aload_n X dX5_thinOf_0 rfl rfl ?_
  refine g_iload_n X dX5_thinOf_1 rfl rfl ?_
  refine g_callVi (na := 1) X hj (k_X5_runs l γ _ _ (by omega)) gW_23 rfl gX5_thinOf_X5_runs rfl ⟨rfl, rfl⟩ (by decide +kernel) rfl ⟨by decide, by decide⟩ rfl (Nat.le_of_ble_eq_true rfl) dX5_thinOf_2 ⟨by decide, by decide⟩ ?_
  refine g_if_ne (tgt := 10) X dX5_thinOf_5 (by decide) (fun c_5 => ?_) (fun c_5 => ?_)
  · replace c_5 := bI_t c_5
    replace hC := hC c_5
    refine g_aload_n X dX5_thinOf_10 rfl rfl ?_
    refine g_callVv (na := 0) X hj (k_X5_putAside l γ _) gW_23 rfl gX5_thinOf_X5_putAside rfl ⟨rfl, rfl⟩ (by decide +kernel) rfl ⟨by decide, by decide⟩ rfl (Nat.le_of_ble_eq_true rfl) dX5_thinOf_11 ⟨by decide, by decide⟩ ?_
    refine g_eq rfl (σ' := mW (sA σ 26 (cp431 (σ.1 24) (σ.1 26) 431)) (σ.1 24) (σ.1 23) (σ.1 28)) (mW_id (sA σ 26 (cp431 (σ.1 24) (σ.1 26) 431))).symm ?_
    refine g_aload_n X dX5_thinOf_14 rfl rfl ?_
    refine g_iload_n X dX5_thinOf_15 rfl rfl ?_
    refine g_aload_n X dX5_thinOf_16 rfl rfl ?_
    refine g_iload_n X dX5_thinOf_17 rfl rfl ?_
    refine g_callVi (na := 1) X hj (k_X5_leftOf l γ _ _ (by omega)) gW_23 rfl gX5_thinOf_X5_leftOf rfl ⟨rfl, rfl⟩ (by decide +kernel) rfl ⟨by decide, by decide⟩ rfl (Nat.le_of_ble_eq_true rfl) dX5_thinOf_18 ⟨by decide, by decide⟩ ?_
    refine g_top hd ?_
    refine g_callVv (na := 2) X hj (k_X5_callNow l γ _ _ _ _ b prn L su am hb hC) gW_23 rfl gX5_thinOf_X5_callNow rfl ⟨rfl, rfl⟩ (by decide +kernel) rfl ⟨by decide, by decide⟩ rfl (Nat.le_of_ble_eq_true rfl) dX5_thinOf_21 ⟨by decide, by decide⟩ ?_
    refine g_aload_n X dX5_thinOf_24 rfl rfl ?_
    refine g_callVv (na := 0) X hj (k_X5_putBack l γ _) gW_23 rfl gX5_thinOf_X5_putBack rfl ⟨rfl, rfl⟩ (by decide +kernel) rfl ⟨by decide, by decide⟩ rfl (Nat.le_of_ble_eq_true rfl) dX5_thinOf_25 ⟨by decide, by decide⟩ ?_
    refine g_eq rfl (σ' := mV σ (cp431 (σ.1 24) (σ.1 26) 431) (cnF (σ.1 24) (σ.1 23) (σ.1 28) b prn L su am) (cnSh (σ.1 24) (σ.1 28) b prn L am) (σ.2 23 13)) (aside_eq σ (cp431 (σ.1 24) (σ.1 26) 431) (cnF (σ.1 24) (σ.1 23) (σ.1 28) b prn L su am) (cnSh (σ.1 24) (σ.1 28) b prn L am) (cnZ (σ.1 24) (σ.1 23) (σ.1 28) b prn L su am) (cp_back hb hC)) ?_
    refine g_aload_n X dX5_thinOf_28 rfl rfl ?_
    refine g_get_23_9 X hi5 (by decide +kernel) dX5_thinOf_29 ?_
    exact g_iret X hr hlk dX5_thinOf_32 ⟨by unfold thZ; rw [if_pos c_5]; rfl, _, _, _, rfl, fun k h7 h8 h9 => cnF_k h7 h8 h9⟩
  · replace c_5 := bI_f c_5
    refine g_iconst (v := -1) X dX5_thinOf_8 (by decide) ?_
    exact g_iret X hr hlk dX5_thinOf_9 ⟨by unfold thZ; rw [if_neg (by rw [c_5]; decide)], QM.rf σ⟩
set_option maxRecDepth 20000 in
theorem k_X5_thin (l : Launch) (γ : gG) (σ : gS) (b prn L : Nat) (su : Nat → Nat) (hb : b < 10) (am : Int32) (hd : lfZ (σ.1 24) b = am) (N : Nat) (hN : σ.1 24 0 = nI N) (hN10 : N ≤ 10) (hbN : b < N) (hC : ruB (σ.1 24) b = true → CH (σ.1 24) b prn L su am) : gM l γ yX5_thin wsX5_thin ({ frames := 6, cells := 0, slots := 0, locals := 146 } : Room) [.ref (ad γ 23), .int (nI b)] σ (fun v2 σ2 => v2 = some (.int (thZ (σ.1 24) ((okM σ).1 23) (σ.1 28) b prn L su am)) ∧ QM (okM σ) (σ.2 23 13) σ2) 0 0 := by
  refine g_enter (own := RX5) (cc := cX5_thin) (nL := 2) (ret := (some .int)) [some (.ref (ad γ 23)), some (.int (nI b))] (by decide) rfl rfl (by simp [lg_sl, Value.category]) (by simp [gl_le, glE, Value.category]) (fun hj p e s m args below meth c X hr hlk hnm => ?_)
  have hi5 : ∀ w ∈ wsX50, w ∈ wsX5_thin := by decide +kernel
  refine g_aload_n X dX5_thin_0 rfl rfl ?_
  refine g_iconstN X 0 dX5_thin_1 ?_
  refine g_put_23_6 X hi5 (by decide +kernel) dX5_thin_2 ?_
  refine g_eq rfl (σ' := okM σ) rfl ?_
  refine g_aload_n X dX5_thin_5 rfl rfl ?_
  refine g_iload_n X dX5_thin_6 rfl rfl ?_
  refine g_callVi (na := 1) X hj (k_X5_isBond l γ _ _) gW_23 rfl gX5_thin_X5_isBond rfl ⟨rfl, rfl⟩ (by decide +kernel) rfl ⟨by decide, by decide⟩ rfl (Nat.le_of_ble_eq_true rfl) dX5_thin_7 ⟨by decide, by decide⟩ ?_
  refine g_if_eq (tgt := 21) X dX5_thin_10 (by decide) (fun c_10 => absurd c_10 (bI_1 (isB_1 hN hbN hN10))) (fun c_10 => ?_)
  refine g_aload_n X dX5_thin_13 rfl rfl ?_
  refine g_iload_n X dX5_thin_14 rfl rfl ?_
  refine g_callV (na := 1) X hj _ (k_X5_thinOf l γ (okM σ) b prn L su hb am hd hC) gW_23 rfl gX5_thin_X5_thinOf rfl ⟨rfl, rfl⟩ (by decide +kernel) rfl ⟨by decide, by decide⟩ rfl (Nat.le_of_ble_eq_true rfl) dX5_thin_15 ⟨by decide, by decide⟩ ?_
  rintro v2 σ2 ⟨rfl, hq⟩
  refine g_goto (tgt := 26) X dX5_thin_18 (by decide) ?_
  exact g_iret X hr hlk dX5_thin_26 ⟨rfl, hq⟩
set_option maxRecDepth 20000 in
theorem k_X5_thin_1 (l : Launch) (γ : gG) (σ : gS) (y : Int32) (h : inB y (nI 0) (σ.1 24 0 - nI 1) = false) : gM l γ yX5_thin wsX5_thin ({ frames := 6, cells := 0, slots := 0, locals := 146 } : Room) [.ref (ad γ 23), .int y] σ (gis (some (.int (nI 0))) (sM σ 6 (nI 1))) 0 0 := by
  refine g_enter (own := RX5) (cc := cX5_thin) (nL := 2) (ret := (some .int)) [some (.ref (ad γ 23)), some (.int y)] (by decide) rfl rfl (by simp [lg_sl, Value.category]) (by simp [gl_le, glE, Value.category]) (fun hj p e s m args below meth c X hr hlk hnm => ?_)
  have hi5 : ∀ w ∈ wsX50, w ∈ wsX5_thin := by decide +kernel
  refine g_aload_n X dX5_thin_0 rfl rfl ?_
  refine g_iconstN X 0 dX5_thin_1 ?_
  refine g_put_23_6 X hi5 (by decide +kernel) dX5_thin_2 ?_
  refine g_eq rfl (σ' := okM σ) rfl ?_
  refine g_aload_n X dX5_thin_5 rfl rfl ?_
  refine g_iload_n X dX5_thin_6 rfl rfl ?_
  refine g_callVi (na := 1) X hj (k_X5_isBond l γ _ _) gW_23 rfl gX5_thin_X5_isBond rfl ⟨rfl, rfl⟩ (by decide +kernel) rfl ⟨by decide, by decide⟩ rfl (Nat.le_of_ble_eq_true rfl) dX5_thin_7 ⟨by decide, by decide⟩ ?_
  refine g_if_eq (tgt := 21) X dX5_thin_10 (by decide) (fun c_10 => ?_) (fun c_10 => absurd (bI_0 h) c_10)
  refine g_aload_n X dX5_thin_21 rfl rfl ?_
  refine g_iconstN X 1 dX5_thin_22 ?_
  refine g_callVi (na := 1) X hj (k_X5_fails l γ _ _) gW_23 rfl gX5_thin_X5_fails rfl ⟨rfl, rfl⟩ (by decide +kernel) rfl ⟨by decide, by decide⟩ rfl (Nat.le_of_ble_eq_true rfl) dX5_thin_23 ⟨by decide, by decide⟩ ?_
  exact g_iret X hr hlk dX5_thin_26 ⟨rfl, sM_ok σ _⟩
set_option maxRecDepth 20000 in
theorem k_X5_worstOf (l : Launch) (γ : gG) (σ : gS) (N : Nat) (L prn : Nat → Nat) (su : Nat → Nat → Nat) (ef : Nat → Nat → Int32) (th lo : Nat → Int32) (hN : σ.1 24 0 = nI N) (hN10 : N ≤ 10) (hBZ : ∀ b, b < N → BZA (σ.1 24) b (prn b) (L b) (su b) (ef b) (th b) (lo b)) : gM l γ yX5_worstOf wsX5_worstOf ({ frames := 6, cells := 0, slots := 0, locals := 149 } : Room) [.ref (ad γ 23)] σ (fun v2 σ2 => v2 = some (.int (woI lo N).1) ∧ QM σ (σ.2 23 13) σ2) 0 0 := by
  refine g_enter (own := RX5) (cc := cX5_worstOf) (nL := 5) (ret := (some .int)) [some (.ref (ad γ 23)), none, none, none, none] (by decide) rfl rfl (by simp [lg_sl, Value.category]) (by simp [gl_le, glE, Value.category]) (fun hj p e s m args below meth c X hr hlk hnm => ?_)
  have hi5 : ∀ w ∈ wsX50, w ∈ wsX5_worstOf := by decide +kernel
  refine g_iconst (v := -1) X dX5_worstOf_0 (by decide) ?_
  refine g_istore_n1 X dX5_worstOf_1 rfl (by decide) rfl ?_
  refine g_iconstN X 0 dX5_worstOf_2 ?_
  refine g_istore_n2 X dX5_worstOf_3 rfl (by decide) rfl ?_
  refine g_iconstN X 0 dX5_worstOf_4 ?_
  refine g_istore_n3 X dX5_worstOf_5 rfl (by decide) rfl ?_
  refine g_wf (fun r ls τ => ∃ (i : Nat), i + r = N ∧ QM σ (σ.2 23 13) τ ∧ gl_le [some (.ref (ad γ 23)), some (.int (woI lo i).1), some (.int (woI lo i).2), some (.int (nI i)), none] ls) N ⟨0, by omega, QM.rf σ, by simp [gl_le, woI]⟩ (fun r ls τ hI ih => ?_)
  obtain ⟨i, hi, hq, hgl⟩ := hI
  have hc := hq.c
  refine g_le hgl ?_
  refine g_iload_n X dX5_worstOf_6 rfl rfl ?_
  refine g_aload_n X dX5_worstOf_7 rfl rfl ?_
  refine g_get_23_0 X hi5 (by decide +kernel) dX5_worstOf_8 ?_
  refine g_iconstN X 0 dX5_worstOf_11 ?_
  refine g_ald_24 X rfl (by omega) dX5_worstOf_12 ?_
  refine g_top (y := nI N) (by rw [hc]; exact hN) ?_
  refine g_icmpN_ge (tgt := 60) X dX5_worstOf_13 (by decide) (by omega) (by omega) (fun c_13 => ?_) (fun c_13 => ?_)
  · have e : i = N := by omega
    subst e
    refine g_iload_n X dX5_worstOf_60 rfl rfl ?_
    exact g_iret X hr hlk dX5_worstOf_61 ⟨rfl, hq⟩
  · have hZ := hBZ i c_13
    refine g_aload_n X dX5_worstOf_16 rfl rfl ?_
    refine g_iload_n X dX5_worstOf_17 rfl rfl ?_
    refine g_aload_n X dX5_worstOf_18 rfl rfl ?_
    refine g_iload_n X dX5_worstOf_19 rfl rfl ?_
    refine g_callVi (na := 1) X hj (k_X5_leftOf l γ _ _ (by omega)) gW_23 rfl gX5_worstOf_X5_leftOf rfl ⟨rfl, rfl⟩ (by decide +kernel) rfl ⟨by decide, by decide⟩ rfl (Nat.le_of_ble_eq_true rfl) dX5_worstOf_20 ⟨by decide, by decide⟩ ?_
    refine g_iconstN X 1 dX5_worstOf_23 ?_
    refine g_callV (na := 3) X hj _ (k_X5_calledOf l γ τ i (prn i) (L i) (su i) (by omega) _ 1 (by omega) (by rw [hc]; exact fun w => (hZ.1 w).2.1)) gW_23 rfl gX5_worstOf_X5_calledOf rfl ⟨rfl, rfl⟩ (by decide +kernel) rfl ⟨by decide, by decide⟩ rfl (Nat.le_of_ble_eq_true rfl) dX5_worstOf_24 ⟨by decide, by decide⟩ ?_
    rintro v2 τ2 ⟨rfl, hq2⟩
    have hq3 := hq.tr hq2
    rw [hq.h] at hq3
    clear hq2
    replace hq := hq3
    rw [hc, hZ.lo]
    replace hc := hq.c
    refine g_istore_s4 X dX5_worstOf_27 (by decide) rfl ?_
    refine g_iload X dX5_worstOf_29 rfl ?_
    refine g_iload_n X dX5_worstOf_31 rfl rfl ?_
    refine g_icmp_le (tgt := 39) X dX5_worstOf_32 (by decide) (fun c_32 => ?_) (fun c_32 => ?_)
    · refine g_iload_n X dX5_worstOf_39 rfl rfl ?_
      refine g_istore_n1 X dX5_worstOf_40 rfl (by decide) rfl ?_
      refine g_iload X dX5_worstOf_41 rfl ?_
      refine g_iload_n X dX5_worstOf_43 rfl rfl ?_
      refine g_icmp_le (tgt := 52) X dX5_worstOf_44 (by decide) (fun c_44 => ?_) (fun c_44 => ?_)
      · refine g_iload_n X dX5_worstOf_52 rfl rfl ?_
        refine g_istore_n2 X dX5_worstOf_53 rfl (by decide) rfl ?_
        refine g_iincN3 (d := 1) X dX5_worstOf_54 (by decide) rfl ?_
        refine g_goto (tgt := 6) X dX5_worstOf_57 (by decide) ?_
        first | exact absurd c_32 c_44 | exact absurd c_44 c_32 | (refine ih (r - 1) (by omega) _ _ ⟨i + 1, by omega, hq, ?_⟩; have q9 := c_44; first | (simp only [woI, if_pos q9]; simp [gl_le]; done) | (simp only [woI, if_neg q9]; simp [gl_le]; done))
      · refine g_iload X dX5_worstOf_47 rfl ?_
        refine g_goto (tgt := 53) X dX5_worstOf_49 (by decide) ?_
        refine g_istore_n2 X dX5_worstOf_53 rfl (by decide) rfl ?_
        refine g_iincN3 (d := 1) X dX5_worstOf_54 (by decide) rfl ?_
        refine g_goto (tgt := 6) X dX5_worstOf_57 (by decide) ?_
        first | exact absurd c_32 c_44 | exact absurd c_44 c_32 | (refine ih (r - 1) (by omega) _ _ ⟨i + 1, by omega, hq, ?_⟩; have q9 := c_44; first | (simp only [woI, if_pos q9]; simp [gl_le]; done) | (simp only [woI, if_neg q9]; simp [gl_le]; done))
    · refine g_iload_n X dX5_worstOf_35 rfl rfl ?_
      refine g_goto (tgt := 40) X dX5_worstOf_36 (by decide) ?_
      refine g_istore_n1 X dX5_worstOf_40 rfl (by decide) rfl ?_
      refine g_iload X dX5_worstOf_41 rfl ?_
      refine g_iload_n X dX5_worstOf_43 rfl rfl ?_
      refine g_icmp_le (tgt := 52) X dX5_worstOf_44 (by decide) (fun c_44 => ?_) (fun c_44 => ?_)
      · refine g_iload_n X dX5_worstOf_52 rfl rfl ?_
        refine g_istore_n2 X dX5_worstOf_53 rfl (by decide) rfl ?_
        refine g_iincN3 (d := 1) X dX5_worstOf_54 (by decide) rfl ?_
        refine g_goto (tgt := 6) X dX5_worstOf_57 (by decide) ?_
        first | exact absurd c_32 c_44 | exact absurd c_44 c_32 | (refine ih (r - 1) (by omega) _ _ ⟨i + 1, by omega, hq, ?_⟩; have q9 := c_44; first | (simp only [woI, if_pos q9]; simp [gl_le]; done) | (simp only [woI, if_neg q9]; simp [gl_le]; done))
      · refine g_iload X dX5_worstOf_47 rfl ?_
        refine g_goto (tgt := 53) X dX5_worstOf_49 (by decide) ?_
        refine g_istore_n2 X dX5_worstOf_53 rfl (by decide) rfl ?_
        refine g_iincN3 (d := 1) X dX5_worstOf_54 (by decide) rfl ?_
        refine g_goto (tgt := 6) X dX5_worstOf_57 (by decide) ?_
        first | exact absurd c_32 c_44 | exact absurd c_44 c_32 | (refine ih (r - 1) (by omega) _ _ ⟨i + 1, by omega, hq, ?_⟩; have q9 := c_44; first | (simp only [woI, if_pos q9]; simp [gl_le]; done) | (simp only [woI, if_neg q9]; simp [gl_le]; done))
set_option maxRecDepth 20000 in
theorem k_X5_worst (l : Launch) (γ : gG) (σ : gS) (N : Nat) (L prn : Nat → Nat) (su : Nat → Nat → Nat) (ef : Nat → Nat → Int32) (th lo : Nat → Int32) (hN : σ.1 24 0 = nI N) (hN10 : N ≤ 10) (hBZ : ∀ b, b < N → BZA (σ.1 24) b (prn b) (L b) (su b) (ef b) (th b) (lo b)) : gM l γ yX5_worst wsX5_worst ({ frames := 7, cells := 0, slots := 0, locals := 173 } : Room) [.ref (ad γ 23)] σ (fun v2 σ2 => v2 = some (.int (woI lo N).1) ∧ QM (okM σ) (σ.2 23 13) σ2) 0 0 := by
  refine g_enter (own := RX5) (cc := cX5_worst) (nL := 1) (ret := (some .int)) [some (.ref (ad γ 23))] (by decide) rfl rfl (by simp [lg_sl, Value.category]) (by simp [gl_le, glE, Value.category]) (fun hj p e s m args below meth c X hr hlk hnm => ?_)
  have hi5 : ∀ w ∈ wsX50, w ∈ wsX5_worst := by decide +kernel
  refine g_aload_n X dX5_worst_0 rfl rfl ?_
  refine g_iconstN X 0 dX5_worst_1 ?_
  refine g_put_23_6 X hi5 (by decide +kernel) dX5_worst_2 ?_
  refine g_eq rfl (σ' := okM σ) rfl ?_
  refine g_aload_n X dX5_worst_5 rfl rfl ?_
  refine g_callV (na := 0) X hj _ (k_X5_worstOf l γ (okM σ) N L prn su ef th lo hN hN10 hBZ) gW_23 rfl gX5_worst_X5_worstOf rfl ⟨rfl, rfl⟩ (by decide +kernel) rfl ⟨by decide, by decide⟩ rfl (Nat.le_of_ble_eq_true rfl) dX5_worst_6 ⟨by decide, by decide⟩ ?_
  rintro v2 σ2 ⟨rfl, hq⟩
  exact g_iret X hr hlk dX5_worst_9 ⟨rfl, hq⟩
set_option maxRecDepth 20000 in
theorem k_X5_shareOf (l : Launch) (γ : gG) (σ : gS) (hnan : σ.1 24 2 = 0 ∨ vf_n64 (FP.ddiv (FP.i2d (σ.1 24 3)) (FP.i2d (σ.1 24 2)))) : gM l γ yX5_shareOf wsX5_shareOf ({ frames := 0, cells := 0, slots := 0, locals := 0 } : Room) [.ref (ad γ 23)] σ (gis (some (.double (psD (σ.1 24 2) (σ.1 24 3)))) σ) 0 0 := by
  refine g_enter (own := RX5) (cc := cX5_shareOf) (nL := 1) (ret := (some .double)) [some (.ref (ad γ 23))] (by decide) rfl rfl (by simp [lg_sl, Value.category]) (by simp [gl_le, glE, Value.category]) (fun hj p e s m args below meth c X hr hlk hnm => ?_)
  have hi5 : ∀ w ∈ wsX50, w ∈ wsX5_shareOf := by decide +kernel
  refine g_aload_n X dX5_shareOf_0 rfl rfl ?_
  refine g_get_23_0 X hi5 (by decide +kernel) dX5_shareOf_1 ?_
  refine g_iconstN X 2 dX5_shareOf_4 ?_
  refine g_ald_24 X rfl (by omega) dX5_shareOf_5 ?_
  refine g_if_ne (tgt := 13) X dX5_shareOf_6 (by decide) (fun c_6 => ?_) (fun c_6 => ?_)
  · refine g_aload_n X dX5_shareOf_13 rfl rfl ?_
    refine g_get_23_0 X hi5 (by decide +kernel) dX5_shareOf_14 ?_
    refine g_iconstN X 3 dX5_shareOf_17 ?_
    refine g_ald_24 X rfl (by omega) dX5_shareOf_18 ?_
    refine g_i2d X dX5_shareOf_19 ?_
    refine g_aload_n X dX5_shareOf_20 rfl rfl ?_
    refine g_get_23_0 X hi5 (by decide +kernel) dX5_shareOf_21 ?_
    refine g_iconstN X 2 dX5_shareOf_24 ?_
    refine g_ald_24 X rfl (by omega) dX5_shareOf_25 ?_
    refine g_i2d X dX5_shareOf_26 ?_
    refine g_ddiv X dX5_shareOf_27 (hnan.resolve_left c_6) ?_
    exact g_dret X hr hlk dX5_shareOf_28 ⟨by unfold psD; first | (rw [if_pos c_6]; done) | (rw [if_neg c_6]; done), rfl⟩
  · refine g_dconst1 X dX5_shareOf_9 ?_
    refine g_goto (tgt := 28) X dX5_shareOf_10 (by decide) ?_
    exact g_dret X hr hlk dX5_shareOf_28 ⟨by unfold psD; first | (rw [if_pos c_6]; done) | (rw [if_neg c_6]; done), rfl⟩
set_option maxRecDepth 20000 in
theorem k_X5_paidShare (l : Launch) (γ : gG) (σ : gS) (hnan : σ.1 24 2 = 0 ∨ vf_n64 (FP.ddiv (FP.i2d (σ.1 24 3)) (FP.i2d (σ.1 24 2)))) : gM l γ yX5_paidShare wsX5_paidShare ({ frames := 1, cells := 0, slots := 0, locals := 20 } : Room) [.ref (ad γ 23)] σ (gis (some (.double (psD (σ.1 24 2) (σ.1 24 3)))) (okM σ)) 0 0 := by
  refine g_enter (own := RX5) (cc := cX5_paidShare) (nL := 1) (ret := (some .double)) [some (.ref (ad γ 23))] (by decide) rfl rfl (by simp [lg_sl, Value.category]) (by simp [gl_le, glE, Value.category]) (fun hj p e s m args below meth c X hr hlk hnm => ?_)
  have hi5 : ∀ w ∈ wsX50, w ∈ wsX5_paidShare := by decide +kernel
  refine g_aload_n X dX5_paidShare_0 rfl rfl ?_
  refine g_iconstN X 0 dX5_paidShare_1 ?_
  refine g_put_23_6 X hi5 (by decide +kernel) dX5_paidShare_2 ?_
  refine g_eq rfl (σ' := okM σ) rfl ?_
  refine g_aload_n X dX5_paidShare_5 rfl rfl ?_
  refine g_callVd (na := 0) X hj (k_X5_shareOf l γ _ hnan) gW_23 rfl gX5_paidShare_X5_shareOf rfl ⟨rfl, rfl⟩ (by decide +kernel) rfl ⟨by decide, by decide⟩ rfl (Nat.le_of_ble_eq_true rfl) dX5_paidShare_6 ⟨by decide, by decide⟩ ?_
  exact g_dret X hr hlk dX5_paidShare_9 ⟨rfl, rfl⟩
set_option maxRecDepth 20000 in
theorem k_X5_mix (l : Launch) (γ : gG) (σ : gS) (x : Int64) : gM l γ yX5_mix wsX5_mix ({ frames := 0, cells := 0, slots := 0, locals := 0 } : Room) [.ref (ad γ 23), .long x] σ (gis none (hM σ (mixI (σ.2 23 13) x))) 0 0 := by
  refine g_enter (own := RX5) (cc := cX5_mix) (nL := 3) (ret := none) [some (.ref (ad γ 23)), some (.long x), none] (by decide) rfl rfl (by simp [lg_sl, Value.category]) (by simp [gl_le, glE, Value.category]) (fun hj p e s m args below meth c X hr hlk hnm => ?_)
  have hi5 : ∀ w ∈ wsX50, w ∈ wsX5_mix := by decide +kernel
  refine g_aload_n X dX5_mix_0 rfl rfl ?_
  refine g_ldc2 (v := 31) X (by decide +kernel) dX5_mix_1 ?_
  refine g_aload_n X dX5_mix_4 rfl rfl ?_
  refine g_get_23_13 X hi5 (by decide +kernel) dX5_mix_5 ?_
  refine g_lmul X dX5_mix_8 ?_
  refine g_lload_n X dX5_mix_9 rfl rfl ?_
  refine g_ladd X dX5_mix_10 ?_
  refine g_put_23_13 X hi5 (by decide +kernel) dX5_mix_11 ?_
  exact g_vret X hr hlk dX5_mix_14 ⟨rfl, rfl⟩
set_option maxRecDepth 20000 in
theorem k_X5_mixPerson (l : Launch) (γ : gG) (σ : gS) (q : Nat) (hq : q < 8) (N : Nat) (L : Nat → Nat) (hS : SZ (σ.1 24) N L) (hch : chOK (σ.1 24) 8 (σ.1 24 (17 + q))) : gM l γ yX5_mixPerson wsX5_mixPerson ({ frames := 4, cells := 0, slots := 0, locals := 87 } : Room) [.ref (ad γ 23), .int (nI q)] σ (gis none (hM σ (prZ (σ.1 24) N L q (σ.2 23 13)))) 0 0 := by
  refine g_enter (own := RX5) (cc := cX5_mixPerson) (nL := 3) (ret := none) [some (.ref (ad γ 23)), some (.int (nI q)), none] (by decide) rfl rfl (by simp [lg_sl, Value.category]) (by simp [gl_le, glE, Value.category]) (fun hj p e s m args below meth c X hr hlk hnm => ?_)
  have hi5 : ∀ w ∈ wsX50, w ∈ wsX5_mixPerson := by decide +kernel
  refine g_iconstN X 0 dX5_mixPerson_0 ?_
  refine g_istore_n2 X dX5_mixPerson_1 rfl (by decide) rfl ?_
  refine g_up (i0 := 0) (N := 11) (fun i => [some (.ref (ad γ 23)), some (.int (nI q)), some (.int (nI i))]) (fun i => hM σ (dgF (fun w => (perZ (σ.1 24) N L q w).toInt64) i (σ.2 23 13))) (by simp [gl_le]) (by rw [dgF, hM_id]) (by omega) (fun i hi ih2 => ?_)
  refine g_iload_n X dX5_mixPerson_2 rfl rfl ?_
  refine g_bipush (v := nI 11) X dX5_mixPerson_3 (by decide) ?_
  refine g_icmpN_ge (tgt := 25) X dX5_mixPerson_5 (by decide) (by omega) (by omega) (fun c_5 => ?_) (fun c_5 => ?_)
  · have e : i = 11 := by omega
    subst e
    refine g_aload_n X dX5_mixPerson_25 rfl rfl ?_
    refine g_aload_n X dX5_mixPerson_26 rfl rfl ?_
    refine g_iload_n X dX5_mixPerson_27 rfl rfl ?_
    refine g_callVi (na := 1) X hj (k_X5_spareOf l γ _ N L _ hS (by omega)) gW_23 rfl gX5_mixPerson_X5_spareOf rfl ⟨rfl, rfl⟩ (by decide +kernel) rfl ⟨by decide, by decide⟩ rfl (Nat.le_of_ble_eq_true rfl) dX5_mixPerson_28 ⟨by decide, by decide⟩ ?_
    refine g_i2l X dX5_mixPerson_31 rfl ?_
    refine g_callVv (na := 1) X hj (k_X5_mix l γ _ _) gW_23 rfl gX5_mixPerson_X5_mix rfl ⟨rfl, rfl⟩ (by decide +kernel) rfl ⟨by decide, by decide⟩ rfl (Nat.le_of_ble_eq_true rfl) dX5_mixPerson_32 ⟨by decide, by decide⟩ ?_
    simp only [hM_hM, hM_h, hM_1]
    refine g_iconstN X 0 dX5_mixPerson_35 ?_
    refine g_istore_n2 X dX5_mixPerson_36 rfl (by decide) rfl ?_
    refine g_up (i0 := 0) (N := 8) (fun i => [some (.ref (ad γ 23)), some (.int (nI q)), some (.int (nI i))]) (fun i => hM σ (dgF (fun o => (σ.1 24 (57 + 8 * q + o)).toInt64) i (mixI (dgF (fun w => (perZ (σ.1 24) N L q w).toInt64) 11 (σ.2 23 13)) (spZ (σ.1 24) N L q).toInt64))) (by simp [gl_le]) (by rw [dgF]) (by omega) (fun i hi ih37 => ?_)
    refine g_iload_n X dX5_mixPerson_37 rfl rfl ?_
    refine g_bipush (v := nI 8) X dX5_mixPerson_38 (by decide) ?_
    refine g_icmpN_ge (tgt := 64) X dX5_mixPerson_40 (by decide) (by omega) (by omega) (fun c_40 => ?_) (fun c_40 => ?_)
    · have e : i = 8 := by omega
      subst e
      exact g_vret X hr hlk dX5_mixPerson_64 ⟨rfl, rfl⟩
    · refine g_aload_n X dX5_mixPerson_43 rfl rfl ?_
      refine g_aload_n X dX5_mixPerson_44 rfl rfl ?_
      refine g_get_23_0 X hi5 (by decide +kernel) dX5_mixPerson_45 ?_
      refine g_iload_n X dX5_mixPerson_48 rfl rfl ?_
      refine g_iload_n X dX5_mixPerson_49 rfl rfl ?_
      refine g_callSi (na := 2) X hj (k_X5_debtAt l γ _ _ _) gX5_mixPerson_X5_debtAt rfl ⟨rfl, rfl⟩ (by decide +kernel) rfl ⟨by decide, by decide⟩ rfl (Nat.le_of_ble_eq_true rfl) dX5_mixPerson_50 ⟨by decide, by decide⟩ ?_
      refine g_ald_24 X rfl (by omega) dX5_mixPerson_53 ?_
      refine g_i2l X dX5_mixPerson_54 rfl ?_
      refine g_callVv (na := 1) X hj (k_X5_mix l γ _ _) gW_23 rfl gX5_mixPerson_X5_mix rfl ⟨rfl, rfl⟩ (by decide +kernel) rfl ⟨by decide, by decide⟩ rfl (Nat.le_of_ble_eq_true rfl) dX5_mixPerson_55 ⟨by decide, by decide⟩ ?_
      refine g_iincN2 (d := 1) X dX5_mixPerson_58 (by decide) rfl ?_
      refine g_goto (tgt := 37) X dX5_mixPerson_61 (by decide) ?_
      simp only [hM_hM, hM_h]
      exact g_le (by simp [gl_le]) (ih37 (by omega))
  · refine g_aload_n X dX5_mixPerson_8 rfl rfl ?_
    refine g_aload_n X dX5_mixPerson_9 rfl rfl ?_
    refine g_iload_n X dX5_mixPerson_10 rfl rfl ?_
    refine g_iload_n X dX5_mixPerson_11 rfl rfl ?_
    refine g_callVi (na := 2) X hj (k_X5_personOf l γ _ _ _ (by omega) (by omega) N L hS hch) gW_23 rfl gX5_mixPerson_X5_personOf rfl ⟨rfl, rfl⟩ (by decide +kernel) rfl ⟨by decide, by decide⟩ rfl (Nat.le_of_ble_eq_true rfl) dX5_mixPerson_12 ⟨by decide, by decide⟩ ?_
    refine g_i2l X dX5_mixPerson_15 rfl ?_
    refine g_callVv (na := 1) X hj (k_X5_mix l γ _ _) gW_23 rfl gX5_mixPerson_X5_mix rfl ⟨rfl, rfl⟩ (by decide +kernel) rfl ⟨by decide, by decide⟩ rfl (Nat.le_of_ble_eq_true rfl) dX5_mixPerson_16 ⟨by decide, by decide⟩ ?_
    refine g_iincN2 (d := 1) X dX5_mixPerson_19 (by decide) rfl ?_
    refine g_goto (tgt := 2) X dX5_mixPerson_22 (by decide) ?_
    simp only [hM_hM, hM_h]
    exact g_le (by simp [gl_le]) (ih2 (by omega))
set_option maxRecDepth 20000 in
theorem k_X5_mixBond (l : Launch) (γ : gG) (σ : gS) (b L : Nat) (hb : b < 10) (hL : σ.1 24 (121 + 31 * b + 3) = nI L) (hL4 : L ≤ 4) (prn : Nat) (su : Nat → Nat) (ef : Nat → Int32) (th lo : Int32) (hZ : BZA (σ.1 24) b prn L su ef th lo) : gM l γ yX5_mixBond wsX5_mixBond ({ frames := 6, cells := 0, slots := 0, locals := 149 } : Room) [.ref (ad γ 23), .int (nI b)] σ (fun v2 σ2 => v2 = none ∧ QM σ (boH (σ.1 24) b L ef th (σ.2 23 13)) σ2) 0 0 := by
  refine g_enter (own := RX5) (cc := cX5_mixBond) (nL := 3) (ret := none) [some (.ref (ad γ 23)), some (.int (nI b)), none] (by decide) rfl rfl (by simp [lg_sl, Value.category]) (by simp [gl_le, glE, Value.category]) (fun hj p e s m args below meth c X hr hlk hnm => ?_)
  have hi5 : ∀ w ∈ wsX50, w ∈ wsX5_mixBond := by decide +kernel
  refine g_iconstN X 0 dX5_mixBond_0 ?_
  refine g_istore_n2 X dX5_mixBond_1 rfl (by decide) rfl ?_
  refine g_up (i0 := 0) (N := 12) (fun i => [some (.ref (ad γ 23)), some (.int (nI b)), some (.int (nI i))]) (fun i => hM σ (dgF (fun w => (bonZ (σ.1 24) b L w).toInt64) i (σ.2 23 13))) (by simp [gl_le]) (by rw [dgF, hM_id]) (by omega) (fun i hi ih2 => ?_)
  refine g_iload_n X dX5_mixBond_2 rfl rfl ?_
  refine g_bipush (v := nI 12) X dX5_mixBond_3 (by decide) ?_
  refine g_icmpN_ge (tgt := 25) X dX5_mixBond_5 (by decide) (by omega) (by omega) (fun c_5 => ?_) (fun c_5 => ?_)
  · have e : i = 12 := by omega
    subst e
    refine g_iconstN X 0 dX5_mixBond_25 ?_
    refine g_istore_n2 X dX5_mixBond_26 rfl (by decide) rfl ?_
    refine g_up (i0 := 0) (N := (4 * L)) (fun i => [some (.ref (ad γ 23)), some (.int (nI b)), some (.int (nI i))]) (fun i => hM σ (dgF (fun k => (σ.1 24 (121 + 31 * b + 15 + k)).toInt64) i (dgF (fun w => (bonZ (σ.1 24) b L w).toInt64) 12 (σ.2 23 13)))) (by simp [gl_le]) (by rw [dgF]) (by omega) (fun i hi ih27 => ?_)
    refine g_iload_n X dX5_mixBond_27 rfl rfl ?_
    refine g_iconstN X 4 dX5_mixBond_28 ?_
    refine g_aload_n X dX5_mixBond_29 rfl rfl ?_
    refine g_get_23_0 X hi5 (by decide +kernel) dX5_mixBond_30 ?_
    refine g_iload_n X dX5_mixBond_33 rfl rfl ?_
    refine g_callSi (na := 1) X hj (k_X5_at l γ _ _) gX5_mixBond_X5_at rfl ⟨rfl, rfl⟩ (by decide +kernel) rfl ⟨by decide, by decide⟩ rfl (Nat.le_of_ble_eq_true rfl) dX5_mixBond_34 ⟨by decide, by decide⟩ ?_
    refine g_iconstN X 3 dX5_mixBond_37 ?_
    refine g_iaddN X dX5_mixBond_38 ?_
    refine g_ald_24 X rfl (by omega) dX5_mixBond_39 ?_
    refine g_top (y := nI L) hL ?_
    refine g_imulN X dX5_mixBond_40 ?_
    refine g_icmpN_ge (tgt := 69) X dX5_mixBond_41 (by decide) (by omega) (by omega) (fun c_41 => ?_) (fun c_41 => ?_)
    · have e : i = 4 * L := by omega
      subst e
      refine g_iconstN X 0 dX5_mixBond_69 ?_
      refine g_istore_n2 X dX5_mixBond_70 rfl (by decide) rfl ?_
      refine g_wf (fun r ls τ => ∃ (i : Nat), i + r = 11 ∧ QM σ (dgF (fun w => (ef w).toInt64) i (dgF (fun k => (σ.1 24 (121 + 31 * b + 15 + k)).toInt64) (4 * L) (dgF (fun w => (bonZ (σ.1 24) b L w).toInt64) 12 (σ.2 23 13)))) τ ∧ ls = [some (.ref (ad γ 23)), some (.int (nI b)), some (.int (nI i))]) 11 ⟨0, by omega, (QM.rf σ).hM _, rfl⟩ (fun r ls τ hI ih => ?_)
      obtain ⟨i, hi, hq, rfl⟩ := hI
      have hc := hq.c
      refine g_iload_n X dX5_mixBond_71 rfl rfl ?_
      refine g_bipush (v := nI 11) X dX5_mixBond_72 (by decide) ?_
      refine g_icmpN_ge (tgt := 97) X dX5_mixBond_74 (by decide) (by omega) (by omega) (fun c_74 => ?_) (fun c_74 => ?_)
      · have e : i = 11 := by omega
        subst e
        refine g_aload_n X dX5_mixBond_97 rfl rfl ?_
        refine g_aload_n X dX5_mixBond_98 rfl rfl ?_
        refine g_iload_n X dX5_mixBond_99 rfl rfl ?_
        refine g_callV (na := 1) X hj _ (k_X5_thinOf l γ τ b prn L su hb _ rfl (by rw [hc]; exact fun w => (hZ.1 w).2.1)) gW_23 rfl gX5_mixBond_X5_thinOf rfl ⟨rfl, rfl⟩ (by decide +kernel) rfl ⟨by decide, by decide⟩ rfl (Nat.le_of_ble_eq_true rfl) dX5_mixBond_100 ⟨by decide, by decide⟩ ?_
        rintro v2 τ2 ⟨rfl, hq2⟩
        have hq3 := hq.tr hq2
        rw [hq.h] at hq3
        clear hq2
        replace hq := hq3
        rw [hc, hZ.th]
        replace hc := hq.c
        refine g_i2l X dX5_mixBond_103 rfl ?_
        refine g_callVv (na := 1) X hj (k_X5_mix l γ _ _) gW_23 rfl gX5_mixBond_X5_mix rfl ⟨rfl, rfl⟩ (by decide +kernel) rfl ⟨by decide, by decide⟩ rfl (Nat.le_of_ble_eq_true rfl) dX5_mixBond_104 ⟨by decide, by decide⟩ ?_
        have q8 := hq.hM (mixI ((dgF (fun w => (ef w).toInt64) 11 (dgF (fun k => (σ.1 24 (121 + 31 * b + 15 + k)).toInt64) (4 * L) (dgF (fun w => (bonZ (σ.1 24) b L w).toInt64) 12 (σ.2 23 13))))) th.toInt64)
        simp only [hq.h]
        exact g_vret X hr hlk dX5_mixBond_107 ⟨rfl, q8⟩
      · refine g_aload_n X dX5_mixBond_77 rfl rfl ?_
        refine g_aload_n X dX5_mixBond_78 rfl rfl ?_
        refine g_iload_n X dX5_mixBond_79 rfl rfl ?_
        refine g_sipush (v := nI 1000) X dX5_mixBond_80 (by decide) ?_
        refine g_iload_n X dX5_mixBond_83 rfl rfl ?_
        refine g_callV (na := 3) X hj _ (k_X5_calledOf l γ τ b prn L su hb _ i (by omega) (by rw [hc]; exact fun w => (hZ.1 w).1)) gW_23 rfl gX5_mixBond_X5_calledOf rfl ⟨rfl, rfl⟩ (by decide +kernel) rfl ⟨by decide, by decide⟩ rfl (Nat.le_of_ble_eq_true rfl) dX5_mixBond_84 ⟨by decide, by decide⟩ ?_
        rintro v2 τ2 ⟨rfl, hq2⟩
        have hq3 := hq.tr hq2
        rw [hq.h] at hq3
        clear hq2
        replace hq := hq3
        rw [hc, show coZ (σ.1 24) (τ.1 23) (τ.1 28) b prn L su (nI 1000) i = ef i from hZ.ef (by omega)]
        replace hc := hq.c
        refine g_i2l X dX5_mixBond_87 rfl ?_
        refine g_callVv (na := 1) X hj (k_X5_mix l γ _ _) gW_23 rfl gX5_mixBond_X5_mix rfl ⟨rfl, rfl⟩ (by decide +kernel) rfl ⟨by decide, by decide⟩ rfl (Nat.le_of_ble_eq_true rfl) dX5_mixBond_88 ⟨by decide, by decide⟩ ?_
        refine g_iincN2 (d := 1) X dX5_mixBond_91 (by decide) rfl ?_
        refine g_goto (tgt := 71) X dX5_mixBond_94 (by decide) ?_
        refine ih (r - 1) (by omega) _ _ ⟨i + 1, by omega, ?_, rfl⟩
        have q8 := hq.hM (dgF (fun w => (ef w).toInt64) (i + 1) (dgF (fun k => (σ.1 24 (121 + 31 * b + 15 + k)).toInt64) (4 * L) (dgF (fun w => (bonZ (σ.1 24) b L w).toInt64) 12 (σ.2 23 13))))
        simp only [hq.h]
        exact q8
    · refine g_aload_n X dX5_mixBond_44 rfl rfl ?_
      refine g_aload_n X dX5_mixBond_45 rfl rfl ?_
      refine g_get_23_0 X hi5 (by decide +kernel) dX5_mixBond_46 ?_
      refine g_iload_n X dX5_mixBond_49 rfl rfl ?_
      refine g_callSi (na := 1) X hj (k_X5_at l γ _ _) gX5_mixBond_X5_at rfl ⟨rfl, rfl⟩ (by decide +kernel) rfl ⟨by decide, by decide⟩ rfl (Nat.le_of_ble_eq_true rfl) dX5_mixBond_50 ⟨by decide, by decide⟩ ?_
      refine g_bipush (v := nI 15) X dX5_mixBond_53 (by decide) ?_
      refine g_iaddN X dX5_mixBond_55 ?_
      refine g_iload_n X dX5_mixBond_56 rfl rfl ?_
      refine g_iaddN X dX5_mixBond_57 ?_
      refine g_ald_24 X rfl (by omega) dX5_mixBond_58 ?_
      refine g_i2l X dX5_mixBond_59 rfl ?_
      refine g_callVv (na := 1) X hj (k_X5_mix l γ _ _) gW_23 rfl gX5_mixBond_X5_mix rfl ⟨rfl, rfl⟩ (by decide +kernel) rfl ⟨by decide, by decide⟩ rfl (Nat.le_of_ble_eq_true rfl) dX5_mixBond_60 ⟨by decide, by decide⟩ ?_
      refine g_iincN2 (d := 1) X dX5_mixBond_63 (by decide) rfl ?_
      refine g_goto (tgt := 27) X dX5_mixBond_66 (by decide) ?_
      simp only [hM_hM, hM_h]
      exact g_le (by simp [gl_le]) (ih27 (by omega))
  · refine g_aload_n X dX5_mixBond_8 rfl rfl ?_
    refine g_aload_n X dX5_mixBond_9 rfl rfl ?_
    refine g_iload_n X dX5_mixBond_10 rfl rfl ?_
    refine g_iload_n X dX5_mixBond_11 rfl rfl ?_
    refine g_callVi (na := 2) X hj (k_X5_bondOf l γ (hM σ _) b L hb hL hL4 i (by omega)) gW_23 rfl gX5_mixBond_X5_bondOf rfl ⟨rfl, rfl⟩ (by decide +kernel) rfl ⟨by decide, by decide⟩ rfl (Nat.le_of_ble_eq_true rfl) dX5_mixBond_12 ⟨by decide, by decide⟩ ?_
    refine g_i2l X dX5_mixBond_15 rfl ?_
    refine g_callVv (na := 1) X hj (k_X5_mix l γ _ _) gW_23 rfl gX5_mixBond_X5_mix rfl ⟨rfl, rfl⟩ (by decide +kernel) rfl ⟨by decide, by decide⟩ rfl (Nat.le_of_ble_eq_true rfl) dX5_mixBond_16 ⟨by decide, by decide⟩ ?_
    refine g_iincN2 (d := 1) X dX5_mixBond_19 (by decide) rfl ?_
    refine g_goto (tgt := 2) X dX5_mixBond_22 (by decide) ?_
    simp only [hM_hM, hM_h]
    exact g_le (by simp [gl_le]) (ih2 (by omega))
set_option maxRecDepth 20000 in
theorem k_Jxe99ae_isNaN_b9ae7 (l : Launch) (γ : gG) (σ : gS) (u : UInt64) (hu : Op.cmpValue (FP.dcmp u u) .l = 0) : gM l γ yJxe99ae_isNaN_b9ae7 wsJxe99ae_isNaN_b9ae7 ({ frames := 0, cells := 0, slots := 0, locals := 0 } : Room) [.double u] σ (gis (some (.int (nI 0))) σ) 0 0 := by
  refine g_enter (own := RJxe99ae) (cc := cJxe99ae_isNaN_b9ae7) (nL := 2) (ret := (some .boolean)) [some (.double u), none] (by decide) rfl rfl (by simp [lg_sl, Value.category]) (by simp [gl_le, glE, Value.category]) (fun hj p e s m args below meth c X hr hlk hnm => ?_)
  refine g_dload_n X dJxe99ae_isNaN_b9ae7_0 rfl rfl ?_
  refine g_dload_n X dJxe99ae_isNaN_b9ae7_1 rfl rfl ?_
  refine g_dcmp X dJxe99ae_isNaN_b9ae7_2 ?_
  refine g_if_eq (tgt := 10) X dJxe99ae_isNaN_b9ae7_3 (by decide) (fun c_3 => ?_) (fun c_3 => absurd hu c_3)
  refine g_iconstN X 0 dJxe99ae_isNaN_b9ae7_10 ?_
  exact g_zret X hr hlk rfl dJxe99ae_isNaN_b9ae7_11 ⟨rfl, rfl⟩
set_option maxRecDepth 20000 in
theorem k_Jxe99ae_doubleToLongBits_ccdee (l : Launch) (γ : gG) (σ : gS) (u : UInt64) (hu : Op.cmpValue (FP.dcmp u u) .l = 0) : gM l γ yJxe99ae_doubleToLongBits_ccdee wsJxe99ae_doubleToLongBits_ccdee ({ frames := 6, cells := 0, slots := 0, locals := 200 } : Room) [.double u] σ (gis (some (.long u.toInt64)) σ) 0 0 := by
  refine g_enter (own := RJxe99ae) (cc := cJxe99ae_doubleToLongBits_ccdee) (nL := 2) (ret := (some .long)) [some (.double u), none] (by decide) rfl rfl (by simp [lg_sl, Value.category]) (by simp [gl_le, glE, Value.category]) (fun hj p e s m args below meth c X hr hlk hnm => ?_)
  refine g_dload_n X dJxe99ae_doubleToLongBits_ccdee_0 rfl rfl ?_
  refine g_callSi (na := 1) X hj (k_Jxe99ae_isNaN_b9ae7 l γ _ _ hu) gJxe99ae_doubleToLongBits_ccdee_Jxe99ae_isNaN_b9ae7 rfl ⟨rfl, rfl⟩ (by decide +kernel) rfl ⟨by decide, by decide⟩ rfl (Nat.le_of_ble_eq_true rfl) dJxe99ae_doubleToLongBits_ccdee_1 ⟨by decide, by decide⟩ ?_
  refine g_if_ne (tgt := 12) X dJxe99ae_doubleToLongBits_ccdee_4 (by decide) (fun c_4 => absurd (by decide) c_4) (fun c_4 => ?_)
  refine g_dload_n X dJxe99ae_doubleToLongBits_ccdee_7 rfl rfl ?_
  refine g_rawBits X (by decide +kernel) (by decide +kernel) (by decide +kernel) (by decide +kernel) (by decide) (by decide) dJxe99ae_doubleToLongBits_ccdee_8 ?_
  exact g_lret X hr hlk dJxe99ae_doubleToLongBits_ccdee_11 ⟨rfl, rfl⟩
set_option maxRecDepth 20000 in
theorem k_X5_digest (l : Launch) (γ : gG) (σ : gS) (N : Nat) (L prn : Nat → Nat) (su : Nat → Nat → Nat) (ef : Nat → Nat → Int32) (th lo : Nat → Int32) (hS : SZ (σ.1 24) N L) (hBZ : ∀ b, b < N → BZA (σ.1 24) b (prn b) (L b) (su b) (ef b) (th b) (lo b)) (hca : ∀ q, q < 8 → chOK (σ.1 24) 8 (σ.1 24 (17 + q))) (k : Nat) (hk : σ.1 23 5 = nI k) (hk60 : k ≤ 60) (hnan : σ.1 24 2 = 0 ∨ vf_n64 (FP.ddiv (FP.i2d (σ.1 24 3)) (FP.i2d (σ.1 24 2)))) (hu : Op.cmpValue (FP.dcmp (psD (σ.1 24 2) (σ.1 24 3)) (psD (σ.1 24 2) (σ.1 24 3))) .l = 0) : gM l γ yX5_digest wsX5_digest ({ frames := 7, cells := 0, slots := 0, locals := 221 } : Room) [.ref (ad γ 23)] σ (fun v2 σ2 => v2 = some (.long (dgZ (σ.1 24) ((okM σ).1 23 3) N L ef th lo k (σ.1 27))) ∧ ∃ h, QM (okM σ) h σ2) 0 0 := by
  obtain ⟨hN, hN10, hL⟩ := hS
  have hS : SZ (σ.1 24) N L := ⟨hN, hN10, hL⟩
  refine g_enter (own := RX5) (cc := cX5_digest) (nL := 2) (ret := (some .long)) [some (.ref (ad γ 23)), none] (by decide) rfl rfl (by simp [lg_sl, Value.category]) (by simp [gl_le, glE, Value.category]) (fun hj p e s m args below meth c X hr hlk hnm => ?_)
  have hi5 : ∀ w ∈ wsX50, w ∈ wsX5_digest := by decide +kernel
  refine g_aload_n X dX5_digest_0 rfl rfl ?_
  refine g_iconstN X 0 dX5_digest_1 ?_
  refine g_put_23_6 X hi5 (by decide +kernel) dX5_digest_2 ?_
  refine g_eq rfl (σ' := okM σ) rfl ?_
  refine g_aload_n X dX5_digest_5 rfl rfl ?_
  refine g_ldc2 (v := 2503) X (by decide +kernel) dX5_digest_6 ?_
  refine g_put_23_13 X hi5 (by decide +kernel) dX5_digest_9 ?_
  refine g_eq rfl (σ' := hM (okM σ) 2503) rfl ?_
  refine g_iconstN X 0 dX5_digest_12 ?_
  refine g_istore_n1 X dX5_digest_13 rfl (by decide) rfl ?_
  refine g_up (i0 := 0) (N := 10) (fun i => [some (.ref (ad γ 23)), some (.int (nI i))]) (fun i => hM (okM σ) (dgF (fun w => (cntZ (σ.1 24) ((okM σ).1 23 3) N L w).toInt64) i 2503)) (by simp [gl_le]) (by rw [dgF]) (by omega) (fun i hi ih14 => ?_)
  refine g_iload_n X dX5_digest_14 rfl rfl ?_
  refine g_bipush (v := nI 10) X dX5_digest_15 (by decide) ?_
  refine g_icmpN_ge (tgt := 36) X dX5_digest_17 (by decide) (by omega) (by omega) (fun c_17 => ?_) (fun c_17 => ?_)
  · have e : i = 10 := by omega
    subst e
    refine g_iconstN X 0 dX5_digest_36 ?_
    refine g_istore_n1 X dX5_digest_37 rfl (by decide) rfl ?_
    refine g_up (i0 := 0) (N := 3) (fun i => [some (.ref (ad γ 23)), some (.int (nI i))]) (fun i => hM (okM σ) (dgF (fun j => (σ.1 24 (6 + j)).toInt64) i (dgF (fun w => (cntZ (σ.1 24) ((okM σ).1 23 3) N L w).toInt64) 10 2503))) (by simp [gl_le]) (by rw [dgF]) (by omega) (fun i hi ih38 => ?_)
    refine g_iload_n X dX5_digest_38 rfl rfl ?_
    refine g_iconstN X 3 dX5_digest_39 ?_
    refine g_icmpN_ge (tgt := 63) X dX5_digest_40 (by decide) (by omega) (by omega) (fun c_40 => ?_) (fun c_40 => ?_)
    · have e : i = 3 := by omega
      subst e
      refine g_iconstN X 0 dX5_digest_63 ?_
      refine g_istore_n1 X dX5_digest_64 rfl (by decide) rfl ?_
      refine g_up (i0 := 0) (N := 8) (fun i => [some (.ref (ad γ 23)), some (.int (nI i))]) (fun i => hM (okM σ) (dpZ (σ.1 24) N L i (dgF (fun j => (σ.1 24 (6 + j)).toInt64) 3 (dgF (fun w => (cntZ (σ.1 24) ((okM σ).1 23 3) N L w).toInt64) 10 2503)))) (by simp [gl_le]) (by rw [dpZ]) (by omega) (fun i hi ih65 => ?_)
      refine g_iload_n X dX5_digest_65 rfl rfl ?_
      refine g_bipush (v := nI 8) X dX5_digest_66 (by decide) ?_
      refine g_icmpN_ge (tgt := 82) X dX5_digest_68 (by decide) (by omega) (by omega) (fun c_68 => ?_) (fun c_68 => ?_)
      · have e : i = 8 := by omega
        subst e
        refine g_iconstN X 0 dX5_digest_82 ?_
        refine g_istore_n1 X dX5_digest_83 rfl (by decide) rfl ?_
        refine g_wf (fun r ls τ => ∃ (i : Nat), i + r = N ∧ QM (okM σ) (dbZ (σ.1 24) L ef th i (dpZ (σ.1 24) N L 8 (dgF (fun j => (σ.1 24 (6 + j)).toInt64) 3 (dgF (fun w => (cntZ (σ.1 24) ((okM σ).1 23 3) N L w).toInt64) 10 2503)))) τ ∧ ls = [some (.ref (ad γ 23)), some (.int (nI i))]) N ⟨0, by omega, (QM.rf (okM σ)).hM _, rfl⟩ (fun r ls τ hI ih => ?_)
        obtain ⟨i, hi, hq, rfl⟩ := hI
        have hc := hq.c
        refine g_iload_n X dX5_digest_84 rfl rfl ?_
        refine g_aload_n X dX5_digest_85 rfl rfl ?_
        refine g_get_23_0 X hi5 (by decide +kernel) dX5_digest_86 ?_
        refine g_iconstN X 0 dX5_digest_89 ?_
        refine g_ald_24 X rfl (by omega) dX5_digest_90 ?_
        refine g_top (y := nI N) (by rw [hc]; exact hN) ?_
        refine g_icmpN_ge (tgt := 105) X dX5_digest_91 (by decide) (by omega) (by omega) (fun c_91 => ?_) (fun c_91 => ?_)
        · have e : N = i := by omega
          subst e
          refine g_aload_n X dX5_digest_105 rfl rfl ?_
          refine g_aload_n X dX5_digest_106 rfl rfl ?_
          refine g_callV (na := 0) X hj _ (k_X5_worstOf l γ τ N L prn su ef th lo (by rw [hc]; exact hN) hN10 (by rw [hc]; exact hBZ)) gW_23 rfl gX5_digest_X5_worstOf rfl ⟨rfl, rfl⟩ (by decide +kernel) rfl ⟨by decide, by decide⟩ rfl (Nat.le_of_ble_eq_true rfl) dX5_digest_107 ⟨by decide, by decide⟩ ?_
          rintro v2 τ2 ⟨rfl, hq2⟩
          have hq3 := hq.tr hq2
          rw [hq.h] at hq3
          clear hq2
          replace hq := hq3
          refine g_i2l X dX5_digest_110 rfl ?_
          refine g_callVv (na := 1) X hj (k_X5_mix l γ _ _) gW_23 rfl gX5_digest_X5_mix rfl ⟨rfl, rfl⟩ (by decide +kernel) rfl ⟨by decide, by decide⟩ rfl (Nat.le_of_ble_eq_true rfl) dX5_digest_111 ⟨by decide, by decide⟩ ?_
          simp only [hq.h]
          have hq4 := hq.hM (mixI (dbZ (σ.1 24) L ef th N (dpZ (σ.1 24) N L 8 (dgF (fun j => (σ.1 24 (6 + j)).toInt64) 3 (dgF (fun w => (cntZ (σ.1 24) ((okM σ).1 23 3) N L w).toInt64) 10 2503)))) (woI lo N).1.toInt64)
          generalize hM τ2 (mixI (dbZ (σ.1 24) L ef th N (dpZ (σ.1 24) N L 8 (dgF (fun j => (σ.1 24 (6 + j)).toInt64) 3 (dgF (fun w => (cntZ (σ.1 24) ((okM σ).1 23 3) N L w).toInt64) 10 2503)))) (woI lo N).1.toInt64) = τ4 at hq4 ⊢
          refine g_aload_n X dX5_digest_114 rfl rfl ?_
          refine g_aload_n X dX5_digest_115 rfl rfl ?_
          refine g_callVd (na := 0) X hj (k_X5_shareOf l γ _ (by rw [hq4.c]; exact hnan)) gW_23 rfl gX5_digest_X5_shareOf rfl ⟨rfl, rfl⟩ (by decide +kernel) rfl ⟨by decide, by decide⟩ rfl (Nat.le_of_ble_eq_true rfl) dX5_digest_116 ⟨by decide, by decide⟩ ?_
          rw [hq4.c]
          refine g_callSl (na := 1) X hj (k_Jxe99ae_doubleToLongBits_ccdee l γ _ _ hu) gX5_digest_Jxe99ae_doubleToLongBits_ccdee rfl ⟨rfl, rfl⟩ (by decide +kernel) rfl ⟨by decide, by decide⟩ rfl (Nat.le_of_ble_eq_true rfl) dX5_digest_119 ⟨by decide, by decide⟩ ?_
          refine g_callVv (na := 1) X hj (k_X5_mix l γ _ _) gW_23 rfl gX5_digest_X5_mix rfl ⟨rfl, rfl⟩ (by decide +kernel) rfl ⟨by decide, by decide⟩ rfl (Nat.le_of_ble_eq_true rfl) dX5_digest_122 ⟨by decide, by decide⟩ ?_
          simp only [hq4.h]
          have hq5 := hq4.hM (mixI (mixI (dbZ (σ.1 24) L ef th N (dpZ (σ.1 24) N L 8 (dgF (fun j => (σ.1 24 (6 + j)).toInt64) 3 (dgF (fun w => (cntZ (σ.1 24) ((okM σ).1 23 3) N L w).toInt64) 10 2503)))) (woI lo N).1.toInt64) (psD (σ.1 24 2) (σ.1 24 3)).toInt64)
          generalize hM τ4 (mixI (mixI (dbZ (σ.1 24) L ef th N (dpZ (σ.1 24) N L 8 (dgF (fun j => (σ.1 24 (6 + j)).toInt64) 3 (dgF (fun w => (cntZ (σ.1 24) ((okM σ).1 23 3) N L w).toInt64) 10 2503)))) (woI lo N).1.toInt64) (psD (σ.1 24 2) (σ.1 24 3)).toInt64) = τ5 at hq5 ⊢
          refine g_aload_n X dX5_digest_125 rfl rfl ?_
          refine g_aload_n X dX5_digest_126 rfl rfl ?_
          refine g_get_23_5 X hi5 (by decide +kernel) dX5_digest_127 ?_
          refine g_top (y := nI k) (by rw [hq5.f (by decide) (by decide) (by decide)]; exact okM_f hk (by decide)) ?_
          refine g_i2l X dX5_digest_130 rfl ?_
          refine g_callVv (na := 1) X hj (k_X5_mix l γ _ _) gW_23 rfl gX5_digest_X5_mix rfl ⟨rfl, rfl⟩ (by decide +kernel) rfl ⟨by decide, by decide⟩ rfl (Nat.le_of_ble_eq_true rfl) dX5_digest_131 ⟨by decide, by decide⟩ ?_
          simp only [hq5.h]
          have hq6 := hq5.hM (mixI (mixI (mixI (dbZ (σ.1 24) L ef th N (dpZ (σ.1 24) N L 8 (dgF (fun j => (σ.1 24 (6 + j)).toInt64) 3 (dgF (fun w => (cntZ (σ.1 24) ((okM σ).1 23 3) N L w).toInt64) 10 2503)))) (woI lo N).1.toInt64) (psD (σ.1 24 2) (σ.1 24 3)).toInt64) (nI k).toInt64)
          generalize hM τ5 (mixI (mixI (mixI (dbZ (σ.1 24) L ef th N (dpZ (σ.1 24) N L 8 (dgF (fun j => (σ.1 24 (6 + j)).toInt64) 3 (dgF (fun w => (cntZ (σ.1 24) ((okM σ).1 23 3) N L w).toInt64) 10 2503)))) (woI lo N).1.toInt64) (psD (σ.1 24 2) (σ.1 24 3)).toInt64) (nI k).toInt64) = τ6 at hq6 ⊢
          refine g_iconstN X 0 dX5_digest_134 ?_
          refine g_istore_n1 X dX5_digest_135 rfl (by decide) rfl ?_
          refine g_wf (fun r ls τ => ∃ (i : Nat), i + r = k ∧ QM (okM σ) (dgF (fun j => (σ.1 27 j).toInt64) i (mixI (mixI (mixI (dbZ (σ.1 24) L ef th N (dpZ (σ.1 24) N L 8 (dgF (fun j => (σ.1 24 (6 + j)).toInt64) 3 (dgF (fun w => (cntZ (σ.1 24) ((okM σ).1 23 3) N L w).toInt64) 10 2503)))) (woI lo N).1.toInt64) (psD (σ.1 24 2) (σ.1 24 3)).toInt64) (nI k).toInt64)) τ ∧ ls = [some (.ref (ad γ 23)), some (.int (nI i))]) k ⟨0, by omega, hq6, rfl⟩ (fun r ls τ hI ih => ?_)
          obtain ⟨i, hi, hq, rfl⟩ := hI
          refine g_iload_n X dX5_digest_136 rfl rfl ?_
          refine g_aload_n X dX5_digest_137 rfl rfl ?_
          refine g_get_23_5 X hi5 (by decide +kernel) dX5_digest_138 ?_
          refine g_top (y := nI k) (by rw [hq.f (by decide) (by decide) (by decide)]; exact okM_f hk (by decide)) ?_
          refine g_icmpN_ge (tgt := 161) X dX5_digest_141 (by decide) (by omega) (by omega) (fun c_141 => ?_) (fun c_141 => ?_)
          · have e : k = i := by omega
            subst e
            refine g_aload_n X dX5_digest_161 rfl rfl ?_
            refine g_get_23_13 X hi5 (by decide +kernel) dX5_digest_162 ?_
            refine g_topL hq.h ?_
            exact g_lret X hr hlk dX5_digest_165 ⟨rfl, _, hq⟩
          · refine g_aload_n X dX5_digest_144 rfl rfl ?_
            refine g_aload_n X dX5_digest_145 rfl rfl ?_
            refine g_get_23_4 X hi5 (by decide +kernel) dX5_digest_146 ?_
            refine g_iload_n X dX5_digest_149 rfl rfl ?_
            refine g_ald_27 X rfl (by omega) dX5_digest_150 ?_
            refine g_top (y := σ.1 27 i) (by rw [hq.b]; rfl) ?_
            refine g_i2l X dX5_digest_151 rfl ?_
            refine g_callVv (na := 1) X hj (k_X5_mix l γ _ _) gW_23 rfl gX5_digest_X5_mix rfl ⟨rfl, rfl⟩ (by decide +kernel) rfl ⟨by decide, by decide⟩ rfl (Nat.le_of_ble_eq_true rfl) dX5_digest_152 ⟨by decide, by decide⟩ ?_
            refine g_iincN1 (d := 1) X dX5_digest_155 (by decide) rfl ?_
            refine g_goto (tgt := 136) X dX5_digest_158 (by decide) ?_
            simp only [hq.h]
            exact ih (r - 1) (by omega) _ _ ⟨i + 1, by omega, hq.hM _, rfl⟩
        · have hZ := hBZ i c_91
          refine g_aload_n X dX5_digest_94 rfl rfl ?_
          refine g_iload_n X dX5_digest_95 rfl rfl ?_
          refine g_callV (na := 1) X hj _ (k_X5_mixBond l γ τ i (L i) (by omega) (by rw [hc]; exact (hL i (by omega)).1) (hL i (by omega)).2 (prn i) (su i) (ef i) (th i) (lo i) (by rw [hc]; exact hZ)) gW_23 rfl gX5_digest_X5_mixBond rfl ⟨rfl, rfl⟩ (by decide +kernel) rfl ⟨by decide, by decide⟩ rfl (Nat.le_of_ble_eq_true rfl) dX5_digest_96 ⟨by decide, by decide⟩ ?_
          rintro v2 τ2 ⟨rfl, hq2⟩
          have hq3 := hq.tr hq2
          rw [hc, hq.h] at hq3
          clear hq2
          replace hq := hq3
          refine g_iincN1 (d := 1) X dX5_digest_99 (by decide) rfl ?_
          refine g_goto (tgt := 84) X dX5_digest_102 (by decide) ?_
          exact ih (r - 1) (by omega) _ _ ⟨i + 1, by omega, hq, rfl⟩
      · refine g_aload_n X dX5_digest_71 rfl rfl ?_
        refine g_iload_n X dX5_digest_72 rfl rfl ?_
        refine g_callVv (na := 1) X hj (k_X5_mixPerson l γ _ _ (by omega) N L hS (hca _ (by omega))) gW_23 rfl gX5_digest_X5_mixPerson rfl ⟨rfl, rfl⟩ (by decide +kernel) rfl ⟨by decide, by decide⟩ rfl (Nat.le_of_ble_eq_true rfl) dX5_digest_73 ⟨by decide, by decide⟩ ?_
        refine g_iincN1 (d := 1) X dX5_digest_76 (by decide) rfl ?_
        refine g_goto (tgt := 65) X dX5_digest_79 (by decide) ?_
        simp only [hM_hM, hM_h, hM_1, okM_24]
        exact g_le (by simp [gl_le]) (ih65 (by omega))
    · refine g_aload_n X dX5_digest_43 rfl rfl ?_
      refine g_aload_n X dX5_digest_44 rfl rfl ?_
      refine g_get_23_0 X hi5 (by decide +kernel) dX5_digest_45 ?_
      refine g_bipush (v := nI 6) X dX5_digest_48 (by decide) ?_
      refine g_iload_n X dX5_digest_50 rfl rfl ?_
      refine g_iaddN X dX5_digest_51 ?_
      refine g_ald_24 X rfl (by omega) dX5_digest_52 ?_
      refine g_i2l X dX5_digest_53 rfl ?_
      refine g_callVv (na := 1) X hj (k_X5_mix l γ _ _) gW_23 rfl gX5_digest_X5_mix rfl ⟨rfl, rfl⟩ (by decide +kernel) rfl ⟨by decide, by decide⟩ rfl (Nat.le_of_ble_eq_true rfl) dX5_digest_54 ⟨by decide, by decide⟩ ?_
      refine g_iincN1 (d := 1) X dX5_digest_57 (by decide) rfl ?_
      refine g_goto (tgt := 38) X dX5_digest_60 (by decide) ?_
      simp only [hM_hM, hM_h, hM_1, okM_24]
      exact g_le (by simp [gl_le]) (ih38 (by omega))
  · refine g_aload_n X dX5_digest_20 rfl rfl ?_
    refine g_aload_n X dX5_digest_21 rfl rfl ?_
    refine g_iload_n X dX5_digest_22 rfl rfl ?_
    refine g_callVi (na := 1) X hj (k_X5_counted l γ _ _ (by omega) N L hS hca) gW_23 rfl gX5_digest_X5_counted rfl ⟨rfl, rfl⟩ (by decide +kernel) rfl ⟨by decide, by decide⟩ rfl (Nat.le_of_ble_eq_true rfl) dX5_digest_23 ⟨by decide, by decide⟩ ?_
    refine g_i2l X dX5_digest_26 rfl ?_
    refine g_callVv (na := 1) X hj (k_X5_mix l γ _ _) gW_23 rfl gX5_digest_X5_mix rfl ⟨rfl, rfl⟩ (by decide +kernel) rfl ⟨by decide, by decide⟩ rfl (Nat.le_of_ble_eq_true rfl) dX5_digest_27 ⟨by decide, by decide⟩ ?_
    refine g_iincN1 (d := 1) X dX5_digest_30 (by decide) rfl ?_
    refine g_goto (tgt := 14) X dX5_digest_33 (by decide) ?_
    simp only [hM_hM, hM_h, hM_1, okM_24]
    exact g_le (by simp [gl_le]) (ih14 (by omega))
