/-! THE REFERENCE'S CALLS: the row, the record's ints and the shares, side by side -/
def mW (σ : gS) (z f sh : Nat → Int32) : gS := (fun o => if o = 24 then z else if o = 23 then f else if o = 28 then sh else σ.1 o, σ.2)
section MW
variable (σ : gS) (z f sh g : Nat → Int32)
theorem mW_24 : (mW σ z f sh).1 24 = z := rfl
theorem mW_23 : (mW σ z f sh).1 23 = f := rfl
theorem mW_28 : (mW σ z f sh).1 28 = sh := rfl
theorem mW_s24 : sA (mW σ z f sh) 24 g = mW σ g f sh := by
  unfold mW sA
  refine Prod.ext (funext fun o => ?_) rfl
  dsimp only
  by_cases h : o = 24
  · rw [if_pos h, if_pos h]
  · rw [if_neg h, if_neg h, if_neg h]
theorem mW_s23 : sA (mW σ z f sh) 23 g = mW σ z g sh := by
  unfold mW sA
  refine Prod.ext (funext fun o => ?_) rfl
  dsimp only
  by_cases h : o = 23
  · subst h; rfl
  · rw [if_neg h, if_neg h, if_neg h]
theorem mW_s28 : sA (mW σ z f sh) 28 g = mW σ z f g := by
  unfold mW sA
  refine Prod.ext (funext fun o => ?_) rfl
  dsimp only
  by_cases h : o = 28
  · subst h; rfl
  · rw [if_neg h, if_neg h, if_neg h]
theorem mW_id : mW σ (σ.1 24) (σ.1 23) (σ.1 28) = σ := by
  unfold mW
  refine Prod.ext (funext fun o => ?_) rfl
  dsimp only
  split
  · rename_i h; subst h; rfl
  · split
    · rename_i h; subst h; rfl
    · split
      · rename_i h; subst h; rfl
      · rfl
end MW
theorem chOK_c {z z' : Nat → Int32} (h : ∀ y, y < 8 → z' (17 + y) = z (17 + y)) : ∀ (f : Nat) (x : Int32), chOK z f x → chOK z' f x
  | 0, _, hx => hx
  | f + 1, x, hx => by
    rcases hx with hx | ⟨y, hy, hxy, hc⟩
    · exact Or.inl hx
    · exact Or.inr ⟨y, hy, hxy, by rw [h y hy]; exact chOK_c h f _ hc⟩
def mg0 (z : Nat → Int32) (prn su : Nat) (mo : Int32) : Nat → Int32 := upd z (57 + 8 * prn + su) (z (57 + 8 * prn + su) + mo)
def ad1 (z : Nat → Int32) (k : Nat) (x : Int32) : Nat → Int32 := upd z k (z k + x)
def sb1 (z : Nat → Int32) (k : Nat) (x : Int32) : Nat → Int32 := upd z k (z k - x)
theorem ad1_ne {z : Nat → Int32} {k j : Nat} {x : Int32} (h : j ≠ k) : ad1 z k x j = z j := by unfold ad1; rw [upd, if_neg h]
theorem sb1_ne {z : Nat → Int32} {k j : Nat} {x : Int32} (h : j ≠ k) : sb1 z k x j = z j := by unfold sb1; rw [upd, if_neg h]
def mgY (z : Nat → Int32) (prn su y : Nat) (p : Int32) : Nat → Int32 := ad1 (ad1 (sb1 (ad1 (sb1 z (9 + y) p) (9 + su) p) (57 + 8 * prn + su) p) (57 + 8 * prn + y) p) (49 + y) p
theorem mgY_by (z : Nat → Int32) {prn su y : Nat} (p : Int32) (hp : prn < 8) (hs : su < 8) (hy : y < 8) (q : Nat) (hq : q < 8) : mgY z prn su y p (17 + q) = z (17 + q) := by
  unfold mgY
  rw [ad1_ne (by omega), ad1_ne (by omega), sb1_ne (by omega), ad1_ne (by omega), sb1_ne (by omega)]
def mgQ (z : Nat → Int32) (su y : Nat) (sh : Int32) : Int32 := if nI y = nI su then nI 0 else mn (z (9 + y)) sh
def mgZ (prn su : Nat) : Nat → (Nat → Int32) → Int32 → Int32 → (Nat → Int32)
  | 0, z, _, _ => z
  | f + 1, z, sh, x => if x = -1 then z else
      mgZ prn su f (mgY z prn su x.toNatClampNeg (mgQ z su x.toNatClampNeg sh)) ((sh - mgQ z su x.toNatClampNeg sh) * mgY z prn su x.toNatClampNeg (mgQ z su x.toNatClampNeg sh) (25 + x.toNatClampNeg) / nI 100) (mgY z prn su x.toNatClampNeg (mgQ z su x.toNatClampNeg sh) (17 + x.toNatClampNeg))
def mgA (z : Nat → Int32) (prn su : Nat) (mo : Int32) : Nat → Int32 := mgZ prn su 8 (ad1 z (57 + 8 * prn + su) mo) (mo * ad1 z (57 + 8 * prn + su) mo (25 + prn) / nI 100) (ad1 z (57 + 8 * prn + su) mo (17 + prn))
def lpP (z : Nat → Int32) (su : Nat) (sh : Int32) : Int32 := mn (z (9 + su)) sh
def lpY (z : Nat → Int32) (b i su : Nat) (p : Int32) : Nat → Int32 := ad1 (sb1 (ad1 (sb1 z (9 + su) p) (41 + su) p) (121 + 31 * b + 15 + 4 * i + 2) p) (121 + 31 * b + 15 + 4 * i + 3) p
def lpZ (z : Nat → Int32) (b i prn su : Nat) (sh : Int32) : Nat → Int32 := if lpP z su sh ≤ 0 then lpY z b i su (lpP z su sh) else mgA (lpY z b i su (lpP z su sh)) prn su (lpP z su sh)
def lpF (f : Nat → Int32) (i : Nat) (p sh : Int32) : Nat → Int32 := upd (upd f 9 (if p < sh ∧ f 9 = -1 then nI i else f 9)) 7 (f 7 + p)
theorem lpY_by (z : Nat → Int32) {b i su : Nat} (p : Int32) (hs : su < 8) (q : Nat) (hq : q < 8) : lpY z b i su p (17 + q) = z (17 + q) := by
  unfold lpY
  rw [ad1_ne (by omega), sb1_ne (by omega), ad1_ne (by omega), sb1_ne (by omega)]

set_option maxRecDepth 20000 in
theorem k_X5_makeGood (l : Launch) (γ : gG) (σ : gS) (z f sh : Nat → Int32) (prn su : Nat) (mo : Int32) (hp : prn < 8) (hs : su < 8) (hch : chOK z 8 (z (17 + prn))) : gM l γ yX5_makeGood wsX5_makeGood ({ frames := 1, cells := 0, slots := 0, locals := 21 } : Room) [.ref (ad γ 23), .int (nI prn), .int (nI su), .int mo] (mW σ z f sh) (gis none (mW σ (mgA z prn su mo) f sh)) 0 0 := by
  refine g_enter (own := RX5) (cc := cX5_makeGood) (nL := 7) (ret := none) [some (.ref (ad γ 23)), some (.int (nI prn)), some (.int (nI su)), some (.int mo), none, none, none] (by decide) rfl rfl (by simp [lg_sl, Value.category]) (by simp [gl_le, glE, Value.category]) (fun hj p e s m args below meth c X hr hlk hnm => ?_)
  have hi5 : ∀ w ∈ wsX50, w ∈ wsX5_makeGood := by decide +kernel
  refine g_aload_n X dX5_makeGood_0 rfl rfl ?_
  refine g_get_23_0 X hi5 (by decide +kernel) dX5_makeGood_1 ?_
  refine g_iload_n X dX5_makeGood_4 rfl rfl ?_
  refine g_iload_n X dX5_makeGood_5 rfl rfl ?_
  refine g_callSi (na := 2) X hj (k_X5_debtAt l γ _ _ _) gX5_makeGood_X5_debtAt rfl ⟨rfl, rfl⟩ (by decide +kernel) rfl ⟨by decide, by decide⟩ rfl (Nat.le_of_ble_eq_true rfl) dX5_makeGood_6 ⟨by decide, by decide⟩ ?_
  refine g_dup2_11 X dX5_makeGood_9 rfl rfl ?_
  refine g_ald_24 X rfl (by omega) dX5_makeGood_10 ?_
  simp only [mW_24]
  refine g_iload_n X dX5_makeGood_11 rfl rfl ?_
  refine g_iadd X dX5_makeGood_12 ?_
  refine g_ast_24 X rfl (by omega) dX5_makeGood_13 ?_
  simp only [mW_s24]
  refine g_eq rfl (σ' := mW σ (ad1 z (57 + 8 * prn + su) mo) f sh) rfl ?_
  refine g_iload_n X dX5_makeGood_14 rfl rfl ?_
  refine g_aload_n X dX5_makeGood_15 rfl rfl ?_
  refine g_get_23_0 X hi5 (by decide +kernel) dX5_makeGood_16 ?_
  refine g_bipush (v := nI 25) X dX5_makeGood_19 (by decide) ?_
  refine g_iload_n X dX5_makeGood_21 rfl rfl ?_
  refine g_iaddN X dX5_makeGood_22 ?_
  refine g_ald_24 X rfl (by omega) dX5_makeGood_23 ?_
  simp only [mW_24]
  refine g_imul X dX5_makeGood_24 ?_
  refine g_bipush (v := nI 100) X dX5_makeGood_25 (by decide) ?_
  refine g_idiv X dX5_makeGood_27 (by decide) ?_
  refine g_istore_s4 X dX5_makeGood_28 (by decide) rfl ?_
  refine g_aload_n X dX5_makeGood_30 rfl rfl ?_
  refine g_get_23_0 X hi5 (by decide +kernel) dX5_makeGood_31 ?_
  refine g_bipush (v := nI 17) X dX5_makeGood_34 (by decide) ?_
  refine g_iload_n X dX5_makeGood_36 rfl rfl ?_
  refine g_iaddN X dX5_makeGood_37 ?_
  refine g_ald_24 X rfl (by omega) dX5_makeGood_38 ?_
  simp only [mW_24]
  refine g_istore_s5 X dX5_makeGood_39 (by decide) rfl ?_
  refine g_wf (fun r ls σ2 => ∃ (i : Nat) (z2 : Nat → Int32) (s x : Int32), i + r = 8 ∧ σ2 = mW σ z2 f sh ∧ gl_le [some (.ref (ad γ 23)), some (.int (nI prn)), some (.int (nI su)), none, some (.int s), some (.int x), none] ls ∧ mgA z prn su mo = mgZ prn su r z2 s x ∧ chOK z2 r x) 8 ⟨0, _, _, _, by omega, rfl, by simp [gl_le, mn, ad1], rfl, by rw [ad1_ne (by omega)]; exact chOK_c (fun q hq => ad1_ne (by omega)) _ _ hch⟩ (fun r ls σ2 hI ih => ?_)
  obtain ⟨i, z2, s9, x, hi, rfl, hgl, hz, hco⟩ := hI
  refine g_le hgl ?_
  refine g_iload X dX5_makeGood_41 rfl ?_
  refine g_iconst (v := -1) X dX5_makeGood_43 (by decide) ?_
  refine g_icmp_eq (tgt := 185) X dX5_makeGood_44 (by decide) (fun c_44 => ?_) (fun c_44 => ?_)
  · exact g_vret X hr hlk dX5_makeGood_185 ⟨rfl, by rw [hz]; cases r <;> simp [mgZ, c_44]⟩
  · obtain ⟨r, rfl⟩ : ∃ r2, r = r2 + 1 := by (cases r with | zero => exact absurd hco c_44 | succ r2 => exact ⟨r2, rfl⟩)
    obtain ⟨y, hy, rfl, hc2⟩ := hco.resolve_left c_44
    refine g_iload X dX5_makeGood_47 rfl ?_
    refine g_iload_n X dX5_makeGood_49 rfl rfl ?_
    refine g_icmpN_ne (tgt := 57) X dX5_makeGood_50 (by decide) (by omega) (by omega) (fun c_50 => ?_) (fun c_50 => ?_)
    · refine g_iload X dX5_makeGood_57 rfl ?_
      refine g_aload_n X dX5_makeGood_59 rfl rfl ?_
      refine g_get_23_0 X hi5 (by decide +kernel) dX5_makeGood_60 ?_
      refine g_bipush (v := nI 9) X dX5_makeGood_63 (by decide) ?_
      refine g_iload X dX5_makeGood_65 rfl ?_
      refine g_iaddN X dX5_makeGood_67 ?_
      refine g_ald_24 X rfl (by omega) dX5_makeGood_68 ?_
      simp only [mW_24]
      refine g_callSi (na := 2) X hj (k_X5_least l γ _ _ _) gX5_makeGood_X5_least rfl ⟨rfl, rfl⟩ (by decide +kernel) rfl ⟨by decide, by decide⟩ rfl (Nat.le_of_ble_eq_true rfl) dX5_makeGood_69 ⟨by decide, by decide⟩ ?_
      obtain ⟨pay, hpay⟩ : ∃ w : Int32, mgQ z2 su y s9 = w := ⟨_, rfl⟩
      refine g_top (y := pay) (by rw [← hpay]; unfold mgQ; first | (have q9 := c_50; rw [if_neg (fun e => q9 ((nI_eq (by omega) (by omega)).mp e))]; done) | (have q9 := c_50; rw [if_pos (by rw [q9])]; done)) ?_
      refine g_istore_s6 X dX5_makeGood_72 (by decide) rfl ?_
      refine g_aload_n X dX5_makeGood_74 rfl rfl ?_
      refine g_get_23_0 X hi5 (by decide +kernel) dX5_makeGood_75 ?_
      refine g_bipush (v := nI 9) X dX5_makeGood_78 (by decide) ?_
      refine g_iload X dX5_makeGood_80 rfl ?_
      refine g_iaddN X dX5_makeGood_82 ?_
      refine g_dup2_11 X dX5_makeGood_83 rfl rfl ?_
      refine g_ald_24 X rfl (by omega) dX5_makeGood_84 ?_
      simp only [mW_s24, mW_24]
      refine g_iload X dX5_makeGood_85 rfl ?_
      refine g_isub X dX5_makeGood_87 ?_
      refine g_ast_24 X rfl (by omega) dX5_makeGood_88 ?_
      simp only [mW_s24]
      refine g_eq rfl (σ' := mW σ (sb1 z2 (9 + y) pay) f sh) rfl ?_
      refine g_aload_n X dX5_makeGood_89 rfl rfl ?_
      refine g_get_23_0 X hi5 (by decide +kernel) dX5_makeGood_90 ?_
      refine g_bipush (v := nI 9) X dX5_makeGood_93 (by decide) ?_
      refine g_iload_n X dX5_makeGood_95 rfl rfl ?_
      refine g_iaddN X dX5_makeGood_96 ?_
      refine g_dup2_11 X dX5_makeGood_97 rfl rfl ?_
      refine g_ald_24 X rfl (by omega) dX5_makeGood_98 ?_
      simp only [mW_s24, mW_24]
      refine g_iload X dX5_makeGood_99 rfl ?_
      refine g_iadd X dX5_makeGood_101 ?_
      refine g_ast_24 X rfl (by omega) dX5_makeGood_102 ?_
      simp only [mW_s24]
      refine g_eq rfl (σ' := mW σ (ad1 (sb1 z2 (9 + y) pay) (9 + su) pay) f sh) rfl ?_
      refine g_aload_n X dX5_makeGood_103 rfl rfl ?_
      refine g_get_23_0 X hi5 (by decide +kernel) dX5_makeGood_104 ?_
      refine g_iload_n X dX5_makeGood_107 rfl rfl ?_
      refine g_iload_n X dX5_makeGood_108 rfl rfl ?_
      refine g_callSi (na := 2) X hj (k_X5_debtAt l γ _ _ _) gX5_makeGood_X5_debtAt rfl ⟨rfl, rfl⟩ (by decide +kernel) rfl ⟨by decide, by decide⟩ rfl (Nat.le_of_ble_eq_true rfl) dX5_makeGood_109 ⟨by decide, by decide⟩ ?_
      refine g_dup2_11 X dX5_makeGood_112 rfl rfl ?_
      refine g_ald_24 X rfl (by omega) dX5_makeGood_113 ?_
      simp only [mW_s24, mW_24]
      refine g_iload X dX5_makeGood_114 rfl ?_
      refine g_isub X dX5_makeGood_116 ?_
      refine g_ast_24 X rfl (by omega) dX5_makeGood_117 ?_
      simp only [mW_s24]
      refine g_eq rfl (σ' := mW σ (sb1 (ad1 (sb1 z2 (9 + y) pay) (9 + su) pay) (57 + 8 * prn + su) pay) f sh) rfl ?_
      refine g_aload_n X dX5_makeGood_118 rfl rfl ?_
      refine g_get_23_0 X hi5 (by decide +kernel) dX5_makeGood_119 ?_
      refine g_iload_n X dX5_makeGood_122 rfl rfl ?_
      refine g_iload X dX5_makeGood_123 rfl ?_
      refine g_callSi (na := 2) X hj (k_X5_debtAt l γ _ _ _) gX5_makeGood_X5_debtAt rfl ⟨rfl, rfl⟩ (by decide +kernel) rfl ⟨by decide, by decide⟩ rfl (Nat.le_of_ble_eq_true rfl) dX5_makeGood_125 ⟨by decide, by decide⟩ ?_
      refine g_dup2_11 X dX5_makeGood_128 rfl rfl ?_
      refine g_ald_24 X rfl (by omega) dX5_makeGood_129 ?_
      simp only [mW_s24, mW_24]
      refine g_iload X dX5_makeGood_130 rfl ?_
      refine g_iadd X dX5_makeGood_132 ?_
      refine g_ast_24 X rfl (by omega) dX5_makeGood_133 ?_
      simp only [mW_s24]
      refine g_eq rfl (σ' := mW σ (ad1 (sb1 (ad1 (sb1 z2 (9 + y) pay) (9 + su) pay) (57 + 8 * prn + su) pay) (57 + 8 * prn + y) pay) f sh) rfl ?_
      refine g_aload_n X dX5_makeGood_134 rfl rfl ?_
      refine g_get_23_0 X hi5 (by decide +kernel) dX5_makeGood_135 ?_
      refine g_bipush (v := nI 49) X dX5_makeGood_138 (by decide) ?_
      refine g_iload X dX5_makeGood_140 rfl ?_
      refine g_iaddN X dX5_makeGood_142 ?_
      refine g_dup2_11 X dX5_makeGood_143 rfl rfl ?_
      refine g_ald_24 X rfl (by omega) dX5_makeGood_144 ?_
      simp only [mW_s24, mW_24]
      refine g_iload X dX5_makeGood_145 rfl ?_
      refine g_iadd X dX5_makeGood_147 ?_
      refine g_ast_24 X rfl (by omega) dX5_makeGood_148 ?_
      simp only [mW_s24]
      refine g_eq rfl (σ' := mW σ (ad1 (ad1 (sb1 (ad1 (sb1 z2 (9 + y) pay) (9 + su) pay) (57 + 8 * prn + su) pay) (57 + 8 * prn + y) pay) (49 + y) pay) f sh) rfl ?_
      refine g_iload X dX5_makeGood_149 rfl ?_
      refine g_iload X dX5_makeGood_151 rfl ?_
      refine g_isub X dX5_makeGood_153 ?_
      refine g_aload_n X dX5_makeGood_154 rfl rfl ?_
      refine g_get_23_0 X hi5 (by decide +kernel) dX5_makeGood_155 ?_
      refine g_bipush (v := nI 25) X dX5_makeGood_158 (by decide) ?_
      refine g_iload X dX5_makeGood_160 rfl ?_
      refine g_iaddN X dX5_makeGood_162 ?_
      refine g_ald_24 X rfl (by omega) dX5_makeGood_163 ?_
      simp only [mW_s24, mW_24]
      refine g_imul X dX5_makeGood_164 ?_
      refine g_bipush (v := nI 100) X dX5_makeGood_165 (by decide) ?_
      refine g_idiv X dX5_makeGood_167 (by decide) ?_
      refine g_istore_s4 X dX5_makeGood_168 (by decide) rfl ?_
      refine g_aload_n X dX5_makeGood_170 rfl rfl ?_
      refine g_get_23_0 X hi5 (by decide +kernel) dX5_makeGood_171 ?_
      refine g_bipush (v := nI 17) X dX5_makeGood_174 (by decide) ?_
      refine g_iload X dX5_makeGood_176 rfl ?_
      refine g_iaddN X dX5_makeGood_178 ?_
      refine g_ald_24 X rfl (by omega) dX5_makeGood_179 ?_
      simp only [mW_s24, mW_24]
      refine g_istore_s5 X dX5_makeGood_180 (by decide) rfl ?_
      refine g_goto (tgt := 41) X dX5_makeGood_182 (by decide) ?_
      exact ih r (by omega) _ _ ⟨i + 1, mgY z2 prn su y pay, (s9 - pay) * mgY z2 prn su y pay (25 + y) / nI 100, mgY z2 prn su y pay (17 + y), by omega, rfl, by simp [gl_le, mgY], by rw [hz]; simp only [mgZ, if_neg c_44, nI_clamp (show y < 2 ^ 31 by omega), hpay], by rw [mgY_by z2 pay hp hs hy y hy]; exact chOK_c (mgY_by z2 pay hp hs hy) _ _ hc2⟩
    · refine g_iconstN X 0 dX5_makeGood_53 ?_
      refine g_goto (tgt := 72) X dX5_makeGood_54 (by decide) ?_
      obtain ⟨pay, hpay⟩ : ∃ w : Int32, mgQ z2 su y s9 = w := ⟨_, rfl⟩
      refine g_top (y := pay) (by rw [← hpay]; unfold mgQ; first | (have q9 := c_50; rw [if_neg (fun e => q9 ((nI_eq (by omega) (by omega)).mp e))]; done) | (have q9 := c_50; rw [if_pos (by rw [q9])]; done)) ?_
      refine g_istore_s6 X dX5_makeGood_72 (by decide) rfl ?_
      refine g_aload_n X dX5_makeGood_74 rfl rfl ?_
      refine g_get_23_0 X hi5 (by decide +kernel) dX5_makeGood_75 ?_
      refine g_bipush (v := nI 9) X dX5_makeGood_78 (by decide) ?_
      refine g_iload X dX5_makeGood_80 rfl ?_
      refine g_iaddN X dX5_makeGood_82 ?_
      refine g_dup2_11 X dX5_makeGood_83 rfl rfl ?_
      refine g_ald_24 X rfl (by omega) dX5_makeGood_84 ?_
      simp only [mW_s24, mW_24]
      refine g_iload X dX5_makeGood_85 rfl ?_
      refine g_isub X dX5_makeGood_87 ?_
      refine g_ast_24 X rfl (by omega) dX5_makeGood_88 ?_
      simp only [mW_s24]
      refine g_eq rfl (σ' := mW σ (sb1 z2 (9 + y) pay) f sh) rfl ?_
      refine g_aload_n X dX5_makeGood_89 rfl rfl ?_
      refine g_get_23_0 X hi5 (by decide +kernel) dX5_makeGood_90 ?_
      refine g_bipush (v := nI 9) X dX5_makeGood_93 (by decide) ?_
      refine g_iload_n X dX5_makeGood_95 rfl rfl ?_
      refine g_iaddN X dX5_makeGood_96 ?_
      refine g_dup2_11 X dX5_makeGood_97 rfl rfl ?_
      refine g_ald_24 X rfl (by omega) dX5_makeGood_98 ?_
      simp only [mW_s24, mW_24]
      refine g_iload X dX5_makeGood_99 rfl ?_
      refine g_iadd X dX5_makeGood_101 ?_
      refine g_ast_24 X rfl (by omega) dX5_makeGood_102 ?_
      simp only [mW_s24]
      refine g_eq rfl (σ' := mW σ (ad1 (sb1 z2 (9 + y) pay) (9 + su) pay) f sh) rfl ?_
      refine g_aload_n X dX5_makeGood_103 rfl rfl ?_
      refine g_get_23_0 X hi5 (by decide +kernel) dX5_makeGood_104 ?_
      refine g_iload_n X dX5_makeGood_107 rfl rfl ?_
      refine g_iload_n X dX5_makeGood_108 rfl rfl ?_
      refine g_callSi (na := 2) X hj (k_X5_debtAt l γ _ _ _) gX5_makeGood_X5_debtAt rfl ⟨rfl, rfl⟩ (by decide +kernel) rfl ⟨by decide, by decide⟩ rfl (Nat.le_of_ble_eq_true rfl) dX5_makeGood_109 ⟨by decide, by decide⟩ ?_
      refine g_dup2_11 X dX5_makeGood_112 rfl rfl ?_
      refine g_ald_24 X rfl (by omega) dX5_makeGood_113 ?_
      simp only [mW_s24, mW_24]
      refine g_iload X dX5_makeGood_114 rfl ?_
      refine g_isub X dX5_makeGood_116 ?_
      refine g_ast_24 X rfl (by omega) dX5_makeGood_117 ?_
      simp only [mW_s24]
      refine g_eq rfl (σ' := mW σ (sb1 (ad1 (sb1 z2 (9 + y) pay) (9 + su) pay) (57 + 8 * prn + su) pay) f sh) rfl ?_
      refine g_aload_n X dX5_makeGood_118 rfl rfl ?_
      refine g_get_23_0 X hi5 (by decide +kernel) dX5_makeGood_119 ?_
      refine g_iload_n X dX5_makeGood_122 rfl rfl ?_
      refine g_iload X dX5_makeGood_123 rfl ?_
      refine g_callSi (na := 2) X hj (k_X5_debtAt l γ _ _ _) gX5_makeGood_X5_debtAt rfl ⟨rfl, rfl⟩ (by decide +kernel) rfl ⟨by decide, by decide⟩ rfl (Nat.le_of_ble_eq_true rfl) dX5_makeGood_125 ⟨by decide, by decide⟩ ?_
      refine g_dup2_11 X dX5_makeGood_128 rfl rfl ?_
      refine g_ald_24 X rfl (by omega) dX5_makeGood_129 ?_
      simp only [mW_s24, mW_24]
      refine g_iload X dX5_makeGood_130 rfl ?_
      refine g_iadd X dX5_makeGood_132 ?_
      refine g_ast_24 X rfl (by omega) dX5_makeGood_133 ?_
      simp only [mW_s24]
      refine g_eq rfl (σ' := mW σ (ad1 (sb1 (ad1 (sb1 z2 (9 + y) pay) (9 + su) pay) (57 + 8 * prn + su) pay) (57 + 8 * prn + y) pay) f sh) rfl ?_
      refine g_aload_n X dX5_makeGood_134 rfl rfl ?_
      refine g_get_23_0 X hi5 (by decide +kernel) dX5_makeGood_135 ?_
      refine g_bipush (v := nI 49) X dX5_makeGood_138 (by decide) ?_
      refine g_iload X dX5_makeGood_140 rfl ?_
      refine g_iaddN X dX5_makeGood_142 ?_
      refine g_dup2_11 X dX5_makeGood_143 rfl rfl ?_
      refine g_ald_24 X rfl (by omega) dX5_makeGood_144 ?_
      simp only [mW_s24, mW_24]
      refine g_iload X dX5_makeGood_145 rfl ?_
      refine g_iadd X dX5_makeGood_147 ?_
      refine g_ast_24 X rfl (by omega) dX5_makeGood_148 ?_
      simp only [mW_s24]
      refine g_eq rfl (σ' := mW σ (ad1 (ad1 (sb1 (ad1 (sb1 z2 (9 + y) pay) (9 + su) pay) (57 + 8 * prn + su) pay) (57 + 8 * prn + y) pay) (49 + y) pay) f sh) rfl ?_
      refine g_iload X dX5_makeGood_149 rfl ?_
      refine g_iload X dX5_makeGood_151 rfl ?_
      refine g_isub X dX5_makeGood_153 ?_
      refine g_aload_n X dX5_makeGood_154 rfl rfl ?_
      refine g_get_23_0 X hi5 (by decide +kernel) dX5_makeGood_155 ?_
      refine g_bipush (v := nI 25) X dX5_makeGood_158 (by decide) ?_
      refine g_iload X dX5_makeGood_160 rfl ?_
      refine g_iaddN X dX5_makeGood_162 ?_
      refine g_ald_24 X rfl (by omega) dX5_makeGood_163 ?_
      simp only [mW_s24, mW_24]
      refine g_imul X dX5_makeGood_164 ?_
      refine g_bipush (v := nI 100) X dX5_makeGood_165 (by decide) ?_
      refine g_idiv X dX5_makeGood_167 (by decide) ?_
      refine g_istore_s4 X dX5_makeGood_168 (by decide) rfl ?_
      refine g_aload_n X dX5_makeGood_170 rfl rfl ?_
      refine g_get_23_0 X hi5 (by decide +kernel) dX5_makeGood_171 ?_
      refine g_bipush (v := nI 17) X dX5_makeGood_174 (by decide) ?_
      refine g_iload X dX5_makeGood_176 rfl ?_
      refine g_iaddN X dX5_makeGood_178 ?_
      refine g_ald_24 X rfl (by omega) dX5_makeGood_179 ?_
      simp only [mW_s24, mW_24]
      refine g_istore_s5 X dX5_makeGood_180 (by decide) rfl ?_
      refine g_goto (tgt := 41) X dX5_makeGood_182 (by decide) ?_
      exact ih r (by omega) _ _ ⟨i + 1, mgY z2 prn su y pay, (s9 - pay) * mgY z2 prn su y pay (25 + y) / nI 100, mgY z2 prn su y pay (17 + y), by omega, rfl, by simp [gl_le, mgY], by rw [hz]; simp only [mgZ, if_neg c_44, nI_clamp (show y < 2 ^ 31 by omega), hpay], by rw [mgY_by z2 pay hp hs hy y hy]; exact chOK_c (mgY_by z2 pay hp hs hy) _ _ hc2⟩
set_option maxRecDepth 20000 in
theorem k_X5_layerPays (l : Launch) (γ : gG) (σ : gS) (z f sh : Nat → Int32) (b i prn su : Nat) (s9 : Int32) (hb : b < 10) (hi4 : i < 4) (hpr : z (121 + 31 * b) = nI prn) (hp : prn < 8) (hsu : z (121 + 31 * b + 15 + 4 * i) = nI su) (hs : su < 8) (hch : chOK z 8 (z (17 + prn))) : gM l γ yX5_layerPays wsX5_layerPays ({ frames := 2, cells := 0, slots := 0, locals := 47 } : Room) [.ref (ad γ 23), .int (nI b), .int (nI i), .int s9] (mW σ z f sh) (gis (some (.int (lpP z su s9))) (mW σ (lpZ z b i prn su s9) (lpF f i (lpP z su s9) s9) sh)) 0 0 := by
  refine g_enter (own := RX5) (cc := cX5_layerPays) (nL := 6) (ret := (some .int)) [some (.ref (ad γ 23)), some (.int (nI b)), some (.int (nI i)), some (.int s9), none, none] (by decide) rfl rfl (by simp [lg_sl, Value.category]) (by simp [gl_le, glE, Value.category]) (fun hj p e s m args below meth c X hr hlk hnm => ?_)
  have hi5 : ∀ w ∈ wsX50, w ∈ wsX5_layerPays := by decide +kernel
  refine g_iload_n X dX5_layerPays_0 rfl rfl ?_
  refine g_iload_n X dX5_layerPays_1 rfl rfl ?_
  refine g_callSi (na := 2) X hj (k_X5_layerAt l γ _ _ _) gX5_layerPays_X5_layerAt rfl ⟨rfl, rfl⟩ (by decide +kernel) rfl ⟨by decide, by decide⟩ rfl (Nat.le_of_ble_eq_true rfl) dX5_layerPays_2 ⟨by decide, by decide⟩ ?_
  refine g_istore_s4 X dX5_layerPays_5 (by decide) rfl ?_
  refine g_iload_n X dX5_layerPays_7 rfl rfl ?_
  refine g_aload_n X dX5_layerPays_8 rfl rfl ?_
  refine g_get_23_0 X hi5 (by decide +kernel) dX5_layerPays_9 ?_
  refine g_bipush (v := nI 9) X dX5_layerPays_12 (by decide) ?_
  refine g_aload_n X dX5_layerPays_14 rfl rfl ?_
  refine g_get_23_0 X hi5 (by decide +kernel) dX5_layerPays_15 ?_
  refine g_iload X dX5_layerPays_18 rfl ?_
  refine g_ald_24 X rfl (by omega) dX5_layerPays_20 ?_
  refine g_top (y := nI su) (by first | (rw [mW_24]; exact hsu) | (rw [mW_24, sb1_ne (by omega)]; exact hsu) | (rw [mW_24]; unfold lpY; rw [ad1_ne (by omega), sb1_ne (by omega), ad1_ne (by omega), sb1_ne (by omega)]; exact hsu)) ?_
  refine g_iaddN X dX5_layerPays_21 ?_
  refine g_ald_24 X rfl (by omega) dX5_layerPays_22 ?_
  simp only [mW_24]
  refine g_callSi (na := 2) X hj (k_X5_least l γ _ _ _) gX5_layerPays_X5_least rfl ⟨rfl, rfl⟩ (by decide +kernel) rfl ⟨by decide, by decide⟩ rfl (Nat.le_of_ble_eq_true rfl) dX5_layerPays_23 ⟨by decide, by decide⟩ ?_
  refine g_top (y := (lpP z su s9)) rfl ?_
  refine g_istore_s5 X dX5_layerPays_26 (by decide) rfl ?_
  refine g_aload_n X dX5_layerPays_28 rfl rfl ?_
  refine g_iload X dX5_layerPays_29 rfl ?_
  refine g_iload_n X dX5_layerPays_31 rfl rfl ?_
  refine g_icmp_ge (tgt := 47) X dX5_layerPays_32 (by decide) (fun c_32 => ?_) (fun c_32 => ?_)
  · refine g_aload_n X dX5_layerPays_47 rfl rfl ?_
    refine g_get_23_9 X hi5 (by decide +kernel) dX5_layerPays_48 ?_
    simp only [mW_23]
    refine g_put_23_9 X hi5 (by decide +kernel) dX5_layerPays_51 ?_
    simp only [mW_s23, mW_23]
    refine g_eq rfl (σ' := mW σ z (upd f 9 (if (lpP z su s9) < s9 ∧ f 9 = -1 then nI i else f 9)) sh) (by first | (rw [if_pos ⟨Int32.not_le.mp c_32, c_40⟩]; done) | (rw [if_neg (fun q => c_40 q.2)]; done) | (rw [if_neg (fun q => absurd q.1 (Int32.not_lt.mpr c_32))]; done)) ?_
    refine g_aload_n X dX5_layerPays_54 rfl rfl ?_
    refine g_get_23_0 X hi5 (by decide +kernel) dX5_layerPays_55 ?_
    refine g_bipush (v := nI 9) X dX5_layerPays_58 (by decide) ?_
    refine g_aload_n X dX5_layerPays_60 rfl rfl ?_
    refine g_get_23_0 X hi5 (by decide +kernel) dX5_layerPays_61 ?_
    refine g_iload X dX5_layerPays_64 rfl ?_
    refine g_ald_24 X rfl (by omega) dX5_layerPays_66 ?_
    refine g_top (y := nI su) (by first | (rw [mW_24]; exact hsu) | (rw [mW_24, sb1_ne (by omega)]; exact hsu) | (rw [mW_24]; unfold lpY; rw [ad1_ne (by omega), sb1_ne (by omega), ad1_ne (by omega), sb1_ne (by omega)]; exact hsu)) ?_
    refine g_iaddN X dX5_layerPays_67 ?_
    refine g_dup2_11 X dX5_layerPays_68 rfl rfl ?_
    refine g_ald_24 X rfl (by omega) dX5_layerPays_69 ?_
    simp only [mW_24]
    refine g_iload X dX5_layerPays_70 rfl ?_
    refine g_isub X dX5_layerPays_72 ?_
    refine g_ast_24 X rfl (by omega) dX5_layerPays_73 ?_
    simp only [mW_s24]
    refine g_eq rfl (σ' := mW σ (sb1 z (9 + su) (lpP z su s9)) (upd f 9 (if (lpP z su s9) < s9 ∧ f 9 = -1 then nI i else f 9)) sh) rfl ?_
    refine g_aload_n X dX5_layerPays_74 rfl rfl ?_
    refine g_get_23_0 X hi5 (by decide +kernel) dX5_layerPays_75 ?_
    refine g_bipush (v := nI 41) X dX5_layerPays_78 (by decide) ?_
    refine g_aload_n X dX5_layerPays_80 rfl rfl ?_
    refine g_get_23_0 X hi5 (by decide +kernel) dX5_layerPays_81 ?_
    refine g_iload X dX5_layerPays_84 rfl ?_
    refine g_ald_24 X rfl (by omega) dX5_layerPays_86 ?_
    refine g_top (y := nI su) (by first | (rw [mW_24]; exact hsu) | (rw [mW_24, sb1_ne (by omega)]; exact hsu) | (rw [mW_24]; unfold lpY; rw [ad1_ne (by omega), sb1_ne (by omega), ad1_ne (by omega), sb1_ne (by omega)]; exact hsu)) ?_
    refine g_iaddN X dX5_layerPays_87 ?_
    refine g_dup2_11 X dX5_layerPays_88 rfl rfl ?_
    refine g_ald_24 X rfl (by omega) dX5_layerPays_89 ?_
    simp only [mW_24]
    refine g_iload X dX5_layerPays_90 rfl ?_
    refine g_iadd X dX5_layerPays_92 ?_
    refine g_ast_24 X rfl (by omega) dX5_layerPays_93 ?_
    simp only [mW_s24]
    refine g_eq rfl (σ' := mW σ (ad1 (sb1 z (9 + su) (lpP z su s9)) (41 + su) (lpP z su s9)) (upd f 9 (if (lpP z su s9) < s9 ∧ f 9 = -1 then nI i else f 9)) sh) rfl ?_
    refine g_aload_n X dX5_layerPays_94 rfl rfl ?_
    refine g_get_23_0 X hi5 (by decide +kernel) dX5_layerPays_95 ?_
    refine g_iload X dX5_layerPays_98 rfl ?_
    refine g_iconstN X 2 dX5_layerPays_100 ?_
    refine g_iaddN X dX5_layerPays_101 ?_
    refine g_dup2_11 X dX5_layerPays_102 rfl rfl ?_
    refine g_ald_24 X rfl (by omega) dX5_layerPays_103 ?_
    simp only [mW_24]
    refine g_iload X dX5_layerPays_104 rfl ?_
    refine g_isub X dX5_layerPays_106 ?_
    refine g_ast_24 X rfl (by omega) dX5_layerPays_107 ?_
    simp only [mW_s24]
    refine g_eq rfl (σ' := mW σ (sb1 (ad1 (sb1 z (9 + su) (lpP z su s9)) (41 + su) (lpP z su s9)) ((121 + 31 * b + 15 + 4 * i) + 2) (lpP z su s9)) (upd f 9 (if (lpP z su s9) < s9 ∧ f 9 = -1 then nI i else f 9)) sh) rfl ?_
    refine g_aload_n X dX5_layerPays_108 rfl rfl ?_
    refine g_get_23_0 X hi5 (by decide +kernel) dX5_layerPays_109 ?_
    refine g_iload X dX5_layerPays_112 rfl ?_
    refine g_iconstN X 3 dX5_layerPays_114 ?_
    refine g_iaddN X dX5_layerPays_115 ?_
    refine g_dup2_11 X dX5_layerPays_116 rfl rfl ?_
    refine g_ald_24 X rfl (by omega) dX5_layerPays_117 ?_
    simp only [mW_24]
    refine g_iload X dX5_layerPays_118 rfl ?_
    refine g_iadd X dX5_layerPays_120 ?_
    refine g_ast_24 X rfl (by omega) dX5_layerPays_121 ?_
    simp only [mW_s24]
    refine g_eq rfl (σ' := mW σ (ad1 (sb1 (ad1 (sb1 z (9 + su) (lpP z su s9)) (41 + su) (lpP z su s9)) ((121 + 31 * b + 15 + 4 * i) + 2) (lpP z su s9)) ((121 + 31 * b + 15 + 4 * i) + 3) (lpP z su s9)) (upd f 9 (if (lpP z su s9) < s9 ∧ f 9 = -1 then nI i else f 9)) sh) rfl ?_
    refine g_aload_n X dX5_layerPays_122 rfl rfl ?_
    refine g_dup X dX5_layerPays_123 rfl ?_
    refine g_get_23_7 X hi5 (by decide +kernel) dX5_layerPays_124 ?_
    simp only [mW_23]
    refine g_iload X dX5_layerPays_127 rfl ?_
    refine g_iadd X dX5_layerPays_129 ?_
    refine g_put_23_7 X hi5 (by decide +kernel) dX5_layerPays_130 ?_
    simp only [mW_s23, mW_23]
    refine g_eq rfl (σ' := mW σ (lpY z b i su (lpP z su s9)) (lpF f i (lpP z su s9) s9) sh) rfl ?_
    refine g_iload X dX5_layerPays_133 rfl ?_
    refine g_if_le (tgt := 160) X dX5_layerPays_135 (by decide) (fun c_135 => ?_) (fun c_135 => ?_)
    · refine g_iload X dX5_layerPays_160 rfl ?_
      exact g_iret X hr hlk dX5_layerPays_162 ⟨rfl, by unfold lpZ; first | (rw [if_pos c_135]; done) | (rw [if_neg c_135]; done)⟩
    · refine g_aload_n X dX5_layerPays_138 rfl rfl ?_
      refine g_aload_n X dX5_layerPays_139 rfl rfl ?_
      refine g_get_23_0 X hi5 (by decide +kernel) dX5_layerPays_140 ?_
      refine g_iload_n X dX5_layerPays_143 rfl rfl ?_
      refine g_callSi (na := 1) X hj (k_X5_at l γ _ _) gX5_layerPays_X5_at rfl ⟨rfl, rfl⟩ (by decide +kernel) rfl ⟨by decide, by decide⟩ rfl (Nat.le_of_ble_eq_true rfl) dX5_layerPays_144 ⟨by decide, by decide⟩ ?_
      refine g_ald_24 X rfl (by omega) dX5_layerPays_147 ?_
      refine g_top (y := nI prn) (by rw [mW_24]; unfold lpY; rw [ad1_ne (by omega), sb1_ne (by omega), ad1_ne (by omega), sb1_ne (by omega)]; exact hpr) ?_
      refine g_aload_n X dX5_layerPays_148 rfl rfl ?_
      refine g_get_23_0 X hi5 (by decide +kernel) dX5_layerPays_149 ?_
      refine g_iload X dX5_layerPays_152 rfl ?_
      refine g_ald_24 X rfl (by omega) dX5_layerPays_154 ?_
      refine g_top (y := nI su) (by first | (rw [mW_24]; exact hsu) | (rw [mW_24, sb1_ne (by omega)]; exact hsu) | (rw [mW_24]; unfold lpY; rw [ad1_ne (by omega), sb1_ne (by omega), ad1_ne (by omega), sb1_ne (by omega)]; exact hsu)) ?_
      refine g_iload X dX5_layerPays_155 rfl ?_
      refine g_callVv (na := 3) X hj (k_X5_makeGood l γ σ _ _ _ prn su _ hp hs (by rw [lpY_by z (lpP z su s9) hs prn hp]; exact chOK_c (lpY_by z (lpP z su s9) hs) _ _ hch)) gW_23 rfl gX5_layerPays_X5_makeGood rfl ⟨rfl, rfl⟩ (by decide +kernel) rfl ⟨by decide, by decide⟩ rfl (Nat.le_of_ble_eq_true rfl) dX5_layerPays_157 ⟨by decide, by decide⟩ ?_
      refine g_iload X dX5_layerPays_160 rfl ?_
      exact g_iret X hr hlk dX5_layerPays_162 ⟨rfl, by unfold lpZ; first | (rw [if_pos c_135]; done) | (rw [if_neg c_135]; done)⟩
  · refine g_aload_n X dX5_layerPays_35 rfl rfl ?_
    refine g_get_23_9 X hi5 (by decide +kernel) dX5_layerPays_36 ?_
    simp only [mW_23]
    refine g_iconst (v := -1) X dX5_layerPays_39 (by decide) ?_
    refine g_icmp_ne (tgt := 47) X dX5_layerPays_40 (by decide) (fun c_40 => ?_) (fun c_40 => ?_)
    · refine g_aload_n X dX5_layerPays_47 rfl rfl ?_
      refine g_get_23_9 X hi5 (by decide +kernel) dX5_layerPays_48 ?_
      simp only [mW_23]
      refine g_put_23_9 X hi5 (by decide +kernel) dX5_layerPays_51 ?_
      simp only [mW_s23, mW_23]
      refine g_eq rfl (σ' := mW σ z (upd f 9 (if (lpP z su s9) < s9 ∧ f 9 = -1 then nI i else f 9)) sh) (by first | (rw [if_pos ⟨Int32.not_le.mp c_32, c_40⟩]; done) | (rw [if_neg (fun q => c_40 q.2)]; done) | (rw [if_neg (fun q => absurd q.1 (Int32.not_lt.mpr c_32))]; done)) ?_
      refine g_aload_n X dX5_layerPays_54 rfl rfl ?_
      refine g_get_23_0 X hi5 (by decide +kernel) dX5_layerPays_55 ?_
      refine g_bipush (v := nI 9) X dX5_layerPays_58 (by decide) ?_
      refine g_aload_n X dX5_layerPays_60 rfl rfl ?_
      refine g_get_23_0 X hi5 (by decide +kernel) dX5_layerPays_61 ?_
      refine g_iload X dX5_layerPays_64 rfl ?_
      refine g_ald_24 X rfl (by omega) dX5_layerPays_66 ?_
      refine g_top (y := nI su) (by first | (rw [mW_24]; exact hsu) | (rw [mW_24, sb1_ne (by omega)]; exact hsu) | (rw [mW_24]; unfold lpY; rw [ad1_ne (by omega), sb1_ne (by omega), ad1_ne (by omega), sb1_ne (by omega)]; exact hsu)) ?_
      refine g_iaddN X dX5_layerPays_67 ?_
      refine g_dup2_11 X dX5_layerPays_68 rfl rfl ?_
      refine g_ald_24 X rfl (by omega) dX5_layerPays_69 ?_
      simp only [mW_24]
      refine g_iload X dX5_layerPays_70 rfl ?_
      refine g_isub X dX5_layerPays_72 ?_
      refine g_ast_24 X rfl (by omega) dX5_layerPays_73 ?_
      simp only [mW_s24]
      refine g_eq rfl (σ' := mW σ (sb1 z (9 + su) (lpP z su s9)) (upd f 9 (if (lpP z su s9) < s9 ∧ f 9 = -1 then nI i else f 9)) sh) rfl ?_
      refine g_aload_n X dX5_layerPays_74 rfl rfl ?_
      refine g_get_23_0 X hi5 (by decide +kernel) dX5_layerPays_75 ?_
      refine g_bipush (v := nI 41) X dX5_layerPays_78 (by decide) ?_
      refine g_aload_n X dX5_layerPays_80 rfl rfl ?_
      refine g_get_23_0 X hi5 (by decide +kernel) dX5_layerPays_81 ?_
      refine g_iload X dX5_layerPays_84 rfl ?_
      refine g_ald_24 X rfl (by omega) dX5_layerPays_86 ?_
      refine g_top (y := nI su) (by first | (rw [mW_24]; exact hsu) | (rw [mW_24, sb1_ne (by omega)]; exact hsu) | (rw [mW_24]; unfold lpY; rw [ad1_ne (by omega), sb1_ne (by omega), ad1_ne (by omega), sb1_ne (by omega)]; exact hsu)) ?_
      refine g_iaddN X dX5_layerPays_87 ?_
      refine g_dup2_11 X dX5_layerPays_88 rfl rfl ?_
      refine g_ald_24 X rfl (by omega) dX5_layerPays_89 ?_
      simp only [mW_24]
      refine g_iload X dX5_layerPays_90 rfl ?_
      refine g_iadd X dX5_layerPays_92 ?_
      refine g_ast_24 X rfl (by omega) dX5_layerPays_93 ?_
      simp only [mW_s24]
      refine g_eq rfl (σ' := mW σ (ad1 (sb1 z (9 + su) (lpP z su s9)) (41 + su) (lpP z su s9)) (upd f 9 (if (lpP z su s9) < s9 ∧ f 9 = -1 then nI i else f 9)) sh) rfl ?_
      refine g_aload_n X dX5_layerPays_94 rfl rfl ?_
      refine g_get_23_0 X hi5 (by decide +kernel) dX5_layerPays_95 ?_
      refine g_iload X dX5_layerPays_98 rfl ?_
      refine g_iconstN X 2 dX5_layerPays_100 ?_
      refine g_iaddN X dX5_layerPays_101 ?_
      refine g_dup2_11 X dX5_layerPays_102 rfl rfl ?_
      refine g_ald_24 X rfl (by omega) dX5_layerPays_103 ?_
      simp only [mW_24]
      refine g_iload X dX5_layerPays_104 rfl ?_
      refine g_isub X dX5_layerPays_106 ?_
      refine g_ast_24 X rfl (by omega) dX5_layerPays_107 ?_
      simp only [mW_s24]
      refine g_eq rfl (σ' := mW σ (sb1 (ad1 (sb1 z (9 + su) (lpP z su s9)) (41 + su) (lpP z su s9)) ((121 + 31 * b + 15 + 4 * i) + 2) (lpP z su s9)) (upd f 9 (if (lpP z su s9) < s9 ∧ f 9 = -1 then nI i else f 9)) sh) rfl ?_
      refine g_aload_n X dX5_layerPays_108 rfl rfl ?_
      refine g_get_23_0 X hi5 (by decide +kernel) dX5_layerPays_109 ?_
      refine g_iload X dX5_layerPays_112 rfl ?_
      refine g_iconstN X 3 dX5_layerPays_114 ?_
      refine g_iaddN X dX5_layerPays_115 ?_
      refine g_dup2_11 X dX5_layerPays_116 rfl rfl ?_
      refine g_ald_24 X rfl (by omega) dX5_layerPays_117 ?_
      simp only [mW_24]
      refine g_iload X dX5_layerPays_118 rfl ?_
      refine g_iadd X dX5_layerPays_120 ?_
      refine g_ast_24 X rfl (by omega) dX5_layerPays_121 ?_
      simp only [mW_s24]
      refine g_eq rfl (σ' := mW σ (ad1 (sb1 (ad1 (sb1 z (9 + su) (lpP z su s9)) (41 + su) (lpP z su s9)) ((121 + 31 * b + 15 + 4 * i) + 2) (lpP z su s9)) ((121 + 31 * b + 15 + 4 * i) + 3) (lpP z su s9)) (upd f 9 (if (lpP z su s9) < s9 ∧ f 9 = -1 then nI i else f 9)) sh) rfl ?_
      refine g_aload_n X dX5_layerPays_122 rfl rfl ?_
      refine g_dup X dX5_layerPays_123 rfl ?_
      refine g_get_23_7 X hi5 (by decide +kernel) dX5_layerPays_124 ?_
      simp only [mW_23]
      refine g_iload X dX5_layerPays_127 rfl ?_
      refine g_iadd X dX5_layerPays_129 ?_
      refine g_put_23_7 X hi5 (by decide +kernel) dX5_layerPays_130 ?_
      simp only [mW_s23, mW_23]
      refine g_eq rfl (σ' := mW σ (lpY z b i su (lpP z su s9)) (lpF f i (lpP z su s9) s9) sh) rfl ?_
      refine g_iload X dX5_layerPays_133 rfl ?_
      refine g_if_le (tgt := 160) X dX5_layerPays_135 (by decide) (fun c_135 => ?_) (fun c_135 => ?_)
      · refine g_iload X dX5_layerPays_160 rfl ?_
        exact g_iret X hr hlk dX5_layerPays_162 ⟨rfl, by unfold lpZ; first | (rw [if_pos c_135]; done) | (rw [if_neg c_135]; done)⟩
      · refine g_aload_n X dX5_layerPays_138 rfl rfl ?_
        refine g_aload_n X dX5_layerPays_139 rfl rfl ?_
        refine g_get_23_0 X hi5 (by decide +kernel) dX5_layerPays_140 ?_
        refine g_iload_n X dX5_layerPays_143 rfl rfl ?_
        refine g_callSi (na := 1) X hj (k_X5_at l γ _ _) gX5_layerPays_X5_at rfl ⟨rfl, rfl⟩ (by decide +kernel) rfl ⟨by decide, by decide⟩ rfl (Nat.le_of_ble_eq_true rfl) dX5_layerPays_144 ⟨by decide, by decide⟩ ?_
        refine g_ald_24 X rfl (by omega) dX5_layerPays_147 ?_
        refine g_top (y := nI prn) (by rw [mW_24]; unfold lpY; rw [ad1_ne (by omega), sb1_ne (by omega), ad1_ne (by omega), sb1_ne (by omega)]; exact hpr) ?_
        refine g_aload_n X dX5_layerPays_148 rfl rfl ?_
        refine g_get_23_0 X hi5 (by decide +kernel) dX5_layerPays_149 ?_
        refine g_iload X dX5_layerPays_152 rfl ?_
        refine g_ald_24 X rfl (by omega) dX5_layerPays_154 ?_
        refine g_top (y := nI su) (by first | (rw [mW_24]; exact hsu) | (rw [mW_24, sb1_ne (by omega)]; exact hsu) | (rw [mW_24]; unfold lpY; rw [ad1_ne (by omega), sb1_ne (by omega), ad1_ne (by omega), sb1_ne (by omega)]; exact hsu)) ?_
        refine g_iload X dX5_layerPays_155 rfl ?_
        refine g_callVv (na := 3) X hj (k_X5_makeGood l γ σ _ _ _ prn su _ hp hs (by rw [lpY_by z (lpP z su s9) hs prn hp]; exact chOK_c (lpY_by z (lpP z su s9) hs) _ _ hch)) gW_23 rfl gX5_layerPays_X5_makeGood rfl ⟨rfl, rfl⟩ (by decide +kernel) rfl ⟨by decide, by decide⟩ rfl (Nat.le_of_ble_eq_true rfl) dX5_layerPays_157 ⟨by decide, by decide⟩ ?_
        refine g_iload X dX5_layerPays_160 rfl ?_
        exact g_iret X hr hlk dX5_layerPays_162 ⟨rfl, by unfold lpZ; first | (rw [if_pos c_135]; done) | (rw [if_neg c_135]; done)⟩
    · refine g_iload_n X dX5_layerPays_43 rfl rfl ?_
      refine g_goto (tgt := 51) X dX5_layerPays_44 (by decide) ?_
      refine g_put_23_9 X hi5 (by decide +kernel) dX5_layerPays_51 ?_
      simp only [mW_s23, mW_23]
      refine g_eq rfl (σ' := mW σ z (upd f 9 (if (lpP z su s9) < s9 ∧ f 9 = -1 then nI i else f 9)) sh) (by first | (rw [if_pos ⟨Int32.not_le.mp c_32, c_40⟩]; done) | (rw [if_neg (fun q => c_40 q.2)]; done) | (rw [if_neg (fun q => absurd q.1 (Int32.not_lt.mpr c_32))]; done)) ?_
      refine g_aload_n X dX5_layerPays_54 rfl rfl ?_
      refine g_get_23_0 X hi5 (by decide +kernel) dX5_layerPays_55 ?_
      refine g_bipush (v := nI 9) X dX5_layerPays_58 (by decide) ?_
      refine g_aload_n X dX5_layerPays_60 rfl rfl ?_
      refine g_get_23_0 X hi5 (by decide +kernel) dX5_layerPays_61 ?_
      refine g_iload X dX5_layerPays_64 rfl ?_
      refine g_ald_24 X rfl (by omega) dX5_layerPays_66 ?_
      refine g_top (y := nI su) (by first | (rw [mW_24]; exact hsu) | (rw [mW_24, sb1_ne (by omega)]; exact hsu) | (rw [mW_24]; unfold lpY; rw [ad1_ne (by omega), sb1_ne (by omega), ad1_ne (by omega), sb1_ne (by omega)]; exact hsu)) ?_
      refine g_iaddN X dX5_layerPays_67 ?_
      refine g_dup2_11 X dX5_layerPays_68 rfl rfl ?_
      refine g_ald_24 X rfl (by omega) dX5_layerPays_69 ?_
      simp only [mW_24]
      refine g_iload X dX5_layerPays_70 rfl ?_
      refine g_isub X dX5_layerPays_72 ?_
      refine g_ast_24 X rfl (by omega) dX5_layerPays_73 ?_
      simp only [mW_s24]
      refine g_eq rfl (σ' := mW σ (sb1 z (9 + su) (lpP z su s9)) (upd f 9 (if (lpP z su s9) < s9 ∧ f 9 = -1 then nI i else f 9)) sh) rfl ?_
      refine g_aload_n X dX5_layerPays_74 rfl rfl ?_
      refine g_get_23_0 X hi5 (by decide +kernel) dX5_layerPays_75 ?_
      refine g_bipush (v := nI 41) X dX5_layerPays_78 (by decide) ?_
      refine g_aload_n X dX5_layerPays_80 rfl rfl ?_
      refine g_get_23_0 X hi5 (by decide +kernel) dX5_layerPays_81 ?_
      refine g_iload X dX5_layerPays_84 rfl ?_
      refine g_ald_24 X rfl (by omega) dX5_layerPays_86 ?_
      refine g_top (y := nI su) (by first | (rw [mW_24]; exact hsu) | (rw [mW_24, sb1_ne (by omega)]; exact hsu) | (rw [mW_24]; unfold lpY; rw [ad1_ne (by omega), sb1_ne (by omega), ad1_ne (by omega), sb1_ne (by omega)]; exact hsu)) ?_
      refine g_iaddN X dX5_layerPays_87 ?_
      refine g_dup2_11 X dX5_layerPays_88 rfl rfl ?_
      refine g_ald_24 X rfl (by omega) dX5_layerPays_89 ?_
      simp only [mW_24]
      refine g_iload X dX5_layerPays_90 rfl ?_
      refine g_iadd X dX5_layerPays_92 ?_
      refine g_ast_24 X rfl (by omega) dX5_layerPays_93 ?_
      simp only [mW_s24]
      refine g_eq rfl (σ' := mW σ (ad1 (sb1 z (9 + su) (lpP z su s9)) (41 + su) (lpP z su s9)) (upd f 9 (if (lpP z su s9) < s9 ∧ f 9 = -1 then nI i else f 9)) sh) rfl ?_
      refine g_aload_n X dX5_layerPays_94 rfl rfl ?_
      refine g_get_23_0 X hi5 (by decide +kernel) dX5_layerPays_95 ?_
      refine g_iload X dX5_layerPays_98 rfl ?_
      refine g_iconstN X 2 dX5_layerPays_100 ?_
      refine g_iaddN X dX5_layerPays_101 ?_
      refine g_dup2_11 X dX5_layerPays_102 rfl rfl ?_
      refine g_ald_24 X rfl (by omega) dX5_layerPays_103 ?_
      simp only [mW_24]
      refine g_iload X dX5_layerPays_104 rfl ?_
      refine g_isub X dX5_layerPays_106 ?_
      refine g_ast_24 X rfl (by omega) dX5_layerPays_107 ?_
      simp only [mW_s24]
      refine g_eq rfl (σ' := mW σ (sb1 (ad1 (sb1 z (9 + su) (lpP z su s9)) (41 + su) (lpP z su s9)) ((121 + 31 * b + 15 + 4 * i) + 2) (lpP z su s9)) (upd f 9 (if (lpP z su s9) < s9 ∧ f 9 = -1 then nI i else f 9)) sh) rfl ?_
      refine g_aload_n X dX5_layerPays_108 rfl rfl ?_
      refine g_get_23_0 X hi5 (by decide +kernel) dX5_layerPays_109 ?_
      refine g_iload X dX5_layerPays_112 rfl ?_
      refine g_iconstN X 3 dX5_layerPays_114 ?_
      refine g_iaddN X dX5_layerPays_115 ?_
      refine g_dup2_11 X dX5_layerPays_116 rfl rfl ?_
      refine g_ald_24 X rfl (by omega) dX5_layerPays_117 ?_
      simp only [mW_24]
      refine g_iload X dX5_layerPays_118 rfl ?_
      refine g_iadd X dX5_layerPays_120 ?_
      refine g_ast_24 X rfl (by omega) dX5_layerPays_121 ?_
      simp only [mW_s24]
      refine g_eq rfl (σ' := mW σ (ad1 (sb1 (ad1 (sb1 z (9 + su) (lpP z su s9)) (41 + su) (lpP z su s9)) ((121 + 31 * b + 15 + 4 * i) + 2) (lpP z su s9)) ((121 + 31 * b + 15 + 4 * i) + 3) (lpP z su s9)) (upd f 9 (if (lpP z su s9) < s9 ∧ f 9 = -1 then nI i else f 9)) sh) rfl ?_
      refine g_aload_n X dX5_layerPays_122 rfl rfl ?_
      refine g_dup X dX5_layerPays_123 rfl ?_
      refine g_get_23_7 X hi5 (by decide +kernel) dX5_layerPays_124 ?_
      simp only [mW_23]
      refine g_iload X dX5_layerPays_127 rfl ?_
      refine g_iadd X dX5_layerPays_129 ?_
      refine g_put_23_7 X hi5 (by decide +kernel) dX5_layerPays_130 ?_
      simp only [mW_s23, mW_23]
      refine g_eq rfl (σ' := mW σ (lpY z b i su (lpP z su s9)) (lpF f i (lpP z su s9) s9) sh) rfl ?_
      refine g_iload X dX5_layerPays_133 rfl ?_
      refine g_if_le (tgt := 160) X dX5_layerPays_135 (by decide) (fun c_135 => ?_) (fun c_135 => ?_)
      · refine g_iload X dX5_layerPays_160 rfl ?_
        exact g_iret X hr hlk dX5_layerPays_162 ⟨rfl, by unfold lpZ; first | (rw [if_pos c_135]; done) | (rw [if_neg c_135]; done)⟩
      · refine g_aload_n X dX5_layerPays_138 rfl rfl ?_
        refine g_aload_n X dX5_layerPays_139 rfl rfl ?_
        refine g_get_23_0 X hi5 (by decide +kernel) dX5_layerPays_140 ?_
        refine g_iload_n X dX5_layerPays_143 rfl rfl ?_
        refine g_callSi (na := 1) X hj (k_X5_at l γ _ _) gX5_layerPays_X5_at rfl ⟨rfl, rfl⟩ (by decide +kernel) rfl ⟨by decide, by decide⟩ rfl (Nat.le_of_ble_eq_true rfl) dX5_layerPays_144 ⟨by decide, by decide⟩ ?_
        refine g_ald_24 X rfl (by omega) dX5_layerPays_147 ?_
        refine g_top (y := nI prn) (by rw [mW_24]; unfold lpY; rw [ad1_ne (by omega), sb1_ne (by omega), ad1_ne (by omega), sb1_ne (by omega)]; exact hpr) ?_
        refine g_aload_n X dX5_layerPays_148 rfl rfl ?_
        refine g_get_23_0 X hi5 (by decide +kernel) dX5_layerPays_149 ?_
        refine g_iload X dX5_layerPays_152 rfl ?_
        refine g_ald_24 X rfl (by omega) dX5_layerPays_154 ?_
        refine g_top (y := nI su) (by first | (rw [mW_24]; exact hsu) | (rw [mW_24, sb1_ne (by omega)]; exact hsu) | (rw [mW_24]; unfold lpY; rw [ad1_ne (by omega), sb1_ne (by omega), ad1_ne (by omega), sb1_ne (by omega)]; exact hsu)) ?_
        refine g_iload X dX5_layerPays_155 rfl ?_
        refine g_callVv (na := 3) X hj (k_X5_makeGood l γ σ _ _ _ prn su _ hp hs (by rw [lpY_by z (lpP z su s9) hs prn hp]; exact chOK_c (lpY_by z (lpP z su s9) hs) _ _ hch)) gW_23 rfl gX5_layerPays_X5_makeGood rfl ⟨rfl, rfl⟩ (by decide +kernel) rfl ⟨by decide, by decide⟩ rfl (Nat.le_of_ble_eq_true rfl) dX5_layerPays_157 ⟨by decide, by decide⟩ ?_
        refine g_iload X dX5_layerPays_160 rfl ?_
        exact g_iret X hr hlk dX5_layerPays_162 ⟨rfl, by unfold lpZ; first | (rw [if_pos c_135]; done) | (rw [if_neg c_135]; done)⟩
/-! SHARES BY THE LIMITS, in the reference -/
theorem toL_ne {x : Int32} (h : ¬ x ≤ 0) : ¬ x.toInt64 = 0 := by
  intro q
  apply h
  have h1 : x.toInt64.toInt = (0 : Int64).toInt := by rw [q]
  rw [Int32.toInt_toInt64] at h1
  rw [Int32.le_iff_toInt_le, h1]
  decide
def lsN (z : Nat → Int32) (b : Nat) (most : Int32) (l : Nat) : Int64 := most.toInt64 * (z (121 + 31 * b + 15 + 4 * l + 2)).toInt64
def lsQ (z : Nat → Int32) (b : Nat) (most all : Int32) (l : Nat) : Int32 := (lsN z b most l / all.toInt64).toInt32
def lsR (z : Nat → Int32) (b : Nat) (most all : Int32) (l : Nat) : Int64 := lsN z b most l - lsN z b most l / all.toInt64 * all.toInt64
def lsL (z : Nat → Int32) (b : Nat) (most all : Int32) : Nat → Int32
  | 0 => most
  | l + 1 => lsL z b most all l - lsQ z b most all l
def lsP (z : Nat → Int32) (b : Nat) (most all had : Int32) : Nat → Int32 × Int64
  | 0 => (-1, -1)
  | l + 1 => if (had >>> (nI l &&& 31)) &&& nI 1 = 0 ∧ (lsP z b most all had l).2 < lsR z b most all l then (nI l, lsR z b most all l) else lsP z b most all had l
theorem lsP_s1 {z : Nat → Int32} {b : Nat} {most all had : Int32} {l : Nat} (h1 : (had >>> (nI l &&& 31)) &&& nI 1 = 0) (h2 : (lsP z b most all had l).2 < lsR z b most all l) : lsP z b most all had (l + 1) = (nI l, lsR z b most all l) := by
  rw [lsP, if_pos ⟨h1, h2⟩]
theorem lsP_s0 {z : Nat → Int32} {b : Nat} {most all had : Int32} {l : Nat} (h : ¬ ((had >>> (nI l &&& 31)) &&& nI 1 = 0) ∨ ¬ (lsP z b most all had l).2 < lsR z b most all l) : lsP z b most all had (l + 1) = lsP z b most all had l := by
  rw [lsP, if_neg (fun q => h.elim (fun w => w q.1) (fun w => w q.2))]
def hadI (had : Int32) (y : Nat) : Int32 := had ||| (nI 1 <<< (nI y &&& 31))
def lsW (z : Nat → Int32) (b L : Nat) (most all : Int32) : Nat → Int32 → Int32 → (Nat → Int32) → (Nat → Int32)
  | 0, _, _, sh => sh
  | f + 1, had, left, sh => if left ≤ 0 then sh else lsW z b L most all f (hadI had (lsP z b most all had L).1.toNatClampNeg) (left + Int32.ofInt (-1)) (upd sh (lsP z b most all had L).1.toNatClampNeg (sh (lsP z b most all had L).1.toNatClampNeg + nI 1))
def lsOK (z : Nat → Int32) (b L : Nat) (most all : Int32) : Nat → Int32 → Int32 → Prop
  | 0, left, _ => left ≤ 0
  | f + 1, left, had => left ≤ 0 ∨ ∃ y : Nat, y < L ∧ (lsP z b most all had L).1 = nI y ∧ lsOK z b L most all f (left + Int32.ofInt (-1)) (hadI had y)
def lsM (z : Nat → Int32) (b L : Nat) (rest : Int32) : Int32 := mn (lmZ z b L) rest
def lsZ (z : Nat → Int32) (b L : Nat) (rest : Int32) (sh : Nat → Int32) : Nat → Int32 :=
  if lmZ z b L ≤ 0 then fillI sh (fun _ => nI 0) 4 else lsW z b L (lsM z b L rest) (lmZ z b L) 4 (nI 0) (lsL z b (lsM z b L rest) (lmZ z b L) L) (fillI (fillI sh (fun _ => nI 0) 4) (lsQ z b (lsM z b L rest) (lmZ z b L)) L)
def lsH (z : Nat → Int32) (b L : Nat) (rest : Int32) : Prop := ¬ lmZ z b L ≤ 0 → lsOK z b L (lsM z b L rest) (lmZ z b L) 4 (lsL z b (lsM z b L rest) (lmZ z b L) L) (nI 0)

set_option maxRecDepth 20000 in
theorem k_X5_layShares (l : Launch) (γ : gG) (σ : gS) (z f sh : Nat → Int32) (b L : Nat) (rs : Int32) (hb : b < 10) (hL : z (121 + 31 * b + 3) = nI L) (hL4 : L ≤ 4) (hok : lsH z b L rs) : gM l γ yX5_layShares wsX5_layShares ({ frames := 3, cells := 0, slots := 0, locals := 64 } : Room) [.ref (ad γ 23), .int (nI b), .int rs] (mW σ z f sh) (gis none (mW σ z f (lsZ z b L rs sh))) 0 0 := by
  refine g_enter (own := RX5) (cc := cX5_layShares) (nL := 14) (ret := none) [some (.ref (ad γ 23)), some (.int (nI b)), some (.int rs), none, none, none, none, none, none, none, none, none, none, none] (by decide) rfl rfl (by simp [lg_sl, Value.category]) (by simp [gl_le, glE, Value.category]) (fun hj p e s m args below meth c X hr hlk hnm => ?_)
  have hi5 : ∀ w ∈ wsX50, w ∈ wsX5_layShares := by decide +kernel
  refine g_aload_n X dX5_layShares_0 rfl rfl ?_
  refine g_iload_n X dX5_layShares_1 rfl rfl ?_
  refine g_callVi (na := 1) X hj (k_X5_limitsOf l γ _ _ L (by omega) (by rw [mW_24]; exact hL) hL4) gW_23 rfl gX5_layShares_X5_limitsOf rfl ⟨rfl, rfl⟩ (by decide +kernel) rfl ⟨by decide, by decide⟩ rfl (Nat.le_of_ble_eq_true rfl) dX5_layShares_2 ⟨by decide, by decide⟩ ?_
  simp only [mW_24]
  refine g_istore_n3 X dX5_layShares_5 rfl (by decide) rfl ?_
  refine g_iload_n X dX5_layShares_6 rfl rfl ?_
  refine g_iload_n X dX5_layShares_7 rfl rfl ?_
  refine g_callSi (na := 2) X hj (k_X5_least l γ _ _ _) gX5_layShares_X5_least rfl ⟨rfl, rfl⟩ (by decide +kernel) rfl ⟨by decide, by decide⟩ rfl (Nat.le_of_ble_eq_true rfl) dX5_layShares_8 ⟨by decide, by decide⟩ ?_
  refine g_top (y := (lsM z b L rs)) rfl ?_
  refine g_istore_s4 X dX5_layShares_11 (by decide) rfl ?_
  refine g_iload X dX5_layShares_13 rfl ?_
  refine g_istore_s5 X dX5_layShares_15 (by decide) rfl ?_
  refine g_iconstN X 0 dX5_layShares_17 ?_
  refine g_istore_s6 X dX5_layShares_18 (by decide) rfl ?_
  refine g_up (i0 := 0) (N := 4) (fun i => [some (.ref (ad γ 23)), some (.int (nI b)), some (.int rs), some (.int (lmZ z b L)), some (.int (lsM z b L rs)), some (.int ((lsM z b L rs))), some (.int (nI i)), none, none, none, none, none, none, none]) (fun i => mW σ z f (fillI sh (fun _ => nI 0) i)) (by simp [gl_le]) (by rw [fill_0]) (by omega) (fun i hi ih20 => ?_)
  refine g_iload X dX5_layShares_20 rfl ?_
  refine g_iconstN X 4 dX5_layShares_22 ?_
  refine g_icmpN_ge (tgt := 40) X dX5_layShares_23 (by decide) (by omega) (by omega) (fun c_23 => ?_) (fun c_23 => ?_)
  · have e : i = 4 := by omega
    subst e
    refine g_iconstN X 0 dX5_layShares_40 ?_
    by_cases hall : (lmZ z b L) ≤ 0
    · skip
      refine g_istore_s6 X dX5_layShares_41 (by decide) rfl ?_
      refine g_iload X dX5_layShares_43 rfl ?_
      refine g_aload_n X dX5_layShares_45 rfl rfl ?_
      refine g_get_23_0 X hi5 (by decide +kernel) dX5_layShares_46 ?_
      refine g_iload_n X dX5_layShares_49 rfl rfl ?_
      refine g_callSi (na := 1) X hj (k_X5_at l γ _ _) gX5_layShares_X5_at rfl ⟨rfl, rfl⟩ (by decide +kernel) rfl ⟨by decide, by decide⟩ rfl (Nat.le_of_ble_eq_true rfl) dX5_layShares_50 ⟨by decide, by decide⟩ ?_
      refine g_iconstN X 3 dX5_layShares_53 ?_
      refine g_iaddN X dX5_layShares_54 ?_
      refine g_ald_24 X rfl (by omega) dX5_layShares_55 ?_
      refine g_top hL ?_
      refine g_icmpN_ge (tgt := 110) X dX5_layShares_56 (by decide) (by omega) (by omega) (fun c_56 => ?_) (fun c_56 => ?_)
      · refine g_iconstN X 0 dX5_layShares_110 ?_
        refine g_istore_s6 X dX5_layShares_111 (by decide) rfl ?_
        refine g_iload X dX5_layShares_113 rfl ?_
        refine g_if_le (tgt := 257) X dX5_layShares_115 (by decide) (fun c_115 => ?_) (fun c_115 => ?_)
        · exact g_vret X hr hlk dX5_layShares_257 ⟨rfl, by unfold lsZ; rw [if_pos hall]⟩
        · refine g_iload_n X dX5_layShares_118 rfl rfl ?_
          refine g_if_le (tgt := 257) X dX5_layShares_119 (by decide) (fun c_119 => ?_) (fun c_119 => absurd hall c_119)
          exact g_vret X hr hlk dX5_layShares_257 ⟨rfl, by unfold lsZ; rw [if_pos hall]⟩
      · refine g_iload_n X dX5_layShares_59 rfl rfl ?_
        refine g_if_le (tgt := 110) X dX5_layShares_60 (by decide) (fun c_60 => ?_) (fun c_60 => absurd hall c_60)
        refine g_iconstN X 0 dX5_layShares_110 ?_
        refine g_istore_s6 X dX5_layShares_111 (by decide) rfl ?_
        refine g_iload X dX5_layShares_113 rfl ?_
        refine g_if_le (tgt := 257) X dX5_layShares_115 (by decide) (fun c_115 => ?_) (fun c_115 => ?_)
        · exact g_vret X hr hlk dX5_layShares_257 ⟨rfl, by unfold lsZ; rw [if_pos hall]⟩
        · refine g_iload_n X dX5_layShares_118 rfl rfl ?_
          refine g_if_le (tgt := 257) X dX5_layShares_119 (by decide) (fun c_119 => ?_) (fun c_119 => absurd hall c_119)
          exact g_vret X hr hlk dX5_layShares_257 ⟨rfl, by unfold lsZ; rw [if_pos hall]⟩
    · skip
      refine g_istore_s6 X dX5_layShares_41 (by decide) rfl ?_
      refine g_wf (fun r ls σ2 => ∃ (i : Nat), i + r = L ∧ σ2 = mW σ z f (fillI (fillI sh (fun _ => nI 0) 4) (lsQ z b (lsM z b L rs) (lmZ z b L)) i) ∧ gl_le ([some (.ref (ad γ 23)), some (.int (nI b)), some (.int rs), some (.int (lmZ z b L)), some (.int (lsM z b L rs)), some (.int (lsL z b (lsM z b L rs) (lmZ z b L) i)), some (.int (nI i)), none, none, none, none, none, none, none]) ls) L ⟨0, by omega, by rw [fill_0], by simp [gl_le, lsL, lsM]⟩ (fun r ls σ2 hI ih => ?_)
      obtain ⟨i, hi, rfl, hgl⟩ := hI
      refine g_le hgl ?_
      refine g_iload X dX5_layShares_43 rfl ?_
      refine g_aload_n X dX5_layShares_45 rfl rfl ?_
      refine g_get_23_0 X hi5 (by decide +kernel) dX5_layShares_46 ?_
      refine g_iload_n X dX5_layShares_49 rfl rfl ?_
      refine g_callSi (na := 1) X hj (k_X5_at l γ _ _) gX5_layShares_X5_at rfl ⟨rfl, rfl⟩ (by decide +kernel) rfl ⟨by decide, by decide⟩ rfl (Nat.le_of_ble_eq_true rfl) dX5_layShares_50 ⟨by decide, by decide⟩ ?_
      refine g_iconstN X 3 dX5_layShares_53 ?_
      refine g_iaddN X dX5_layShares_54 ?_
      refine g_ald_24 X rfl (by omega) dX5_layShares_55 ?_
      refine g_top hL ?_
      refine g_icmpN_ge (tgt := 110) X dX5_layShares_56 (by decide) (by omega) (by omega) (fun c_56 => ?_) (fun c_56 => ?_)
      · have e : L = i := by omega
        subst e
        refine g_iconstN X 0 dX5_layShares_110 ?_
        refine g_istore_s6 X dX5_layShares_111 (by decide) rfl ?_
        refine g_wf (fun r ls σ2 => ∃ (had left : Int32) (s9 : Nat → Int32), σ2 = mW σ z f s9 ∧ gl_le ([some (.ref (ad γ 23)), some (.int (nI b)), some (.int rs), some (.int (lmZ z b L)), some (.int (lsM z b L rs)), some (.int (left)), some (.int (had)), none, none, none, none, none, none, none]) ls ∧ lsZ z b L rs sh = lsW z b L (lsM z b L rs) (lmZ z b L) r had left s9 ∧ lsOK z b L (lsM z b L rs) (lmZ z b L) r left had) 4 ⟨nI 0, _, _, rfl, by simp [gl_le], by unfold lsZ; rw [if_neg hall], hok hall⟩ (fun r ls σ2 hI ih => ?_)
        obtain ⟨had, left, s9, rfl, hgl, hz, hco⟩ := hI
        refine g_le hgl ?_
        refine g_iload X dX5_layShares_113 rfl ?_
        refine g_if_le (tgt := 257) X dX5_layShares_115 (by decide) (fun c_115 => ?_) (fun c_115 => ?_)
        · exact g_vret X hr hlk dX5_layShares_257 ⟨rfl, by rw [hz]; cases r <;> simp [lsW, c_115]⟩
        · obtain ⟨r, rfl⟩ : ∃ r2, r = r2 + 1 := by (cases r with | zero => exact absurd hco c_115 | succ r2 => exact ⟨r2, rfl⟩)
          obtain ⟨y, hy, hyP, hc2⟩ := hco.resolve_left c_115
          refine g_iload_n X dX5_layShares_118 rfl rfl ?_
          refine g_if_le (tgt := 257) X dX5_layShares_119 (by decide) (fun c_119 => absurd c_119 hall) (fun c_119 => ?_)
          refine g_iconst (v := -1) X dX5_layShares_122 (by decide) ?_
          refine g_istore_s7 X dX5_layShares_123 (by decide) rfl ?_
          refine g_ldc2 (v := -1) X (by decide +kernel) dX5_layShares_125 ?_
          refine g_lstore_s8 X dX5_layShares_128 (by decide) rfl ?_
          refine g_iconstN X 0 dX5_layShares_130 ?_
          refine g_istore_s10 X dX5_layShares_131 (by decide) rfl ?_
          refine g_up (i0 := 0) (N := L) (fun i => [some (.ref (ad γ 23)), some (.int (nI b)), some (.int rs), some (.int (lmZ z b L)), some (.int (lsM z b L rs)), some (.int (left)), some (.int (had)), some (.int ((lsP z b (lsM z b L rs) (lmZ z b L) had i).1)), some (.long (lsP z b (lsM z b L rs) (lmZ z b L) had i).2), none, some (.int (nI i)), none, none, none]) (fun _ => mW σ z f s9) (by simp [gl_le, lsP]) rfl (by omega) (fun i hi ih133 => ?_)
          refine g_iload X dX5_layShares_133 rfl ?_
          refine g_aload_n X dX5_layShares_135 rfl rfl ?_
          refine g_get_23_0 X hi5 (by decide +kernel) dX5_layShares_136 ?_
          refine g_iload_n X dX5_layShares_139 rfl rfl ?_
          refine g_callSi (na := 1) X hj (k_X5_at l γ _ _) gX5_layShares_X5_at rfl ⟨rfl, rfl⟩ (by decide +kernel) rfl ⟨by decide, by decide⟩ rfl (Nat.le_of_ble_eq_true rfl) dX5_layShares_140 ⟨by decide, by decide⟩ ?_
          refine g_iconstN X 3 dX5_layShares_143 ?_
          refine g_iaddN X dX5_layShares_144 ?_
          refine g_ald_24 X rfl (by omega) dX5_layShares_145 ?_
          refine g_top hL ?_
          refine g_icmpN_ge (tgt := 231) X dX5_layShares_146 (by decide) (by omega) (by omega) (fun c_146 => ?_) (fun c_146 => ?_)
          · have e : L = i := by omega
            subst e
            rw [hyP]
            refine g_iload X dX5_layShares_231 rfl ?_
            refine g_iconstN X 1 dX5_layShares_233 ?_
            refine g_iload X dX5_layShares_234 rfl ?_
            refine g_ishl X dX5_layShares_236 ?_
            refine g_ior X dX5_layShares_237 ?_
            refine g_istore_s6 X dX5_layShares_238 (by decide) rfl ?_
            refine g_aload_n X dX5_layShares_240 rfl rfl ?_
            refine g_get_23_10 X hi5 (by decide +kernel) dX5_layShares_241 ?_
            refine g_iload X dX5_layShares_244 rfl ?_
            refine g_dup2_11 X dX5_layShares_246 rfl rfl ?_
            refine g_ald_28 X rfl (by omega) dX5_layShares_247 ?_
            simp only [mW_28]
            refine g_iconstN X 1 dX5_layShares_248 ?_
            refine g_iadd X dX5_layShares_249 ?_
            refine g_ast_28 X rfl (by omega) dX5_layShares_250 ?_
            simp only [mW_s28, mW_28]
            refine g_iinc5 X dX5_layShares_251 (by decide) rfl ?_
            refine g_goto (tgt := 113) X dX5_layShares_254 (by decide) ?_
            exact ih r (by omega) _ _ ⟨hadI had y, left + Int32.ofInt (-1), upd s9 y (s9 y + nI 1), rfl, by simp [gl_le, hadI], by rw [hz]; simp only [lsW, if_neg c_115]; rw [hyP, nI_clamp (show y < 2 ^ 31 by omega)], hc2⟩
          · refine g_iload X dX5_layShares_149 rfl ?_
            refine g_i2l X dX5_layShares_151 rfl ?_
            refine g_aload_n X dX5_layShares_152 rfl rfl ?_
            refine g_get_23_0 X hi5 (by decide +kernel) dX5_layShares_153 ?_
            refine g_iload_n X dX5_layShares_156 rfl rfl ?_
            refine g_iload X dX5_layShares_157 rfl ?_
            refine g_callSi (na := 2) X hj (k_X5_layerAt l γ _ _ _) gX5_layShares_X5_layerAt rfl ⟨rfl, rfl⟩ (by decide +kernel) rfl ⟨by decide, by decide⟩ rfl (Nat.le_of_ble_eq_true rfl) dX5_layShares_159 ⟨by decide, by decide⟩ ?_
            refine g_iconstN X 2 dX5_layShares_162 ?_
            refine g_iaddN X dX5_layShares_163 ?_
            refine g_ald_24 X rfl (by omega) dX5_layShares_164 ?_
            simp only [mW_24]
            refine g_i2l X dX5_layShares_165 rfl ?_
            refine g_lmul X dX5_layShares_166 ?_
            refine g_iload_n X dX5_layShares_167 rfl rfl ?_
            refine g_i2l X dX5_layShares_168 rfl ?_
            refine g_lrem X dX5_layShares_169 (toL_ne hall) ?_
            refine g_lstore_s11 X dX5_layShares_170 (by decide) rfl ?_
            refine g_iload X dX5_layShares_172 rfl ?_
            refine g_iload X dX5_layShares_174 rfl ?_
            refine g_ishr X dX5_layShares_176 ?_
            refine g_iconstN X 1 dX5_layShares_177 ?_
            refine g_iand X dX5_layShares_178 ?_
            refine g_if_ne (tgt := 194) X dX5_layShares_179 (by decide) (fun c_179 => ?_) (fun c_179 => ?_)
            · refine g_iconstN X 0 dX5_layShares_194 ?_
              refine g_istore_s13 X dX5_layShares_195 (by decide) rfl ?_
              refine g_iload X dX5_layShares_197 rfl ?_
              refine g_if_eq (tgt := 207) X dX5_layShares_199 (by decide) (fun c_199 => ?_) (fun c_199 => absurd (by decide) c_199)
              refine g_iload X dX5_layShares_207 rfl ?_
              refine g_istore_s7 X dX5_layShares_209 (by decide) rfl ?_
              refine g_iload X dX5_layShares_211 rfl ?_
              refine g_if_eq (tgt := 221) X dX5_layShares_213 (by decide) (fun c_213 => ?_) (fun c_213 => absurd (by decide) c_213)
              refine g_lload X dX5_layShares_221 rfl ?_
              refine g_lstore_s8 X dX5_layShares_223 (by decide) rfl ?_
              refine g_iincN10 (d := 1) X dX5_layShares_225 (by decide) rfl ?_
              refine g_goto (tgt := 133) X dX5_layShares_228 (by decide) ?_
              first | (have q1 := c_179; have q2 := cmp_nle c_187; have e9 := lsP_s1 q1 q2; exact g_le (by simp [gl_le, e9, lsR, lsN]) (ih133 (by omega))) | (have q2 := cmp_le c_187; have e9 := lsP_s0 (b := b) (Or.inr q2); exact g_le (by simp [gl_le, e9, lsR, lsN]) (ih133 (by omega))) | (have q1 := c_179; have e9 := lsP_s0 (l := i) (z := z) (b := b) (most := (lsM z b L rs)) (all := (lmZ z b L)) (Or.inl q1); exact g_le (by simp [gl_le, e9, lsR, lsN]) (ih133 (by omega)))
            · refine g_lload X dX5_layShares_182 rfl ?_
              refine g_lload X dX5_layShares_184 rfl ?_
              refine g_lcmp X dX5_layShares_186 ?_
              refine g_if_le (tgt := 194) X dX5_layShares_187 (by decide) (fun c_187 => ?_) (fun c_187 => ?_)
              · refine g_iconstN X 0 dX5_layShares_194 ?_
                refine g_istore_s13 X dX5_layShares_195 (by decide) rfl ?_
                refine g_iload X dX5_layShares_197 rfl ?_
                refine g_if_eq (tgt := 207) X dX5_layShares_199 (by decide) (fun c_199 => ?_) (fun c_199 => absurd (by decide) c_199)
                refine g_iload X dX5_layShares_207 rfl ?_
                refine g_istore_s7 X dX5_layShares_209 (by decide) rfl ?_
                refine g_iload X dX5_layShares_211 rfl ?_
                refine g_if_eq (tgt := 221) X dX5_layShares_213 (by decide) (fun c_213 => ?_) (fun c_213 => absurd (by decide) c_213)
                refine g_lload X dX5_layShares_221 rfl ?_
                refine g_lstore_s8 X dX5_layShares_223 (by decide) rfl ?_
                refine g_iincN10 (d := 1) X dX5_layShares_225 (by decide) rfl ?_
                refine g_goto (tgt := 133) X dX5_layShares_228 (by decide) ?_
                first | (have q1 := c_179; have q2 := cmp_nle c_187; have e9 := lsP_s1 q1 q2; exact g_le (by simp [gl_le, e9, lsR, lsN]) (ih133 (by omega))) | (have q2 := cmp_le c_187; have e9 := lsP_s0 (b := b) (Or.inr q2); exact g_le (by simp [gl_le, e9, lsR, lsN]) (ih133 (by omega))) | (have q1 := c_179; have e9 := lsP_s0 (l := i) (z := z) (b := b) (most := (lsM z b L rs)) (all := (lmZ z b L)) (Or.inl q1); exact g_le (by simp [gl_le, e9, lsR, lsN]) (ih133 (by omega)))
              · refine g_iconstN X 1 dX5_layShares_190 ?_
                refine g_goto (tgt := 195) X dX5_layShares_191 (by decide) ?_
                refine g_istore_s13 X dX5_layShares_195 (by decide) rfl ?_
                refine g_iload X dX5_layShares_197 rfl ?_
                refine g_if_eq (tgt := 207) X dX5_layShares_199 (by decide) (fun c_199 => absurd c_199 (by decide)) (fun c_199 => ?_)
                refine g_iload X dX5_layShares_202 rfl ?_
                refine g_goto (tgt := 209) X dX5_layShares_204 (by decide) ?_
                refine g_istore_s7 X dX5_layShares_209 (by decide) rfl ?_
                refine g_iload X dX5_layShares_211 rfl ?_
                refine g_if_eq (tgt := 221) X dX5_layShares_213 (by decide) (fun c_213 => absurd c_213 (by decide)) (fun c_213 => ?_)
                refine g_lload X dX5_layShares_216 rfl ?_
                refine g_goto (tgt := 223) X dX5_layShares_218 (by decide) ?_
                refine g_lstore_s8 X dX5_layShares_223 (by decide) rfl ?_
                refine g_iincN10 (d := 1) X dX5_layShares_225 (by decide) rfl ?_
                refine g_goto (tgt := 133) X dX5_layShares_228 (by decide) ?_
                first | (have q1 := c_179; have q2 := cmp_nle c_187; have e9 := lsP_s1 q1 q2; exact g_le (by simp [gl_le, e9, lsR, lsN]) (ih133 (by omega))) | (have q2 := cmp_le c_187; have e9 := lsP_s0 (b := b) (Or.inr q2); exact g_le (by simp [gl_le, e9, lsR, lsN]) (ih133 (by omega))) | (have q1 := c_179; have e9 := lsP_s0 (l := i) (z := z) (b := b) (most := (lsM z b L rs)) (all := (lmZ z b L)) (Or.inl q1); exact g_le (by simp [gl_le, e9, lsR, lsN]) (ih133 (by omega)))
      · refine g_iload_n X dX5_layShares_59 rfl rfl ?_
        refine g_if_le (tgt := 110) X dX5_layShares_60 (by decide) (fun c_60 => absurd c_60 hall) (fun c_60 => ?_)
        refine g_aload_n X dX5_layShares_63 rfl rfl ?_
        refine g_get_23_10 X hi5 (by decide +kernel) dX5_layShares_64 ?_
        refine g_iload X dX5_layShares_67 rfl ?_
        refine g_iload X dX5_layShares_69 rfl ?_
        refine g_i2l X dX5_layShares_71 rfl ?_
        refine g_aload_n X dX5_layShares_72 rfl rfl ?_
        refine g_get_23_0 X hi5 (by decide +kernel) dX5_layShares_73 ?_
        refine g_iload_n X dX5_layShares_76 rfl rfl ?_
        refine g_iload X dX5_layShares_77 rfl ?_
        refine g_callSi (na := 2) X hj (k_X5_layerAt l γ _ _ _) gX5_layShares_X5_layerAt rfl ⟨rfl, rfl⟩ (by decide +kernel) rfl ⟨by decide, by decide⟩ rfl (Nat.le_of_ble_eq_true rfl) dX5_layShares_79 ⟨by decide, by decide⟩ ?_
        refine g_iconstN X 2 dX5_layShares_82 ?_
        refine g_iaddN X dX5_layShares_83 ?_
        refine g_ald_24 X rfl (by omega) dX5_layShares_84 ?_
        simp only [mW_24]
        refine g_i2l X dX5_layShares_85 rfl ?_
        refine g_lmul X dX5_layShares_86 ?_
        refine g_iload_n X dX5_layShares_87 rfl rfl ?_
        refine g_i2l X dX5_layShares_88 rfl ?_
        refine g_ldiv X dX5_layShares_89 (toL_ne hall) ?_
        refine g_l2i X dX5_layShares_90 rfl ?_
        refine g_ast_28 X rfl (by omega) dX5_layShares_91 ?_
        simp only [mW_s28, mW_28]
        refine g_eq rfl (σ' := mW σ z f (fillI (fillI sh (fun _ => nI 0) 4) (lsQ z b (lsM z b L rs) (lmZ z b L)) (i + 1))) (congrArg (fun g => mW σ z f g) (fill_s (fillI sh (fun _ => nI 0) 4) (lsQ z b (lsM z b L rs) (lmZ z b L)) i)) ?_
        refine g_iload X dX5_layShares_92 rfl ?_
        refine g_aload_n X dX5_layShares_94 rfl rfl ?_
        refine g_get_23_10 X hi5 (by decide +kernel) dX5_layShares_95 ?_
        refine g_iload X dX5_layShares_98 rfl ?_
        refine g_ald_28 X rfl (by omega) dX5_layShares_100 ?_
        refine g_top (y := lsQ z b (lsM z b L rs) (lmZ z b L) i) (by rw [mW_28, fillI, if_pos (by omega)]) ?_
        refine g_isub X dX5_layShares_101 ?_
        refine g_istore_s5 X dX5_layShares_102 (by decide) rfl ?_
        refine g_iincN6 (d := 1) X dX5_layShares_104 (by decide) rfl ?_
        refine g_goto (tgt := 43) X dX5_layShares_107 (by decide) ?_
        exact ih (r - 1) (by omega) _ _ ⟨i + 1, by omega, rfl, by simp [gl_le, lsL]⟩
  · refine g_aload_n X dX5_layShares_26 rfl rfl ?_
    refine g_get_23_10 X hi5 (by decide +kernel) dX5_layShares_27 ?_
    refine g_iload X dX5_layShares_30 rfl ?_
    refine g_iconstN X 0 dX5_layShares_32 ?_
    refine g_ast_28 X rfl (by omega) dX5_layShares_33 ?_
    simp only [mW_s28, mW_28]
    refine g_eq rfl (σ' := mW σ z f (fillI sh (fun _ => nI 0) (i + 1))) (by rw [← fill_s]) ?_
    refine g_iincN6 (d := 1) X dX5_layShares_34 (by decide) rfl ?_
    refine g_goto (tgt := 20) X dX5_layShares_37 (by decide) ?_
    exact g_le (by simp [gl_le]) (ih20 (by omega))
