/-! A CALL, in the reference -/
def Kq (k : Nat) : Prop := 121 ≤ k ∨ (17 ≤ k ∧ k < 33) ∨ k < 9
theorem mgY_k (z : Nat → Int32) {prn su y k : Nat} (p : Int32) (hp : prn < 8) (hs : su < 8) (hy : y < 8) (hk : Kq k) : mgY z prn su y p k = z k := by
  unfold Kq at hk
  unfold mgY
  rw [ad1_ne (by omega), ad1_ne (by omega), sb1_ne (by omega), ad1_ne (by omega), sb1_ne (by omega)]
theorem mgZ_k {prn su k : Nat} (hp : prn < 8) (hs : su < 8) (hk : Kq k) : ∀ (f : Nat) (z : Nat → Int32) (sh x : Int32), chOK z f x → mgZ prn su f z sh x k = z k
  | 0, _, _, _, _ => rfl
  | f + 1, z, sh, x, hx => by
    rw [mgZ]
    by_cases h : x = -1
    · rw [if_pos h]
    · rw [if_neg h]
      obtain ⟨y, hy, rfl, hc⟩ := hx.resolve_left h
      rw [nI_clamp (show y < 2 ^ 31 by omega), mgZ_k hp hs hk f _ _ _ (by rw [mgY_by z _ hp hs hy y hy]; exact chOK_c (mgY_by z _ hp hs hy) _ _ hc), mgY_k z _ hp hs hy hk]
theorem mgA_k {z : Nat → Int32} {prn su k : Nat} {mo : Int32} (hp : prn < 8) (hs : su < 8) (hk : Kq k) (hch : chOK z 8 (z (17 + prn))) : mgA z prn su mo k = z k := by
  unfold mgA
  have hk2 := hk
  unfold Kq at hk2
  rw [mgZ_k hp hs hk _ _ _ _ (by rw [ad1_ne (by omega)]; exact chOK_c (fun q hq => ad1_ne (by omega)) _ _ hch), ad1_ne (by omega)]
theorem lpZ_k {z : Nat → Int32} {b i prn su k : Nat} {s9 : Int32} (hp : prn < 8) (hs : su < 8) (hk : Kq k) (h2 : k ≠ 121 + 31 * b + 15 + 4 * i + 2) (h3 : k ≠ 121 + 31 * b + 15 + 4 * i + 3) (hch : chOK z 8 (z (17 + prn))) : lpZ z b i prn su s9 k = z k := by
  have hy : lpY z b i su (lpP z su s9) k = z k := by
    unfold Kq at hk
    unfold lpY
    rw [ad1_ne (by omega), sb1_ne (by omega), ad1_ne (by omega), sb1_ne (by omega)]
  unfold lpZ
  split
  · exact hy
  · rw [mgA_k hp hs hk (by rw [lpY_by z _ hs prn hp]; exact chOK_c (lpY_by z _ hs) _ _ hch), hy]
abbrev T3z : Type := (Nat → Int32) × (Nat → Int32) × Int32
def cnS (sh1 : Nat → Int32) (b i : Nat) (t : T3z) : Int32 := if t.1 (121 + 31 * b + 2) = nI 1 then sh1 i else mn (t.1 (121 + 31 * b + 15 + 4 * i + 2)) t.2.2
def cnI (sh1 : Nat → Int32) (b prn : Nat) (su : Nat → Nat) (t0 : T3z) : Nat → T3z
  | 0 => t0
  | i + 1 => (lpZ (cnI sh1 b prn su t0 i).1 b i prn (su i) (cnS sh1 b i (cnI sh1 b prn su t0 i)),
      lpF (cnI sh1 b prn su t0 i).2.1 i (lpP (cnI sh1 b prn su t0 i).1 (su i) (cnS sh1 b i (cnI sh1 b prn su t0 i))) (cnS sh1 b i (cnI sh1 b prn su t0 i)),
      (cnI sh1 b prn su t0 i).2.2 - lpP (cnI sh1 b prn su t0 i).1 (su i) (cnS sh1 b i (cnI sh1 b prn su t0 i)))
theorem cnI_s (sh1 : Nat → Int32) (b prn : Nat) (su : Nat → Nat) (t0 : T3z) (i : Nat) : cnI sh1 b prn su t0 (i + 1) = (lpZ (cnI sh1 b prn su t0 i).1 b i prn (su i) (cnS sh1 b i (cnI sh1 b prn su t0 i)),
      lpF (cnI sh1 b prn su t0 i).2.1 i (lpP (cnI sh1 b prn su t0 i).1 (su i) (cnS sh1 b i (cnI sh1 b prn su t0 i))) (cnS sh1 b i (cnI sh1 b prn su t0 i)),
      (cnI sh1 b prn su t0 i).2.2 - lpP (cnI sh1 b prn su t0 i).1 (su i) (cnS sh1 b i (cnI sh1 b prn su t0 i))) := by rw [cnI]
theorem cnI_0 (sh1 : Nat → Int32) (b prn : Nat) (su : Nat → Nat) (t0 : T3z) : cnI sh1 b prn su t0 0 = t0 := by rw [cnI]
def KL (b k : Nat) : Prop := Kq k ∧ ∀ j, j < 4 → k ≠ 121 + 31 * b + 15 + 4 * j + 2 ∧ k ≠ 121 + 31 * b + 15 + 4 * j + 3
theorem KL_by {b q : Nat} (h : q < 8) : KL b (17 + q) := ⟨Or.inr (Or.inl ⟨by omega, by omega⟩), fun j hj => ⟨by omega, by omega⟩⟩
theorem KL_su {b i : Nat} (hi : i < 4) : KL b (121 + 31 * b + 15 + 4 * i) := ⟨Or.inl (by omega), fun j hj => ⟨by omega, by omega⟩⟩
theorem KL_lo {b j : Nat} (hj : j < 15) : KL b (121 + 31 * b + j) := ⟨Or.inl (by omega), fun i hi => ⟨by omega, by omega⟩⟩
theorem KL_0 {b : Nat} : KL b (121 + 31 * b) := ⟨Or.inl (by omega), fun i hi => ⟨by omega, by omega⟩⟩
theorem cnI_k {sh1 : Nat → Int32} {b prn L : Nat} {su : Nat → Nat} {t0 : T3z} (hp : prn < 8) (hL4 : L ≤ 4) (hsu : ∀ i, i < L → su i < 8) (hch : chOK t0.1 8 (t0.1 (17 + prn))) : ∀ i, i ≤ L → ∀ k, KL b k → (cnI sh1 b prn su t0 i).1 k = t0.1 k
  | 0, _, _, _ => rfl
  | i + 1, hi, k, hk => by
    have ih := cnI_k (sh1 := sh1) (b := b) hp hL4 hsu hch i (by omega)
    rw [cnI_s]
    dsimp only
    rw [lpZ_k hp (hsu i (by omega)) hk.1 (hk.2 i (by omega)).1 (hk.2 i (by omega)).2 (by rw [ih _ (KL_by hp)]; exact chOK_c (fun q hq => ih _ (KL_by hq)) _ _ hch), ih k hk]
def cnD (z : Nat → Int32) (b : Nat) (am : Int32) : Int32 := mn (lfZ z b) am
def cnO (z : Nat → Int32) (b prn : Nat) (am : Int32) : Int32 := mn (z (9 + prn)) (cnD z b am)
def cn3 (z : Nat → Int32) (b prn : Nat) (am : Int32) : Nat → Int32 := ad1 (sb1 (ad1 z (121 + 31 * b + 6) (cnD z b am)) (9 + prn) (cnO z b prn am)) (33 + prn) (cnO z b prn am)
def cnR (z : Nat → Int32) (b prn : Nat) (am : Int32) : Int32 := cnD z b am - cnO z b prn am
def cnSh (z sh : Nat → Int32) (b prn L : Nat) (am : Int32) : Nat → Int32 := lsZ (cn3 z b prn am) b L (cnR z b prn am) sh
def cnE (z f sh : Nat → Int32) (b prn L : Nat) (su : Nat → Nat) (am : Int32) : T3z := cnI (cnSh z sh b prn L am) b prn su (cn3 z b prn am, upd (upd f 9 (-1)) 7 (cnO z b prn am), cnR z b prn am) L
def cnF (z f sh : Nat → Int32) (b prn L : Nat) (su : Nat → Nat) (am : Int32) : Nat → Int32 := upd (cnE z f sh b prn L su am).2.1 8 (cnD z b am - (cnE z f sh b prn L su am).2.1 7)
def cn7 (z f sh : Nat → Int32) (b prn L : Nat) (su : Nat → Nat) (am : Int32) : Nat → Int32 :=
  ad1 (ad1 (ad1 (ad1 (cnE z f sh b prn L su am).1 (121 + 31 * b + 7) (cnF z f sh b prn L su am 7)) 2 (cnD z b am)) 3 (cnF z f sh b prn L su am 7)) 4 (cnF z f sh b prn L su am 8)
def cnZ (z f sh : Nat → Int32) (b prn L : Nat) (su : Nat → Nat) (am : Int32) : Nat → Int32 := trZ (cn7 z f sh b prn L su am) b L
/-- what a call asks of the row -/
def CH (z : Nat → Int32) (b prn L : Nat) (su : Nat → Nat) (am : Int32) : Prop := z (121 + 31 * b) = nI prn ∧ prn < 8 ∧ z (121 + 31 * b + 3) = nI L ∧ L ≤ 4 ∧ (∀ i, i < L → z (121 + 31 * b + 15 + 4 * i) = nI (su i) ∧ su i < 8) ∧ chOK z 8 (z (17 + prn)) ∧ lsH (cn3 z b prn am) b L (cnR z b prn am)
theorem cn3_k {z : Nat → Int32} {b prn k : Nat} {am : Int32} (h1 : k ≠ 121 + 31 * b + 6) (h2 : k ≠ 9 + prn) (h3 : k ≠ 33 + prn) : cn3 z b prn am k = z k := by
  unfold cn3
  rw [ad1_ne h3, sb1_ne h2, ad1_ne h1]
theorem cnSh_d (z sh : Nat → Int32) (b prn L : Nat) (am : Int32) : lsZ (cn3 z b prn am) b L (cnR z b prn am) sh = cnSh z sh b prn L am := rfl

set_option maxRecDepth 20000 in
theorem k_X5_callNow (l : Launch) (γ : gG) (σ : gS) (z f sh : Nat → Int32) (b prn L : Nat) (su : Nat → Nat) (am : Int32) (hb : b < 10) (hC : CH z b prn L su am) : gM l γ yX5_callNow wsX5_callNow ({ frames := 4, cells := 0, slots := 0, locals := 97 } : Room) [.ref (ad γ 23), .int (nI b), .int am] (mW σ z f sh) (gis none (mW σ (cnZ z f sh b prn L su am) (cnF z f sh b prn L su am) (cnSh z sh b prn L am))) 0 0 := by
  obtain ⟨hpr, hp, hL, hL4, hsu, hch, hls⟩ := hC
  have hch3 : chOK (cn3 z b prn am) 8 (cn3 z b prn am (17 + prn)) := by rw [cn3_k (by omega) (by omega) (by omega)]; exact chOK_c (fun q hq => cn3_k (by omega) (by omega) (by omega)) _ _ hch
  have hK : ∀ i, i ≤ L → ∀ k, KL b k → (cnI (cnSh z sh b prn L am) b prn su ((cn3 z b prn am), (upd (upd f 9 (-1)) 7 (cnO z b prn am)), (cnR z b prn am)) i).1 k = (cn3 z b prn am) k := fun i hi k hk => cnI_k (t0 := ((cn3 z b prn am), (upd (upd f 9 (-1)) 7 (cnO z b prn am)), (cnR z b prn am))) hp hL4 (fun i hi => (hsu i hi).2) hch3 i hi k hk
  refine g_enter (own := RX5) (cc := cX5_callNow) (nL := 9) (ret := none) [some (.ref (ad γ 23)), some (.int (nI b)), some (.int am), none, none, none, none, none, none] (by decide) rfl rfl (by simp [lg_sl, Value.category]) (by simp [gl_le, glE, Value.category]) (fun hj p e s m args below meth c X hr hlk hnm => ?_)
  have hi5 : ∀ w ∈ wsX50, w ∈ wsX5_callNow := by decide +kernel
  refine g_iload_n X dX5_callNow_0 rfl rfl ?_
  refine g_callSi (na := 1) X hj (k_X5_at l γ _ _) gX5_callNow_X5_at rfl ⟨rfl, rfl⟩ (by decide +kernel) rfl ⟨by decide, by decide⟩ rfl (Nat.le_of_ble_eq_true rfl) dX5_callNow_1 ⟨by decide, by decide⟩ ?_
  refine g_istore_n3 X dX5_callNow_4 rfl (by decide) rfl ?_
  refine g_iload_n X dX5_callNow_5 rfl rfl ?_
  refine g_aload_n X dX5_callNow_6 rfl rfl ?_
  refine g_iload_n X dX5_callNow_7 rfl rfl ?_
  refine g_callVi (na := 1) X hj (k_X5_leftOf l γ _ _ (by omega)) gW_23 rfl gX5_callNow_X5_leftOf rfl ⟨rfl, rfl⟩ (by decide +kernel) rfl ⟨by decide, by decide⟩ rfl (Nat.le_of_ble_eq_true rfl) dX5_callNow_8 ⟨by decide, by decide⟩ ?_
  simp only [mW_24]
  refine g_callSi (na := 2) X hj (k_X5_least l γ _ _ _) gX5_callNow_X5_least rfl ⟨rfl, rfl⟩ (by decide +kernel) rfl ⟨by decide, by decide⟩ rfl (Nat.le_of_ble_eq_true rfl) dX5_callNow_11 ⟨by decide, by decide⟩ ?_
  refine g_top (y := (cnD z b am)) rfl ?_
  refine g_istore_s4 X dX5_callNow_14 (by decide) rfl ?_
  refine g_iload X dX5_callNow_16 rfl ?_
  refine g_aload_n X dX5_callNow_18 rfl rfl ?_
  refine g_get_23_0 X hi5 (by decide +kernel) dX5_callNow_19 ?_
  refine g_bipush (v := nI 9) X dX5_callNow_22 (by decide) ?_
  refine g_aload_n X dX5_callNow_24 rfl rfl ?_
  refine g_get_23_0 X hi5 (by decide +kernel) dX5_callNow_25 ?_
  refine g_iload_n X dX5_callNow_28 rfl rfl ?_
  refine g_ald_24 X rfl (by omega) dX5_callNow_29 ?_
  refine g_top (y := nI prn) (by rw [mW_24]; exact hpr) ?_
  refine g_iaddN X dX5_callNow_30 ?_
  refine g_ald_24 X rfl (by omega) dX5_callNow_31 ?_
  simp only [mW_24]
  refine g_callSi (na := 2) X hj (k_X5_least l γ _ _ _) gX5_callNow_X5_least rfl ⟨rfl, rfl⟩ (by decide +kernel) rfl ⟨by decide, by decide⟩ rfl (Nat.le_of_ble_eq_true rfl) dX5_callNow_32 ⟨by decide, by decide⟩ ?_
  refine g_top (y := (cnO z b prn am)) rfl ?_
  refine g_istore_s5 X dX5_callNow_35 (by decide) rfl ?_
  refine g_iload X dX5_callNow_37 rfl ?_
  refine g_iload X dX5_callNow_39 rfl ?_
  refine g_isub X dX5_callNow_41 ?_
  refine g_top (y := (cnR z b prn am)) rfl ?_
  refine g_istore_s6 X dX5_callNow_42 (by decide) rfl ?_
  refine g_aload_n X dX5_callNow_44 rfl rfl ?_
  refine g_iconst (v := -1) X dX5_callNow_45 (by decide) ?_
  refine g_put_23_9 X hi5 (by decide +kernel) dX5_callNow_46 ?_
  simp only [mW_s23, mW_23]
  refine g_aload_n X dX5_callNow_49 rfl rfl ?_
  refine g_iload X dX5_callNow_50 rfl ?_
  refine g_put_23_7 X hi5 (by decide +kernel) dX5_callNow_52 ?_
  simp only [mW_s23, mW_23]
  refine g_aload_n X dX5_callNow_55 rfl rfl ?_
  refine g_get_23_0 X hi5 (by decide +kernel) dX5_callNow_56 ?_
  refine g_iload_n X dX5_callNow_59 rfl rfl ?_
  refine g_bipush (v := nI 6) X dX5_callNow_60 (by decide) ?_
  refine g_iaddN X dX5_callNow_62 ?_
  refine g_dup2_11 X dX5_callNow_63 rfl rfl ?_
  refine g_ald_24 X rfl (by omega) dX5_callNow_64 ?_
  simp only [mW_24]
  refine g_iload X dX5_callNow_65 rfl ?_
  refine g_iadd X dX5_callNow_67 ?_
  refine g_ast_24 X rfl (by omega) dX5_callNow_68 ?_
  simp only [mW_s24]
  refine g_eq rfl (σ' := mW σ (ad1 z (121 + 31 * b + 6) (cnD z b am)) (upd (upd f 9 (-1)) 7 (cnO z b prn am)) sh) rfl ?_
  refine g_aload_n X dX5_callNow_69 rfl rfl ?_
  refine g_get_23_0 X hi5 (by decide +kernel) dX5_callNow_70 ?_
  refine g_bipush (v := nI 9) X dX5_callNow_73 (by decide) ?_
  refine g_aload_n X dX5_callNow_75 rfl rfl ?_
  refine g_get_23_0 X hi5 (by decide +kernel) dX5_callNow_76 ?_
  refine g_iload_n X dX5_callNow_79 rfl rfl ?_
  refine g_ald_24 X rfl (by omega) dX5_callNow_80 ?_
  refine g_top (y := nI prn) (by rw [mW_24, ad1_ne (by omega)]; exact hpr) ?_
  refine g_iaddN X dX5_callNow_81 ?_
  refine g_dup2_11 X dX5_callNow_82 rfl rfl ?_
  refine g_ald_24 X rfl (by omega) dX5_callNow_83 ?_
  simp only [mW_24]
  refine g_iload X dX5_callNow_84 rfl ?_
  refine g_isub X dX5_callNow_86 ?_
  refine g_ast_24 X rfl (by omega) dX5_callNow_87 ?_
  simp only [mW_s24]
  refine g_eq rfl (σ' := mW σ (sb1 (ad1 z (121 + 31 * b + 6) (cnD z b am)) (9 + prn) (cnO z b prn am)) (upd (upd f 9 (-1)) 7 (cnO z b prn am)) sh) rfl ?_
  refine g_aload_n X dX5_callNow_88 rfl rfl ?_
  refine g_get_23_0 X hi5 (by decide +kernel) dX5_callNow_89 ?_
  refine g_bipush (v := nI 33) X dX5_callNow_92 (by decide) ?_
  refine g_aload_n X dX5_callNow_94 rfl rfl ?_
  refine g_get_23_0 X hi5 (by decide +kernel) dX5_callNow_95 ?_
  refine g_iload_n X dX5_callNow_98 rfl rfl ?_
  refine g_ald_24 X rfl (by omega) dX5_callNow_99 ?_
  refine g_top (y := nI prn) (by rw [mW_24, sb1_ne (by omega), ad1_ne (by omega)]; exact hpr) ?_
  refine g_iaddN X dX5_callNow_100 ?_
  refine g_dup2_11 X dX5_callNow_101 rfl rfl ?_
  refine g_ald_24 X rfl (by omega) dX5_callNow_102 ?_
  simp only [mW_24]
  refine g_iload X dX5_callNow_103 rfl ?_
  refine g_iadd X dX5_callNow_105 ?_
  refine g_ast_24 X rfl (by omega) dX5_callNow_106 ?_
  simp only [mW_s24]
  refine g_eq rfl (σ' := mW σ (cn3 z b prn am) (upd (upd f 9 (-1)) 7 (cnO z b prn am)) sh) rfl ?_
  refine g_aload_n X dX5_callNow_107 rfl rfl ?_
  refine g_iload_n X dX5_callNow_108 rfl rfl ?_
  refine g_iload X dX5_callNow_109 rfl ?_
  refine g_callVv (na := 2) X hj (k_X5_layShares l γ σ _ _ _ b L _ hb (by rw [cn3_k (by omega) (by omega) (by omega)]; exact hL) hL4 hls) gW_23 rfl gX5_callNow_X5_layShares rfl ⟨rfl, rfl⟩ (by decide +kernel) rfl ⟨by decide, by decide⟩ rfl (Nat.le_of_ble_eq_true rfl) dX5_callNow_111 ⟨by decide, by decide⟩ ?_
  refine g_iconstN X 0 dX5_callNow_114 ?_
  refine g_istore_s7 X dX5_callNow_115 (by decide) rfl ?_
  obtain ⟨sh3, hsh3⟩ : ∃ q, (cnSh z sh b prn L am) = q := ⟨_, rfl⟩
  rw [cnSh_d]
  simp only [hsh3] at hK ⊢
  refine g_wf (fun r ls σ2 => ∃ (i : Nat), i + r = L ∧ σ2 = mW σ (cnI sh3 b prn su ((cn3 z b prn am), (upd (upd f 9 (-1)) 7 (cnO z b prn am)), (cnR z b prn am)) i).1 (cnI sh3 b prn su ((cn3 z b prn am), (upd (upd f 9 (-1)) 7 (cnO z b prn am)), (cnR z b prn am)) i).2.1 sh3 ∧ gl_le ([some (.ref (ad γ 23)), some (.int (nI b)), none, some (.int (nI (121 + 31 * b))), some (.int (cnD z b am)), none, some (.int (cnI sh3 b prn su ((cn3 z b prn am), (upd (upd f 9 (-1)) 7 (cnO z b prn am)), (cnR z b prn am)) i).2.2), some (.int (nI i)), none]) ls) L ⟨0, by omega, by rw [cnI_0], by rw [cnI_0]; simp [gl_le]⟩ (fun r ls σ2 hI ih => ?_)
  obtain ⟨i, hi, rfl, hgl⟩ := hI
  obtain ⟨t, ht⟩ : ∃ t, (cnI sh3 b prn su ((cn3 z b prn am), (upd (upd f 9 (-1)) 7 (cnO z b prn am)), (cnR z b prn am)) i) = t := ⟨_, rfl⟩
  have hKi := hK i (by omega)
  rw [ht] at hgl hKi ⊢
  refine g_le hgl ?_
  refine g_iload X dX5_callNow_117 rfl ?_
  refine g_aload_n X dX5_callNow_119 rfl rfl ?_
  refine g_get_23_0 X hi5 (by decide +kernel) dX5_callNow_120 ?_
  refine g_iload_n X dX5_callNow_123 rfl rfl ?_
  refine g_iconstN X 3 dX5_callNow_124 ?_
  refine g_iaddN X dX5_callNow_125 ?_
  refine g_ald_24 X rfl (by omega) dX5_callNow_126 ?_
  refine g_top (y := nI L) (by rw [mW_24, hKi _ (KL_lo (by omega)), cn3_k (by omega) (by omega) (by omega)]; exact hL) ?_
  refine g_icmpN_ge (tgt := 192) X dX5_callNow_127 (by decide) (by omega) (by omega) (fun c_127 => ?_) (fun c_127 => ?_)
  · have e : L = i := by omega
    subst e
    have hE : cnE z f sh b prn L su am = t := by unfold cnE; rw [hsh3]; exact ht
    refine g_aload_n X dX5_callNow_192 rfl rfl ?_
    refine g_iload X dX5_callNow_193 rfl ?_
    refine g_aload_n X dX5_callNow_195 rfl rfl ?_
    refine g_get_23_7 X hi5 (by decide +kernel) dX5_callNow_196 ?_
    simp only [mW_23]
    refine g_isub X dX5_callNow_199 ?_
    refine g_put_23_8 X hi5 (by decide +kernel) dX5_callNow_200 ?_
    simp only [mW_s23, mW_23]
    refine g_eq rfl (σ' := mW σ (t.1) (upd t.2.1 8 ((cnD z b am) - t.2.1 7)) sh3) rfl ?_
    refine g_aload_n X dX5_callNow_203 rfl rfl ?_
    refine g_get_23_0 X hi5 (by decide +kernel) dX5_callNow_204 ?_
    refine g_iload_n X dX5_callNow_207 rfl rfl ?_
    refine g_bipush (v := nI 7) X dX5_callNow_208 (by decide) ?_
    refine g_iaddN X dX5_callNow_210 ?_
    refine g_dup2_11 X dX5_callNow_211 rfl rfl ?_
    refine g_ald_24 X rfl (by omega) dX5_callNow_212 ?_
    simp only [mW_24]
    refine g_aload_n X dX5_callNow_213 rfl rfl ?_
    refine g_get_23_7 X hi5 (by decide +kernel) dX5_callNow_214 ?_
    simp only [mW_23]
    refine g_iadd X dX5_callNow_217 ?_
    refine g_ast_24 X rfl (by omega) dX5_callNow_218 ?_
    simp only [mW_s24]
    refine g_eq rfl (σ' := mW σ (ad1 t.1 (121 + 31 * b + 7) ((upd t.2.1 8 ((cnD z b am) - t.2.1 7)) 7)) (upd t.2.1 8 ((cnD z b am) - t.2.1 7)) sh3) rfl ?_
    refine g_aload_n X dX5_callNow_219 rfl rfl ?_
    refine g_get_23_0 X hi5 (by decide +kernel) dX5_callNow_220 ?_
    refine g_iconstN X 2 dX5_callNow_223 ?_
    refine g_dup2_11 X dX5_callNow_224 rfl rfl ?_
    refine g_ald_24 X rfl (by omega) dX5_callNow_225 ?_
    simp only [mW_24]
    refine g_iload X dX5_callNow_226 rfl ?_
    refine g_iadd X dX5_callNow_228 ?_
    refine g_ast_24 X rfl (by omega) dX5_callNow_229 ?_
    simp only [mW_s24]
    refine g_eq rfl (σ' := mW σ (ad1 (ad1 t.1 (121 + 31 * b + 7) ((upd t.2.1 8 ((cnD z b am) - t.2.1 7)) 7)) 2 (cnD z b am)) (upd t.2.1 8 ((cnD z b am) - t.2.1 7)) sh3) rfl ?_
    refine g_aload_n X dX5_callNow_230 rfl rfl ?_
    refine g_get_23_0 X hi5 (by decide +kernel) dX5_callNow_231 ?_
    refine g_iconstN X 3 dX5_callNow_234 ?_
    refine g_dup2_11 X dX5_callNow_235 rfl rfl ?_
    refine g_ald_24 X rfl (by omega) dX5_callNow_236 ?_
    simp only [mW_24]
    refine g_aload_n X dX5_callNow_237 rfl rfl ?_
    refine g_get_23_7 X hi5 (by decide +kernel) dX5_callNow_238 ?_
    simp only [mW_23]
    refine g_iadd X dX5_callNow_241 ?_
    refine g_ast_24 X rfl (by omega) dX5_callNow_242 ?_
    simp only [mW_s24]
    refine g_eq rfl (σ' := mW σ (ad1 (ad1 (ad1 t.1 (121 + 31 * b + 7) ((upd t.2.1 8 ((cnD z b am) - t.2.1 7)) 7)) 2 (cnD z b am)) 3 ((upd t.2.1 8 ((cnD z b am) - t.2.1 7)) 7)) (upd t.2.1 8 ((cnD z b am) - t.2.1 7)) sh3) rfl ?_
    refine g_aload_n X dX5_callNow_243 rfl rfl ?_
    refine g_get_23_0 X hi5 (by decide +kernel) dX5_callNow_244 ?_
    refine g_iconstN X 4 dX5_callNow_247 ?_
    refine g_dup2_11 X dX5_callNow_248 rfl rfl ?_
    refine g_ald_24 X rfl (by omega) dX5_callNow_249 ?_
    simp only [mW_24]
    refine g_aload_n X dX5_callNow_250 rfl rfl ?_
    refine g_get_23_8 X hi5 (by decide +kernel) dX5_callNow_251 ?_
    simp only [mW_23]
    refine g_iadd X dX5_callNow_254 ?_
    refine g_ast_24 X rfl (by omega) dX5_callNow_255 ?_
    simp only [mW_s24]
    refine g_eq rfl (σ' := mW σ (ad1 (ad1 (ad1 (ad1 t.1 (121 + 31 * b + 7) ((upd t.2.1 8 ((cnD z b am) - t.2.1 7)) 7)) 2 (cnD z b am)) 3 ((upd t.2.1 8 ((cnD z b am) - t.2.1 7)) 7)) 4 ((upd t.2.1 8 ((cnD z b am) - t.2.1 7)) 8)) (upd t.2.1 8 ((cnD z b am) - t.2.1 7)) sh3) rfl ?_
    refine g_aload_n X dX5_callNow_256 rfl rfl ?_
    refine g_iload_n X dX5_callNow_257 rfl rfl ?_
    refine g_callVv (na := 1) X hj (k_X5_trim l γ _ b L hb (by rw [mW_24, ad1_ne (by omega), ad1_ne (by omega), ad1_ne (by omega), ad1_ne (by omega), hKi _ (KL_lo (by omega)), cn3_k (by omega) (by omega) (by omega)]; exact hL) hL4) gW_23 rfl gX5_callNow_X5_trim rfl ⟨rfl, rfl⟩ (by decide +kernel) rfl ⟨by decide, by decide⟩ rfl (Nat.le_of_ble_eq_true rfl) dX5_callNow_258 ⟨by decide, by decide⟩ ?_
    exact g_vret X hr hlk dX5_callNow_261 ⟨rfl, by simp only [mW_s24, mW_24]; unfold cnZ cn7 cnF; rw [hE]⟩
  · refine g_aload_n X dX5_callNow_130 rfl rfl ?_
    refine g_get_23_0 X hi5 (by decide +kernel) dX5_callNow_131 ?_
    refine g_iload_n X dX5_callNow_134 rfl rfl ?_
    refine g_iconstN X 2 dX5_callNow_135 ?_
    refine g_iaddN X dX5_callNow_136 ?_
    refine g_ald_24 X rfl (by omega) dX5_callNow_137 ?_
    simp only [mW_24]
    refine g_iconstN X 1 dX5_callNow_138 ?_
    refine g_icmp_ne (tgt := 152) X dX5_callNow_139 (by decide) (fun c_139 => ?_) (fun c_139 => ?_)
    · refine g_iload X dX5_callNow_152 rfl ?_
      refine g_aload_n X dX5_callNow_154 rfl rfl ?_
      refine g_get_23_0 X hi5 (by decide +kernel) dX5_callNow_155 ?_
      refine g_iload_n X dX5_callNow_158 rfl rfl ?_
      refine g_iload X dX5_callNow_159 rfl ?_
      refine g_callSi (na := 2) X hj (k_X5_layerAt l γ _ _ _) gX5_callNow_X5_layerAt rfl ⟨rfl, rfl⟩ (by decide +kernel) rfl ⟨by decide, by decide⟩ rfl (Nat.le_of_ble_eq_true rfl) dX5_callNow_161 ⟨by decide, by decide⟩ ?_
      refine g_iconstN X 2 dX5_callNow_164 ?_
      refine g_iaddN X dX5_callNow_165 ?_
      refine g_ald_24 X rfl (by omega) dX5_callNow_166 ?_
      simp only [mW_24]
      refine g_callSi (na := 2) X hj (k_X5_least l γ _ _ _) gX5_callNow_X5_least rfl ⟨rfl, rfl⟩ (by decide +kernel) rfl ⟨by decide, by decide⟩ rfl (Nat.le_of_ble_eq_true rfl) dX5_callNow_167 ⟨by decide, by decide⟩ ?_
      refine g_top (y := cnS sh3 b i t) (by unfold cnS; first | (rw [if_pos c_139]; done) | (rw [if_neg c_139]; done)) ?_
      refine g_istore_s8 X dX5_callNow_170 (by decide) rfl ?_
      refine g_iload X dX5_callNow_172 rfl ?_
      refine g_aload_n X dX5_callNow_174 rfl rfl ?_
      refine g_iload_n X dX5_callNow_175 rfl rfl ?_
      refine g_iload X dX5_callNow_176 rfl ?_
      refine g_iload X dX5_callNow_178 rfl ?_
      refine g_callVi (na := 3) X hj (k_X5_layerPays l γ σ _ _ _ b i prn (su i) _ hb (by omega) (by rw [hKi _ KL_0, cn3_k (by omega) (by omega) (by omega)]; exact hpr) hp (by rw [hKi _ (KL_su (by omega)), cn3_k (by omega) (by omega) (by omega)]; exact (hsu i c_127).1) (hsu i c_127).2 (by rw [hKi _ (KL_by hp)]; exact chOK_c (fun q hq => hKi _ (KL_by hq)) _ _ hch3)) gW_23 rfl gX5_callNow_X5_layerPays rfl ⟨rfl, rfl⟩ (by decide +kernel) rfl ⟨by decide, by decide⟩ rfl (Nat.le_of_ble_eq_true rfl) dX5_callNow_180 ⟨by decide, by decide⟩ ?_
      refine g_isub X dX5_callNow_183 ?_
      refine g_istore_s6 X dX5_callNow_184 (by decide) rfl ?_
      refine g_iincN7 (d := 1) X dX5_callNow_186 (by decide) rfl ?_
      refine g_goto (tgt := 117) X dX5_callNow_189 (by decide) ?_
      exact ih (r - 1) (by omega) _ _ ⟨i + 1, by omega, by rw [cnI_s, ht], by rw [cnI_s, ht]; simp only [gl_le, List.head?_cons, List.tail_cons, and_true, true_and]⟩
    · refine g_aload_n X dX5_callNow_142 rfl rfl ?_
      refine g_get_23_10 X hi5 (by decide +kernel) dX5_callNow_143 ?_
      refine g_iload X dX5_callNow_146 rfl ?_
      refine g_ald_28 X rfl (by omega) dX5_callNow_148 ?_
      simp only [mW_28]
      refine g_goto (tgt := 170) X dX5_callNow_149 (by decide) ?_
      refine g_top (y := cnS sh3 b i t) (by unfold cnS; first | (rw [if_pos c_139]; done) | (rw [if_neg c_139]; done)) ?_
      refine g_istore_s8 X dX5_callNow_170 (by decide) rfl ?_
      refine g_iload X dX5_callNow_172 rfl ?_
      refine g_aload_n X dX5_callNow_174 rfl rfl ?_
      refine g_iload_n X dX5_callNow_175 rfl rfl ?_
      refine g_iload X dX5_callNow_176 rfl ?_
      refine g_iload X dX5_callNow_178 rfl ?_
      refine g_callVi (na := 3) X hj (k_X5_layerPays l γ σ _ _ _ b i prn (su i) _ hb (by omega) (by rw [hKi _ KL_0, cn3_k (by omega) (by omega) (by omega)]; exact hpr) hp (by rw [hKi _ (KL_su (by omega)), cn3_k (by omega) (by omega) (by omega)]; exact (hsu i c_127).1) (hsu i c_127).2 (by rw [hKi _ (KL_by hp)]; exact chOK_c (fun q hq => hKi _ (KL_by hq)) _ _ hch3)) gW_23 rfl gX5_callNow_X5_layerPays rfl ⟨rfl, rfl⟩ (by decide +kernel) rfl ⟨by decide, by decide⟩ rfl (Nat.le_of_ble_eq_true rfl) dX5_callNow_180 ⟨by decide, by decide⟩ ?_
      refine g_isub X dX5_callNow_183 ?_
      refine g_istore_s6 X dX5_callNow_184 (by decide) rfl ?_
      refine g_iincN7 (d := 1) X dX5_callNow_186 (by decide) rfl ?_
      refine g_goto (tgt := 117) X dX5_callNow_189 (by decide) ?_
      exact ih (r - 1) (by omega) _ _ ⟨i + 1, by omega, by rw [cnI_s, ht], by rw [cnI_s, ht]; simp only [gl_le, List.head?_cons, List.tail_cons, and_true, true_and]⟩
