/-! THE LAW'S BODY -/
theorem D_fst {A : Nat → Prop} {w w' : va_W} (h : va_D A w) (e : w.map (fun q => q.1) = w'.map (fun q => q.1)) : va_D A w' := by
  have key : ∀ (k : Nat) (q : Nat × va_E), w'[k]? = some q → ∃ q0 : Nat × va_E, w[k]? = some q0 ∧ q0.1 = q.1 := fun k q hk => by
    have h1 : (w'.map (fun q => q.1))[k]? = some q.1 := by rw [List.getElem?_map, hk]; rfl
    rw [← e, List.getElem?_map] at h1
    cases h2 : w[k]? with
    | none => rw [h2] at h1; cases h1
    | some q0 => rw [h2] at h1; exact ⟨q0, rfl, Option.some.inj h1⟩
  refine ⟨fun i j p q hi hj hpq => ?_, fun k q hk => ?_⟩
  · obtain ⟨p0, h1, h2⟩ := key i p hi
    obtain ⟨q0, h3, h4⟩ := key j q hj
    exact h.1 i j p0 q0 h1 h3 (by rw [h2, h4]; exact hpq)
  · obtain ⟨q0, h1, h2⟩ := key k q hk
    rw [← h2]
    exact h.2 k q0 h1
theorem P_set {D : va_G} {cl : List vw_C} {ws : va_W} {H : Heap} {a k0 : Nat} {e : va_E} (h : va_P D cl ws H) (he : va_at D cl (a, e) H) : va_P D cl (ws.set k0 (a, e)) H := fun k q hk => by
  by_cases hkk : k0 = k
  · subst hkk
    by_cases hl : k0 < ws.length
    · rw [List.getElem?_set_self hl] at hk
      cases hk
      exact he
    · rw [List.set_eq_of_length_le (by omega)] at hk
      exact h k0 q hk
  · rw [List.getElem?_set_ne hkk] at hk
    exact h k q hk
theorem rows_cell {c : ClassId} {r g : Nat → Nat} (h : ∀ i, i < 6 → g i = r i) : vp_cell c (6, .inr (.inr (.inr (.inr (fun i => if i < 6 then some (r i) else none))))) = vp_cell c (6, .inr (.inr (.inr (.inr (fun i => some (g i)))))) := by
  show arrV c 6 (fun j => va_rf (if j < 6 then some (r j) else none)) = arrV c 6 (fun j => va_rf (some (g j)))
  unfold arrV
  congr 1
  apply Array.ext
  · simp
  · intro i h1 h2
    have hi : i < 6 := by simpa using h1
    simp only [Array.getElem_ofFn]
    rw [if_pos hi, h i hi]
def adL (l : List Nat) : Nat → Nat := fun k => l.getD k 0
def w31 (yT : TY3) (a0 a1 a2 a3 a4 a11 a12 a13 a14 a15 a16 a17 a18 a19 a20 a21 a22 a23 a24 a25 a26 a27 a28 a29 a30 : Nat) (r : Nat → Nat) : va_W := [(a0, .inr (4, [.ref a1, .ref a3, .ref a11, .ref a16])), (a1, .inr (3, [.ref a2])), (a2, eI yT 427 (cV3 8)), (a3, .inr (1, [.ref a4, .int 0, .int 0])), (a4, eRows yT r), (r 0, eI yT 427 zI), (r 1, eI yT 427 zI), (r 2, eI yT 427 zI), (r 3, eI yT 427 zI), (r 4, eI yT 427 zI), (r 5, eI yT 427 zI),
   (a11, .inr (0, [.ref a12, .ref a13, .ref a14, .ref a15, .int 0, .int 0, .int 0, .int 0, .int 0, .int 0, .int 0, .int 0])), (a12, eI yT 60 zI), (a13, eI yT 4 zI), (a14, eI yT 4 zI), (a15, eI yT 5 zI),
   (a16, .inr (2, [.ref a17, .ref a18, .ref a19, .ref a20, .ref a21, .ref a22, .int 0, .int 0, .int 0, .int 0, .int 0, .int 0])), (a17, eI yT 8 zI), (a18, eI yT 8 zI), (a19, eI yT 8 zI), (a20, eI yT 4 zI), (a21, eI yT 4 zI), (a22, eL yT 4 (fun _ => 0)), (a23, .inr (5, [.ref a24, .ref a25, .ref a26, .int 0, .ref a27, .int 0, .int 0, .int 0, .int 0, .int 0, .ref a28, .int 0, .ref a29, .long 0])), (a24, eI yT 431 (cV5 8)), (a25, eI yT 2586 zI), (a26, eI yT 431 zI), (a27, eI yT 60 zI), (a28, eI yT 4 zI), (a29, eI yT 31 zI), (a30, eL yT 1 (fun _ => 0))]
section LB
variable {p : Program} {l : Launch} {e : Env} {s : State} {m : MethodId} {args : Array Value} {below : List Frame} {meth : Method} {c : Code} {D : va_G} {yT : TY3} {A : Nat → Prop} {k n : Nat} {Q : State → Prop} {b Lx : Nat} {xs : Nat → Int32}
set_option maxRecDepth 20000 in
theorem to_G (X : CB p s m args c cL_law RL 9 wsL_law D yT A) (Y : CL l s A b Lx xs) (hk : k ≤ 1000) (hn : n ≤ 20000) {a0 a1 a2 a3 a4 a11 a12 a13 a14 a15 a16 a17 a18 a19 a20 a21 a22 a23 a24 a25 a26 a27 a28 a29 a30 : Nat} {r : Nat → Nat}
    (hend : ∀ (γ : gG) (k n : Nat) (ls : List (Option Value)) (σ : gS), k ≤ 601024 → n ≤ 7293034 → CX p s m args c cL_law RL 9 wsL_law γ A → G p l e room_1 s m args below meth c γ A 9 k n Q 1540 ls [] σ) :
    B p l e room_1 s m args below meth c D A 9 k n Q 23 [some (.ref b), some (.ref a0), some (.ref a23), some (.ref a30), some (.int (nI 0)), none, none, none, none] [] (w31 yT a0 a1 a2 a3 a4 a11 a12 a13 a14 a15 a16 a17 a18 a19 a20 a21 a22 a23 a24 a25 a26 a27 a28 a29 a30 r) := by
  intro H locs la hP hD hS hl
  have hγ : ∃ γ : gG, γ = (D, yT, adL [a0, a1, a2, a3, a4, r 0, r 1, r 2, r 3, r 4, r 5, a11, a12, a13, a14, a15, a16, a17, a18, a19, a20, a21, a22, a23, a24, a25, a26, a27, a28, a29, a30]) := ⟨_, rfl⟩
  obtain ⟨γ, eγ⟩ := hγ
  have eset : gW γ σ00 = (w31 yT a0 a1 a2 a3 a4 a11 a12 a13 a14 a15 a16 a17 a18 a19 a20 a21 a22 a23 a24 a25 a26 a27 a28 a29 a30 r).set 4 (a4, .inl (yT.2.2, 6, .inr (.inr (.inr (.inr (fun i => some (ad γ (5 + i)))))))) := by subst eγ; rfl
  have hPg : va_P γ.1 vwCl (gW γ σ00) H := by
    rw [eset]
    have h4 : va_at D vwCl (a4, eRows yT r) H := hP 4 _ rfl
    have e1 : γ.1 = D := by rw [eγ]
    rw [e1]
    refine P_set hP ?_
    show H[a4]? = some (vp_cell yT.2.2 (6, .inr (.inr (.inr (.inr (fun i => some (ad γ (5 + i))))))))
    rw [← rows_cell (r := r) (g := fun i => ad γ (5 + i)) (fun i hi => ?_)]
    · exact h4
    · rw [eγ]
      obtain rfl | rfl | rfl | rfl | rfl | rfl : i = 0 ∨ i = 1 ∨ i = 2 ∨ i = 3 ∨ i = 4 ∨ i = 5 := by omega
      · rfl
      · rfl
      · rfl
      · rfl
      · rfl
      · rfl
  have hDg : ∀ σ, va_D A (gW γ σ) := fun σ => D_fst hD (by subst eγ; rfl)
  have hj : inj γ := by
    intro i j hi hj2 hij
    have hex : ∀ q, q < 31 → ∃ e9, (gW γ σ00)[q]? = some (ad γ q, e9) := fun q hq => by
      have hlen : q < (gW γ σ00).length := by simpa [gW, gads, gcells] using hq
      refine ⟨((gW γ σ00)[q]'hlen).2, ?_⟩
      have h2 := List.getElem?_eq_getElem hlen
      have h3 := (gW_at h2).2
      rw [h2, ← h3]
    obtain ⟨e1, h1⟩ := hex i hi
    obtain ⟨e2, h2⟩ := hex j hj2
    exact (hDg σ00).1 i j _ _ h1 h2 hij
  have X' : CX p s m args c cL_law RL 9 wsL_law γ A := ⟨X.x, X.b, X.ml, X.ow, X.ts, by subst eγ; exact X.K, hDg, X.al⟩
  have hmain := law_loop (e := e) (below := below) (meth := meth) (Q := Q) X' Y hj (fun k n ls σ h1 h2 => hend γ k n ls σ h1 h2 X') (Lx + 1) 0 k n σ00 (by omega) (by decide) (by omega) (by omega) inv0
  refine hmain H locs la hPg hS ?_
  subst eγ
  exact hl
set_option maxRecDepth 40000 in
theorem law_body (X : CB p s m args c cL_law RL 9 wsL_law D yT A) (Y : CL l s A b Lx xs) (hend : ∀ (γ : gG) (k n : Nat) (ls : List (Option Value)) (σ : gS), k ≤ 601024 → n ≤ 7293034 → CX p s m args c cL_law RL 9 wsL_law γ A → G p l e room_1 s m args below meth c γ A 9 k n Q 1540 ls [] σ) :
    B p l e room_1 s m args below meth c D A 9 0 0 Q 0 [some (.ref b), none, none, none, none, none, none, none, none] [] [] := by
  have hi4 : ∀ w ∈ wsX40, w ∈ wsL_law := by decide +kernel
  have hi5 : ∀ w ∈ wsX50, w ∈ wsL_law := by decide +kernel
  refine b_new (C := RX4) (T := TX4) (N := 4) (ci := 4) X tyX4 tyX4_ok hi4 (by decide +kernel) (by decide +kernel) (by decide +kernel) rfl (fs := [.null, .null, .null, .null]) (by decide +kernel) (by decide) (by decide) dL_law_0 (fun a0 => ?_)
  refine b_dup X dL_law_3 rfl ?_
  refine b_init X (i_X4 l D yT) gL_law_X4_init rfl ⟨rfl, rfl⟩ (by decide +kernel) (by decide +kernel) (by decide +kernel) rfl (by decide +kernel) ⟨by decide, by decide⟩ (Nat.le_of_ble_eq_true rfl) dL_law_4 ⟨by decide, by decide⟩ (fun w1 hw1 => ?_)
  obtain ⟨a1, a2, a3, a4, r, a11, a12, a13, a14, a15, a16, a17, a18, a19, a20, a21, a22, rfl⟩ := hw1
  refine b_astore_n (ls' := [some (.ref b), some (.ref a0), none, none, none, none, none, none, none]) X dL_law_7 rfl (by decide) rfl rfl ?_
  refine b_ws (ws' := [(a0, .inr (4, [.ref a1, .ref a3, .ref a11, .ref a16])), (a1, .inr (3, [.ref a2])), (a2, eI yT 427 (cV3 8)), (a3, .inr (1, [.ref a4, .int 0, .int 0])), (a4, eRows yT r), (r 0, eI yT 427 zI), (r 1, eI yT 427 zI), (r 2, eI yT 427 zI), (r 3, eI yT 427 zI), (r 4, eI yT 427 zI), (r 5, eI yT 427 zI),
   (a11, .inr (0, [.ref a12, .ref a13, .ref a14, .ref a15, .int 0, .int 0, .int 0, .int 0, .int 0, .int 0, .int 0, .int 0])), (a12, eI yT 60 zI), (a13, eI yT 4 zI), (a14, eI yT 4 zI), (a15, eI yT 5 zI),
   (a16, .inr (2, [.ref a17, .ref a18, .ref a19, .ref a20, .ref a21, .ref a22, .int 0, .int 0, .int 0, .int 0, .int 0, .int 0])), (a17, eI yT 8 zI), (a18, eI yT 8 zI), (a19, eI yT 8 zI), (a20, eI yT 4 zI), (a21, eI yT 4 zI), (a22, eL yT 4 (fun _ => 0))]) rfl ?_
  refine b_new (C := RX5) (T := TX5) (N := 14) (ci := 5) X tyX5 tyX5_ok hi5 (by decide +kernel) (by decide +kernel) (by decide +kernel) rfl (fs := [.null, .null, .null, .int 0, .null, .int 0, .int 0, .int 0, .int 0, .int 0, .null, .int 0, .null, .long 0]) (by decide +kernel) (by decide) (by decide) dL_law_8 (fun a23 => ?_)
  refine b_dup X dL_law_11 rfl ?_
  refine b_init X (i_X5 l D yT) gL_law_X5_init rfl ⟨rfl, rfl⟩ (by decide +kernel) (by decide +kernel) (by decide +kernel) rfl (by decide +kernel) ⟨by decide, by decide⟩ (Nat.le_of_ble_eq_true rfl) dL_law_12 ⟨by decide, by decide⟩ (fun w1 hw1 => ?_)
  obtain ⟨a24, a25, a26, a27, a28, a29, rfl⟩ := hw1
  refine b_astore_n (ls' := [some (.ref b), some (.ref a0), some (.ref a23), none, none, none, none, none, none]) X dL_law_15 rfl (by decide) rfl rfl ?_
  refine b_iconst (v := nI 1) X dL_law_16 (by decide) ?_
  refine b_newL (N := 1) X (by decide +kernel) (by decide) (by decide) (by decide) dL_law_17 (fun a30 => ?_)
  refine b_astore_n (ls' := [some (.ref b), some (.ref a0), some (.ref a23), some (.ref a30), none, none, none, none, none]) X dL_law_19 rfl (by decide) rfl rfl ?_
  refine b_iconst (v := nI 0) X dL_law_20 (by decide) ?_
  refine b_istore (ls' := [some (.ref b), some (.ref a0), some (.ref a23), some (.ref a30), some (.int (nI 0)), none, none, none, none]) X dL_law_21 (by decide) rfl rfl ?_
  refine b_ws (ws' := w31 yT a0 a1 a2 a3 a4 a11 a12 a13 a14 a15 a16 a17 a18 a19 a20 a21 a22 a23 a24 a25 a26 a27 a28 a29 a30 r) rfl ?_
  exact to_G X Y (by decide) (by decide) hend
end LB
/-- what the premises say of the throwing -/
theorem law_prem {s : State} {b : Nat} (hts : ∀ w ∈ lw_tbl, w.before #[.ref b] s = true) (hgv : (Jvm.Cond.and given_1 narrow_1).before #[.ref b] s = true) : gZ (fun q => s.heap.size ≤ q) s s.heap ∧ gTx s ∧ gNc s := by
  have hs := flat_of_before _ hgv
  have hA : ∀ a : Nat, a < s.heap.size → ¬ (fun q => s.heap.size ≤ q) a := fun a ha h => by have : s.heap.size ≤ a := h; omega
  have h1 : ∀ q ∈ gTxs, Cond.stringRef RX4 q.1 q.2 ∈ lw_tbl := by decide +kernel
  have h2 : ∀ q ∈ gTxs, Cond.exactly (Term.string RX4 q.1) "java/lang/String" ∈ flatC (Jvm.Cond.and given_1 narrow_1) := by decide +kernel
  have h3 : ∀ w ∈ ngL, w ∈ lw_tbl := by decide +kernel
  refine ⟨⟨vx_Zqof (hts _ (by decide +kernel)) (hts _ (by decide +kernel)) (hs _ (by decide +kernel)) hA, vx_Zqof (hts _ (by decide +kernel)) (hts _ (by decide +kernel)) (hs _ (by decide +kernel)) hA⟩, ⟨fun q hq => ?_, fun w hw => va_tabs ((show ∀ w ∈ ngL, w.onTables = true by decide) w hw) rfl (hts w (h3 w hw))⟩, va_Nc.of (hs _ (by decide +kernel)), va_Nc.of (hs _ (by decide +kernel)), va_Nc.of (hs _ (by decide +kernel))⟩
  obtain ⟨a, c, cell, k, q1, -⟩ := Cond.exactly_spec (hs _ (h2 q hq))
  exact ⟨a, vk_R.of (hts _ (h1 q hq)) q1⟩
