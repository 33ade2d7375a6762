/-! WHAT THE BONDS' CALLS KEEP, one by one -/
section KEEP3
variable {v z : Nat → Int32} {K : Nat}
theorem keep_rls (h : Rel v z K) {b : Nat} (hb : b < nB v) {v1 z1 : Nat → Int32} (hz : RZ v1 z1) (h1 : ∀ k, k ≠ 117 + b * 31 + 5 → k ≠ 117 + b * 31 + 9 → v1 k = v k) (hz1 : ∀ k, k < 121 → z1 k = z k) {x r5 : Nat} (hx : x ≤ fB v b) (h5 : v1 (117 + b * 31 + 5) = nI r5) (hr5 : r5 ≤ tN (v (117 + b * 31 + 4)))
    (h9 : v1 (117 + b * 31 + 9) = nI 1 ∨ (v1 (117 + b * 31 + 9) = nI 0 ∧ x = fB v b)) : Rel (rlV v1 b (lB v b) (nI x)) (rlZ z1 b (lB v b) (nI x)) (K + 1) := by
  have hn10 := h.n.2
  have hb10 : b < 10 := by omega
  have hL4 : lB v b ≤ 4 := (h.BH hb).2.2.2.1
  obtain ⟨hl1, hl2⟩ := h.left hb
  obtain ⟨hm1, hm2⟩ := h.lim hb
  have hc1 := h.c1 hb
  have hc68 := h.c68 hb
  have hc76 := h.c76 hb
  have hf : fB v b = tN (v (117 + b * 31 + 1)) - tN (v (117 + b * 31 + 6)) - tN (v (117 + b * 31 + 8)) := rfl
  have hle : leftOf v1 b = nI (fB v b) := by
    rw [← hl1]
    unfold leftOf
    rw [h1 _ (by omega) (by omega), h1 _ (by omega) (by omega), h1 _ (by omega) (by omega)]
  obtain ⟨⟨e, he1, he2⟩, g8, gk, z5, zk⟩ := rel_eff (l := eB' v b) hz hb10 hL4 (fun i hi => by rw [h1 _ (by omega) (by omega)]; exact hm1 i hi) (by omega) hle hl2 hx
  have gv : ∀ k, k ≠ 117 + b * 31 + 5 → k ≠ 117 + b * 31 + 9 → k ≠ 117 + b * 31 + 8 → (∀ j, j < 4 → k ≠ 117 + b * 31 + 15 + j * 4 + 2) → rlV v1 b (lB v b) (nI x) k = v k := fun k q1 q2 q3 q4 => by rw [gk k q3 q4, h1 k q1 q2]
  have gz : ∀ k, k ≠ 5 → k < 121 → rlZ z1 b (lB v b) (nI x) k = z k := fun k q1 q2 => by rw [zk k q1 q2, hz1 k q2]
  obtain ⟨kc1, kc2⟩ := h.kcash (v' := rlV v1 b (lB v b) (nI x)) (fun q hq => gv _ (by omega) (by omega) (by omega) (fun j hj => by omega))
  have g6 := gv (117 + b * 31 + 6) (by omega) (by omega) (by omega) (fun j hj => by omega)
  have g7 := gv (117 + b * 31 + 7) (by omega) (by omega) (by omega) (fun j hj => by omega)
  have g8' : rlV v1 b (lB v b) (nI x) (117 + b * 31 + 8) = v (117 + b * 31 + 8) + nI x := by rw [g8, h1 _ (by omega) (by omega)]
  refine h.bond hb (rz_rel hz hb10 hL4 _) (fun k q1 q2 q3 => gv k (by omega) (by omega) (by omega) (fun j hj => by omega)) ?_ kc1 kc2 (fun q hq => (h.pct hq).c (gv _ (by omega) (by omega) (by omega) (fun j hj => by omega))) (h.s4.c (gv _ (by omega) (by omega) (by omega) (fun j hj => by omega))) (h.s3.c (gv _ (by omega) (by omega) (by omega) (fun j hj => by omega))) (h.rk.congr (fun q hq => gz _ (by omega) (by omega)))
    (x6 := nI 0) (x7 := nI 0) (x8 := nI x) (by rw [g6, add_nI0]) (by rw [g7, add_nI0]) g8' (by rw [gz 2 (by decide) (by decide), add_nI0]) (by rw [gz 3 (by decide) (by decide), add_nI0]) (by rw [gz 4 (by decide) (by decide), pk_sub (Nat.le_refl 0), add_nI0]) (by rw [z5, hz1 5 (by decide)])
  refine (h.bd hb).upd (r5 := r5) (c6 := tN (v (117 + b * 31 + 6))) (c7 := tN (v (117 + b * 31 + 7))) (c8 := tN (v (117 + b * 31 + 8)) + x) (e := e) (gv _ (by omega) (by omega) (by omega) (fun j hj => by omega)) (gv _ (by omega) (by omega) (by omega) (fun j hj => by omega)) (gv _ (by omega) (by omega) (by omega) (fun j hj => by omega)) (gv _ (by omega) (by omega) (by omega) (fun j hj => by omega)) ?_ hr5 (g6.trans (h.c6 hb)) (g7.trans (h.c7 hb)) hc76 ?_ ?_ ?_ (fun j hj => gv _ (by omega) (by omega) (by omega) (fun i hi => by omega)) (fun i hi => ⟨gv _ (by omega) (by omega) (by omega) (fun j hj => by omega), ?_⟩) ?_
  · show rlV v1 b (lB v b) (nI x) (117 + b * 31 + 5) = nI r5
    rw [gk _ (by omega) (fun j hj => by omega), h5]
  · show rlV v1 b (lB v b) (nI x) (117 + b * 31 + 8) = _
    rw [g8', ← nI_add, ← h.c8 hb]
  · show _ ≤ tN (v (117 + b * 31 + 1))
    omega
  · show rlV v1 b (lB v b) (nI x) (117 + b * 31 + 9) = _ ∨ (rlV v1 b (lB v b) (nI x) (117 + b * 31 + 9) = _ ∧ _ = tN (v (117 + b * 31 + 1)))
    rw [gk _ (by omega) (fun j hj => by omega)]
    exact h9.imp id (fun q => ⟨q.1, by omega⟩)
  · rw [← la_eq]
    exact he1 i hi
  · show sN e (lB v b) ≤ tN (v (117 + b * 31 + 1)) - _ - _
    rw [he2]
    omega
theorem keep_reach (h : Rel v z K) {b k : Nat} (hb : b < nB v) (hr : v (117 + b * 31 + 9) = nI 1) (hk : v (117 + b * 31 + 5) = nI k) (hk2 : k < tN (v (117 + b * 31 + 4))) : Rel (reV v b (lB v b) k) (rlZ (upd z (121 + 31 * b + 5) (nI (k + 1))) b (lB v b) (reR v b k)) (K + 1) := by
  have hn10 := h.n.2
  have hb10 : b < 10 := by omega
  have h4 := (h.c4 hb).2
  obtain ⟨x, hx, ex⟩ := reR_nat h hb (k := k) (by omega)
  unfold reV
  rw [ex]
  refine keep_rls h hb (v1 := re1 v b) (r5 := k + 1) ?_ (fun j q1 q2 => by unfold re1; rw [pk_un q1]) (fun j q => pk_un (by omega)) hx (by unfold re1; rw [pk_us, hk, nI_add]) hk2 (Or.inl (by unfold re1; rw [pk_un (by omega)]; exact hr))
  unfold re1
  rw [hk, nI_add]
  exact h.1.u (k := 117 + b * 31 + 5) _ (by omega) (mx_b hb10 (by decide))
theorem enV_eq {b L : Nat} (hL : L ≤ 4) : rlV (upd v (117 + b * 31 + 9) (nI 0)) b L (leftOf v b) = enV v b L := by
  unfold enV rlV
  rw [pk_un (by omega), upd_comm _ _ _ (by omega), trimOf_upd _ (fun j hj => by omega) hL (left_upd _ (by omega) (by omega) (by omega))]
theorem keep_end (h : Rel v z K) {b : Nat} (hb : b < nB v) : Rel (enV v b (lB v b)) (rlZ (upd z (121 + 31 * b + 9) (nI 0)) b (lB v b) (leftOf v b)) (K + 1) := by
  have hn10 := h.n.2
  have hb10 : b < 10 := by omega
  have hL4 : lB v b ≤ 4 := (h.BH hb).2.2.2.1
  have h5 := h.c5 hb
  rw [← enV_eq hL4, (h.left hb).1]
  exact keep_rls h hb (v1 := upd v (117 + b * 31 + 9) (nI 0)) (r5 := tN (v (117 + b * 31 + 5))) (h.1.u (k := 117 + b * 31 + 9) _ (by omega) (mx_b hb10 (by decide))) (fun j q1 q2 => pk_un q2) (fun j q => pk_un (by omega)) (Nat.le_refl _) (by rw [pk_un (by omega)]; exact h5.1) h5.2 (Or.inr ⟨pk_us, rfl⟩)
theorem coV_hi {b prn L : Nat} {su : Nat → Nat} {am bp pd : Int32} {ca ow mg bl : Nat → Int32} (hp : prn < 8) (hL4 : L ≤ 4) (hs : ∀ j, j < L → su j < 8) {k : Nat} (hk : 117 + b * 31 ≤ k) (h2 : ∀ j, j < 4 → k ≠ 117 + b * 31 + 15 + j * 4 + 2 ∧ k ≠ 117 + b * 31 + 15 + j * 4 + 3) (h6 : k = 117 + b * 31 + 6 ∨ k = 117 + b * 31 + 7 ∨ (k ≠ 117 + b * 31 + 6 ∧ k ≠ 117 + b * 31 + 7)) :
    coP v b prn L su am bp pd ca ow mg bl k = if k = 117 + b * 31 + 6 then v k + am else if k = 117 + b * 31 + 7 then v k + pd else v k := by
  have hw : ∀ k, 117 + b * 31 ≤ k → (∀ j, j < 4 → k ≠ 117 + b * 31 + 15 + j * 4 + 2 ∧ k ≠ 117 + b * 31 + 15 + j * 4 + 3) → coL (coB (coA v prn ca ow mg 8) prn bp) b su bl L k = v k := fun k hk h2 => by
    rw [coL_at _ su bl hk L hs (fun j hj => h2 j (by omega))]
    unfold coB
    rw [pk_un (by omega), coA_ge v hp ca ow mg (by omega) 8 (Nat.le_refl 8)]
  unfold coP coC
  rcases h6 with rfl | rfl | ⟨q1, q2⟩
  · rw [if_pos rfl, pk_un (by omega), pk_us, hw _ hk h2]
  · rw [if_neg (by omega), if_pos rfl, pk_us, pk_un (by omega), hw _ hk h2]
  · rw [if_neg q1, if_neg q2, pk_un q2, pk_un q1, hw _ hk h2]
theorem cn7_k {f sh : Nat → Int32} {b prn L : Nat} {su : Nat → Nat} {am : Int32} (hC : CH z b prn L su am) {k : Nat} (hk : KL b k) (h6 : k ≠ 121 + 31 * b + 6) : (cnE z f sh b prn L su am).1 k = z k := by
  obtain ⟨hpr, hp, hL, hL4, hsu, hch, hls⟩ := hC
  have hq := hk.1
  unfold Kq at hq
  unfold cnE
  have hch3 : chOK (cn3 z b prn am) 8 (cn3 z b prn am (17 + prn)) := by rw [cn3_k (by omega) (by omega) (by omega)]; exact chOK_c (fun q hq => cn3_k (by omega) (by omega) (by omega)) _ _ hch
  rw [cnI_k (t0 := (cn3 z b prn am, upd (upd f 9 (-1)) 7 (cnO z b prn am), cnR z b prn am)) hp hL4 (fun i hi => (hsu i hi).2) hch3 L (Nat.le_refl _) k hk]
  exact cn3_k h6 (by omega) (by omega)
theorem keep_call {σ : gS} (h : Rel v z K) (hK : K ≤ 1000) (hv : σ.1 2 = v) {b A : Nat} (hb : b < nB v) (hr : v (117 + b * 31 + 9) = nI 1) (hA : A ≤ 99999) (f sh : Nat → Int32) :
    CH z b (pB v b) (lB v b) (sB v b) (nI A) ∧ (cnF z f sh b (pB v b) (lB v b) (sB v b) (nI A) 7 = (drT σ b (pB v b) (lB v b) (nI A)).1 ∧ cnF z f sh b (pB v b) (lB v b) (sB v b) (nI A) 9 = (drT σ b (pB v b) (lB v b) (nI A)).2.1 ∧ cnF z f sh b (pB v b) (lB v b) (sB v b) (nI A) 8 = drAm σ b (nI A) - (drT σ b (pB v b) (lB v b) (nI A)).1) ∧
    Rel ((caS σ b (pB v b) (lB v b) (sB v b) (nI A)).1 2) (cnZ z f sh b (pB v b) (lB v b) (sB v b) (nI A)) (K + 1) := by
  have hn10 := h.n.2
  have hb10 : b < 10 := by omega
  have hBK := h.BK (by omega) hb
  obtain ⟨hCH, ham, hbp, hcD, c, py, gca, gcs, gpd, gpy, gle, gF7, gF9, gF8, g9, gl, gRZ⟩ := call_rel (f := f) (sh := sh) hv h.1 hBK hA
  obtain ⟨-, hpr, hp8, hL, hL4, hsu, hle, hlA, hlf, hlf5, -⟩ := hBK
  refine ⟨hCH, ⟨gF7, gF9, by rw [gF8, ham]⟩, ?_⟩
  have hs8 : ∀ j, j < lB v b → sB v b j < 8 := fun j hj => (hsu j hj).2
  obtain ⟨D, hD⟩ : ∃ D, min A (fB v b) = D := ⟨_, rfl⟩
  obtain ⟨P, hP⟩ : ∃ P, min D (tN (v (pB v b * 6 + 0))) + sN py (lB v b) = P := ⟨_, rfl⟩
  rw [hD] at ham hbp hcD gpd gpy gF8 gRZ
  rw [hP] at gpd
  have hPD : P ≤ D := by omega
  obtain ⟨zc, hzc⟩ : ∃ zc, cnZ z f sh b (pB v b) (lB v b) (sB v b) (nI A) = zc := ⟨_, rfl⟩
  obtain ⟨vc, hvc⟩ : ∃ vc, (caS σ b (pB v b) (lB v b) (sB v b) (nI A)).1 2 = vc := ⟨_, rfl⟩
  have hcP : vc = trimOf (coP v b (pB v b) (lB v b) (sB v b) (nI D) (nI (min D (tN (v (pB v b * 6 + 0))))) (drT σ b (pB v b) (lB v b) (nI A)).1 (drT σ b (pB v b) (lB v b) (nI A)).2.2.1.1 (drT σ b (pB v b) (lB v b) (nI A)).2.2.1.2.1 (drT σ b (pB v b) (lB v b) (nI A)).2.2.1.2.2 (drT σ b (pB v b) (lB v b) (nI A)).2.2.2.2) b (lB v b) := by
    rw [← hvc, ← ham, ← hbp, ← hv]
    rfl
  have hRZ : RZ vc zc := by
    rw [hcP, ← hzc]
    exact rz_trim gRZ hb10 hL4
  have hkz : ∀ k, KL b k → k ≠ 121 + 31 * b + 6 → k ≠ 121 + 31 * b + 7 → k ≠ 2 → k ≠ 3 → k ≠ 4 → zc k = z k := fun k q1 q2 q3 q4 q5 q6 => by rw [← hzc]; exact cnZ_k hCH q1 q2 q3 q4 q5 q6
  have hkv : ∀ k j, k < 427 → mx k = j → KL b j → j ≠ 121 + 31 * b + 6 → j ≠ 121 + 31 * b + 7 → j ≠ 2 → j ≠ 3 → j ≠ 4 → vc k = v k := fun k j q e q1 q2 q3 q4 q5 q6 => by rw [← hRZ k q, e, hkz j q1 q2 q3 q4 q5 q6, ← e]; exact h.1 k q
  have hkb : ∀ k, k < 31 → (k < 6 ∨ (7 < k ∧ k < 15) ∨ (15 ≤ k ∧ (k - 15) % 4 < 2)) → vc (117 + b * 31 + k) = v (117 + b * 31 + k) := fun k q1 q2 => hkv _ _ (by omega) (mx_b hb10 q1) ⟨Or.inl (by omega), fun j hj => ⟨by omega, by omega⟩⟩ (by omega) (by omega) (by omega) (by omega) (by omega)
  have hko : ∀ k, 117 ≤ k → k < 427 → (k < 117 + b * 31 ∨ 117 + b * 31 + 31 ≤ k) → vc k = v k := fun k q1 q2 q3 => hkv k (k + 4) q2 (by unfold mx; rw [if_neg (by omega), if_neg (by omega), if_neg (by omega), if_neg (by omega), if_neg (by omega)]) ⟨Or.inl (by omega), fun j hj => ⟨by omega, by omega⟩⟩ (by omega) (by omega) (by omega) (by omega) (by omega)
  have h7z : ∀ k, k < 9 → (cnE z f sh b (pB v b) (lB v b) (sB v b) (nI A)).1 k = z k := fun k q => cn7_k hCH ⟨Or.inr (Or.inr q), fun j hj => ⟨by omega, by omega⟩⟩ (by omega)
  have hz2 : zc 2 = z 2 + nI D := by
    rw [← hzc]; unfold cnZ
    rw [trZ_k (fun j hj => by omega) hL4]
    unfold cn7
    rw [ad1_ne (by omega), ad1_ne (by omega), ad1_s, ad1_ne (by omega), h7z 2 (by decide), hcD]
  have hz3 : zc 3 = z 3 + nI P := by
    rw [← hzc]; unfold cnZ
    rw [trZ_k (fun j hj => by omega) hL4]
    unfold cn7
    rw [ad1_ne (by omega), ad1_s, ad1_ne (by omega), ad1_ne (by omega), h7z 3 (by decide), gF7, gpd]
  have hz4 : zc 4 = z 4 + (nI D - nI P) := by
    rw [← hzc]; unfold cnZ
    rw [trZ_k (fun j hj => by omega) hL4]
    unfold cn7
    rw [ad1_s, ad1_ne (by omega), ad1_ne (by omega), ad1_ne (by omega), h7z 4 (by decide), gF8, gpd]
  have hv6 : vc (117 + b * 31 + 6) = v (117 + b * 31 + 6) + nI D := by
    rw [hcP]; unfold trimOf
    rw [trimI_at (fun j hj => by omega) _ _ _ hL4, coV_hi hp8 hL4 hs8 (by omega) (fun j hj => ⟨by omega, by omega⟩) (Or.inl rfl), if_pos rfl]
  have hv7 : vc (117 + b * 31 + 7) = v (117 + b * 31 + 7) + nI P := by
    rw [hcP]; unfold trimOf
    rw [trimI_at (fun j hj => by omega) _ _ _ hL4, coV_hi hp8 hL4 hs8 (by omega) (fun j hj => ⟨by omega, by omega⟩) (Or.inr (Or.inl rfl)), if_neg (by omega), if_pos rfl, gpd]
  have hc1 := h.c1 hb
  have hc6 := h.c6 hb
  have hc7 := h.c7 hb
  have hc8 := h.c8 hb
  have hc68 := h.c68 hb
  have hc76 := h.c76 hb
  have hf : fB v b = tN (v (117 + b * 31 + 1)) - tN (v (117 + b * 31 + 6)) - tN (v (117 + b * 31 + 8)) := rfl
  have hleft : leftOf (coP v b (pB v b) (lB v b) (sB v b) (nI D) (nI (min D (tN (v (pB v b * 6 + 0))))) (drT σ b (pB v b) (lB v b) (nI A)).1 (drT σ b (pB v b) (lB v b) (nI A)).2.2.1.1 (drT σ b (pB v b) (lB v b) (nI A)).2.2.1.2.1 (drT σ b (pB v b) (lB v b) (nI A)).2.2.1.2.2 (drT σ b (pB v b) (lB v b) (nI A)).2.2.2.2) b = nI (fB v b - D) := by
    unfold leftOf
    rw [coV_hi hp8 hL4 hs8 (by omega) (fun j hj => ⟨by omega, by omega⟩) (Or.inr (Or.inr ⟨by omega, by omega⟩)), if_neg (by omega), if_neg (by omega), coV_hi hp8 hL4 hs8 (by omega) (fun j hj => ⟨by omega, by omega⟩) (Or.inl rfl), if_pos rfl, coV_hi hp8 hL4 hs8 (by omega) (fun j hj => ⟨by omega, by omega⟩) (Or.inr (Or.inr ⟨by omega, by omega⟩)), if_neg (by omega), if_neg (by omega)]
    have e1 : v (117 + b * 31 + 1) - (v (117 + b * 31 + 6) + nI D) - v (117 + b * 31 + 8) = nI (tN (v (117 + b * 31 + 1))) - (nI (tN (v (117 + b * 31 + 6))) + nI D) - nI (tN (v (117 + b * 31 + 8))) := by rw [← hc1.1, ← hc6, ← hc8]
    rw [e1, nI_add, pk_sub (by omega), pk_sub (by omega)]
    congr 1
    omega
  have hsle : sN (fun i => eB' v b i - py i) (lB v b) ≤ sN (eB' v b) (lB v b) := sN_mono _ (fun i hi => Nat.sub_le _ _)
  obtain ⟨e', he1, he2⟩ := trZ_nat (z := cn7 z f sh b (pB v b) (lB v b) (sB v b) (nI A)) (b := b) (L := lB v b) (lf := fB v b - D) (e := fun i => eB' v b i - py i) hL4 gl (by omega) (by rw [gRZ.left hb10]; exact hleft) (by omega)
  have hcash : ∀ q, q < 8 → vc (q * 6 + 0) = nI (c q) := fun q hq => by
    rw [← hRZ _ (by omega), mx_p hq (by decide), ← hzc]
    unfold cnZ
    rw [trZ_k (fun j hj => by omega) hL4, show 9 + 8 * 0 + q = 9 + q by omega]
    exact g9 q hq
  have hcs0 : sN (fun q => tN (v (q * 6 + 0))) 8 ≤ 99999 * K := h.csum
  obtain ⟨kc1, kc2⟩ := cash_of (v' := vc) (M := 99999 * (K + 1)) hcash (by omega) (by omega)
  rw [hvc, hzc]
  refine h.bond hb hRZ (fun k q1 q2 q3 => ?_) ?_ kc1 kc2 (fun q hq => (h.pct hq).c (hkv _ _ (by omega) (mx_p hq (by decide)) ⟨Or.inr (Or.inl ⟨by omega, by omega⟩), fun j hj => ⟨by omega, by omega⟩⟩ (by omega) (by omega) (by omega) (by omega) (by omega))) (h.s4.c (hkv _ 8 (by omega) rfl ⟨Or.inr (Or.inr (by omega)), fun j hj => ⟨by omega, by omega⟩⟩ (by omega) (by omega) (by omega) (by omega) (by omega))) (h.s3.c (hkv _ 7 (by omega) rfl ⟨Or.inr (Or.inr (by omega)), fun j hj => ⟨by omega, by omega⟩⟩ (by omega) (by omega) (by omega) (by omega) (by omega)))
    (h.rk.congr (fun q hq => hkz _ (KL_by hq) (by omega) (by omega) (by omega) (by omega) (by omega))) (x6 := nI D) (x7 := nI P) (x8 := nI 0) hv6 hv7 (by rw [add_nI0]; exact hkb 8 (by decide) (by omega)) hz2 hz3 hz4 (by rw [add_nI0]; exact hkz 5 ⟨Or.inr (Or.inr (by omega)), fun j hj => ⟨by omega, by omega⟩⟩ (by omega) (by omega) (by omega) (by omega) (by omega))
  · by_cases q : k = 116
    · subst q
      exact hkv 116 0 (by decide) rfl ⟨Or.inr (Or.inr (by omega)), fun j hj => ⟨by omega, by omega⟩⟩ (by omega) (by omega) (by omega) (by omega) (by omega)
    · exact hko k (by omega) q2 q3
  · have h5 := h.c5 hb
    refine (h.bd hb).upd (r5 := tN (v (117 + b * 31 + 5))) (c6 := tN (v (117 + b * 31 + 6)) + D) (c7 := tN (v (117 + b * 31 + 7)) + P) (c8 := tN (v (117 + b * 31 + 8))) (e := e') (hkb 0 (by decide) (by omega)) (hkb 1 (by decide) (by omega)) (hkb 3 (by decide) (by omega)) (hkb 4 (by decide) (by omega)) ((hkb 5 (by decide) (by omega)).trans h5.1) h5.2 ?_ ?_ (by omega) ((hkb 8 (by decide) (by omega)).trans hc8) ?_ (Or.inl ((hkb 9 (by decide) (by omega)).trans hr)) (fun j hj => hkb (10 + j) (by omega) (by omega)) (fun i hi => ⟨hkb (15 + i * 4 + 0) ?_ ?_, ?_⟩) ?_
    · show vc (117 + b * 31 + 6) = _
      rw [hv6, ← nI_add, ← hc6]
    · show vc (117 + b * 31 + 7) = _
      rw [hv7, ← nI_add, ← hc7]
    · show _ ≤ tN (v (117 + b * 31 + 1))
      omega
    · have hi4 : i < lB v b := hi
      omega
    · have hi4 : i < lB v b := hi
      omega
    · have hi4 : i < lB v b := hi
      rw [← la_eq, ← hRZ _ (by omega), mx_l hb10 (by omega) (by decide), ← hzc]
      exact (he1 i hi4).1
    · show sN e' (lB v b) ≤ tN (v (117 + b * 31 + 1)) - _ - _
      rw [he2]
      omega
end KEEP3
