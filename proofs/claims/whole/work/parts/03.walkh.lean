/-! the history's rows: which one by a number below 6 -/
section GH
variable {p : Program} {l : Launch} {e : Env} {R : Room} {s : State} {m : MethodId} {args : Array Value} {below : List Frame} {meth : Method} {c : Code} {γ : gG} {A : Nat → Prop} {nL k n : Nat} {Q : State → Prop}
variable {cc : ByteArray} {own : String} {Ts : List Cond} {pc : Nat} {ls : List (Option Value)} {rest st : List Value} {σ : gS}
theorem lt6 {P : Nat → Prop} (h0 : P 0) (h1 : P 1) (h2 : P 2) (h3 : P 3) (h4 : P 4) (h5 : P 5) {j : Nat} (h : j < 6) : P j := by
  rcases (show j = 0 ∨ j = 1 ∨ j = 2 ∨ j = 3 ∨ j = 4 ∨ j = 5 by omega) with h | h | h | h | h | h <;> subst h <;> assumption
theorem gW_row {j : Nat} (h : j < 6) : (gW γ σ)[5 + j]? = some (ad γ (5 + j), .inl (γ.2.1.1, 427, .inl (σ.1 (5 + j)))) :=
  lt6 (P := fun j => (gW γ σ)[5 + j]? = some (ad γ (5 + j), .inl (γ.2.1.1, 427, .inl (σ.1 (5 + j))))) rfl rfl rfl rfl rfl rfl h
theorem gW_set_row {f : Nat → Int32} {j : Nat} (h : j < 6) : (gW γ σ).set (5 + j) (ad γ (5 + j), .inl (γ.2.1.1, 427, .inl f)) = gW γ (sA σ (5 + j) f) :=
  lt6 (P := fun j => (gW γ σ).set (5 + j) (ad γ (5 + j), .inl (γ.2.1.1, 427, .inl f)) = gW γ (sA σ (5 + j) f)) rfl rfl rfl rfl rfl rfl h
theorem g_aald_4 (X : CX p s m args c cc own nL Ts γ A) {i : Int32} {j : Nat} (hi : i = nI j) (h : j < 6) (hdg : decode cc pc = .ok (.aaload, 1)) (kk : G p l e R s m args below meth c γ A nL k n Q (pc + 1) ls (.ref (ad γ (5 + j)) :: rest) σ) : G p l e R s m args below meth c γ A nL k n Q pc ls (.int i :: .ref (ad γ 4) :: rest) σ := fun H locs la hP hS hl => by
  subst hi
  refine W.aald (v := .ref (ad γ (5 + j))) (ty := .array .int) X.1 X.2.1 (hP 4 _ gW_4) ((X.K.2 2 _ rfl).1 6 (fun j => va_rf (some (ad γ (5 + j))))) rfl (fun q => by cases q) ?_ ?_ rfl rfl hdg (kk H locs la hP hS hl)
  · show ¬ (nI j < 0 ∨ (arrV _ _ _).slots.size ≤ _)
    rw [arrV_size]
    exact vp_in_nI (N := 6) h (by decide)
  · show (arrV _ _ _).slots[_]? = _
    rw [nI_clamp (by omega), arrV_read _ _ h]
    rfl
/-- a row's copy: the first 427 places -/
def cpy427 (f g : Nat → Int32) : Nat → Int32 := fun k => if k < 427 then f k else g k
theorem cpy_eq (f g : Nat → Int32) : va_cpy f g (nI 0).toNatClampNeg (nI 0).toNatClampNeg (nI 427).toNatClampNeg = cpy427 f g := by
  rw [nI_clamp (by decide), nI_clamp (by decide)]
  funext k
  unfold va_cpy cpy427
  by_cases h : k < 427
  · rw [if_pos ⟨Nat.zero_le _, by omega⟩, if_pos h]
    congr 1
    omega
  · rw [if_neg (fun q => h (by omega)), if_neg h]
theorem g_copy {src dst : Nat} {f g : Nat → Int32} {index : Nat} (X : CX p s m args c cc own nL Ts γ A) (hs : (gW γ σ)[src]? = some (ad γ src, .inl (γ.2.1.1, 427, .inl f))) (hd : (gW γ σ)[dst]? = some (ad γ dst, .inl (γ.2.1.1, 427, .inl g)))
    (hset : ∀ h : Nat → Int32, (gW γ σ).set dst (ad γ dst, .inl (γ.2.1.1, 427, .inl h)) = gW γ (sA σ dst h)) (hw : [Cond.methodLink own index arraycopyName, Cond.native arraycopyName, Cond.static arraycopyName, Cond.initialized "java/lang/System"].all (fun w => decide (w ∈ Ts)) = true)
    (hR : 1 ≤ R.frames ∧ (rest.map fun v => v.category).sum + (nativeFrameWords "java/lang/System" "arraycopy" 5 + 11) ≤ R.locals) (hdg : decode cc pc = .ok (.invokestatic index, 3))
    (kk : G p l e R s m args below meth c γ A nL k n Q (pc + 3) ls rest (sA σ dst (cpy427 f g))) : G p l e R s m args below meth c γ A nL k n Q pc ls (.int (nI 427) :: .int (nI 0) :: .ref (ad γ dst) :: .int (nI 0) :: .ref (ad γ src) :: rest) σ := fun H locs la hP hS hl => by
  have hw' := fun w h => of_decide_eq_true (List.all_eq_true.mp hw w h)
  refine va_copyi (ty := .int) X.1 X.2.1 (X.ml.trans hl.1.symm) X.ow (X.ts _ (hw' _ (by simp))) (X.ts _ (hw' _ (by simp))) (X.ts _ (hw' _ (by simp))) (X.ts _ (hw' _ (by simp))) X.K hP (X.D σ) hS src dst 0 0 hs hd rfl rfl rfl (by decide) (by decide) (by decide) ?_ ?_ (fun i _ => rfl) hR.1 hR.2 hdg (fun H1 locs1 h1 _ h3 => ?_)
  · rw [nI_clamp (by decide), nI_clamp (by decide)]; omega
  · rw [nI_clamp (by decide), nI_clamp (by decide)]; omega
  rw [cpy_eq, hset] at h1
  exact kk H1 locs1 la h1 h3 hl
end GH
