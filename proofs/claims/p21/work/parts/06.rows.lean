/-! rows over contracts that keep the cells' number: calls, arrays at vp_in, ends -/
theorem vp_lt {x : Int32} {n : Nat} (h : vp_in x n) : x.toNatClampNeg < n := Nat.not_le.mp fun q => h (Or.inr q)
theorem free_of {A : Nat → Prop} {W : va_W} {H0 H : Heap} {locs : List Loc} (hDc : va_D A W) (hS : va_S A H0 H locs) (hA : ∀ q, H0.size ≤ q → A q) : ∀ q, va_A W H.size q → A q := by
  intro q h
  rcases h with ⟨k, e, h⟩ | h
  · exact hDc.2 k (q, e) h
  · exact hA q (Nat.le_trans hS.1 h)
/-- where each cell of the world behind a call comes from: the callee's world, or the caller's -/
def srcOk (isC : List Nat) : Nat → List (Bool × Nat) → Bool
  | _, [] => true
  | k, z :: l => (cond z.1 (isC[z.2]? == some k) ((z.2 == k) && !(isC.contains k))) && srcOk isC (k + 1) l
theorem srcOk_at {isC : List Nat} : ∀ (src : List (Bool × Nat)) (k0 : Nat), srcOk isC k0 src = true → ∀ (k : Nat) (z : Bool × Nat), src[k]? = some z → (z.1 = true ∧ isC[z.2]? = some (k0 + k)) ∨ (z.1 = false ∧ z.2 = k0 + k ∧ k0 + k ∉ isC)
  | [], _, _, k, z, h => by simp at h
  | y :: l, k0, hs, k, z, h => by
    simp only [srcOk, Bool.and_eq_true] at hs
    cases k with
    | zero =>
      rw [List.getElem?_cons_zero] at h
      cases h
      cases hz : y.1 with
      | true =>
        have h1 := hs.1
        rw [hz] at h1
        exact Or.inl ⟨rfl, by simpa using h1⟩
      | false =>
        have h1 := hs.1
        rw [hz] at h1
        exact Or.inr ⟨rfl, by simpa using h1⟩
    | succ k =>
      rw [List.getElem?_cons_succ] at h
      have := srcOk_at l (k0 + 1) hs.2 k z h
      rw [show k0 + (k + 1) = k0 + 1 + k by omega]
      exact this
theorem src_at {W2 ws ws1 : va_W} {src : List (Bool × Nat)} (hw : src.map (fun z => cond z.1 (W2[z.2]?) (ws[z.2]?)) = ws1.map some) (k : Nat) (q : Nat × va_E) (hq : ws1[k]? = some q) : ∃ z : Bool × Nat, src[k]? = some z ∧ cond z.1 (W2[z.2]?) (ws[z.2]?) = some q := by
  have h1 : (src.map (fun z => cond z.1 (W2[z.2]?) (ws[z.2]?)))[k]? = some (some q) := by rw [hw, List.getElem?_map, hq]; rfl
  rw [List.getElem?_map] at h1
  cases hz : src[k]? with
  | none => rw [hz] at h1; cases h1
  | some z => rw [hz] at h1; exact ⟨z, rfl, Option.some.inj h1⟩
theorem src_D {A0 : Nat → Prop} {ws W1 W2 ws1 : va_W} {isC : List Nat} {src : List (Bool × Nat)} (hD : va_D A0 ws) (hC : isC.map (fun i => ws[i]?) = W1.map some) (hf : W2.map (fun q => q.1) = W1.map (fun q => q.1)) (hs : srcOk isC 0 src = true) (hw : src.map (fun z => cond z.1 (W2[z.2]?) (ws[z.2]?)) = ws1.map some) : ∀ (k : Nat) (q : Nat × va_E), ws1[k]? = some q → ∃ r : Nat × va_E, ws[k]? = some r ∧ r.1 = q.1 := by
  intro k q hq
  obtain ⟨z, hz, e⟩ := src_at hw k q hq
  rcases srcOk_at src 0 hs k z hz with ⟨h1, h2⟩ | ⟨h1, h2, -⟩
  · rw [h1] at e
    have e' : W2[z.2]? = some q := e
    have h3 : (W1.map (fun q => q.1))[z.2]? = some q.1 := by rw [← hf, List.getElem?_map, e']; rfl
    rw [List.getElem?_map] at h3
    cases h4 : W1[z.2]? with
    | none => rw [h4] at h3; cases h3
    | some r =>
      rw [h4] at h3
      obtain ⟨i', e1, e2⟩ := at_places hC z.2 r h4
      have : i' = k := by rw [h2] at e1; have := Option.some.inj e1; omega
      subst this
      exact ⟨r, e2, Option.some.inj h3⟩
  · rw [h1] at e
    have e' : ws[z.2]? = some q := e
    rw [h2, Nat.zero_add] at e'
    exact ⟨q, e', rfl⟩
theorem D_by {A0 : Nat → Prop} {ws ws1 : va_W} (hD : va_D A0 ws) (h : ∀ (k : Nat) (q : Nat × va_E), ws1[k]? = some q → ∃ r : Nat × va_E, ws[k]? = some r ∧ r.1 = q.1) : va_D A0 ws1 := by
  refine ⟨fun i j x y hi hj hxy => ?_, fun k q hk => ?_⟩
  · obtain ⟨r1, a1, b1⟩ := h i x hi
    obtain ⟨r2, a2, b2⟩ := h j y hj
    exact hD.1 i j r1 r2 a1 a2 (by rw [b1, b2, hxy])
  · obtain ⟨r, a1, b1⟩ := h k q hk
    have := hD.2 k r a1
    rw [b1] at this
    exact this
theorem call_src {A0 : Nat → Prop} {D : va_G} {cl : List vw_C} {ws W1 W2 ws1 : va_W} {H H1 : Heap} {src : List (Bool × Nat)} (hP : va_P D cl ws H) (hD : va_D A0 ws) (isC : List Nat) (hC : isC.map (fun i => ws[i]?) = W1.map some) (hf : W2.map (fun q => q.1) = W1.map (fun q => q.1)) (hs : srcOk isC 0 src = true) (hw : src.map (fun z => cond z.1 (W2[z.2]?) (ws[z.2]?)) = ws1.map some) (hk : ∀ q : Nat, q < H.size → ¬ va_A W1 H.size q → H1[q]? = H[q]?) (hP1 : va_P D cl W2 H1) : va_P D cl ws1 H1 ∧ va_D A0 ws1 := by
  refine ⟨fun k q hq => ?_, D_by hD (src_D hD hC hf hs hw)⟩
  obtain ⟨z, hz, e⟩ := src_at hw k q hq
  rcases srcOk_at src 0 hs k z hz with ⟨h1, h2⟩ | ⟨h1, h2, h3⟩
  · rw [h1] at e
    exact hP1 z.2 q e
  · rw [h1] at e
    have h2' : ws[k]? = some q := by
      have e' : ws[z.2]? = some q := e
      rw [h2, Nat.zero_add] at e'
      exact e'
    have hl := (hP k q h2').lt
    refine (hP k q h2').kept (hk q.1 hl fun h => ?_)
    rcases h with ⟨k2, e, h⟩ | h
    · obtain ⟨j, h5, h4⟩ := at_places hC k2 (q.1, e) h
      have hij := hD.1 k j q (q.1, e) h2' h4 rfl
      subst hij
      exact h3 (by rw [Nat.zero_add]; exact List.mem_of_getElem? h5)
    · omega
theorem call_srcB {A0 : Nat → Prop} {D : va_G} {cl : List vw_C} {X cx cx' X1 pl pl' : va_W} {H H1 : Heap} {src : List (Bool × Nat)} (hP : va_P D cl (X ++ pl) H) (hD : va_D A0 (X ++ pl)) (isC : List Nat) (hC : isC.map (fun i => X[i]?) = cx.map some) (hf : cx'.map (fun q => q.1) = cx.map (fun q => q.1)) (hfp : pl'.map (fun q => q.1) = pl.map (fun q => q.1)) (hs : srcOk isC 0 src = true) (hw : src.map (fun z => cond z.1 (cx'[z.2]?) (X[z.2]?)) = X1.map some) (hX : X1.length = X.length) (hk : ∀ q : Nat, q < H.size → ¬ va_A (cx ++ pl) H.size q → H1[q]? = H[q]?) (hP1 : va_P D cl (cx' ++ pl') H1) : va_P D cl (X1 ++ pl') H1 ∧ va_D A0 (X1 ++ pl') := by
  have hDX : va_D A0 X := ⟨fun i j x y hi hj => hD.1 i j x y (by rw [List.getElem?_append_left (List.getElem?_eq_some_iff.mp hi).1]; exact hi) (by rw [List.getElem?_append_left (List.getElem?_eq_some_iff.mp hj).1]; exact hj), fun k q hk => hD.2 k q (by rw [List.getElem?_append_left (List.getElem?_eq_some_iff.mp hk).1]; exact hk)⟩
  have hcl : cx'.length = cx.length := by simpa using congrArg List.length hf
  refine ⟨fun k q hq => ?_, D_by hD fun k q hq => ?_⟩
  · by_cases hkl : k < X1.length
    · rw [List.getElem?_append_left hkl] at hq
      obtain ⟨z, hz, e⟩ := src_at hw k q hq
      rcases srcOk_at src 0 hs k z hz with ⟨h1, h2⟩ | ⟨h1, h2, h3⟩
      · rw [h1] at e
        have e' : cx'[z.2]? = some q := e
        exact hP1 z.2 q (by rw [List.getElem?_append_left (List.getElem?_eq_some_iff.mp e').1]; exact e')
      · rw [h1] at e
        have h2'' : X[k]? = some q := by
          have e' : X[z.2]? = some q := e
          rw [h2, Nat.zero_add] at e'
          exact e'
        have h2' : (X ++ pl)[k]? = some q := by rw [List.getElem?_append_left (by omega)]; exact h2''
        have hl := (hP k q h2').lt
        refine (hP k q h2').kept (hk q.1 hl fun h => ?_)
        rcases h with ⟨k2, e, h⟩ | h
        · by_cases hk2 : k2 < cx.length
          · rw [List.getElem?_append_left hk2] at h
            obtain ⟨j, h5, h4⟩ := at_places hC k2 (q.1, e) h
            have h4' : (X ++ pl)[j]? = some (q.1, e) := by rw [List.getElem?_append_left (List.getElem?_eq_some_iff.mp h4).1]; exact h4
            have hij := hD.1 k j q (q.1, e) h2' h4' rfl
            subst hij
            exact h3 (by rw [Nat.zero_add]; exact List.mem_of_getElem? h5)
          · rw [List.getElem?_append_right (by omega)] at h
            have h4' : (X ++ pl)[X.length + (k2 - cx.length)]? = some (q.1, e) := by rw [List.getElem?_append_right (by omega)]; rw [show X.length + (k2 - cx.length) - X.length = k2 - cx.length by omega]; exact h
            have hij := hD.1 k _ q (q.1, e) h2' h4' rfl
            omega
        · omega
    · rw [List.getElem?_append_right (by omega)] at hq
      refine hP1 (cx'.length + (k - X1.length)) q ?_
      rw [List.getElem?_append_right (by omega), show cx'.length + (k - X1.length) - cx'.length = k - X1.length by omega]
      exact hq
  · by_cases hkl : k < X1.length
    · rw [List.getElem?_append_left hkl] at hq
      obtain ⟨r, h1, h2⟩ := src_D hDX hC hf hs hw k q hq
      exact ⟨r, by rw [List.getElem?_append_left (by omega)]; exact h1, h2⟩
    · rw [List.getElem?_append_right (by omega)] at hq
      have h1 : (pl'.map (fun q => q.1))[k - X1.length]? = some q.1 := by rw [List.getElem?_map, hq]; rfl
      rw [hfp, List.getElem?_map] at h1
      cases h4 : pl[k - X1.length]? with
      | none => rw [h4] at h1; cases h1
      | some r =>
        rw [h4] at h1
        exact ⟨r, by rw [List.getElem?_append_right (by omega), ← hX]; exact h4, Option.some.inj h1⟩
theorem va_D_left {A0 : Nat → Prop} {X pl : va_W} (hD : va_D A0 (X ++ pl)) : va_D A0 X := ⟨fun i j x y hi hj => hD.1 i j x y (by rw [List.getElem?_append_left (List.getElem?_eq_some_iff.mp hi).1]; exact hi) (by rw [List.getElem?_append_left (List.getElem?_eq_some_iff.mp hj).1]; exact hj), fun k q hk => hD.2 k q (by rw [List.getElem?_append_left (List.getElem?_eq_some_iff.mp hk).1]; exact hk)⟩
theorem call_srcP {A0 : Nat → Prop} {D : va_G} {cl : List vw_C} {X W1 W2 X1 pl : va_W} {H H1 : Heap} {src : List (Bool × Nat)} (hP : va_P D cl (X ++ pl) H) (hD : va_D A0 (X ++ pl)) (isC : List Nat) (hC : isC.map (fun i => X[i]?) = W1.map some) (hf : W2.map (fun q => q.1) = W1.map (fun q => q.1)) (hs : srcOk isC 0 src = true) (hw : src.map (fun z => cond z.1 (W2[z.2]?) (X[z.2]?)) = X1.map some) (hX : X1.length = X.length) (hk : ∀ q : Nat, q < H.size → ¬ va_A W1 H.size q → H1[q]? = H[q]?) (hP1 : va_P D cl W2 H1) : va_P D cl (X1 ++ pl) H1 ∧ va_D A0 (X1 ++ pl) := by
  have hDX := va_D_left hD
  have inX : ∀ (k : Nat) (q : Nat × va_E), X[k]? = some q → (X ++ pl)[k]? = some q := fun k q h => by rw [List.getElem?_append_left (List.getElem?_eq_some_iff.mp h).1]; exact h
  have keep : ∀ (k : Nat) (q : Nat × va_E), (X ++ pl)[k]? = some q → k ∉ isC → va_at D cl q H1 := by
    intro k q h2' h3
    have hl := (hP k q h2').lt
    refine (hP k q h2').kept (hk q.1 hl fun h => ?_)
    rcases h with ⟨k2, e, h⟩ | h
    · obtain ⟨j, h5, h4⟩ := at_places hC k2 (q.1, e) h
      have hij := hD.1 k j q (q.1, e) h2' (inX j _ h4) rfl
      subst hij
      exact h3 (List.mem_of_getElem? h5)
    · omega
  refine ⟨fun k q hq => ?_, D_by hD fun k q hq => ?_⟩
  · by_cases hkl : k < X1.length
    · rw [List.getElem?_append_left hkl] at hq
      obtain ⟨z, hz, e⟩ := src_at hw k q hq
      rcases srcOk_at src 0 hs k z hz with ⟨h1, h2⟩ | ⟨h1, h2, h3⟩
      · rw [h1] at e
        exact hP1 z.2 q e
      · rw [h1] at e
        have h2'' : X[k]? = some q := by
          have e' : X[z.2]? = some q := e
          rw [h2, Nat.zero_add] at e'
          exact e'
        rw [Nat.zero_add] at h3
        exact keep k q (inX k q h2'') h3
    · have hq' : (X ++ pl)[k]? = some q := by
        rw [List.getElem?_append_right (by omega)] at hq
        rw [List.getElem?_append_right (by omega), ← hX]
        exact hq
      refine keep k q hq' fun hm => ?_
      obtain ⟨j, hj⟩ := List.getElem?_of_mem hm
      have h1 : (isC.map (fun i => X[i]?))[j]? = some (X[k]?) := by rw [List.getElem?_map, hj]; rfl
      rw [hC, List.getElem?_map] at h1
      cases h4 : W1[j]? with
      | none => rw [h4] at h1; cases h1
      | some r =>
        rw [h4] at h1
        have h5 : X[k]? = some r := (Option.some.inj h1).symm
        have := (List.getElem?_eq_some_iff.mp h5).1
        omega
  · by_cases hkl : k < X1.length
    · rw [List.getElem?_append_left hkl] at hq
      obtain ⟨r, h1, h2⟩ := src_D hDX hC hf hs hw k q hq
      exact ⟨r, inX k r h1, h2⟩
    · rw [List.getElem?_append_right (by omega)] at hq
      exact ⟨q, by rw [List.getElem?_append_right (by omega), ← hX]; exact hq, rfl⟩
section MYR
variable {p : Program} {l : Launch} {e : Env} {R : Room} {s : State} {m : MethodId} {args : Array Value} {below : List Frame} {meth : Method} {c : Code} {H : Heap} {locs : List Loc} {cells slots : Nat} {Q : State → Prop}
variable {cc : ByteArray} {pc : Nat} {ls : Array Slot} {rest st0 : List Value} {D : va_G} {A : Nat → Prop} {a : Nat} {ws : va_W} {H0 : Heap} {cyI cyO cyL : ClassId} {ar : Array Value}
theorem lv_tope {x y : Int32} (e9 : x = y) (k : W p l e R s m args below meth c H locs cells slots Q (F0 m pc ls (.int y :: rest))) : W p l e R s m args below meth c H locs cells slots Q (F0 m pc ls (.int x :: rest)) := e9 ▸ k
theorem lv_topv {x y : Value} (e9 : x = y) (k : W p l e R s m args below meth c H locs cells slots Q (F0 m pc ls (y :: rest))) : W p l e R s m args below meth c H locs cells slots Q (F0 m pc ls (x :: rest)) := e9 ▸ k
/-- a loop, by a measure that falls -/
theorem wloop {σ : Type} (G : Nat → σ → Heap → List Loc → Array Slot → Prop)
    (step : ∀ (d : Nat) (x : σ) (H : Heap) (locs : List Loc) (ls : Array Slot), G d x H locs ls →
      (∀ (d' : Nat) (x' : σ) (H' : Heap) (locs' : List Loc) (ls' : Array Slot), d' < d → G d' x' H' locs' ls' → W p l e R s m args below meth c H' locs' cells slots Q (F0 m pc ls' st0)) →
      W p l e R s m args below meth c H locs cells slots Q (F0 m pc ls st0))
    (d : Nat) (x : σ) (H : Heap) (locs : List Loc) (ls : Array Slot) (h : G d x H locs ls) : W p l e R s m args below meth c H locs cells slots Q (F0 m pc ls st0) := by
  induction d using Nat.strongRecOn generalizing x H locs ls with
  | _ d ih => exact step d x H locs ls h fun d' x' H' locs' ls' hd h' => ih d' hd x' H' locs' ls' h'
/-- two roads that meet -/
theorem wjoin {σ : Type} {tgt : Nat} {ls0 : Array Slot} {st1 : σ → List Value} (G : σ → Heap → List Loc → Array Slot → Prop)
    (main : (∀ (x : σ) (H' : Heap) (locs' : List Loc) (ls' : Array Slot), G x H' locs' ls' → W p l e R s m args below meth c H' locs' cells slots Q (F0 m tgt ls' (st1 x))) → W p l e R s m args below meth c H locs cells slots Q (F0 m pc ls0 st0))
    (rest : ∀ (x : σ) (H' : Heap) (locs' : List Loc) (ls' : Array Slot), G x H' locs' ls' → W p l e R s m args below meth c H' locs' cells slots Q (F0 m tgt ls' (st1 x))) : W p l e R s m args below meth c H locs cells slots Q (F0 m pc ls0 st0) := main rest
theorem ret_v {W1 W2 : va_W} (hr : va_Run p l e R s m args below meth c H locs cells slots 0 0 (F0 m pc ls st0) rest (va_Qv (fun _ : Unit => True) (fun _ t => va_P D vwCl W2 t.heap) (va_A W1 H.size) ar) (va_A W1 H.size)) (hP : va_P D vwCl ws H) (hD : va_D A ws) (hS : va_S A H0 H locs) (hA : ∀ q, H0.size ≤ q → A q) (isC : List Nat) (hC : isC.map (fun i => ws[i]?) = W1.map some) (hf : W2.map (fun q => q.1) = W1.map (fun q => q.1)) {ws1 : va_W} (src : List (Bool × Nat)) (hs : srcOk isC 0 src = true) (hw : src.map (fun z => cond z.1 (W2[z.2]?) (ws[z.2]?)) = ws1.map some)
    (kk : ∀ (H1 : Heap) (locs1 : List Loc), va_P D vwCl ws1 H1 → va_D A ws1 → va_S A H0 H1 locs1 → W p l e R s m args below meth c H1 locs1 cells slots Q (F0 m (pc + 3) ls rest)) : W p l e R s m args below meth c H locs cells slots Q (F0 m pc ls st0) := by
  have hF := va_free hD hS hA isC hC
  refine va_callv hr hS (fun q _ h => hF q h) hF (fun u t H1 locs ht hvm hw1 hB hz1 hk1 hS => ?_)
  rw [ht] at hB
  obtain ⟨a1, a2⟩ := call_src hP hD isC hC hf hs hw hk1 hB
  exact kk H1 locs a1 a2 hS
theorem ret_i {W1 W2 : va_W} {r : Int32} (hr : va_Run p l e R s m args below meth c H locs cells slots 0 0 (F0 m pc ls st0) rest (va_Qi (fun (x : Int32) (_ : Unit) => x = r) (fun _ t => va_P D vwCl W2 t.heap) (va_A W1 H.size) ar) (va_A W1 H.size)) (hP : va_P D vwCl ws H) (hD : va_D A ws) (hS : va_S A H0 H locs) (hA : ∀ q, H0.size ≤ q → A q) (isC : List Nat) (hC : isC.map (fun i => ws[i]?) = W1.map some) (hf : W2.map (fun q => q.1) = W1.map (fun q => q.1)) {ws1 : va_W} (src : List (Bool × Nat)) (hs : srcOk isC 0 src = true) (hw : src.map (fun z => cond z.1 (W2[z.2]?) (ws[z.2]?)) = ws1.map some)
    (kk : ∀ (H1 : Heap) (locs1 : List Loc), va_P D vwCl ws1 H1 → va_D A ws1 → va_S A H0 H1 locs1 → W p l e R s m args below meth c H1 locs1 cells slots Q (F0 m (pc + 3) ls (.int r :: rest))) : W p l e R s m args below meth c H locs cells slots Q (F0 m pc ls st0) := by
  have hF := va_free hD hS hA isC hC
  refine va_calli hr hS (fun q _ h => hF q h) hF (fun r' u t H1 locs ht hvm hw1 hB hz1 hk1 hS => ?_)
  rw [ht] at hB
  subst hw1
  obtain ⟨a1, a2⟩ := call_src hP hD isC hC hf hs hw hk1 hB
  exact kk H1 locs a1 a2 hS
theorem ret_l {W1 W2 : va_W} {r : Int64} (hr : va_Run p l e R s m args below meth c H locs cells slots 0 0 (F0 m pc ls st0) rest (va_Ql (fun (x : Int64) (_ : Unit) => x = r) (fun _ t => va_P D vwCl W2 t.heap) (va_A W1 H.size) ar) (va_A W1 H.size)) (hP : va_P D vwCl ws H) (hD : va_D A ws) (hS : va_S A H0 H locs) (hA : ∀ q, H0.size ≤ q → A q) (isC : List Nat) (hC : isC.map (fun i => ws[i]?) = W1.map some) (hf : W2.map (fun q => q.1) = W1.map (fun q => q.1)) {ws1 : va_W} (src : List (Bool × Nat)) (hs : srcOk isC 0 src = true) (hw : src.map (fun z => cond z.1 (W2[z.2]?) (ws[z.2]?)) = ws1.map some)
    (kk : ∀ (H1 : Heap) (locs1 : List Loc), va_P D vwCl ws1 H1 → va_D A ws1 → va_S A H0 H1 locs1 → W p l e R s m args below meth c H1 locs1 cells slots Q (F0 m (pc + 3) ls (.long r :: rest))) : W p l e R s m args below meth c H locs cells slots Q (F0 m pc ls st0) := by
  have hF := va_free hD hS hA isC hC
  refine va_calll hr hS (fun q _ h => hF q h) hF (fun r' u t H1 locs ht hvm hw1 hB hz1 hk1 hS => ?_)
  rw [ht] at hB
  subst hw1
  obtain ⟨a1, a2⟩ := call_src hP hD isC hC hf hs hw hk1 hB
  exact kk H1 locs a1 a2 hS
theorem ret_vP {X W1 W2 pl : va_W} (hr : va_Run p l e R s m args below meth c H locs cells slots 0 0 (F0 m pc ls st0) rest (va_Qv (fun _ : Unit => True) (fun _ t => va_P D vwCl W2 t.heap) (va_A W1 H.size) ar) (va_A W1 H.size)) (hP : va_P D vwCl (X ++ pl) H) (hD : va_D A (X ++ pl)) (hS : va_S A H0 H locs) (hA : ∀ q, H0.size ≤ q → A q) (isC : List Nat) (hC : isC.map (fun i => X[i]?) = W1.map some) (hf : W2.map (fun q => q.1) = W1.map (fun q => q.1)) {X1 : va_W} (src : List (Bool × Nat)) (hs : srcOk isC 0 src = true) (hw : src.map (fun z => cond z.1 (W2[z.2]?) (X[z.2]?)) = X1.map some) (hX : X1.length = X.length)
    (kk : ∀ (H1 : Heap) (locs1 : List Loc), va_P D vwCl (X1 ++ pl) H1 → va_D A (X1 ++ pl) → va_S A H0 H1 locs1 → W p l e R s m args below meth c H1 locs1 cells slots Q (F0 m (pc + 3) ls rest)) : W p l e R s m args below meth c H locs cells slots Q (F0 m pc ls st0) := by
  have hF := va_free (va_D_left hD) hS hA isC hC
  refine va_callv hr hS (fun q _ h => hF q h) hF (fun u t H1 locs ht hvm hw1 hB hz1 hk1 hS => ?_)
  rw [ht] at hB
  obtain ⟨a1, a2⟩ := call_srcP hP hD isC hC hf hs hw hX hk1 hB
  exact kk H1 locs a1 a2 hS
theorem ret_iP {X W1 W2 pl : va_W} {r : Int32} (hr : va_Run p l e R s m args below meth c H locs cells slots 0 0 (F0 m pc ls st0) rest (va_Qi (fun (x : Int32) (_ : Unit) => x = r) (fun _ t => va_P D vwCl W2 t.heap) (va_A W1 H.size) ar) (va_A W1 H.size)) (hP : va_P D vwCl (X ++ pl) H) (hD : va_D A (X ++ pl)) (hS : va_S A H0 H locs) (hA : ∀ q, H0.size ≤ q → A q) (isC : List Nat) (hC : isC.map (fun i => X[i]?) = W1.map some) (hf : W2.map (fun q => q.1) = W1.map (fun q => q.1)) {X1 : va_W} (src : List (Bool × Nat)) (hs : srcOk isC 0 src = true) (hw : src.map (fun z => cond z.1 (W2[z.2]?) (X[z.2]?)) = X1.map some) (hX : X1.length = X.length)
    (kk : ∀ (H1 : Heap) (locs1 : List Loc), va_P D vwCl (X1 ++ pl) H1 → va_D A (X1 ++ pl) → va_S A H0 H1 locs1 → W p l e R s m args below meth c H1 locs1 cells slots Q (F0 m (pc + 3) ls (.int r :: rest))) : W p l e R s m args below meth c H locs cells slots Q (F0 m pc ls st0) := by
  have hF := va_free (va_D_left hD) hS hA isC hC
  refine va_calli hr hS (fun q _ h => hF q h) hF (fun r' u t H1 locs ht hvm hw1 hB hz1 hk1 hS => ?_)
  rw [ht] at hB
  subst hw1
  obtain ⟨a1, a2⟩ := call_srcP hP hD isC hC hf hs hw hX hk1 hB
  exact kk H1 locs a1 a2 hS
theorem ret_lP {X W1 W2 pl : va_W} {r : Int64} (hr : va_Run p l e R s m args below meth c H locs cells slots 0 0 (F0 m pc ls st0) rest (va_Ql (fun (x : Int64) (_ : Unit) => x = r) (fun _ t => va_P D vwCl W2 t.heap) (va_A W1 H.size) ar) (va_A W1 H.size)) (hP : va_P D vwCl (X ++ pl) H) (hD : va_D A (X ++ pl)) (hS : va_S A H0 H locs) (hA : ∀ q, H0.size ≤ q → A q) (isC : List Nat) (hC : isC.map (fun i => X[i]?) = W1.map some) (hf : W2.map (fun q => q.1) = W1.map (fun q => q.1)) {X1 : va_W} (src : List (Bool × Nat)) (hs : srcOk isC 0 src = true) (hw : src.map (fun z => cond z.1 (W2[z.2]?) (X[z.2]?)) = X1.map some) (hX : X1.length = X.length)
    (kk : ∀ (H1 : Heap) (locs1 : List Loc), va_P D vwCl (X1 ++ pl) H1 → va_D A (X1 ++ pl) → va_S A H0 H1 locs1 → W p l e R s m args below meth c H1 locs1 cells slots Q (F0 m (pc + 3) ls (.long r :: rest))) : W p l e R s m args below meth c H locs cells slots Q (F0 m pc ls st0) := by
  have hF := va_free (va_D_left hD) hS hA isC hC
  refine va_calll hr hS (fun q _ h => hF q h) hF (fun r' u t H1 locs ht hvm hw1 hB hz1 hk1 hS => ?_)
  rw [ht] at hB
  subst hw1
  obtain ⟨a1, a2⟩ := call_srcP hP hD isC hC hf hs hw hX hk1 hB
  exact kk H1 locs a1 a2 hS
theorem ret_vB {X cx cx' pl pl' : va_W} (hr : va_Run p l e R s m args below meth c H locs cells slots 0 0 (F0 m pc ls st0) rest (va_Qv (fun _ : Unit => True) (fun _ t => va_P D vwCl (cx' ++ pl') t.heap) (va_A (cx ++ pl) H.size) ar) (va_A (cx ++ pl) H.size)) (hP : va_P D vwCl (X ++ pl) H) (hD : va_D A (X ++ pl)) (hS : va_S A H0 H locs) (hA : ∀ q, H0.size ≤ q → A q) (isC : List Nat) (hn : va_nd isC = true) (hC : isC.map (fun i => X[i]?) = cx.map some) (hf : cx'.map (fun q => q.1) = cx.map (fun q => q.1)) (hfp : pl'.map (fun q => q.1) = pl.map (fun q => q.1)) {X1 : va_W} (src : List (Bool × Nat)) (hs : srcOk isC 0 src = true) (hw : src.map (fun z => cond z.1 (cx'[z.2]?) (X[z.2]?)) = X1.map some) (hX : X1.length = X.length)
    (kk : ∀ (H1 : Heap) (locs1 : List Loc), va_P D vwCl (X1 ++ pl') H1 → va_D A (X1 ++ pl') → va_S A H0 H1 locs1 → W p l e R s m args below meth c H1 locs1 cells slots Q (F0 m (pc + 3) ls rest)) : W p l e R s m args below meth c H locs cells slots Q (F0 m pc ls st0) := by
  have hF := free_of (hD.part isC hn hC) hS hA
  refine va_callv hr hS (fun q _ h => hF q h) hF (fun u t H1 locs ht hvm hw1 hB hz1 hk1 hS => ?_)
  rw [ht] at hB
  obtain ⟨a1, a2⟩ := call_srcB hP hD isC hC hf hfp hs hw hX hk1 hB
  exact kk H1 locs a1 a2 hS
theorem ret_iB {X cx cx' pl pl' : va_W} {r : Int32} (hr : va_Run p l e R s m args below meth c H locs cells slots 0 0 (F0 m pc ls st0) rest (va_Qi (fun (x : Int32) (_ : Unit) => x = r) (fun _ t => va_P D vwCl (cx' ++ pl') t.heap) (va_A (cx ++ pl) H.size) ar) (va_A (cx ++ pl) H.size)) (hP : va_P D vwCl (X ++ pl) H) (hD : va_D A (X ++ pl)) (hS : va_S A H0 H locs) (hA : ∀ q, H0.size ≤ q → A q) (isC : List Nat) (hn : va_nd isC = true) (hC : isC.map (fun i => X[i]?) = cx.map some) (hf : cx'.map (fun q => q.1) = cx.map (fun q => q.1)) (hfp : pl'.map (fun q => q.1) = pl.map (fun q => q.1)) {X1 : va_W} (src : List (Bool × Nat)) (hs : srcOk isC 0 src = true) (hw : src.map (fun z => cond z.1 (cx'[z.2]?) (X[z.2]?)) = X1.map some) (hX : X1.length = X.length)
    (kk : ∀ (H1 : Heap) (locs1 : List Loc), va_P D vwCl (X1 ++ pl') H1 → va_D A (X1 ++ pl') → va_S A H0 H1 locs1 → W p l e R s m args below meth c H1 locs1 cells slots Q (F0 m (pc + 3) ls (.int r :: rest))) : W p l e R s m args below meth c H locs cells slots Q (F0 m pc ls st0) := by
  have hF := free_of (hD.part isC hn hC) hS hA
  refine va_calli hr hS (fun q _ h => hF q h) hF (fun r' u t H1 locs ht hvm hw1 hB hz1 hk1 hS => ?_)
  rw [ht] at hB
  subst hw1
  obtain ⟨a1, a2⟩ := call_srcB hP hD isC hC hf hfp hs hw hX hk1 hB
  exact kk H1 locs a1 a2 hS
theorem end_v (hx : p.tables.exec = Jvm.exec) (hb : c.code = cc) (hr : meth.sig.returnType = none) (hlocks : meth.locks = false) {W2 : va_W} (hP : va_P D vwCl W2 H) (hS : va_S A s.heap H locs) (hdg : decode cc pc = .ok (.return_, 1)) : W p l e R s m args below meth c H locs cells slots (MQ below (va_Qv (fun _ : Unit => True) (fun _ t => va_P D vwCl W2 t.heap) A) args s cells slots A) (F0 m pc ls []) :=
  W.vret hx hb hr (fun t ht hW => ⟨⟨(), rfl, trivial, by show va_P D vwCl W2 t.heap; rw [ht]; exact hP⟩, hS.F ht⟩) hS.2.2 hdg hlocks
theorem end_i (hx : p.tables.exec = Jvm.exec) (hb : c.code = cc) (hr : meth.sig.returnType = some .int) (hlocks : meth.locks = false) {W2 : va_W} {v r : Int32} (hv : v = r) (hP : va_P D vwCl W2 H) (hS : va_S A s.heap H locs) (hdg : decode cc pc = .ok (.ireturn, 1)) : W p l e R s m args below meth c H locs cells slots (MQ below (va_Qi (fun (x : Int32) (_ : Unit) => x = r) (fun _ t => va_P D vwCl W2 t.heap) A) args s cells slots A) (F0 m pc ls [.int v]) :=
  W.iret hx hb hr (fun t ht hW => ⟨⟨v, (), rfl, hv, by show va_P D vwCl W2 t.heap; rw [ht]; exact hP⟩, hS.F ht⟩) hS.2.2 hdg hlocks
theorem nar01 {v : Int32} (h : v = 0 ∨ v = 1) : narrow .boolean (.int v) = .int v := by
  rcases h with rfl | rfl <;> rfl
theorem end_z (hx : p.tables.exec = Jvm.exec) (hb : c.code = cc) (hr : meth.sig.returnType = some .boolean) (hlocks : meth.locks = false) {W2 : va_W} {v r : Int32} (h01 : v = 0 ∨ v = 1) (hv : v = r) (hP : va_P D vwCl W2 H) (hS : va_S A s.heap H locs) (hdg : decode cc pc = .ok (.ireturn, 1)) : W p l e R s m args below meth c H locs cells slots (MQ below (va_Qi (fun (x : Int32) (_ : Unit) => x = r) (fun _ t => va_P D vwCl W2 t.heap) A) args s cells slots A) (F0 m pc ls [.int v]) :=
  W.zret hx hb hr (nar01 h01) (fun t ht hW => ⟨⟨v, (), rfl, hv, by show va_P D vwCl W2 t.heap; rw [ht]; exact hP⟩, hS.F ht⟩) hS.2.2 hdg hlocks
theorem end_l (hx : p.tables.exec = Jvm.exec) (hb : c.code = cc) (hr : meth.sig.returnType = some .long) (hlocks : meth.locks = false) {W2 : va_W} {v r : Int64} (hv : v = r) (hP : va_P D vwCl W2 H) (hS : va_S A s.heap H locs) (hdg : decode cc pc = .ok (.lreturn, 1)) : W p l e R s m args below meth c H locs cells slots (MQ below (va_Ql (fun (x : Int64) (_ : Unit) => x = r) (fun _ t => va_P D vwCl W2 t.heap) A) args s cells slots A) (F0 m pc ls [.long v]) :=
  W.lret hx hb hr (fun t ht hW => ⟨⟨v, (), rfl, hv, by show va_P D vwCl W2 t.heap; rw [ht]; exact hP⟩, hS.F ht⟩) hS.2.2 hdg hlocks
theorem end_d (hx : p.tables.exec = Jvm.exec) (hb : c.code = cc) (hr : meth.sig.returnType = some .double) (hlocks : meth.locks = false) {W2 : va_W} {v r : UInt64} (hv : v = r) (hP : va_P D vwCl W2 H) (hS : va_S A s.heap H locs) (hdg : decode cc pc = .ok (.dreturn, 1)) : W p l e R s m args below meth c H locs cells slots (MQ below (va_Qd (fun (x : UInt64) (_ : Unit) => x = r) (fun _ t => va_P D vwCl W2 t.heap) A) args s cells slots A) (F0 m pc ls [.double v]) :=
  W.dret hx hb hr (fun t ht hW => ⟨⟨v, (), rfl, hv, by show va_P D vwCl W2 t.heap; rw [ht]; exact hP⟩, hS.F ht⟩) hS.2.2 hdg hlocks
variable {y : MethodName} {bytes : ByteArray} {maxL nL n index : Nat} {ret : Option FieldType} {wy ws' Ts : List Cond} {rm : Room} {Qc : Array Value → State → Outcome → State → Prop} {free : Addr → Prop} {own host : String} {b : Addr} {As : List Value} {W1 : va_W}
theorem run_VN (S : CallFix p m c cc nL s args Ts own) (hM : Met l y wy rm (va_Pc (.ref b :: As) (PP D cyI cyO cyL W1 H.size)) Qc 0 0 free)
    (gg : GoodIn Ts wy) (hw : wy = Cond.code y bytes maxL ret :: ws') (hrc : rm.cells = 0) (hrs : rm.slots = 0) (hl : Cond.methodLinkNest own index y host ∈ nw_all) (hini : (Cond.initialized y.cls).before args s = true) (hin : (Cond.instanceMethod y).before args s = true)
    {q : vw_C} (hse : (Cond.selects q.1 y y).before args s = true) (hd : y.cls ≠ "java/lang/invoke/MethodHandle" ∧ y.cls ≠ "java/lang/invoke/VarHandle" ∧ (parseMethodDescriptor y.desc).map (fun d => d.parameters.length) = some n) (hR : rm.frames + 1 ≤ R.frames ∧ 8 + (maxL + 11) + rm.locals ≤ R.locals)
    (hKK : KK D cyI cyO cyL s) (hPc : va_P D vwCl W1 H) (hDc : va_D A W1) {q0 ci : Nat} {fs : List Value} (hc : vwCl[ci]? = some q) (he : W1[q0]? = some (b, .inr (ci, fs)))
    (hn : As.length = n) (hsize : ls.size = nL) (hst : st0 = As.reverse ++ .ref b :: rest) (hcat : (rest.map fun v => v.category).sum ≤ 8) (hdg : decode cc pc = .ok (.invokevirtual index, 3)) (hf : cells ≤ R.cells ∧ slots ≤ R.slots) :
    va_Run p l e R s m args below meth c H locs cells slots 0 0 (F0 m pc ls st0) rest (Qc (Value.ref b :: As).toArray) free :=
  va_runVN (C := q.1) S hM ⟨va_cnB n S.2.2.2.2 gg hw hrc hrs (hKK.2 _ hl) hini hd hR, hin, hse⟩ ⟨PP_blind, va_recv hKK.1 hPc hc he, fun U hU hW => ⟨rfl, by rw [hU], by rw [hU]; exact hPc, hKK.warm hW, hDc.weaken (fun _ _ _ _ => trivial)⟩⟩ rfl hn hsize hst (lv_room hcat) hdg hf
theorem run_V (S : CallFix p m c cc nL s args Ts own) (hM : Met l y wy rm (va_Pc (.ref b :: As) (PP D cyI cyO cyL W1 H.size)) Qc 0 0 free)
    (gg : GoodIn Ts wy) (hw : wy = Cond.code y bytes maxL ret :: ws') (hrc : rm.cells = 0) (hrs : rm.slots = 0) (hl : (Cond.methodLink own index y).before args s = true) (hini : (Cond.initialized y.cls).before args s = true) (hin : (Cond.instanceMethod y).before args s = true)
    {q : vw_C} (hse : (Cond.selects q.1 y y).before args s = true) (hd : y.cls ≠ "java/lang/invoke/MethodHandle" ∧ y.cls ≠ "java/lang/invoke/VarHandle" ∧ (parseMethodDescriptor y.desc).map (fun d => d.parameters.length) = some n) (hR : rm.frames + 1 ≤ R.frames ∧ 8 + (maxL + 11) + rm.locals ≤ R.locals)
    (hKK : KK D cyI cyO cyL s) (hPc : va_P D vwCl W1 H) (hDc : va_D A W1) {q0 ci : Nat} {fs : List Value} (hc : vwCl[ci]? = some q) (he : W1[q0]? = some (b, .inr (ci, fs)))
    (hn : As.length = n) (hsize : ls.size = nL) (hst : st0 = As.reverse ++ .ref b :: rest) (hcat : (rest.map fun v => v.category).sum ≤ 8) (hdg : decode cc pc = .ok (.invokevirtual index, 3)) (hf : cells ≤ R.cells ∧ slots ≤ R.slots) :
    va_Run p l e R s m args below meth c H locs cells slots 0 0 (F0 m pc ls st0) rest (Qc (Value.ref b :: As).toArray) free :=
  va_runV (C := q.1) S hM ⟨callB_of n S.2.2.2.2 gg hw hrc hrs hini hl hd hR, hin, hse⟩ ⟨PP_blind, va_recv hKK.1 hPc hc he, fun U hU hW => ⟨rfl, by rw [hU], by rw [hU]; exact hPc, hKK.warm hW, hDc.weaken (fun _ _ _ _ => trivial)⟩⟩ rfl hn hsize hst (lv_room hcat) hdg hf
theorem run_SN (S : CallFix p m c cc nL s args Ts own) (hM : Met l y wy rm (va_Pc As (PP D cyI cyO cyL W1 H.size)) Qc 0 0 free)
    (gg : GoodIn Ts wy) (hw : wy = Cond.code y bytes maxL ret :: ws') (hrc : rm.cells = 0) (hrs : rm.slots = 0) (hl : Cond.methodLinkNest own index y host ∈ nw_all) (hini : (Cond.initialized y.cls).before args s = true) (hsc : (Cond.static y).before args s = true)
    (hd : y.cls ≠ "java/lang/invoke/MethodHandle" ∧ y.cls ≠ "java/lang/invoke/VarHandle" ∧ (parseMethodDescriptor y.desc).map (fun d => d.parameters.length) = some n) (hR : rm.frames + 1 ≤ R.frames ∧ 8 + (maxL + 11) + rm.locals ≤ R.locals)
    (hKK : KK D cyI cyO cyL s) (hPc : va_P D vwCl W1 H) (hDc : va_D A W1)
    (hn : As.length = n) (hsize : ls.size = nL) (hst : st0 = As.reverse ++ rest) (hcat : (rest.map fun v => v.category).sum ≤ 8) (hdg : decode cc pc = .ok (.invokestatic index, 3)) (hf : cells ≤ R.cells ∧ slots ≤ R.slots) :
    va_Run p l e R s m args below meth c H locs cells slots 0 0 (F0 m pc ls st0) rest (Qc As.toArray) free :=
  va_runSN S hM ⟨va_cnB n S.2.2.2.2 gg hw hrc hrs (hKK.2 _ hl) hini hd hR, hsc, trivial⟩ ⟨PP_blind, fun U hU hW => ⟨rfl, by rw [hU], by rw [hU]; exact hPc, hKK.warm hW, hDc.weaken (fun _ _ _ _ => trivial)⟩⟩ rfl hn hsize hst (lv_room hcat) hdg hf
theorem run_S (S : CallFix p m c cc nL s args Ts own) (hM : Met l y wy rm (va_Pc As (PP D cyI cyO cyL W1 H.size)) Qc 0 0 free)
    (gg : GoodIn Ts wy) (hw : wy = Cond.code y bytes maxL ret :: ws') (hrc : rm.cells = 0) (hrs : rm.slots = 0) (hl : (Cond.methodLink own index y).before args s = true) (hini : (Cond.initialized y.cls).before args s = true) (hsc : (Cond.static y).before args s = true)
    (hd : y.cls ≠ "java/lang/invoke/MethodHandle" ∧ y.cls ≠ "java/lang/invoke/VarHandle" ∧ (parseMethodDescriptor y.desc).map (fun d => d.parameters.length) = some n) (hR : rm.frames + 1 ≤ R.frames ∧ 8 + (maxL + 11) + rm.locals ≤ R.locals)
    (hKK : KK D cyI cyO cyL s) (hPc : va_P D vwCl W1 H) (hDc : va_D A W1)
    (hn : As.length = n) (hsize : ls.size = nL) (hst : st0 = As.reverse ++ rest) (hcat : (rest.map fun v => v.category).sum ≤ 8) (hdg : decode cc pc = .ok (.invokestatic index, 3)) (hf : cells ≤ R.cells ∧ slots ≤ R.slots) :
    va_Run p l e R s m args below meth c H locs cells slots 0 0 (F0 m pc ls st0) rest (Qc As.toArray) free :=
  va_runS S hM ⟨callB_of n S.2.2.2.2 gg hw hrc hrs hini hl hd hR, hsc⟩ ⟨PP_blind, fun U hU hW => ⟨rfl, by rw [hU], by rw [hU]; exact hPc, hKK.warm hW, hDc.weaken (fun _ _ _ _ => trivial)⟩⟩ rfl hn hsize hst (lv_room hcat) hdg hf
/-! the buses: a pool of cells, by address and field -/
variable {index' : Nat} {X : va_W} {LB : List Nat} {B : Nat → Nat → Int32}
end MYR
def bE (B : Nat → Nat → Int32) : Nat → va_E := fun a => .inr (0, [.int (B a 0), .int (B a 1), .int (B a 2), .int (B a 3), .int (B a 4), .int (B a 5)])
def up2 (B : Nat → Nat → Int32) (b k : Nat) (v : Int32) : Nat → Nat → Int32 := fun a j => if j = k ∧ a = b then v else B a j
abbrev pB (LB : List Nat) (B : Nat → Nat → Int32) : va_W := va_pl LB (bE B)
theorem pB_fst {LB : List Nat} {B B' : Nat → Nat → Int32} : (pB LB B').map (fun q => q.1) = (pB LB B).map (fun q => q.1) := by
  simp [pB, va_pl]
theorem bE_up {B : Nat → Nat → Int32} {b k : Nat} (hk : k < 6) (v : Int32) (a : Nat) : va_up (bE B) b (.inr (0, ([.int (B b 0), .int (B b 1), .int (B b 2), .int (B b 3), .int (B b 4), .int (B b 5)] : List Value).set k (.int v))) a = bE (up2 B b k v) a := by
  by_cases h : a = b
  · subst h
    match k, hk with
    | 0, _ => simp [va_up, bE, up2]
    | 1, _ => simp [va_up, bE, up2]
    | 2, _ => simp [va_up, bE, up2]
    | 3, _ => simp [va_up, bE, up2]
    | 4, _ => simp [va_up, bE, up2]
    | 5, _ => simp [va_up, bE, up2]
  · simp [va_up, bE, up2, h]
theorem bE_at {B : Nat → Nat → Int32} {b k : Nat} (hk : k < 6) : ([.int (B b 0), .int (B b 1), .int (B b 2), .int (B b 3), .int (B b 4), .int (B b 5)] : List Value)[k]? = some (.int (B b k)) := by
  match k, hk with
  | 0, _ => rfl
  | 1, _ => rfl
  | 2, _ => rfl
  | 3, _ => rfl
  | 4, _ => rfl
  | 5, _ => rfl
section MYB
variable {p : Program} {l : Launch} {e : Env} {R : Room} {s : State} {m : MethodId} {args : Array Value} {below : List Frame} {meth : Method} {c : Code} {H : Heap} {locs : List Loc} {cells slots : Nat} {Q : State → Prop}
variable {cc : ByteArray} {pc : Nat} {ls : Array Slot} {rest st0 : List Value} {D : va_G} {A : Nat → Prop} {H0 : Heap} {cyI cyO cyL : ClassId} {own host ref : String} {index : Nat} {Ts : List Cond} {X : va_W} {LB : List Nat} {B : Nat → Nat → Int32} {b : Nat}
theorem bus_getN (hx : p.tables.exec = Jvm.exec) (hb : c.code = cc) (hts : ∀ w ∈ Ts, w.before args s = true) (hin : ∀ w ∈ wsX00, w ∈ Ts) (hown : s.vm.findClass own = some m.cls) (hKK : KK D cyI cyO cyL s) (hP : va_P D vwCl (X ++ pB LB B) H) (hL : b ∈ LB) (k : Nat) (hk : k < 6) (hlink : (Cond.fieldLinkNest own index ref (TX0 k).2.1 (TX0 k).2.2.1 host).before args s = true) (hsame : ∀ x, s.fieldFound? (TX0 k).1 (TX0 k).2.1 (TX0 k).2.2.1 = some x → s.fieldFound? ref (TX0 k).2.1 (TX0 k).2.2.1 = some x) (hdg : decode cc pc = .ok (.getfield index, 3))
    (kk : W p l e R s m args below meth c H locs cells slots Q (F0 m (pc + 3) ls (.int (B b k) :: rest))) : W p l e R s m args below meth c H locs cells slots Q (F0 m pc ls (.ref b :: rest)) := by
  obtain ⟨q0, hq⟩ := va_pl_get (X := X) (f := bE B) hL
  exact va_getN (C := RX0) (T := TX0) (N := 6) hx hb hts hin hown hKK.1 hP q0 hq rfl k hk hlink hsame (bE_at hk) hdg kk
theorem bus_get (hx : p.tables.exec = Jvm.exec) (hb : c.code = cc) (hts : ∀ w ∈ Ts, w.before args s = true) (hin : ∀ w ∈ wsX00, w ∈ Ts) (hown : s.vm.findClass own = some m.cls) (hKK : KK D cyI cyO cyL s) (hP : va_P D vwCl (X ++ pB LB B) H) (hL : b ∈ LB) (k : Nat) (hk : k < 6) (hlink : (Cond.fieldLink own index ref (TX0 k).2.1 (TX0 k).2.2.1).before args s = true) (hsame : ∀ x, s.fieldFound? (TX0 k).1 (TX0 k).2.1 (TX0 k).2.2.1 = some x → s.fieldFound? ref (TX0 k).2.1 (TX0 k).2.2.1 = some x) (hdg : decode cc pc = .ok (.getfield index, 3))
    (kk : W p l e R s m args below meth c H locs cells slots Q (F0 m (pc + 3) ls (.int (B b k) :: rest))) : W p l e R s m args below meth c H locs cells slots Q (F0 m pc ls (.ref b :: rest)) := by
  obtain ⟨q0, hq⟩ := va_pl_get (X := X) (f := bE B) hL
  exact va_get (C := RX0) (T := TX0) (N := 6) hx hb hts hin hown hKK.1 hP q0 hq rfl k hk hlink hsame (bE_at hk) hdg kk
theorem bus_putN (hx : p.tables.exec = Jvm.exec) (hb : c.code = cc) (hts : ∀ w ∈ Ts, w.before args s = true) (hin : ∀ w ∈ wsX00, w ∈ Ts) (hown : s.vm.findClass own = some m.cls) (hKK : KK D cyI cyO cyL s) (hP : va_P D vwCl (X ++ pB LB B) H) (hD : va_D A (X ++ pB LB B)) (hS : va_S A H0 H locs) (hL : b ∈ LB) (k : Nat) (hk : k < 6) (hlink : (Cond.fieldLinkNest own index ref (TX0 k).2.1 (TX0 k).2.2.1 host).before args s = true) (hsame : ∀ x, s.fieldFound? (TX0 k).1 (TX0 k).2.1 (TX0 k).2.2.1 = some x → s.fieldFound? ref (TX0 k).2.1 (TX0 k).2.2.1 = some x) (hfin : (TX0 k).2.2.2 = false) {ty : FieldType} {v : Int32} (hd : parseFieldDescriptor (TX0 k).2.2.1 = some ty) (hn : narrow ty (.int v) = .int v) (hfit : fits ty (.int v) = true) (hdg : decode cc pc = .ok (.putfield index, 3))
    (kk : ∀ (H1 : Heap) (locs1 : List Loc), va_P D vwCl (X ++ pB LB (up2 B b k v)) H1 → va_D A (X ++ pB LB (up2 B b k v)) → va_S A H0 H1 locs1 → W p l e R s m args below meth c H1 locs1 cells slots Q (F0 m (pc + 3) ls rest)) : W p l e R s m args below meth c H locs cells slots Q (F0 m pc ls (.int v :: .ref b :: rest)) := by
  obtain ⟨q0, hq⟩ := va_pl_get (X := X) (f := bE B) hL
  have e9 := (va_pl_set (e := .inr (0, ([.int (B b 0), .int (B b 1), .int (B b 2), .int (B b 3), .int (B b 4), .int (B b 5)] : List Value).set k (.int v))) hD hL hq).trans (congrArg (fun z => X ++ z) (va_pl_congr (bE_up hk v)))
  refine va_putN (C := RX0) (T := TX0) (N := 6) hx hb hts hin tyX0 tyX0_ok nmX0 hown hKK.1 hP hD hS q0 hq rfl k hk hlink hsame hfin hd hn hfit (by simpa using hk) hdg (fun H1 locs1 hP1 hD1 hS1 => ?_)
  rw [e9] at hP1 hD1
  exact kk H1 locs1 hP1 hD1 hS1
theorem bus_put (hx : p.tables.exec = Jvm.exec) (hb : c.code = cc) (hts : ∀ w ∈ Ts, w.before args s = true) (hin : ∀ w ∈ wsX00, w ∈ Ts) (hown : s.vm.findClass own = some m.cls) (hKK : KK D cyI cyO cyL s) (hP : va_P D vwCl (X ++ pB LB B) H) (hD : va_D A (X ++ pB LB B)) (hS : va_S A H0 H locs) (hL : b ∈ LB) (k : Nat) (hk : k < 6) (hlink : (Cond.fieldLink own index ref (TX0 k).2.1 (TX0 k).2.2.1).before args s = true) (hsame : ∀ x, s.fieldFound? (TX0 k).1 (TX0 k).2.1 (TX0 k).2.2.1 = some x → s.fieldFound? ref (TX0 k).2.1 (TX0 k).2.2.1 = some x) (hfin : (TX0 k).2.2.2 = false) {ty : FieldType} {v : Int32} (hd : parseFieldDescriptor (TX0 k).2.2.1 = some ty) (hn : narrow ty (.int v) = .int v) (hfit : fits ty (.int v) = true) (hdg : decode cc pc = .ok (.putfield index, 3))
    (kk : ∀ (H1 : Heap) (locs1 : List Loc), va_P D vwCl (X ++ pB LB (up2 B b k v)) H1 → va_D A (X ++ pB LB (up2 B b k v)) → va_S A H0 H1 locs1 → W p l e R s m args below meth c H1 locs1 cells slots Q (F0 m (pc + 3) ls rest)) : W p l e R s m args below meth c H locs cells slots Q (F0 m pc ls (.int v :: .ref b :: rest)) := by
  obtain ⟨q0, hq⟩ := va_pl_get (X := X) (f := bE B) hL
  have e9 := (va_pl_set (e := .inr (0, ([.int (B b 0), .int (B b 1), .int (B b 2), .int (B b 3), .int (B b 4), .int (B b 5)] : List Value).set k (.int v))) hD hL hq).trans (congrArg (fun z => X ++ z) (va_pl_congr (bE_up hk v)))
  refine va_put (C := RX0) (T := TX0) (N := 6) hx hb hts hin tyX0 tyX0_ok nmX0 hown hKK.1 hP hD hS q0 hq rfl k hk hlink hsame hfin hd hn hfit (by simpa using hk) hdg (fun H1 locs1 hP1 hD1 hS1 => ?_)
  rw [e9] at hP1 hD1
  exact kk H1 locs1 hP1 hD1 hS1
end MYB
