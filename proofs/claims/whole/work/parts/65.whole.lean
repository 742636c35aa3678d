theorem long_row {D : va_G} {cl : List vw_C} {tys : List (ClassId × FieldType)} {U : State} {cB cy : ClassId} (i j : Nat) (hK : va_K D cl tys U) (h1 : tys[i]? = some (cB, .long)) (h2 : tys[j]? = some (cy, .long)) : cB = cy :=
  Option.some.inj (((hK.2 i _ h1).2).symm.trans ((hK.2 j _ h2).2))
/-- the last cell between the two worlds -/
theorem swapD {A : Nat → Prop} {X Y Z : va_W} (h : va_D A ((X ++ Y) ++ Z)) : va_D A ((X ++ Z) ++ Y) := by
  have hXY := va_D_left h
  have hZ := sufD h
  have hX := va_D_left hXY
  have hY := sufD hXY
  have one : ∀ (k : Nat) (q : Nat × va_E), ((X ++ Z) ++ Y)[k]? = some q → ∃ j : Nat, ((X ++ Y) ++ Z)[j]? = some q ∧ (k < X.length → j = k) ∧ (X.length ≤ k → k < X.length + Z.length → j = k + Y.length) ∧ (X.length + Z.length ≤ k → j + Z.length = k) := by
    intro k q hk
    by_cases h1 : k < X.length
    · refine ⟨k, ?_, fun _ => rfl, fun h => absurd h1 (by omega), fun h => absurd h1 (by omega)⟩
      rw [List.getElem?_append_left (by rw [List.length_append]; omega), List.getElem?_append_left h1] at hk
      rw [List.getElem?_append_left (by rw [List.length_append]; omega), List.getElem?_append_left h1]
      exact hk
    · by_cases h2 : k < X.length + Z.length
      · refine ⟨k + Y.length, ?_, fun h => absurd h h1, fun _ _ => rfl, fun h => absurd h2 (by omega)⟩
        rw [List.getElem?_append_left (by rw [List.length_append]; omega), List.getElem?_append_right (by omega)] at hk
        rw [List.getElem?_append_right (by rw [List.length_append]; omega), List.length_append, show k + Y.length - (X.length + Y.length) = k - X.length by omega]
        exact hk
      · refine ⟨k - Z.length, ?_, fun h => absurd h h1, fun _ h => absurd h h2, fun h => by omega⟩
        rw [List.getElem?_append_right (by rw [List.length_append]; omega), List.length_append] at hk
        have hlt := (List.getElem?_eq_some_iff.mp hk).1
        rw [List.getElem?_append_left (by rw [List.length_append]; omega), List.getElem?_append_right (by omega), show k - Z.length - X.length = k - (X.length + Z.length) by omega]
        exact hk
  refine ⟨fun i j x y hi hj e => ?_, fun k q hk => ?_⟩
  · obtain ⟨i2, a1, a2, a3, a4⟩ := one i x hi
    obtain ⟨j2, b1, b2, b3, b4⟩ := one j y hj
    have hij := h.1 i2 j2 x y a1 b1 e
    have hli := (List.getElem?_eq_some_iff.mp a1).1
    have hlj := (List.getElem?_eq_some_iff.mp b1).1
    have hi2 := (List.getElem?_eq_some_iff.mp hi).1
    have hj2 := (List.getElem?_eq_some_iff.mp hj).1
    simp only [List.length_append] at hli hlj hi2 hj2
    omega
  · obtain ⟨j, a1, -⟩ := one k q hk
    exact h.2 j q a1
theorem swapP {D : va_G} {cl : List vw_C} {X Y Z : va_W} {H : Heap} (h : va_P D cl ((X ++ Y) ++ Z) H) : va_P D cl ((X ++ Z) ++ Y) H := by
  intro k q hk
  have hm : q ∈ (X ++ Z) ++ Y := List.mem_of_getElem? hk
  have hm2 : q ∈ (X ++ Y) ++ Z := by
    simp only [List.mem_append] at hm ⊢
    rcases hm with (h1 | h1) | h1
    · exact Or.inl (Or.inl h1)
    · exact Or.inr h1
    · exact Or.inl (Or.inr h1)
  obtain ⟨j, hj⟩ := List.getElem?_of_mem hm2
  exact h j q hj
section MYS
variable {p : Program} {l : Launch} {e : Env} {R : Room} {s : State} {m : MethodId} {args : Array Value} {below : List Frame} {meth : Method} {c : Code} {H : Heap} {locs : List Loc} {cells slots : Nat} {Q : State → Prop}
variable {pc : Nat} {ls : Array Slot} {rest st0 : List Value} {D : va_G} {A : Nat → Prop} {H0 : Heap} {ar : Array Value}
/-- behind a constructor, the caller's cells ahead of it -/
theorem ret_AS {σ : Type} {mc ms : Nat} {X W1 : va_W} {W2 : σ → va_W} (hr : va_Run p l e R s m args below meth c H locs cells slots mc ms (F0 m pc ls st0) rest (va_Qv (fun _ : σ => True) (fun u t => va_P D vwCl (W2 u) t.heap ∧ va_D (va_A W1 H.size) (W2 u)) (va_A W1 H.size) ar) (va_A W1 H.size)) (hP : va_P D vwCl (X ++ W1) H) (hD : va_D A (X ++ W1)) (hS : va_S A H0 H locs) (hA : ∀ q, H0.size ≤ q → A q)
    (kk : ∀ (u : σ) (H1 : Heap) (locs1 : List Loc), va_P D vwCl (X ++ W2 u) H1 → va_D A (X ++ W2 u) → va_S A H0 H1 locs1 → W p l e R s m args below meth c H1 locs1 (cells + mc) (slots + ms) Q (F0 m (pc + 3) ls rest)) : W p l e R s m args below meth c H locs cells slots Q (F0 m pc ls st0) := by
  have hF := free_of (sufD hD) hS hA
  refine va_callv hr hS (fun q _ h => hF q h) hF (fun u t H1 locs ht hvm hw1 hB hz1 hk1 hS => ?_)
  rw [ht] at hB
  have apart : ∀ (k : Nat) (q : Nat × va_E), X[k]? = some q → q.1 < H.size ∧ ¬ va_A W1 H.size q.1 := by
    intro k q hq
    have hq2 : (X ++ W1)[k]? = some q := by rw [List.getElem?_append_left (List.getElem?_eq_some_iff.mp hq).1]; exact hq
    have hl := (hP k q hq2).lt
    refine ⟨hl, fun h => ?_⟩
    rcases h with ⟨k2, e2, h⟩ | h
    · have h2 : (X ++ W1)[X.length + k2]? = some (q.1, e2) := by rw [List.getElem?_append_right (Nat.le_add_right _ _), Nat.add_sub_cancel_left]; exact h
      have h4 := hD.1 k (X.length + k2) q (q.1, e2) hq2 h2 rfl
      have h5 := (List.getElem?_eq_some_iff.mp hq).1
      omega
    · omega
  refine kk u H1 locs (va_P.app (fun k q hq => ?_) hB.1) (va_D.app (va_D_left hD) (hB.2.weaken (fun k q _ h => hF q.1 h)) (fun i j x y hx hy hxy => ?_)) hS
  · have hq2 : (X ++ W1)[k]? = some q := by rw [List.getElem?_append_left (List.getElem?_eq_some_iff.mp hq).1]; exact hq
    obtain ⟨g1, g2⟩ := apart k q hq
    exact (hP k q hq2).kept (hk1 q.1 g1 g2)
  · exact (apart i x hx).2 (by rw [hxy]; exact hB.2.2 j y hy)
end MYS
set_option maxHeartbeats 4000000 in
set_option maxRecDepth 100000 in
/-- THE LAW, from its entry -/
theorem whole_start {p : Program} {e : Env} {s : State} {m : MethodId} {below : List Frame} {meth : Method} {c : Code} (l : Launch) (hflags : l.flags = flags0) {b L : Nat} {xs : Nat → Int32} (hL : L ≤ 1536) (C0 : lw_At p s m meth c b L xs) : W p l e room_1 s m #[Value.ref b] below meth c s.heap [] 0 0 (lw_Z below #[Value.ref b] s) (entryFrame m ([Value.ref b] : List Value).toArray 9) := by
  obtain ⟨hx, hb, hr, hml, hown, hts, hX, hbl, hlocks, hgv⟩ := id C0
  have hlf : l.stackTraces = false := by
    unfold Launch.stackTraces
    rw [hflags]
    decide +kernel
  have hA : ∀ q : Nat, s.heap.size ≤ q → (fun q : Nat => s.heap.size ≤ q) q := fun _ h => h
  have htsL : ∀ w ∈ wsL_law, w.before #[Value.ref b] s = true := fun w h => hts w (wsL_law_in w h)
  have hown : s.vm.findClass RL = some m.cls := hown
  have hb : c.code = cL_law := hb
  obtain ⟨D, cyI, cyO, cyL, hKK⟩ := KK_start hts
  have hXE := XE_start ((hKK.1.1 5 _ rfl).2.1) hts hgv
  have hNC := NC_start hgv
  have hAO : va_AO RX0 s := va_AO.of (hts (.arrayOver (.object RX0)) (List.mem_of_getElem? (i := 165) (by decide +kernel)))
  have hS : va_S (fun q : Nat => s.heap.size ≤ q) s.heap s.heap [] := va_S.rf
  have hP : va_P D vwCl [] s.heap := fun k q h => by simp at h
  have hD : va_D (fun q : Nat => s.heap.size ≤ q) [] := ⟨fun i j p q h => by simp at h, fun k q h => by simp at h⟩
  have hl := lv_entry ([.ref b]) (n := 9) (Nat.le_of_ble_eq_true rfl)
  rw [lg_entry_eq]
  generalize (lg_sl ([.ref b]) ++ List.replicate (9 - (lg_sl ([.ref b])).length) Slot.unset).toArray = ls at hl ⊢
  have hl : lv_has ls 9 [(0, .ref b)] := hl
  refine va_new (ci := 5) (fs := [.null, .null, .null]) (C := RX5) (T := TX5) (N := 3) hx hb hts inT5 tyX5 tyX5_ok hown (htsL (.classLink RL 8 RX5) (List.mem_of_getElem? (i := 0) rfl)) (hts (.instantiable RX5 3) (List.mem_of_getElem? (i := 71) (by decide +kernel))) (hts (.initialized RX5) (List.mem_of_getElem? (i := 55) (by decide +kernel))) hKK.1 hP hD hS hA rfl (fun j hj => by rcases (show j = 0 ∨ j = 1 ∨ j = 2 by omega) with rfl | rfl | rfl <;> rfl) (Nat.le_of_ble_eq_true rfl) (Nat.le_of_ble_eq_true rfl) dL_law_0 (fun aX H hP hD hS => ?_)
  have hP : va_P D vwCl [(aX, .inr (5, [.null, .null, .null]))] H := hP
  have hD : va_D (fun q : Nat => s.heap.size ≤ q) [(aX, .inr (5, [.null, .null, .null]))] := hD
  refine lv_dup hx hb dL_law_3 rfl ?_
  refine ret_A (isC := [0]) (isR := []) (wr := []) (run_I (n := 0) (As := []) (rest := [.ref aX]) ⟨hx, hb, hml, hown, htsL⟩ (c_X5_init l D cyI cyO cyL aX _) ggL_law_X5_init rfl rfl rfl (htsL (.methodLink RL 68 yX5_init) (List.mem_of_getElem? (i := 7) rfl)) (hts (.initialized RX5) (List.mem_of_getElem? (i := 55) (by decide +kernel))) (htsL (.instanceMethod yX5_init) (List.mem_of_getElem? (i := 8) rfl)) rfl (by decide +kernel) ⟨Nat.le_of_ble_eq_true rfl, Nat.le_of_ble_eq_true rfl⟩ hKK hAO hP hD rfl hl.1 rfl (Nat.le_of_ble_eq_true rfl) dL_law_4 ⟨Nat.le_of_ble_eq_true rfl, Nat.le_of_ble_eq_true rfl⟩) hP hD hS hA rfl rfl (by decide) (by decide) (fun u H locs hP hD hS => ?_)
  have hP : va_P D vwCl (WXs cyI cyO (aX, u) ((fun _ => 0, nsw 12, 2, 3, 0, (fun _ => 0, fun _ => 0, fun _ => 0, fun _ => 0, fun _ _ => 0, 0, 0), (fun _ => 0, fun _ => 0, fun _ => 0, fun _ => 0, fun _ _ => 0, 0, 0), 0, 0, fun _ => 0, fun _ => 0) : SG)) H := hP
  have hD : va_D (fun q : Nat => s.heap.size ≤ q) (WXs cyI cyO (aX, u) ((fun _ => 0, nsw 12, 2, 3, 0, (fun _ => 0, fun _ => 0, fun _ => 0, fun _ => 0, fun _ _ => 0, 0, 0), (fun _ => 0, fun _ => 0, fun _ => 0, fun _ => 0, fun _ _ => 0, 0, 0), 0, 0, fun _ => 0, fun _ => 0) : SG)) := hD
  have hAd := Adr_start hD
  refine lv_astore_n (lv' := [(1, .ref aX), (0, .ref b)]) hx hb dL_law_7 rfl hl (by decide) rfl (fun ls hl => ?_)
  refine va_new (ci := 6) (fs := [.int 0, .int 0, .int 0, .int 0, .null, .null, .null, .null]) (C := RX6) (T := TX6) (N := 8) hx hb hts inT6 tyX6 tyX6_ok hown (htsL (.classLink RL 69 RX6) (List.mem_of_getElem? (i := 3) rfl)) (hts (.instantiable RX6 8) (List.mem_of_getElem? (i := 660) (by decide +kernel))) (hts (.initialized RX6) (List.mem_of_getElem? (i := 61) (by decide +kernel))) hKK.1 hP hD hS hA rfl (fun j hj => by rcases (show j = 0 ∨ j = 1 ∨ j = 2 ∨ j = 3 ∨ j = 4 ∨ j = 5 ∨ j = 6 ∨ j = 7 by omega) with rfl | rfl | rfl | rfl | rfl | rfl | rfl | rfl <;> rfl) (Nat.le_of_ble_eq_true rfl) (Nat.le_of_ble_eq_true rfl) dL_law_8 (fun aM H hP hD hS => ?_)
  refine lv_dup hx hb dL_law_11 rfl ?_
  have hPc := sufP hP
  have hDc := sufD hD
  refine ret_AS (run_I (n := 0) (As := []) (rest := [.ref aM]) ⟨hx, hb, hml, hown, htsL⟩ (c_X6_init l D cyI cyO cyL aM _) ggL_law_X6_init rfl rfl rfl (hts (.methodLink RL 71 yX6_init) (List.mem_of_getElem? (i := 661) (by decide +kernel))) (hts (.initialized RX6) (List.mem_of_getElem? (i := 61) (by decide +kernel))) (hts (.instanceMethod yX6_init) (List.mem_of_getElem? (i := 662) (by decide +kernel))) rfl (by decide +kernel) ⟨Nat.le_of_ble_eq_true rfl, Nat.le_of_ble_eq_true rfl⟩ hKK hAO hPc hDc rfl hl.1 rfl (Nat.le_of_ble_eq_true rfl) dL_law_12 ⟨Nat.le_of_ble_eq_true rfl, Nat.le_of_ble_eq_true rfl⟩) hP hD hS hA (fun v H locs hP hD hS => ?_)
  have hP : va_P D vwCl (WXs cyI cyO (aX, u) ((fun _ => 0, nsw 12, 2, 3, 0, (fun _ => 0, fun _ => 0, fun _ => 0, fun _ => 0, fun _ _ => 0, 0, 0), (fun _ => 0, fun _ => 0, fun _ => 0, fun _ => 0, fun _ _ => 0, 0, 0), 0, 0, fun _ => 0, fun _ => 0) : SG) ++ WMs cyI (aM, v) ((fun _ => 0, nsw 12, 2, 3, 0, (fun _ => 0, fun _ => 0, fun _ => 0, fun _ => 0, fun _ _ => 0, 0, 0), (fun _ => 0, fun _ => 0, fun _ => 0, fun _ => 0, fun _ _ => 0, 0, 0), 0, 0, fun _ => 0, fun _ => 0) : SG)) H := hP
  have hD : va_D (fun q : Nat => s.heap.size ≤ q) (WXs cyI cyO (aX, u) ((fun _ => 0, nsw 12, 2, 3, 0, (fun _ => 0, fun _ => 0, fun _ => 0, fun _ => 0, fun _ _ => 0, 0, 0), (fun _ => 0, fun _ => 0, fun _ => 0, fun _ => 0, fun _ _ => 0, 0, 0), 0, 0, fun _ => 0, fun _ => 0) : SG) ++ WMs cyI (aM, v) ((fun _ => 0, nsw 12, 2, 3, 0, (fun _ => 0, fun _ => 0, fun _ => 0, fun _ => 0, fun _ _ => 0, 0, 0), (fun _ => 0, fun _ => 0, fun _ => 0, fun _ => 0, fun _ _ => 0, 0, 0), 0, 0, fun _ => 0, fun _ => 0) : SG)) := hD
  refine lv_astore_n (lv' := [(2, .ref aM), (1, .ref aX), (0, .ref b)]) hx hb dL_law_15 rfl hl (by decide) rfl (fun ls hl => ?_)
  refine lv_iconst (v := 1) hx hb dL_law_16 (by decide) ?_
  refine va_newa (atype := .long) (ty := .long) (N' := 1) (a0 := (1, .inr (.inl (fun _ => 0)))) hx hb (hts (.arrayClass .long) (List.mem_of_getElem? (i := 867) (by decide +kernel))) rfl hKK.1 hP hD hS hA (fun _ => rfl) (by decide) (by decide) (by decide) (Nat.le_of_ble_eq_true rfl) (Nat.le_of_ble_eq_true rfl) dL_law_17 (fun ao cA H hK9 hP hD hS => ?_)
  have hcl := long_row 3 2 hK9 rfl rfl
  rw [hcl] at hP hD
  have hP : va_P D vwCl ((WXs cyI cyO (aX, u) ((fun _ => 0, nsw 12, 2, 3, 0, (fun _ => 0, fun _ => 0, fun _ => 0, fun _ => 0, fun _ _ => 0, 0, 0), (fun _ => 0, fun _ => 0, fun _ => 0, fun _ => 0, fun _ _ => 0, 0, 0), 0, 0, fun _ => 0, fun _ => 0) : SG) ++ cO cyL ao (fun _ => 0)) ++ WMs cyI (aM, v) ((fun _ => 0, nsw 12, 2, 3, 0, (fun _ => 0, fun _ => 0, fun _ => 0, fun _ => 0, fun _ _ => 0, 0, 0), (fun _ => 0, fun _ => 0, fun _ => 0, fun _ => 0, fun _ _ => 0, 0, 0), 0, 0, fun _ => 0, fun _ => 0) : SG)) H := swapP hP
  have hD : va_D (fun q : Nat => s.heap.size ≤ q) ((WXs cyI cyO (aX, u) ((fun _ => 0, nsw 12, 2, 3, 0, (fun _ => 0, fun _ => 0, fun _ => 0, fun _ => 0, fun _ _ => 0, 0, 0), (fun _ => 0, fun _ => 0, fun _ => 0, fun _ => 0, fun _ _ => 0, 0, 0), 0, 0, fun _ => 0, fun _ => 0) : SG) ++ cO cyL ao (fun _ => 0)) ++ WMs cyI (aM, v) ((fun _ => 0, nsw 12, 2, 3, 0, (fun _ => 0, fun _ => 0, fun _ => 0, fun _ => 0, fun _ _ => 0, 0, 0), (fun _ => 0, fun _ => 0, fun _ => 0, fun _ => 0, fun _ _ => 0, 0, 0), 0, 0, fun _ => 0, fun _ => 0) : SG)) := swapD hD
  refine lv_astore_n (lv' := [(3, .ref ao), (2, .ref aM), (1, .ref aX), (0, .ref b)]) hx hb dL_law_19 rfl hl (by decide) rfl (fun ls hl => ?_)
  refine lv_iconst (v := 0) hx hb dL_law_20 (by decide) ?_
  refine lv_istore (lv' := [(4, .int 0), (3, .ref ao), (2, .ref aM), (1, .ref aX), (0, .ref b)]) hx hb dL_law_21 hl (by decide) rfl (fun ls hl => ?_)
  refine W.widen (k := 36 + 0) (n := 518 + 6 * 0) (Nat.le_of_ble_eq_true rfl) (Nat.le_of_ble_eq_true rfl) ?_
  exact law_loop (a := (aX, u)) (am := (aM, v)) hL C0 hlf hKK hXE hNC hAd 512 0 (by omega) (Nat.zero_le _) ((fun _ => 0, nsw 12, 2, 3, 0, (fun _ => 0, fun _ => 0, fun _ => 0, fun _ => 0, fun _ _ => 0, 0, 0), (fun _ => 0, fun _ => 0, fun _ => 0, fun _ => 0, fun _ _ => 0, 0, 0), 0, 0, fun _ => 0, fun _ => 0) : SG) (fun _ => 0) H locs ls Inv_start hP hD hS (lv_sub hl [4, 3, 2, 1, 0] rfl)
set_option maxHeartbeats 4000000 in
theorem lw_walk (l : Launch) (hflags : l.flags = flags0) (b : Addr) (xs : List Int32) : MetFree l x (headSpec (Jvm.Cond.code x code maxLocals ret :: tables_1) room_1) (lw_P b xs) (fun _ _ _ _ _ => True) lw_Q := by
  refine MetFree.of_bodyS (code := code) (maxLocals := maxLocals) (ret := ret) (by decide) ?_ ?_
  · intro args s m h hn
    obtain ⟨meth, c, h1, h2, h3, h4, h5, h6, -, -⟩ := Cond.code_spec hn (atoms_spec (ws := Jvm.Cond.code x code maxLocals ret :: tables_1) h _ List.mem_cons_self)
    exact ⟨meth, c, h1, h2, h3, h4, h5, h6⟩
  · intro p e s m args below meth c s₁ B hml0 hP _
    obtain ⟨rfl, hx, hbd, hgv⟩ := hP
    obtain ⟨scr, harrAt, hlist, hof, hsmall⟩ := hx
    obtain ⟨hcb, hkn, -, -⟩ := State.arrayAt?_spec harrAt
    have hown : s.vm.findClass R_law = some m.cls := findClass_of_methodNamed B.named
    have hts0 : ∀ c ∈ (Jvm.Cond.code x code maxLocals ret :: tables_1), c.before #[Value.ref b] s = true := atoms_spec (ws := Jvm.Cond.code x code maxLocals ret :: tables_1) B.pre
    have hts : ∀ w ∈ lw_tbl, w.before #[Value.ref b] s = true := k2_hts_sels lw_privs (fun w hw => hts0 w (List.mem_cons_of_mem _ hw)) lw_privs_ok
    have hml : c.maxLocals = 9 := B.maxLocals_eq (hts0 _ List.mem_cons_self)
    have X₀ : Stand p l e room_1 s m #[Value.ref b] below meth c s₁ [] 0 0 := Stand.of_body B
    have hh0 : s₁.heap = s.heap := by rw [B.state]; rfl
    have hsz : scr.slots.size = xs.length := by rw [← Array.length_toList, hlist, List.length_map]
    have hval : ∀ j : Nat, j < xs.length → scr.slots[j]? = some (.int (xs.getD j 0)) := fun j hj => by
      rw [← Array.getElem?_toList, hlist]
      simp [hj]
    have hbl : b < s.heap.size := (Array.getElem?_eq_some_iff.mp hcb).1
    have hX : va_X b xs.length (fun j => xs.getD j 0) s s.heap := ⟨scr, hcb, hof, hkn, hsz, hval⟩
    have K : W p l e room_1 s m #[Value.ref b] below meth c s₁.heap [] 0 0 (lw_Z below #[Value.ref b] s) (entryFrame m ([Value.ref b] : List Value).toArray 9) := by
      rw [hh0]
      exact whole_start l hflags hbd ⟨B.exec, B.bytes, B.returns, hml, hown, hts, hX, hbl, B.notSynchronized, hgv⟩
    obtain ⟨t, a1, o, b1, b2, b3⟩ := K s₁ rfl X₀
    exact ⟨t, o, a1, b1, b2, b3⟩
theorem lw_pre_spec {args : Array Value} {s : State} (h : (Jvm.Cond.and given_1 narrow_1).before args s = true) (hr : rest_1_c.before args s = true) : ∃ (b : Addr) (xs : List Int32), lw_P b xs args s := by
  have hs := flat_of_before _ h
  have hq := flat_of_before _ hr
  have hc : (Cond.count 1).before args s = true := hs _ (by decide +kernel)
  have harr : (Cond.arrayOf (.arg 0) .int).before args s = true := hs _ (by decide +kernel)
  have hle : (Cond.le (.length (.arg 0)) (.int 1536)).before args s = true := hs _ (by decide +kernel)
  have hlen : (Cond.isInt (.length (.arg 0))).before args s = true := hq _ (by decide +kernel)
  have hall : (Cond.all (.arg 0) (.isInt (.elem (.arg 0) (.index 0)))).before args s = true := hq _ (by decide +kernel)
  obtain ⟨b, xs, hb, hx⟩ := State.ints_of_pre rfl harr hlen hall
  have hsm : xs.length < 2 ^ 31 := hx.choose_spec.2.2.2
  have hev : (Term.length (.arg 0)).eval args s none [] s = some (.int xs.length.toInt32) := hx.length_eval hb
  have hv := Cond.le_ints hev (show (Term.int 1536).eval args s none [] s = some (.int 1536) from rfl)
  have hd : xs.length.toInt32 ≤ 1536 := by
    simpa [Cond.before, Cond.holds, hv] using hle
  have hN : xs.length ≤ 1536 := (Int32.ofNat_le_ofNat hsm (by decide)).mp (show Int32.ofNat xs.length ≤ Int32.ofNat 1536 from hd)
  exact ⟨b, xs, Cond.one_arg hc (show args[0]? = some (.ref b) from hb), hx, hN, h⟩
theorem lw_comes (l : Launch) (hflags : l.flags = flags0) : Comes l x (Jvm.Cond.code x code maxLocals ret :: tables_1) room_1 (fun tb e args s => Calls_1 tb e args s ∧ rest_1 tb e args s ∧ Pre_1 tb e args s)
    (fun _ _ args s o t => lw_Q args s o t) := by
  intro p e ha hc hk s m args below hf hfit hheap happ hpre
  obtain ⟨b, xs, hP⟩ := lw_pre_spec hpre.2.2 hpre.2.1
  obtain ⟨k, o, h1, h2, h3, hQ⟩ := lw_walk l hflags b xs p e ha hc hk s m args below hf ((Spec.applies_iff_loose hf).mp happ).1 hP trivial
  exact ⟨k, o, h1, h2, h3, hQ⟩
theorem lw_frame {s t : State} {o : Outcome} {args : Array Value} (h : State.butDraws s t lw_cs (fun t1 => Framed s o t1 [] 650194 7145523)) :
    State.butDraws s t [Jvm.Choice.named "NaN.bits"] (fun t1 => Framed s o t1 (fieldLocs frame_1_writes args s ++ arrayLocs frame_1_arrays args s ++ staticLocs frame_1_statics s) 650194 7145523) := h
theorem lw_limb (L : Cond) (hL : ∀ (args : Array Value) (s t : State), L.after args s (.returned (some (.int 1))) t = true) :
    ArmFor flags0 classFile x code maxLocals ret World_1 tables_1 room_1 Calls_1 rest_1 Pre_1
      (fun tb e a s o t => postC L tb e a s o t ∧ State.butDraws s t [Jvm.Choice.named "NaN.bits"] (fun t1 => Framed s o t1 (fieldLocs frame_1_writes a s ++ arrayLocs frame_1_arrays a s ++ staticLocs frame_1_statics s) 650194 7145523)) := by
  intro l hflags _ _ p e ha hc hk s m args below hf hfit hheap happ hpre
  obtain ⟨k, o, h1, h2, h3, rfl, hF⟩ := lw_comes l hflags p e ha hc hk s m args below hf hfit hheap happ hpre
  exact ⟨k, _, h1, h2, h3, hL args s _, lw_frame hF⟩
theorem i_vc : Claimed_1_1 ∧ Claimed_1_2 := ⟨lw_limb limb_1_1 (fun args s t => by simp [limb_1_1, Cond.after, Cond.holds, Cond.value]), lw_limb limb_1_2 (fun args s t => Cond.after_iff.mpr (by
  first | (rw [show limb_1_2 = Cond.eq .result (.int 1) from rfl, Cond.eq_ints (x := 1) (y := 1) rfl rfl]; simp; done) | (simp [limb_1_2, Cond.value, Term.eval]; done)))⟩
