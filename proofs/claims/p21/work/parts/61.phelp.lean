/-! the law's own helpers: what they answer lies in a range -/
/-- a start beside the script -/
def PSx (D : va_G) (cyI cyO cyL : ClassId) (b L : Nat) (xs : Nat → Int32) (sz : Nat) (U : State) : Prop := PP D cyI cyO cyL [] sz U ∧ va_X b L xs U U.heap
theorem PSx_blind {D : va_G} {cyI cyO cyL : ClassId} {b L : Nat} {xs : Nat → Int32} {sz : Nat} {As : List Value} : FrameBlind (va_Pc As (PSx D cyI cyO cyL b L xs sz)) := by
  intro a U g mk q
  obtain ⟨q0, ⟨q1, qP, qK, qD⟩, qX⟩ := q
  exact ⟨q0, ⟨q1, qP, ⟨va_K.moved (u := U) (U := U.calling g mk a) (Vm.Alike.refl U.vm) qK.1, NW.same (s := U) (U := U.calling g mk a) rfl qK.2⟩, qD⟩, va_X.moved (u := U) (U := U.calling g mk a) (Vm.Alike.refl U.vm) qX⟩
def cS (l : Launch) (y : MethodName) (wy : List Cond) (rm : Room) (D : va_G) (cyI cyO cyL : ClassId) (b L : Nat) (xs : Nat → Int32) (As : List Value) (post : Int32 → Prop) : Prop :=
  ∀ sz : Nat, Met l y wy rm (va_Pc As (PSx D cyI cyO cyL b L xs sz)) (va_Qi (fun (x : Int32) (_ : Unit) => post x) (fun _ _ => True) (va_A [] sz)) 0 0 (va_A [] sz)
theorem nilA {sz q : Nat} (h : va_A [] sz q) : sz ≤ q := by
  rcases h with ⟨k, e, h⟩ | h
  · simp at h
  · exact h
theorem nilP {D : va_G} {cl : List vw_C} {H : Heap} : va_P D cl [] H := fun k q h => by simp at h
theorem nilD {A : Nat → Prop} : va_D A [] := ⟨fun i j p q h => by simp at h, fun k q h => by simp at h⟩
section MYH
variable {p : Program} {l : Launch} {e : Env} {R : Room} {s : State} {m : MethodId} {args : Array Value} {below : List Frame} {meth : Method} {c : Code} {H : Heap} {locs : List Loc} {cells slots : Nat} {Q : State → Prop}
variable {cc : ByteArray} {pc : Nat} {ls : Array Slot} {rest st0 : List Value} {D : va_G} {A : Nat → Prop} {H0 : Heap} {cyI cyO cyL : ClassId} {ws : va_W}
theorem x_now {b L : Nat} {xs : Nat → Int32} (hX : va_X b L xs s H0) (hbl : b < H0.size) (hbA : ¬ A b) (hS : va_S A H0 H locs) : va_X b L xs s H := hX.kept (hS.2.1 b hbl hbA)
/-- a helper's call -/
theorem call_h {y : MethodName} {bytes : ByteArray} {maxL nL n index : Nat} {ret : Option FieldType} {wy ws' Ts : List Cond} {rm : Room} {own : String} {As : List Value} {b L : Nat} {xs : Nat → Int32} {post : Int32 → Prop}
    (S : CallFix p m c cc nL s args Ts own) (hM : cS l y wy rm D cyI cyO cyL b L xs As post) (gg : GoodIn Ts (va_wsS own index y wy)) (hw : wy = Cond.code y bytes maxL ret :: ws') (hrc : rm.cells = 0) (hrs : rm.slots = 0)
    (hd : y.cls ≠ "java/lang/invoke/MethodHandle" ∧ y.cls ≠ "java/lang/invoke/VarHandle" ∧ (parseMethodDescriptor y.desc).map (fun d => d.parameters.length) = some n) (hR : rm.frames + 1 ≤ R.frames ∧ 8 + (maxL + 11) + rm.locals ≤ R.locals)
    (hKK : KK D cyI cyO cyL s) (hX : va_X b L xs s H0) (hbl : b < H0.size) (hbA : ¬ A b) (hn : As.length = n) (hsize : ls.size = nL) (hst : st0 = As.reverse ++ rest) (hcat : (rest.map fun v => v.category).sum ≤ 8) (hdg : decode cc pc = .ok (.invokestatic index, 3)) (hf : cells + 0 ≤ R.cells ∧ slots + 0 ≤ R.slots)
    (hP : va_P D vwCl ws H) (hS : va_S A H0 H locs) (hA : ∀ q, H0.size ≤ q → A q)
    (kk : ∀ (r : Int32) (H1 : Heap) (locs1 : List Loc), post r → va_P D vwCl ws H1 → va_S A H0 H1 locs1 → W p l e R s m args below meth c H1 locs1 cells slots Q (F0 m (pc + 3) ls (.int r :: rest))) : W p l e R s m args below meth c H locs cells slots Q (F0 m pc ls st0) := by
  have hXn := x_now hX hbl hbA hS
  have hr := va_runS (e := e) (below := below) (meth := meth) (H := H) (locs := locs) (g := F0 m pc ls st0) S (hM H.size) (va_cwS n S.2.2.2.2 gg hw hrc hrs hd hR) ⟨PSx_blind, fun U hU hW => ⟨rfl, ⟨by rw [hU], nilP, hKK.warm hW, nilD⟩, by rw [hU]; exact hXn.moved hW.alike⟩⟩ rfl hn hsize hst (lv_room hcat) hdg hf
  have hF : ∀ q, va_A [] H.size q → A q := fun q h => hA q (Nat.le_trans hS.1 (nilA h))
  refine va_calli hr hS (fun q _ h => hF q h) hF (fun r u t H1 locs1 ht hvm hw1 hB hz1 hk1 hS1 => ?_)
  exact kk r H1 locs1 hw1 (fun k q hq => (hP k q hq).kept (hk1 q.1 (hP k q hq).lt (fun h => absurd (nilA h) (Nat.not_le.mpr (hP k q hq).lt)))) hS1
/-- a call of the class, an int -/
theorem call_x {y : MethodName} {bytes : ByteArray} {maxL nL n index : Nat} {ret : Option FieldType} {wy ws' Ts : List Cond} {own : String} {b : Addr} {As : List Value} {W1 W2 : va_W} {r : Int32} {fs : List Value}
    (S : CallFix p m c cc nL s args Ts own) (hG : GI l y wy D cyI cyO cyL (.ref b :: As) W1 W2 r) (gg : GoodIn Ts (wsV own index RX5 y wy)) (hw : wy = Cond.code y bytes maxL ret :: ws')
    (hd : y.cls = RX5 ∧ y.cls ≠ "java/lang/invoke/MethodHandle" ∧ y.cls ≠ "java/lang/invoke/VarHandle" ∧ (parseMethodDescriptor y.desc).map (fun d => d.parameters.length) = some n) (hR : 8 ≤ R.frames ∧ 8 + (maxL + 11) + 150 ≤ R.locals)
    (hKK : KK D cyI cyO cyL s) (he : W1[0]? = some (b, .inr (5, fs))) (hfst : W2.map (fun q => q.1) = W1.map (fun q => q.1)) (hn : As.length = n) (hsize : ls.size = nL) (hst : st0 = As.reverse ++ .ref b :: rest) (hcat : (rest.map fun v => v.category).sum ≤ 8) (hdg : decode cc pc = .ok (.invokevirtual index, 3)) (hf : cells + 0 ≤ R.cells ∧ slots + 0 ≤ R.slots)
    (hP : va_P D vwCl W1 H) (hD : va_D A W1) (hS : va_S A H0 H locs) (hA : ∀ q, H0.size ≤ q → A q)
    (kk : ∀ (H1 : Heap) (locs1 : List Loc), va_P D vwCl W2 H1 → va_D A W2 → va_S A H0 H1 locs1 → W p l e R s m args below meth c H1 locs1 cells slots Q (F0 m (pc + 3) ls (.int r :: rest))) : W p l e R s m args below meth c H locs cells slots Q (F0 m pc ls st0) := by
  obtain ⟨rm, g1, g2, g3, g4, hM⟩ := hG
  have hF := free_of hD hS hA
  have hD2 : va_D A W2 := va_D_fst (fun k => by
    have h := congrArg (fun z => z[k]?) hfst
    simpa only [List.getElem?_map] using h) hD
  have hr := va_runV (e := e) (below := below) (meth := meth) (H := H) (locs := locs) (g := F0 m pc ls st0) (C := RX5) S (hM H.size) (cwV n S.2.2.2.2 gg hw g1 g2 hd ⟨by omega, by omega⟩) ⟨PP_blind, va_recv hKK.1 hP (ci := 5) rfl he, fun U hU hW => ⟨rfl, by rw [hU], by rw [hU]; exact hP, hKK.warm hW, hD.weaken (fun _ _ _ _ => trivial)⟩⟩ rfl hn hsize hst (lv_room hcat) hdg hf
  refine va_calli hr hS (fun q _ h => hF q h) hF (fun r' u t H1 locs1 ht hvm hw1 hB hz1 hk1 hS1 => ?_)
  rw [ht] at hB
  have hw1 : r' = r := hw1
  subst hw1
  exact kk H1 locs1 hB hD2 hS1
/-- a call of the class, a long -/
theorem call_xl {y : MethodName} {bytes : ByteArray} {maxL nL n index : Nat} {ret : Option FieldType} {wy ws' Ts : List Cond} {own : String} {b : Addr} {As : List Value} {W1 W2 : va_W} {r : Int64} {fs : List Value}
    (S : CallFix p m c cc nL s args Ts own) (hG : GL l y wy D cyI cyO cyL (.ref b :: As) W1 W2 r) (gg : GoodIn Ts (wsV own index RX5 y wy)) (hw : wy = Cond.code y bytes maxL ret :: ws')
    (hd : y.cls = RX5 ∧ y.cls ≠ "java/lang/invoke/MethodHandle" ∧ y.cls ≠ "java/lang/invoke/VarHandle" ∧ (parseMethodDescriptor y.desc).map (fun d => d.parameters.length) = some n) (hR : 8 ≤ R.frames ∧ 8 + (maxL + 11) + 150 ≤ R.locals)
    (hKK : KK D cyI cyO cyL s) (he : W1[0]? = some (b, .inr (5, fs))) (hfst : W2.map (fun q => q.1) = W1.map (fun q => q.1)) (hn : As.length = n) (hsize : ls.size = nL) (hst : st0 = As.reverse ++ .ref b :: rest) (hcat : (rest.map fun v => v.category).sum ≤ 8) (hdg : decode cc pc = .ok (.invokevirtual index, 3)) (hf : cells + 0 ≤ R.cells ∧ slots + 0 ≤ R.slots)
    (hP : va_P D vwCl W1 H) (hD : va_D A W1) (hS : va_S A H0 H locs) (hA : ∀ q, H0.size ≤ q → A q)
    (kk : ∀ (H1 : Heap) (locs1 : List Loc), va_P D vwCl W2 H1 → va_D A W2 → va_S A H0 H1 locs1 → W p l e R s m args below meth c H1 locs1 cells slots Q (F0 m (pc + 3) ls (.long r :: rest))) : W p l e R s m args below meth c H locs cells slots Q (F0 m pc ls st0) := by
  obtain ⟨rm, g1, g2, g3, g4, hM⟩ := hG
  have hF := free_of hD hS hA
  have hD2 : va_D A W2 := va_D_fst (fun k => by
    have h := congrArg (fun z => z[k]?) hfst
    simpa only [List.getElem?_map] using h) hD
  have hr := va_runV (e := e) (below := below) (meth := meth) (H := H) (locs := locs) (g := F0 m pc ls st0) (C := RX5) S (hM H.size) (cwV n S.2.2.2.2 gg hw g1 g2 hd ⟨by omega, by omega⟩) ⟨PP_blind, va_recv hKK.1 hP (ci := 5) rfl he, fun U hU hW => ⟨rfl, by rw [hU], by rw [hU]; exact hP, hKK.warm hW, hD.weaken (fun _ _ _ _ => trivial)⟩⟩ rfl hn hsize hst (lv_room hcat) hdg hf
  refine va_calll hr hS (fun q _ h => hF q h) hF (fun r' u t H1 locs1 ht hvm hw1 hB hz1 hk1 hS1 => ?_)
  rw [ht] at hB
  have hw1 : r' = r := hw1
  subst hw1
  exact kk H1 locs1 hB hD2 hS1
theorem end_S {post : Int32 → Prop} (hx : p.tables.exec = Jvm.exec) (hb : c.code = cc) (hr : meth.sig.returnType = some .int) (hlocks : meth.locks = false) {v : Int32} (hv : post v) (hS : va_S A s.heap H locs) (hdg : decode cc pc = .ok (.ireturn, 1)) : W p l e R s m args below meth c H locs cells slots (MQ below (va_Qi (fun (x : Int32) (_ : Unit) => post x) (fun _ _ => True) A) args s cells slots A) (F0 m pc ls [.int v]) :=
  W.iret hx hb hr (fun t ht hW => ⟨⟨v, (), rfl, hv, trivial⟩, hS.F ht⟩) hS.2.2 hdg hlocks
end MYH
theorem below_in (v : Int32) {N : Nat} (h0 : 0 < N) (hN : N < 2 ^ 31) : vp_in (ir (v &&& 2147483647) (nI N)) N := by
  obtain ⟨j, hj, e⟩ := pk_andE v (m := 2147483647) 31 (by decide)
  rw [e, ir_nI (by omega) h0 hN]
  exact vp_in_nI (Nat.mod_lt _ h0) hN
theorem va_Xlt {b L : Nat} {xs : Nat → Int32} {U : State} {H : Heap} (h : va_X b L xs U H) : b < H.size := by
  obtain ⟨scr, h1, -⟩ := h
  exact (Array.getElem?_eq_some_iff.mp h1).1
theorem nI_nz0 {N : Nat} (h0 : 0 < N) (hN : N < 2 ^ 31) : ¬ nI N = 0 := fun e => by
  have := (nI_eq (a := N) (b := 0) hN (by decide)).mp e
  omega
set_option maxHeartbeats 4000000 in
set_option maxRecDepth 100000 in
theorem c_L_below (l : Launch) (D : va_G) (cyI cyO cyL : ClassId) (b L : Nat) (xs : Nat → Int32) (v n_ : Int32) {N : Nat} (h0 : 0 < N) (hN : N < 2 ^ 31) (en : n_ = nI N) : cS l yL_below wsL_below ({ frames := 0, cells := 0, slots := 0, locals := 0 }) D cyI cyO cyL b L xs [.int v, .int n_] (fun r => vp_in r N) := by
  intro sz
  refine Met.ofW (cc := cL_below) (maxL := 2) (ret := (some .int)) (by decide) rfl ?_
  intro p e s m args below meth c s₁ B9 hml hv
  obtain ⟨rfl, ⟨hsz, -, hKK, -⟩, hX⟩ := hv
  have hx := B9.exec
  have hb := B9.bytes
  have hrt := B9.returns
  have hts := atoms_spec (ws := wsL_below) B9.pre
  have hown : s.vm.findClass RL = some m.cls := findClass_of_methodNamed B9.named
  have hlocks := B9.notSynchronized
  subst hsz
  have hA : ∀ q, s.heap.size ≤ q → va_A [] s.heap.size q := fun q h => Or.inr h
  have hS : va_S (va_A [] s.heap.size) s.heap s.heap [] := va_S.rf
  have hbl : b < s.heap.size := va_Xlt hX
  have hbA : ¬ va_A [] s.heap.size b := fun h => absurd (nilA h) (Nat.not_le.mpr hbl)
  have hP : va_P D vwCl [] s.heap := nilP
  have hl := lv_entry ([.int v, .int n_]) (n := 2) (Nat.le_of_ble_eq_true rfl)
  rw [lg_entry_eq]
  generalize (lg_sl ([.int v, .int n_]) ++ List.replicate (2 - (lg_sl ([.int v, .int n_])).length) Slot.unset).toArray = ls at hl ⊢
  have hl : lv_has ls 2 [(0, .int v), (1, .int n_)] := hl
  refine lv_iload_n hx hb dL_below_0 rfl (lv_at hl 0 rfl) ?_
  refine lv_ldc (v := 2147483647) hx hb hown (hts (.constant RL 7 (2147483647)) (List.mem_of_getElem? (i := 1) rfl)) dL_below_1 ?_
  refine lv_iand hx hb dL_below_3 ?_
  refine lv_iload_n hx hb dL_below_4 rfl (lv_at hl 1 rfl) ?_
  refine lv_irem hx hb dL_below_5 (by rw [en]; exact nI_nz0 h0 hN) ?_
  refine lv_tope (y := ir (v &&& 2147483647) n_) rfl ?_
  exact end_S hx hb hrt hlocks (by rw [en]; exact below_in v h0 hN) hS dL_below_6
set_option maxHeartbeats 4000000 in
set_option maxRecDepth 100000 in
theorem c_L_cell (l : Launch) (D : va_G) (cyI cyO cyL : ClassId) (b L : Nat) (xs : Nat → Int32) (k_ : Int32) (hL : L ≤ 260) (hk : ¬ k_ < 0) : cS l yL_cell wsL_cell ({ frames := 0, cells := 0, slots := 0, locals := 0 }) D cyI cyO cyL b L xs [.ref b, .int k_] (fun _ => True) := by
  intro sz
  refine Met.ofW (cc := cL_cell) (maxL := 2) (ret := (some .int)) (by decide) rfl ?_
  intro p e s m args below meth c s₁ B9 hml hv
  obtain ⟨rfl, ⟨hsz, -, hKK, -⟩, hX⟩ := hv
  have hx := B9.exec
  have hb := B9.bytes
  have hrt := B9.returns
  have hts := atoms_spec (ws := wsL_cell) B9.pre
  have hown : s.vm.findClass RL = some m.cls := findClass_of_methodNamed B9.named
  have hlocks := B9.notSynchronized
  subst hsz
  have hA : ∀ q, s.heap.size ≤ q → va_A [] s.heap.size q := fun q h => Or.inr h
  have hS : va_S (va_A [] s.heap.size) s.heap s.heap [] := va_S.rf
  have hbl : b < s.heap.size := va_Xlt hX
  have hbA : ¬ va_A [] s.heap.size b := fun h => absurd (nilA h) (Nat.not_le.mpr hbl)
  have hP : va_P D vwCl [] s.heap := nilP
  have hl := lv_entry ([.ref b, .int k_]) (n := 2) (Nat.le_of_ble_eq_true rfl)
  rw [lg_entry_eq]
  generalize (lg_sl ([.ref b, .int k_]) ++ List.replicate (2 - (lg_sl ([.ref b, .int k_])).length) Slot.unset).toArray = ls at hl ⊢
  have hl : lv_has ls 2 [(0, .ref b), (1, .int k_)] := hl
  refine lv_iload_n hx hb dL_cell_0 rfl (lv_at hl 1 rfl) ?_
  refine lv_aload_n hx hb dL_cell_1 rfl (lv_at hl 0 rfl) ?_
  refine va_slen hx hb hX hbl hbA hS dL_cell_2 ?_
  refine lv_tope (y := nI L) rfl ?_
  refine lv_icmp_ge (tgt := 12) hx hb dL_cell_3 (by decide) (fun h_1 => ?_) (fun h_2 => ?_)
  · skip
    refine lv_ldc (v := 461243603) hx hb hown (hts (.constant RL 8 (461243603)) (List.mem_of_getElem? (i := 1) rfl)) dL_cell_12 ?_
    refine lv_iload_n hx hb dL_cell_14 rfl (lv_at hl 1 rfl) ?_
    refine lv_iconst (v := 3) hx hb dL_cell_15 (by decide) ?_
    refine lv_iadd hx hb dL_cell_16 ?_
    refine lv_imul hx hb dL_cell_17 ?_
    exact end_S hx hb hrt hlocks trivial hS dL_cell_18
  · skip
    refine lv_aload_n hx hb dL_cell_6 rfl (lv_at hl 0 rfl) ?_
    refine lv_iload_n hx hb dL_cell_7 rfl (lv_at hl 1 rfl) ?_
    refine va_sld hx hb hX hbl hbA hS (vp_of hk (Int32.not_le.mp h_2) (by omega)) dL_cell_8 ?_
    refine lv_goto (tgt := 18) hx hb dL_cell_9 (by decide) ?_
    exact end_S hx hb hrt hlocks trivial hS dL_cell_18
set_option maxHeartbeats 4000000 in
set_option maxRecDepth 100000 in
theorem c_L_coldOf (l : Launch) (D : va_G) (cyI cyO cyL : ClassId) (b L : Nat) (xs : Nat → Int32) (k_ : Int32) (hL : L ≤ 260) : cS l yL_coldOf wsL_coldOf ({ frames := 1, cells := 0, slots := 0, locals := 21 }) D cyI cyO cyL b L xs [.ref b, .int k_] (fun r => vp_in r 4) := by
  intro sz
  refine Met.ofW (cc := cL_coldOf) (maxL := 2) (ret := (some .int)) (by decide) rfl ?_
  intro p e s m args below meth c s₁ B9 hml hv
  obtain ⟨rfl, ⟨hsz, -, hKK, -⟩, hX⟩ := hv
  have hx := B9.exec
  have hb := B9.bytes
  have hrt := B9.returns
  have hts := atoms_spec (ws := wsL_coldOf) B9.pre
  have hown : s.vm.findClass RL = some m.cls := findClass_of_methodNamed B9.named
  have hlocks := B9.notSynchronized
  subst hsz
  have hA : ∀ q, s.heap.size ≤ q → va_A [] s.heap.size q := fun q h => Or.inr h
  have hS : va_S (va_A [] s.heap.size) s.heap s.heap [] := va_S.rf
  have hbl : b < s.heap.size := va_Xlt hX
  have hbA : ¬ va_A [] s.heap.size b := fun h => absurd (nilA h) (Nat.not_le.mpr hbl)
  have hP : va_P D vwCl [] s.heap := nilP
  have hl := lv_entry ([.ref b, .int k_]) (n := 2) (Nat.le_of_ble_eq_true rfl)
  rw [lg_entry_eq]
  generalize (lg_sl ([.ref b, .int k_]) ++ List.replicate (2 - (lg_sl ([.ref b, .int k_])).length) Slot.unset).toArray = ls at hl ⊢
  have hl : lv_has ls 2 [(0, .ref b), (1, .int k_)] := hl
  refine lv_aload_n hx hb dL_coldOf_0 rfl (lv_at hl 0 rfl) ?_
  refine lv_iconst (v := 0) hx hb dL_coldOf_1 (by decide) ?_
  refine call_h (n := 2) (As := [.ref b, .int 0]) (rest := []) ⟨hx, hb, hml, hown, hts⟩ (c_L_cell l D cyI cyO cyL b L xs 0 hL (by decide)) gL_coldOf_L_cell rfl rfl rfl (by decide +kernel) ⟨(Nat.le_of_ble_eq_true rfl), (Nat.le_of_ble_eq_true rfl)⟩ hKK hX hbl hbA rfl hl.1 rfl (Nat.le_of_ble_eq_true rfl) dL_coldOf_2 ⟨(Nat.le_of_ble_eq_true rfl), (Nat.le_of_ble_eq_true rfl)⟩ hP hS hA (fun r1 H locs hr2 hP hS => ?_)
  refine lv_iconst (v := 2) hx hb dL_coldOf_5 (by decide) ?_
  refine lv_iload_n hx hb dL_coldOf_6 rfl (lv_at hl 1 rfl) ?_
  refine lv_imul hx hb dL_coldOf_7 ?_
  refine lv_ishr hx hb dL_coldOf_8 ?_
  refine lv_iconst (v := 4) hx hb dL_coldOf_9 (by decide) ?_
  refine call_h (n := 2) (As := [.int (r1 >>> ((2 * k_) &&& 31)), .int 4]) (rest := []) ⟨hx, hb, hml, hown, hts⟩ (c_L_below l D cyI cyO cyL b L xs (r1 >>> ((2 * k_) &&& 31)) 4 (N := 4) (by decide) (by decide) rfl) gL_coldOf_L_below rfl rfl rfl (by decide +kernel) ⟨(Nat.le_of_ble_eq_true rfl), (Nat.le_of_ble_eq_true rfl)⟩ hKK hX hbl hbA rfl hl.1 rfl (Nat.le_of_ble_eq_true rfl) dL_coldOf_10 ⟨(Nat.le_of_ble_eq_true rfl), (Nat.le_of_ble_eq_true rfl)⟩ hP hS hA (fun r3 H locs hr4 hP hS => ?_)
  exact end_S hx hb hrt hlocks hr4 hS dL_coldOf_13
set_option maxHeartbeats 4000000 in
set_option maxRecDepth 100000 in
theorem c_L_swanOf (l : Launch) (D : va_G) (cyI cyO cyL : ClassId) (b L : Nat) (xs : Nat → Int32) (k_ : Int32) (hL : L ≤ 260) : cS l yL_swanOf wsL_swanOf ({ frames := 1, cells := 0, slots := 0, locals := 21 }) D cyI cyO cyL b L xs [.ref b, .int k_] (fun r => r = -1 ∨ vp_in r 24) := by
  intro sz
  refine Met.ofW (cc := cL_swanOf) (maxL := 2) (ret := (some .int)) (by decide) rfl ?_
  intro p e s m args below meth c s₁ B9 hml hv
  obtain ⟨rfl, ⟨hsz, -, hKK, -⟩, hX⟩ := hv
  have hx := B9.exec
  have hb := B9.bytes
  have hrt := B9.returns
  have hts := atoms_spec (ws := wsL_swanOf) B9.pre
  have hown : s.vm.findClass RL = some m.cls := findClass_of_methodNamed B9.named
  have hlocks := B9.notSynchronized
  subst hsz
  have hA : ∀ q, s.heap.size ≤ q → va_A [] s.heap.size q := fun q h => Or.inr h
  have hS : va_S (va_A [] s.heap.size) s.heap s.heap [] := va_S.rf
  have hbl : b < s.heap.size := va_Xlt hX
  have hbA : ¬ va_A [] s.heap.size b := fun h => absurd (nilA h) (Nat.not_le.mpr hbl)
  have hP : va_P D vwCl [] s.heap := nilP
  have hl := lv_entry ([.ref b, .int k_]) (n := 2) (Nat.le_of_ble_eq_true rfl)
  rw [lg_entry_eq]
  generalize (lg_sl ([.ref b, .int k_]) ++ List.replicate (2 - (lg_sl ([.ref b, .int k_])).length) Slot.unset).toArray = ls at hl ⊢
  have hl : lv_has ls 2 [(0, .ref b), (1, .int k_)] := hl
  refine lv_aload_n hx hb dL_swanOf_0 rfl (lv_at hl 0 rfl) ?_
  refine lv_iconst (v := 1) hx hb dL_swanOf_1 (by decide) ?_
  refine call_h (n := 2) (As := [.ref b, .int 1]) (rest := []) ⟨hx, hb, hml, hown, hts⟩ (c_L_cell l D cyI cyO cyL b L xs 1 hL (by decide)) gL_swanOf_L_cell rfl rfl rfl (by decide +kernel) ⟨(Nat.le_of_ble_eq_true rfl), (Nat.le_of_ble_eq_true rfl)⟩ hKK hX hbl hbA rfl hl.1 rfl (Nat.le_of_ble_eq_true rfl) dL_swanOf_2 ⟨(Nat.le_of_ble_eq_true rfl), (Nat.le_of_ble_eq_true rfl)⟩ hP hS hA (fun r1 H locs hr2 hP hS => ?_)
  refine lv_iload_n hx hb dL_swanOf_5 rfl (lv_at hl 1 rfl) ?_
  refine lv_ishr hx hb dL_swanOf_6 ?_
  refine lv_iconst (v := 3) hx hb dL_swanOf_7 (by decide) ?_
  refine call_h (n := 2) (As := [.int (r1 >>> (k_ &&& 31)), .int 3]) (rest := []) ⟨hx, hb, hml, hown, hts⟩ (c_L_below l D cyI cyO cyL b L xs (r1 >>> (k_ &&& 31)) 3 (N := 3) (by decide) (by decide) rfl) gL_swanOf_L_below rfl rfl rfl (by decide +kernel) ⟨(Nat.le_of_ble_eq_true rfl), (Nat.le_of_ble_eq_true rfl)⟩ hKK hX hbl hbA rfl hl.1 rfl (Nat.le_of_ble_eq_true rfl) dL_swanOf_8 ⟨(Nat.le_of_ble_eq_true rfl), (Nat.le_of_ble_eq_true rfl)⟩ hP hS hA (fun r3 H locs hr4 hP hS => ?_)
  refine lv_if_ne (tgt := 31) hx hb dL_swanOf_11 (by decide) (fun h_1 => ?_) (fun h_2 => ?_)
  · skip
    refine lv_iconst (v := (-1)) hx hb dL_swanOf_31 (by decide) ?_
    exact end_S hx hb hrt hlocks (Or.inl rfl) hS dL_swanOf_32
  · skip
    refine lv_aload_n hx hb dL_swanOf_14 rfl (lv_at hl 0 rfl) ?_
    refine lv_iconst (v := 1) hx hb dL_swanOf_15 (by decide) ?_
    refine call_h (n := 2) (As := [.ref b, .int 1]) (rest := []) ⟨hx, hb, hml, hown, hts⟩ (c_L_cell l D cyI cyO cyL b L xs 1 hL (by decide)) gL_swanOf_L_cell rfl rfl rfl (by decide +kernel) ⟨(Nat.le_of_ble_eq_true rfl), (Nat.le_of_ble_eq_true rfl)⟩ hKK hX hbl hbA rfl hl.1 rfl (Nat.le_of_ble_eq_true rfl) dL_swanOf_16 ⟨(Nat.le_of_ble_eq_true rfl), (Nat.le_of_ble_eq_true rfl)⟩ hP hS hA (fun r5 H locs hr6 hP hS => ?_)
    refine lv_iload_n hx hb dL_swanOf_19 rfl (lv_at hl 1 rfl) ?_
    refine lv_iconst (v := 3) hx hb dL_swanOf_20 (by decide) ?_
    refine lv_iadd hx hb dL_swanOf_21 ?_
    refine lv_ishr hx hb dL_swanOf_22 ?_
    refine lv_bipush (v := 24) hx hb dL_swanOf_23 (by decide) ?_
    refine call_h (n := 2) (As := [.int (r5 >>> ((k_ + 3) &&& 31)), .int 24]) (rest := []) ⟨hx, hb, hml, hown, hts⟩ (c_L_below l D cyI cyO cyL b L xs (r5 >>> ((k_ + 3) &&& 31)) 24 (N := 24) (by decide) (by decide) rfl) gL_swanOf_L_below rfl rfl rfl (by decide +kernel) ⟨(Nat.le_of_ble_eq_true rfl), (Nat.le_of_ble_eq_true rfl)⟩ hKK hX hbl hbA rfl hl.1 rfl (Nat.le_of_ble_eq_true rfl) dL_swanOf_25 ⟨(Nat.le_of_ble_eq_true rfl), (Nat.le_of_ble_eq_true rfl)⟩ hP hS hA (fun r7 H locs hr8 hP hS => ?_)
    refine lv_goto (tgt := 32) hx hb dL_swanOf_28 (by decide) ?_
    exact end_S hx hb hrt hlocks (Or.inr hr8) hS dL_swanOf_32
