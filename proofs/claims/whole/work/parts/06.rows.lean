/-! rows over contracts that keep the cells' number: calls, arrays at vp_in, ends -/
theorem vp_lt {x : Int32} {n : Nat} (h : vp_in x n) : x.toNatClampNeg < n := Nat.not_le.mp fun q => h (Or.inr q)
theorem free_of {A : Nat → Prop} {W : va_W} {H0 H : Heap} {locs : List Loc} (hDc : va_D A W) (hS : va_S A H0 H locs) (hA : ∀ q, H0.size ≤ q → A q) : ∀ q, va_A W H.size q → A q := by
  intro q h
  rcases h with ⟨k, e, h⟩ | h
  · exact hDc.2 k (q, e) h
  · exact hA q (Nat.le_trans hS.1 h)
section MYR
variable {p : Program} {l : Launch} {e : Env} {R : Room} {s : State} {m : MethodId} {args : Array Value} {below : List Frame} {meth : Method} {c : Code} {H : Heap} {locs : List Loc} {cells slots : Nat} {Q : State → Prop}
variable {cc : ByteArray} {pc : Nat} {ls : Array Slot} {rest st0 : List Value} {D : va_G} {A : Nat → Prop} {a : Nat} {ws : va_W} {H0 : Heap} {cyI cyO cyL : ClassId} {ar : Array Value}
theorem lv_tope {x y : Int32} (e9 : x = y) (k : W p l e R s m args below meth c H locs cells slots Q (F0 m pc ls (.int y :: rest))) : W p l e R s m args below meth c H locs cells slots Q (F0 m pc ls (.int x :: rest)) := e9 ▸ k
theorem lv_topv {x y : Value} (e9 : x = y) (k : W p l e R s m args below meth c H locs cells slots Q (F0 m pc ls (y :: rest))) : W p l e R s m args below meth c H locs cells slots Q (F0 m pc ls (x :: rest)) := e9 ▸ k
/-- a loop, by a measure that falls -/
theorem wloop {σ : Type} (G : Nat → σ → Heap → List Loc → Array Slot → Prop)
    (step : ∀ (d : Nat) (x : σ) (H : Heap) (locs : List Loc) (ls : Array Slot), G d x H locs ls →
      (∀ (d' : Nat) (x' : σ) (H' : Heap) (locs' : List Loc) (ls' : Array Slot), d' < d → G d' x' H' locs' ls' → W p l e R s m args below meth c H' locs' cells slots Q (F0 m pc ls' st0)) →
      W p l e R s m args below meth c H locs cells slots Q (F0 m pc ls st0))
    (d : Nat) (x : σ) (H : Heap) (locs : List Loc) (ls : Array Slot) (h : G d x H locs ls) : W p l e R s m args below meth c H locs cells slots Q (F0 m pc ls st0) := by
  induction d using Nat.strongRecOn generalizing x H locs ls with
  | _ d ih => exact step d x H locs ls h fun d' x' H' locs' ls' hd h' => ih d' hd x' H' locs' ls' h'
/-- two roads that meet -/
theorem wjoin {σ : Type} {tgt : Nat} {ls0 : Array Slot} {st1 : σ → List Value} (G : σ → Heap → List Loc → Array Slot → Prop)
    (main : (∀ (x : σ) (H' : Heap) (locs' : List Loc) (ls' : Array Slot), G x H' locs' ls' → W p l e R s m args below meth c H' locs' cells slots Q (F0 m tgt ls' (st1 x))) → W p l e R s m args below meth c H locs cells slots Q (F0 m pc ls0 st0))
    (rest : ∀ (x : σ) (H' : Heap) (locs' : List Loc) (ls' : Array Slot), G x H' locs' ls' → W p l e R s m args below meth c H' locs' cells slots Q (F0 m tgt ls' (st1 x))) : W p l e R s m args below meth c H locs cells slots Q (F0 m pc ls0 st0) := main rest
theorem ret_v {W1 W2 : va_W} (hr : va_Run p l e R s m args below meth c H locs cells slots 0 0 (F0 m pc ls st0) rest (va_Qv (fun _ : Unit => True) (fun _ t => va_P D vwCl W2 t.heap) (va_A W1 H.size) ar) (va_A W1 H.size)) (hP : va_P D vwCl ws H) (hD : va_D A ws) (hS : va_S A H0 H locs) (hA : ∀ q, H0.size ≤ q → A q) (isC : List Nat) (hC : isC.map (fun i => ws[i]?) = W1.map some) (hf : W2.map (fun q => q.1) = W1.map (fun q => q.1))
    (kk : ∀ (H1 : Heap) (locs1 : List Loc), va_P D vwCl (rpl1 ws isC W2) H1 → va_D A (rpl1 ws isC W2) → va_S A H0 H1 locs1 → W p l e R s m args below meth c H1 locs1 cells slots Q (F0 m (pc + 3) ls rest)) : W p l e R s m args below meth c H locs cells slots Q (F0 m pc ls st0) := by
  have hF := va_free hD hS hA isC hC
  refine va_callv hr hS (fun q _ h => hF q h) hF (fun u t H1 locs ht hvm hw hB hz1 hk1 hS => ?_)
  rw [ht] at hB
  obtain ⟨a1, a2⟩ := call_post hP hD isC hC hf hk1 hB
  exact kk H1 locs a1 a2 hS
theorem ret_i {W1 W2 : va_W} {r : Int32} (hr : va_Run p l e R s m args below meth c H locs cells slots 0 0 (F0 m pc ls st0) rest (va_Qi (fun (x : Int32) (_ : Unit) => x = r) (fun _ t => va_P D vwCl W2 t.heap) (va_A W1 H.size) ar) (va_A W1 H.size)) (hP : va_P D vwCl ws H) (hD : va_D A ws) (hS : va_S A H0 H locs) (hA : ∀ q, H0.size ≤ q → A q) (isC : List Nat) (hC : isC.map (fun i => ws[i]?) = W1.map some) (hf : W2.map (fun q => q.1) = W1.map (fun q => q.1))
    (kk : ∀ (H1 : Heap) (locs1 : List Loc), va_P D vwCl (rpl1 ws isC W2) H1 → va_D A (rpl1 ws isC W2) → va_S A H0 H1 locs1 → W p l e R s m args below meth c H1 locs1 cells slots Q (F0 m (pc + 3) ls (.int r :: rest))) : W p l e R s m args below meth c H locs cells slots Q (F0 m pc ls st0) := by
  have hF := va_free hD hS hA isC hC
  refine va_calli hr hS (fun q _ h => hF q h) hF (fun r' u t H1 locs ht hvm hw hB hz1 hk1 hS => ?_)
  rw [ht] at hB
  subst hw
  obtain ⟨a1, a2⟩ := call_post hP hD isC hC hf hk1 hB
  exact kk H1 locs a1 a2 hS
theorem ret_l {W1 W2 : va_W} {r : Int64} (hr : va_Run p l e R s m args below meth c H locs cells slots 0 0 (F0 m pc ls st0) rest (va_Ql (fun (x : Int64) (_ : Unit) => x = r) (fun _ t => va_P D vwCl W2 t.heap) (va_A W1 H.size) ar) (va_A W1 H.size)) (hP : va_P D vwCl ws H) (hD : va_D A ws) (hS : va_S A H0 H locs) (hA : ∀ q, H0.size ≤ q → A q) (isC : List Nat) (hC : isC.map (fun i => ws[i]?) = W1.map some) (hf : W2.map (fun q => q.1) = W1.map (fun q => q.1))
    (kk : ∀ (H1 : Heap) (locs1 : List Loc), va_P D vwCl (rpl1 ws isC W2) H1 → va_D A (rpl1 ws isC W2) → va_S A H0 H1 locs1 → W p l e R s m args below meth c H1 locs1 cells slots Q (F0 m (pc + 3) ls (.long r :: rest))) : W p l e R s m args below meth c H locs cells slots Q (F0 m pc ls st0) := by
  have hF := va_free hD hS hA isC hC
  refine va_calll hr hS (fun q _ h => hF q h) hF (fun r' u t H1 locs ht hvm hw hB hz1 hk1 hS => ?_)
  rw [ht] at hB
  subst hw
  obtain ⟨a1, a2⟩ := call_post hP hD isC hC hf hk1 hB
  exact kk H1 locs a1 a2 hS
theorem ret_vB {X cx cx' pl pl' : va_W} (hr : va_Run p l e R s m args below meth c H locs cells slots 0 0 (F0 m pc ls st0) rest (va_Qv (fun _ : Unit => True) (fun _ t => va_P D vwCl (cx' ++ pl') t.heap) (va_A (cx ++ pl) H.size) ar) (va_A (cx ++ pl) H.size)) (hP : va_P D vwCl (X ++ pl) H) (hD : va_D A (X ++ pl)) (hS : va_S A H0 H locs) (hA : ∀ q, H0.size ≤ q → A q) (isC : List Nat) (hn : va_nd isC = true) (hC : isC.map (fun i => X[i]?) = cx.map some) (hf : cx'.map (fun q => q.1) = cx.map (fun q => q.1)) (hfp : pl'.map (fun q => q.1) = pl.map (fun q => q.1))
    (kk : ∀ (H1 : Heap) (locs1 : List Loc), va_P D vwCl (rpl1 X isC cx' ++ pl') H1 → va_D A (rpl1 X isC cx' ++ pl') → va_S A H0 H1 locs1 → W p l e R s m args below meth c H1 locs1 cells slots Q (F0 m (pc + 3) ls rest)) : W p l e R s m args below meth c H locs cells slots Q (F0 m pc ls st0) := by
  have hF := free_of (hD.part isC hn hC) hS hA
  refine va_callv hr hS (fun q _ h => hF q h) hF (fun u t H1 locs ht hvm hw hB hz1 hk1 hS => ?_)
  rw [ht] at hB
  obtain ⟨a1, a2⟩ := call_postB hP hD isC hC hf hfp hk1 hB
  exact kk H1 locs a1 a2 hS
theorem ret_iB {X cx cx' pl pl' : va_W} {r : Int32} (hr : va_Run p l e R s m args below meth c H locs cells slots 0 0 (F0 m pc ls st0) rest (va_Qi (fun (x : Int32) (_ : Unit) => x = r) (fun _ t => va_P D vwCl (cx' ++ pl') t.heap) (va_A (cx ++ pl) H.size) ar) (va_A (cx ++ pl) H.size)) (hP : va_P D vwCl (X ++ pl) H) (hD : va_D A (X ++ pl)) (hS : va_S A H0 H locs) (hA : ∀ q, H0.size ≤ q → A q) (isC : List Nat) (hn : va_nd isC = true) (hC : isC.map (fun i => X[i]?) = cx.map some) (hf : cx'.map (fun q => q.1) = cx.map (fun q => q.1)) (hfp : pl'.map (fun q => q.1) = pl.map (fun q => q.1))
    (kk : ∀ (H1 : Heap) (locs1 : List Loc), va_P D vwCl (rpl1 X isC cx' ++ pl') H1 → va_D A (rpl1 X isC cx' ++ pl') → va_S A H0 H1 locs1 → W p l e R s m args below meth c H1 locs1 cells slots Q (F0 m (pc + 3) ls (.int r :: rest))) : W p l e R s m args below meth c H locs cells slots Q (F0 m pc ls st0) := by
  have hF := free_of (hD.part isC hn hC) hS hA
  refine va_calli hr hS (fun q _ h => hF q h) hF (fun r' u t H1 locs ht hvm hw hB hz1 hk1 hS => ?_)
  rw [ht] at hB
  subst hw
  obtain ⟨a1, a2⟩ := call_postB hP hD isC hC hf hfp hk1 hB
  exact kk H1 locs a1 a2 hS
theorem end_v (hx : p.tables.exec = Jvm.exec) (hb : c.code = cc) (hr : meth.sig.returnType = none) (hlocks : meth.locks = false) {W2 : va_W} (hP : va_P D vwCl W2 H) (hS : va_S A s.heap H locs) (hdg : decode cc pc = .ok (.return_, 1)) : W p l e R s m args below meth c H locs cells slots (MQ below (va_Qv (fun _ : Unit => True) (fun _ t => va_P D vwCl W2 t.heap) A) args s cells slots A) (F0 m pc ls []) :=
  W.vret hx hb hr (fun t ht hW => ⟨⟨(), rfl, trivial, by show va_P D vwCl W2 t.heap; rw [ht]; exact hP⟩, hS.F ht⟩) hS.2.2 hdg hlocks
theorem end_i (hx : p.tables.exec = Jvm.exec) (hb : c.code = cc) (hr : meth.sig.returnType = some .int) (hlocks : meth.locks = false) {W2 : va_W} {v r : Int32} (hv : v = r) (hP : va_P D vwCl W2 H) (hS : va_S A s.heap H locs) (hdg : decode cc pc = .ok (.ireturn, 1)) : W p l e R s m args below meth c H locs cells slots (MQ below (va_Qi (fun (x : Int32) (_ : Unit) => x = r) (fun _ t => va_P D vwCl W2 t.heap) A) args s cells slots A) (F0 m pc ls [.int v]) :=
  W.iret hx hb hr (fun t ht hW => ⟨⟨v, (), rfl, hv, by show va_P D vwCl W2 t.heap; rw [ht]; exact hP⟩, hS.F ht⟩) hS.2.2 hdg hlocks
theorem nar01 {v : Int32} (h : v = 0 ∨ v = 1) : narrow .boolean (.int v) = .int v := by
  rcases h with rfl | rfl <;> rfl
theorem end_z (hx : p.tables.exec = Jvm.exec) (hb : c.code = cc) (hr : meth.sig.returnType = some .boolean) (hlocks : meth.locks = false) {W2 : va_W} {v r : Int32} (h01 : v = 0 ∨ v = 1) (hv : v = r) (hP : va_P D vwCl W2 H) (hS : va_S A s.heap H locs) (hdg : decode cc pc = .ok (.ireturn, 1)) : W p l e R s m args below meth c H locs cells slots (MQ below (va_Qi (fun (x : Int32) (_ : Unit) => x = r) (fun _ t => va_P D vwCl W2 t.heap) A) args s cells slots A) (F0 m pc ls [.int v]) :=
  W.zret hx hb hr (nar01 h01) (fun t ht hW => ⟨⟨v, (), rfl, hv, by show va_P D vwCl W2 t.heap; rw [ht]; exact hP⟩, hS.F ht⟩) hS.2.2 hdg hlocks
theorem end_l (hx : p.tables.exec = Jvm.exec) (hb : c.code = cc) (hr : meth.sig.returnType = some .long) (hlocks : meth.locks = false) {W2 : va_W} {v r : Int64} (hv : v = r) (hP : va_P D vwCl W2 H) (hS : va_S A s.heap H locs) (hdg : decode cc pc = .ok (.lreturn, 1)) : W p l e R s m args below meth c H locs cells slots (MQ below (va_Ql (fun (x : Int64) (_ : Unit) => x = r) (fun _ t => va_P D vwCl W2 t.heap) A) args s cells slots A) (F0 m pc ls [.long v]) :=
  W.lret hx hb hr (fun t ht hW => ⟨⟨v, (), rfl, hv, by show va_P D vwCl W2 t.heap; rw [ht]; exact hP⟩, hS.F ht⟩) hS.2.2 hdg hlocks
theorem end_d (hx : p.tables.exec = Jvm.exec) (hb : c.code = cc) (hr : meth.sig.returnType = some .double) (hlocks : meth.locks = false) {W2 : va_W} {v r : UInt64} (hv : v = r) (hP : va_P D vwCl W2 H) (hS : va_S A s.heap H locs) (hdg : decode cc pc = .ok (.dreturn, 1)) : W p l e R s m args below meth c H locs cells slots (MQ below (va_Qd (fun (x : UInt64) (_ : Unit) => x = r) (fun _ t => va_P D vwCl W2 t.heap) A) args s cells slots A) (F0 m pc ls [.double v]) :=
  W.dret hx hb hr (fun t ht hW => ⟨⟨v, (), rfl, hv, by show va_P D vwCl W2 t.heap; rw [ht]; exact hP⟩, hS.F ht⟩) hS.2.2 hdg hlocks
variable {y : MethodName} {bytes : ByteArray} {maxL nL n index : Nat} {ret : Option FieldType} {wy ws' Ts : List Cond} {rm : Room} {Qc : Array Value → State → Outcome → State → Prop} {free : Addr → Prop} {own host : String} {b : Addr} {As : List Value} {W1 : va_W}
theorem run_VN (S : CallFix p m c cc nL s args Ts own) (hM : Met l y wy rm (va_Pc (.ref b :: As) (PP D cyI cyO cyL W1 H.size)) Qc 0 0 free)
    (gg : GoodIn Ts wy) (hw : wy = Cond.code y bytes maxL ret :: ws') (hrc : rm.cells = 0) (hrs : rm.slots = 0) (hl : Cond.methodLinkNest own index y host ∈ nw_all) (hini : (Cond.initialized y.cls).before args s = true) (hin : (Cond.instanceMethod y).before args s = true)
    {q : vw_C} (hse : (Cond.selects q.1 y y).before args s = true) (hd : y.cls ≠ "java/lang/invoke/MethodHandle" ∧ y.cls ≠ "java/lang/invoke/VarHandle" ∧ (parseMethodDescriptor y.desc).map (fun d => d.parameters.length) = some n) (hR : rm.frames + 1 ≤ R.frames ∧ 8 + (maxL + 11) + rm.locals ≤ R.locals)
    (hKK : KK D cyI cyO cyL s) (hPc : va_P D vwCl W1 H) (hDc : va_D A W1) {q0 ci : Nat} {fs : List Value} (hc : vwCl[ci]? = some q) (he : W1[q0]? = some (b, .inr (ci, fs)))
    (hn : As.length = n) (hsize : ls.size = nL) (hst : st0 = As.reverse ++ .ref b :: rest) (hcat : (rest.map fun v => v.category).sum ≤ 8) (hdg : decode cc pc = .ok (.invokevirtual index, 3)) (hf : cells ≤ R.cells ∧ slots ≤ R.slots) :
    va_Run p l e R s m args below meth c H locs cells slots 0 0 (F0 m pc ls st0) rest (Qc (Value.ref b :: As).toArray) free :=
  va_runVN (C := q.1) S hM ⟨va_cnB n S.2.2.2.2 gg hw hrc hrs (hKK.2 _ hl) hini hd hR, hin, hse⟩ ⟨PP_blind, va_recv hKK.1 hPc hc he, fun U hU hW => ⟨rfl, by rw [hU], by rw [hU]; exact hPc, hKK.warm hW, hDc.weaken (fun _ _ _ _ => trivial)⟩⟩ rfl hn hsize hst (lv_room hcat) hdg hf
theorem run_V (S : CallFix p m c cc nL s args Ts own) (hM : Met l y wy rm (va_Pc (.ref b :: As) (PP D cyI cyO cyL W1 H.size)) Qc 0 0 free)
    (gg : GoodIn Ts wy) (hw : wy = Cond.code y bytes maxL ret :: ws') (hrc : rm.cells = 0) (hrs : rm.slots = 0) (hl : (Cond.methodLink own index y).before args s = true) (hini : (Cond.initialized y.cls).before args s = true) (hin : (Cond.instanceMethod y).before args s = true)
    {q : vw_C} (hse : (Cond.selects q.1 y y).before args s = true) (hd : y.cls ≠ "java/lang/invoke/MethodHandle" ∧ y.cls ≠ "java/lang/invoke/VarHandle" ∧ (parseMethodDescriptor y.desc).map (fun d => d.parameters.length) = some n) (hR : rm.frames + 1 ≤ R.frames ∧ 8 + (maxL + 11) + rm.locals ≤ R.locals)
    (hKK : KK D cyI cyO cyL s) (hPc : va_P D vwCl W1 H) (hDc : va_D A W1) {q0 ci : Nat} {fs : List Value} (hc : vwCl[ci]? = some q) (he : W1[q0]? = some (b, .inr (ci, fs)))
    (hn : As.length = n) (hsize : ls.size = nL) (hst : st0 = As.reverse ++ .ref b :: rest) (hcat : (rest.map fun v => v.category).sum ≤ 8) (hdg : decode cc pc = .ok (.invokevirtual index, 3)) (hf : cells ≤ R.cells ∧ slots ≤ R.slots) :
    va_Run p l e R s m args below meth c H locs cells slots 0 0 (F0 m pc ls st0) rest (Qc (Value.ref b :: As).toArray) free :=
  va_runV (C := q.1) S hM ⟨callB_of n S.2.2.2.2 gg hw hrc hrs hini hl hd hR, hin, hse⟩ ⟨PP_blind, va_recv hKK.1 hPc hc he, fun U hU hW => ⟨rfl, by rw [hU], by rw [hU]; exact hPc, hKK.warm hW, hDc.weaken (fun _ _ _ _ => trivial)⟩⟩ rfl hn hsize hst (lv_room hcat) hdg hf
theorem run_SN (S : CallFix p m c cc nL s args Ts own) (hM : Met l y wy rm (va_Pc As (PP D cyI cyO cyL W1 H.size)) Qc 0 0 free)
    (gg : GoodIn Ts wy) (hw : wy = Cond.code y bytes maxL ret :: ws') (hrc : rm.cells = 0) (hrs : rm.slots = 0) (hl : Cond.methodLinkNest own index y host ∈ nw_all) (hini : (Cond.initialized y.cls).before args s = true) (hsc : (Cond.static y).before args s = true)
    (hd : y.cls ≠ "java/lang/invoke/MethodHandle" ∧ y.cls ≠ "java/lang/invoke/VarHandle" ∧ (parseMethodDescriptor y.desc).map (fun d => d.parameters.length) = some n) (hR : rm.frames + 1 ≤ R.frames ∧ 8 + (maxL + 11) + rm.locals ≤ R.locals)
    (hKK : KK D cyI cyO cyL s) (hPc : va_P D vwCl W1 H) (hDc : va_D A W1)
    (hn : As.length = n) (hsize : ls.size = nL) (hst : st0 = As.reverse ++ rest) (hcat : (rest.map fun v => v.category).sum ≤ 8) (hdg : decode cc pc = .ok (.invokestatic index, 3)) (hf : cells ≤ R.cells ∧ slots ≤ R.slots) :
    va_Run p l e R s m args below meth c H locs cells slots 0 0 (F0 m pc ls st0) rest (Qc As.toArray) free :=
  va_runSN S hM ⟨va_cnB n S.2.2.2.2 gg hw hrc hrs (hKK.2 _ hl) hini hd hR, hsc, trivial⟩ ⟨PP_blind, fun U hU hW => ⟨rfl, by rw [hU], by rw [hU]; exact hPc, hKK.warm hW, hDc.weaken (fun _ _ _ _ => trivial)⟩⟩ rfl hn hsize hst (lv_room hcat) hdg hf
theorem run_S (S : CallFix p m c cc nL s args Ts own) (hM : Met l y wy rm (va_Pc As (PP D cyI cyO cyL W1 H.size)) Qc 0 0 free)
    (gg : GoodIn Ts wy) (hw : wy = Cond.code y bytes maxL ret :: ws') (hrc : rm.cells = 0) (hrs : rm.slots = 0) (hl : (Cond.methodLink own index y).before args s = true) (hini : (Cond.initialized y.cls).before args s = true) (hsc : (Cond.static y).before args s = true)
    (hd : y.cls ≠ "java/lang/invoke/MethodHandle" ∧ y.cls ≠ "java/lang/invoke/VarHandle" ∧ (parseMethodDescriptor y.desc).map (fun d => d.parameters.length) = some n) (hR : rm.frames + 1 ≤ R.frames ∧ 8 + (maxL + 11) + rm.locals ≤ R.locals)
    (hKK : KK D cyI cyO cyL s) (hPc : va_P D vwCl W1 H) (hDc : va_D A W1)
    (hn : As.length = n) (hsize : ls.size = nL) (hst : st0 = As.reverse ++ rest) (hcat : (rest.map fun v => v.category).sum ≤ 8) (hdg : decode cc pc = .ok (.invokestatic index, 3)) (hf : cells ≤ R.cells ∧ slots ≤ R.slots) :
    va_Run p l e R s m args below meth c H locs cells slots 0 0 (F0 m pc ls st0) rest (Qc As.toArray) free :=
  va_runS S hM ⟨callB_of n S.2.2.2.2 gg hw hrc hrs hini hl hd hR, hsc⟩ ⟨PP_blind, fun U hU hW => ⟨rfl, by rw [hU], by rw [hU]; exact hPc, hKK.warm hW, hDc.weaken (fun _ _ _ _ => trivial)⟩⟩ rfl hn hsize hst (lv_room hcat) hdg hf
/-! the buses: a pool of cells, by address and field -/
variable {index' : Nat} {X : va_W} {LB : List Nat} {B : Nat → Nat → Int32}
end MYR
def bE (B : Nat → Nat → Int32) : Nat → va_E := fun a => .inr (0, [.int (B a 0), .int (B a 1), .int (B a 2), .int (B a 3), .int (B a 4), .int (B a 5)])
def up2 (B : Nat → Nat → Int32) (b k : Nat) (v : Int32) : Nat → Nat → Int32 := fun a j => if j = k ∧ a = b then v else B a j
abbrev pB (LB : List Nat) (B : Nat → Nat → Int32) : va_W := va_pl LB (bE B)
theorem pB_fst {LB : List Nat} {B B' : Nat → Nat → Int32} : (pB LB B').map (fun q => q.1) = (pB LB B).map (fun q => q.1) := by
  simp [pB, va_pl]
theorem bE_up {B : Nat → Nat → Int32} {b k : Nat} (hk : k < 6) (v : Int32) (a : Nat) : va_up (bE B) b (.inr (0, ([.int (B b 0), .int (B b 1), .int (B b 2), .int (B b 3), .int (B b 4), .int (B b 5)] : List Value).set k (.int v))) a = bE (up2 B b k v) a := by
  by_cases h : a = b
  · subst h
    match k, hk with
    | 0, _ => simp [va_up, bE, up2]
    | 1, _ => simp [va_up, bE, up2]
    | 2, _ => simp [va_up, bE, up2]
    | 3, _ => simp [va_up, bE, up2]
    | 4, _ => simp [va_up, bE, up2]
    | 5, _ => simp [va_up, bE, up2]
  · simp [va_up, bE, up2, h]
theorem bE_at {B : Nat → Nat → Int32} {b k : Nat} (hk : k < 6) : ([.int (B b 0), .int (B b 1), .int (B b 2), .int (B b 3), .int (B b 4), .int (B b 5)] : List Value)[k]? = some (.int (B b k)) := by
  match k, hk with
  | 0, _ => rfl
  | 1, _ => rfl
  | 2, _ => rfl
  | 3, _ => rfl
  | 4, _ => rfl
  | 5, _ => rfl
section MYB
variable {p : Program} {l : Launch} {e : Env} {R : Room} {s : State} {m : MethodId} {args : Array Value} {below : List Frame} {meth : Method} {c : Code} {H : Heap} {locs : List Loc} {cells slots : Nat} {Q : State → Prop}
variable {cc : ByteArray} {pc : Nat} {ls : Array Slot} {rest st0 : List Value} {D : va_G} {A : Nat → Prop} {H0 : Heap} {cyI cyO cyL : ClassId} {own host ref : String} {index : Nat} {Ts : List Cond} {X : va_W} {LB : List Nat} {B : Nat → Nat → Int32} {b : Nat}
theorem bus_getN (hx : p.tables.exec = Jvm.exec) (hb : c.code = cc) (hts : ∀ w ∈ Ts, w.before args s = true) (hin : ∀ w ∈ wsX00, w ∈ Ts) (hown : s.vm.findClass own = some m.cls) (hKK : KK D cyI cyO cyL s) (hP : va_P D vwCl (X ++ pB LB B) H) (hL : b ∈ LB) (k : Nat) (hk : k < 6) (hlink : (Cond.fieldLinkNest own index ref (TX0 k).2.1 (TX0 k).2.2.1 host).before args s = true) (hsame : ∀ x, s.fieldFound? (TX0 k).1 (TX0 k).2.1 (TX0 k).2.2.1 = some x → s.fieldFound? ref (TX0 k).2.1 (TX0 k).2.2.1 = some x) (hdg : decode cc pc = .ok (.getfield index, 3))
    (kk : W p l e R s m args below meth c H locs cells slots Q (F0 m (pc + 3) ls (.int (B b k) :: rest))) : W p l e R s m args below meth c H locs cells slots Q (F0 m pc ls (.ref b :: rest)) := by
  obtain ⟨q0, hq⟩ := va_pl_get (X := X) (f := bE B) hL
  exact va_getN (C := RX0) (T := TX0) (N := 6) hx hb hts hin hown hKK.1 hP q0 hq rfl k hk hlink hsame (bE_at hk) hdg kk
theorem bus_get (hx : p.tables.exec = Jvm.exec) (hb : c.code = cc) (hts : ∀ w ∈ Ts, w.before args s = true) (hin : ∀ w ∈ wsX00, w ∈ Ts) (hown : s.vm.findClass own = some m.cls) (hKK : KK D cyI cyO cyL s) (hP : va_P D vwCl (X ++ pB LB B) H) (hL : b ∈ LB) (k : Nat) (hk : k < 6) (hlink : (Cond.fieldLink own index ref (TX0 k).2.1 (TX0 k).2.2.1).before args s = true) (hsame : ∀ x, s.fieldFound? (TX0 k).1 (TX0 k).2.1 (TX0 k).2.2.1 = some x → s.fieldFound? ref (TX0 k).2.1 (TX0 k).2.2.1 = some x) (hdg : decode cc pc = .ok (.getfield index, 3))
    (kk : W p l e R s m args below meth c H locs cells slots Q (F0 m (pc + 3) ls (.int (B b k) :: rest))) : W p l e R s m args below meth c H locs cells slots Q (F0 m pc ls (.ref b :: rest)) := by
  obtain ⟨q0, hq⟩ := va_pl_get (X := X) (f := bE B) hL
  exact va_get (C := RX0) (T := TX0) (N := 6) hx hb hts hin hown hKK.1 hP q0 hq rfl k hk hlink hsame (bE_at hk) hdg kk
theorem bus_putN (hx : p.tables.exec = Jvm.exec) (hb : c.code = cc) (hts : ∀ w ∈ Ts, w.before args s = true) (hin : ∀ w ∈ wsX00, w ∈ Ts) (hown : s.vm.findClass own = some m.cls) (hKK : KK D cyI cyO cyL s) (hP : va_P D vwCl (X ++ pB LB B) H) (hD : va_D A (X ++ pB LB B)) (hS : va_S A H0 H locs) (hL : b ∈ LB) (k : Nat) (hk : k < 6) (hlink : (Cond.fieldLinkNest own index ref (TX0 k).2.1 (TX0 k).2.2.1 host).before args s = true) (hsame : ∀ x, s.fieldFound? (TX0 k).1 (TX0 k).2.1 (TX0 k).2.2.1 = some x → s.fieldFound? ref (TX0 k).2.1 (TX0 k).2.2.1 = some x) (hfin : (TX0 k).2.2.2 = false) {ty : FieldType} {v : Int32} (hd : parseFieldDescriptor (TX0 k).2.2.1 = some ty) (hn : narrow ty (.int v) = .int v) (hfit : fits ty (.int v) = true) (hdg : decode cc pc = .ok (.putfield index, 3))
    (kk : ∀ (H1 : Heap) (locs1 : List Loc), va_P D vwCl (X ++ pB LB (up2 B b k v)) H1 → va_D A (X ++ pB LB (up2 B b k v)) → va_S A H0 H1 locs1 → W p l e R s m args below meth c H1 locs1 cells slots Q (F0 m (pc + 3) ls rest)) : W p l e R s m args below meth c H locs cells slots Q (F0 m pc ls (.int v :: .ref b :: rest)) := by
  obtain ⟨q0, hq⟩ := va_pl_get (X := X) (f := bE B) hL
  have e9 := (va_pl_set (e := .inr (0, ([.int (B b 0), .int (B b 1), .int (B b 2), .int (B b 3), .int (B b 4), .int (B b 5)] : List Value).set k (.int v))) hD hL hq).trans (congrArg (fun z => X ++ z) (va_pl_congr (bE_up hk v)))
  refine va_putN (C := RX0) (T := TX0) (N := 6) hx hb hts hin tyX0 tyX0_ok nmX0 hown hKK.1 hP hD hS q0 hq rfl k hk hlink hsame hfin hd hn hfit (by simpa using hk) hdg (fun H1 locs1 hP1 hD1 hS1 => ?_)
  rw [e9] at hP1 hD1
  exact kk H1 locs1 hP1 hD1 hS1
theorem bus_put (hx : p.tables.exec = Jvm.exec) (hb : c.code = cc) (hts : ∀ w ∈ Ts, w.before args s = true) (hin : ∀ w ∈ wsX00, w ∈ Ts) (hown : s.vm.findClass own = some m.cls) (hKK : KK D cyI cyO cyL s) (hP : va_P D vwCl (X ++ pB LB B) H) (hD : va_D A (X ++ pB LB B)) (hS : va_S A H0 H locs) (hL : b ∈ LB) (k : Nat) (hk : k < 6) (hlink : (Cond.fieldLink own index ref (TX0 k).2.1 (TX0 k).2.2.1).before args s = true) (hsame : ∀ x, s.fieldFound? (TX0 k).1 (TX0 k).2.1 (TX0 k).2.2.1 = some x → s.fieldFound? ref (TX0 k).2.1 (TX0 k).2.2.1 = some x) (hfin : (TX0 k).2.2.2 = false) {ty : FieldType} {v : Int32} (hd : parseFieldDescriptor (TX0 k).2.2.1 = some ty) (hn : narrow ty (.int v) = .int v) (hfit : fits ty (.int v) = true) (hdg : decode cc pc = .ok (.putfield index, 3))
    (kk : ∀ (H1 : Heap) (locs1 : List Loc), va_P D vwCl (X ++ pB LB (up2 B b k v)) H1 → va_D A (X ++ pB LB (up2 B b k v)) → va_S A H0 H1 locs1 → W p l e R s m args below meth c H1 locs1 cells slots Q (F0 m (pc + 3) ls rest)) : W p l e R s m args below meth c H locs cells slots Q (F0 m pc ls (.int v :: .ref b :: rest)) := by
  obtain ⟨q0, hq⟩ := va_pl_get (X := X) (f := bE B) hL
  have e9 := (va_pl_set (e := .inr (0, ([.int (B b 0), .int (B b 1), .int (B b 2), .int (B b 3), .int (B b 4), .int (B b 5)] : List Value).set k (.int v))) hD hL hq).trans (congrArg (fun z => X ++ z) (va_pl_congr (bE_up hk v)))
  refine va_put (C := RX0) (T := TX0) (N := 6) hx hb hts hin tyX0 tyX0_ok nmX0 hown hKK.1 hP hD hS q0 hq rfl k hk hlink hsame hfin hd hn hfit (by simpa using hk) hdg (fun H1 locs1 hP1 hD1 hS1 => ?_)
  rw [e9] at hP1 hD1
  exact kk H1 locs1 hP1 hD1 hS1
end MYB
