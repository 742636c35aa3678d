/-! rows of throwing -/
theorem keepP {A0 : Nat → Prop} {D : va_G} {cl : List vw_C} {ws W1 : va_W} {H H1 : Heap} (hP : va_P D cl ws H) (hD : va_D A0 ws) (isC : List Nat) (hC : isC.map (fun i => ws[i]?) = W1.map some) (hk : ∀ q : Nat, q < H.size → ¬ va_A W1 H.size q → H1[q]? = H[q]?) (hP1 : va_P D cl W1 H1) : va_P D cl ws H1 := by
  intro k q hq
  by_cases hm : k ∈ isC
  · obtain ⟨j, hj⟩ := List.getElem?_of_mem hm
    have h1 : (isC.map (fun i => ws[i]?))[j]? = some (ws[k]?) := by rw [List.getElem?_map, hj]; rfl
    rw [hC, List.getElem?_map] at h1
    cases h4 : W1[j]? with
    | none => rw [h4] at h1; cases h1
    | some r =>
      rw [h4] at h1
      have h5 : some r = ws[k]? := Option.some.inj h1
      rw [hq] at h5
      cases h5
      exact hP1 j q h4
  · have hl := (hP k q hq).lt
    refine (hP k q hq).kept (hk q.1 hl fun h => ?_)
    rcases h with ⟨k2, e, h⟩ | h
    · obtain ⟨j, h3, h4⟩ := at_places hC k2 (q.1, e) h
      have hij := hD.1 k j q (q.1, e) hq h4 rfl
      subst hij
      exact hm (List.mem_of_getElem? h3)
    · omega
section MYB
variable {p : Program} {l : Launch} {e : Env} {R : Room} {s : State} {m : MethodId} {args : Array Value} {below : List Frame} {meth : Method} {c : Code} {H : Heap} {locs : List Loc} {cells slots : Nat} {Q : State → Prop}
variable {cc : ByteArray} {pc : Nat} {ls : Array Slot} {rest st0 : List Value} {D : va_G} {A : Nat → Prop} {a : Nat} {ws : va_W} {H0 : Heap} {cyI cyO cyL : ClassId} {ar : Array Value}
theorem runX_S {y : MethodName} {bytes : ByteArray} {maxL nL n index : Nat} {ret : Option FieldType} {wy ws' Ts : List Cond} {rm : Room} {XC : String → State → State → Prop} {Qc : Array Value → State → Outcome → State → Prop} {free : Addr → Prop} {own : String} {As : List Value} {W1 : va_W}
    (S : CallFix p m c cc nL s args Ts own) (hM : vx_Met l y wy rm (va_Pc As (PX D cyI cyO cyL W1 H.size)) Qc XC 1 6 free)
    (gg : GoodIn Ts wy) (hw : wy = Cond.code y bytes maxL ret :: ws') (hrc : rm.cells = 1) (hrs : rm.slots = 6) (hl : (Cond.methodLink own index y).before args s = true) (hini : (Cond.initialized y.cls).before args s = true) (hsc : (Cond.static y).before args s = true)
    (hd : y.cls ≠ "java/lang/invoke/MethodHandle" ∧ y.cls ≠ "java/lang/invoke/VarHandle" ∧ (parseMethodDescriptor y.desc).map (fun d => d.parameters.length) = some n) (hR : rm.frames + 1 ≤ R.frames ∧ 8 + (maxL + 11) + rm.locals ≤ R.locals)
    (hKK : KK D cyI cyO cyL s) (hXE : XE (va_A W1 H.size) s H) (hPc : va_P D vwCl W1 H) (hDc : va_D A W1)
    (hn : As.length = n) (hsize : ls.size = nL) (hst : st0 = As.reverse ++ rest) (hcat : (rest.map fun v => v.category).sum ≤ 8) (hdg : decode cc pc = .ok (.invokestatic index, 3)) (hf : cells + 1 ≤ R.cells ∧ slots + 6 ≤ R.slots) :
    vx_Run p l e R s m args below meth c H locs cells slots 1 6 (F0 m pc ls st0) rest (Qc As.toArray) XC free :=
  vx_runS S hM ⟨callB_of n S.2.2.2.2 gg hw hrc hrs hini hl hd hR, hsc⟩ ⟨PX_blind, fun U hU hW => ⟨rfl, by rw [hU], by rw [hU]; exact hPc, hKK.warm hW, by rw [hU]; exact hXE.warm hW, hDc.weaken (fun _ _ _ _ => trivial)⟩⟩ rfl hn hsize hst (lv_room hcat) hdg hf
theorem runX_V {y : MethodName} {bytes : ByteArray} {maxL nL n index : Nat} {ret : Option FieldType} {wy ws' Ts : List Cond} {rm : Room} {XC : String → State → State → Prop} {Qc : Array Value → State → Outcome → State → Prop} {free : Addr → Prop} {own : String} {b : Addr} {As : List Value} {W1 : va_W}
    (S : CallFix p m c cc nL s args Ts own) (hM : vx_Met l y wy rm (va_Pc (.ref b :: As) (PX D cyI cyO cyL W1 H.size)) Qc XC 1 6 free)
    (gg : GoodIn Ts wy) (hw : wy = Cond.code y bytes maxL ret :: ws') (hrc : rm.cells = 1) (hrs : rm.slots = 6) (hl : (Cond.methodLink own index y).before args s = true) (hini : (Cond.initialized y.cls).before args s = true) (hin : (Cond.instanceMethod y).before args s = true)
    {q : vw_C} (hse : (Cond.selects q.1 y y).before args s = true) (hd : y.cls ≠ "java/lang/invoke/MethodHandle" ∧ y.cls ≠ "java/lang/invoke/VarHandle" ∧ (parseMethodDescriptor y.desc).map (fun d => d.parameters.length) = some n) (hR : rm.frames + 1 ≤ R.frames ∧ 8 + (maxL + 11) + rm.locals ≤ R.locals)
    (hKK : KK D cyI cyO cyL s) (hXE : XE (va_A W1 H.size) s H) (hPc : va_P D vwCl W1 H) (hDc : va_D A W1) {q0 ci : Nat} {fs : List Value} (hc : vwCl[ci]? = some q) (he : W1[q0]? = some (b, .inr (ci, fs)))
    (hn : As.length = n) (hsize : ls.size = nL) (hst : st0 = As.reverse ++ .ref b :: rest) (hcat : (rest.map fun v => v.category).sum ≤ 8) (hdg : decode cc pc = .ok (.invokevirtual index, 3)) (hf : cells + 1 ≤ R.cells ∧ slots + 6 ≤ R.slots) :
    vx_Run p l e R s m args below meth c H locs cells slots 1 6 (F0 m pc ls st0) rest (Qc (Value.ref b :: As).toArray) XC free :=
  vx_runV (C := q.1) S hM ⟨callB_of n S.2.2.2.2 gg hw hrc hrs hini hl hd hR, hin, hse⟩ ⟨PX_blind, va_recv hKK.1 hPc hc he, fun U hU hW => ⟨rfl, by rw [hU], by rw [hU]; exact hPc, hKK.warm hW, by rw [hU]; exact hXE.warm hW, hDc.weaken (fun _ _ _ _ => trivial)⟩⟩ rfl hn hsize hst (lv_room hcat) hdg hf
/-- the callee throws -/
theorem thr {W1 : va_W} {X : String} (hr : vx_Run p l e R s m args below meth c H locs cells slots 1 6 (F0 m pc ls st0) rest (fun _ _ _ => False) (vx_X (fun _ : Unit => True) (fun E _ t => E = X ∧ va_P D vwCl W1 t.heap) (va_A W1 H.size)) (va_A W1 H.size)) (hP : va_P D vwCl ws H) (hD : va_D A ws) (hS : va_S A H0 H locs) (hF : ∀ q, va_A W1 H.size q → A q) (isC : List Nat) (hC : isC.map (fun i => ws[i]?) = W1.map some)
    (kx : ∀ (ce : Cell) (q9 : Addr) (H1 : Heap) (locs1 : List Loc), va_P D vwCl ws H1 → va_S A H0 H1 locs1 → H1[q9]? = some ce → ce.vm = .none → s.vm.findClass X = some ce.cls → H.size ≤ H1.size → (∀ q : Nat, q < H.size → ¬ va_A W1 H.size q → H1[q]? = H[q]?) → vx_W p l e R s m args below meth c H1 locs1 (cells + 1) (slots + 6) Q (F0 m pc ls rest) q9) : W p l e R s m args below meth c H locs cells slots Q (F0 m pc ls st0) := by
  intro T hT X9
  rcases hr T hT X9 with ⟨v, st₀, t, T', L, h0, X', hL, e1, e2, hf, st⟩ | ⟨q, st₀, t, T', L, E, ce, h0, X', hL, e1, e2, ⟨u, hp, ⟨rfl, hb⟩, hF9⟩, hce, hcv, hcl, st⟩
  · exact hf.elim
  · obtain ⟨k1, k2, k3⟩ := vx_keep h0 e1 hS (fun q _ h => hF q h) hF hL hF9
    obtain ⟨t2, a1, b1⟩ := kx ce q T'.heap (locs ++ L) (keepP hP hD isC hC k2 (by rw [e1]; exact hb)) k3 (by rw [e1]; exact hce) hcv hcl k1 k2 T' rfl X'
    exact ⟨t2, st.trans a1, b1⟩
/-- it goes on to the caller -/
theorem out_X {W : va_W} {X : String} {ce : Cell} {q9 : Addr} (ht : ∀ x ∈ c.exceptionTable.toList, False) (hlocks : meth.locks = false) (hP : va_P D vwCl W H) (hS : va_S A s.heap H locs) (hce : H[q9]? = some ce) (hcv : ce.vm = .none) (hcl : s.vm.findClass X = some ce.cls) (hc : cells ≤ 1) (hs : slots ≤ 6) :
    vx_W p l e R s m args below meth c H locs cells slots (vx_MQ below (fun _ _ _ _ => False) (vx_X (fun _ : Unit => True) (fun E _ t => E = X ∧ va_P D vwCl W t.heap) A) args s 1 6 A) (F0 m pc ls rest) q9 :=
  vx_out (fun x hx => (ht x hx).elim) hlocks hce hcv hcl (fun t ht hW => ⟨(), trivial, ⟨rfl, by rw [ht]; exact hP⟩, by rw [ht]; exact hS.1, fun q h1 h2 => by rw [ht]; exact hS.2.1 q h1 h2⟩) hS.2.2 hc hs
/-- throw new X("..") -/
theorem throw_S {W9 : va_W} {X text : String} {ik is ic : Nat} (hx : p.tables.exec = Jvm.exec) (hb : c.code = cc) (hlf : l.stackTraces = false) (hown : s.vm.findClass RX5 = some m.cls) (hcls : Bundle.fit X = true)
    (hk : (Cond.classLink RX5 ik X).before args s = true) (hini : (Cond.initialized X).before args s = true) (hsr : (is, text) ∈ srAll) (hXE : XE A s s.heap) (h1 : ∀ w ∈ (vx_atS RX5 ic X xNames).filter goodWord, w.before args s = true) (hng : ∀ w ∈ (vx_atS RX5 ic X xNames).filter (fun w => !goodWord w), w ∈ ngAll)
    (hgood : ∀ w ∈ Cond.classLink RX5 ik X :: Cond.initialized X :: vx_atS RX5 ic X xNames, vx_ot w = true)
    (hP : va_P D vwCl W9 H) (hS : va_S A s.heap H locs) (hsize : ls.size = c.maxLocals)
    (d0 : decode cc pc = .ok (.new ik, 3)) (d3 : decode cc (pc + 3) = .ok (.dup, 1)) (d4 : decode cc (pc + 4) = .ok (.ldc is, 2)) (d6 : decode cc (pc + 6) = .ok (.invokespecial ic, 3)) (d9 : decode cc (pc + 9) = .ok (.athrow, 1))
    (ht : ∀ x ∈ c.exceptionTable.toList, False) (hRf : 5 < R.frames) (hRl : 82 ≤ R.locals) (hRc : 1 ≤ R.cells) (hRs : 6 ≤ R.slots) (hlocks : meth.locks = false) :
    W p l e R s m args below meth c H locs 0 0 (vx_MQ below (fun _ _ _ _ => False) (vx_X (fun _ : Unit => True) (fun E _ t => E = X ∧ va_P D vwCl W9 t.heap) A) args s 1 6 A) (F0 m pc ls []) := by
  obtain ⟨sa, hstr⟩ := hXE.2.1 _ hsr
  exact vx_throwS (names := xNames) hx hb hlf hown hcls (by decide +kernel) hk hini hstr (vx_hat h1 hng (NGW.use hXE.1)) hgood hXE.2.2.1 hXE.2.2.2 hS hsize d0 d3 d4 d6 d9 (fun x hx => (ht x hx).elim) hRf hRl hRc hRs hlocks
    (fun t hA h2 h3 => ⟨(), trivial, ⟨rfl, hP.kept fun k x hx => h3 x.1 (hP k x hx).lt⟩, Nat.le_trans hS.1 h2, fun q g1 g2 => (h3 q (Nat.lt_of_lt_of_le g1 hS.1)).trans (hS.2.1 q g1 g2)⟩) hS.2.2 (Nat.le_refl _) (Nat.le_refl _)
end MYB
theorem hg_1 : ∀ w ∈ Cond.classLink RX5 26 IOOB :: Cond.initialized IOOB :: vx_atS RX5 30 IOOB xNames, vx_ot w = true := by decide +kernel
theorem hg_2 : ∀ w ∈ Cond.classLink RX5 33 IARG :: Cond.initialized IARG :: vx_atS RX5 37 IARG xNames, vx_ot w = true := by decide +kernel
theorem hg_3 : ∀ w ∈ Cond.classLink RX5 69 ISTA :: Cond.initialized ISTA :: vx_atS RX5 73 ISTA xNames, vx_ot w = true := by decide +kernel
