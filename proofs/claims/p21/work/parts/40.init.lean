/-! constructors: contracts of methods that make cells -/
theorem int_row {D : va_G} {cl : List vw_C} {tys : List (ClassId × FieldType)} {U : State} {cB cy : ClassId} (i j : Nat) (hK : va_K D cl tys U) (h1 : tys[i]? = some (cB, .int)) (h2 : tys[j]? = some (cy, .int)) : cB = cy :=
  Option.some.inj (((hK.2 i _ h1).2).symm.trans ((hK.2 j _ h2).2))
theorem obj_row {D : va_G} {cl : List vw_C} {tys : List (ClassId × FieldType)} {U : State} {cB cy : ClassId} {C : String} (i j : Nat) (hK : va_K D cl tys U) (h1 : tys[i]? = some (cB, .object C)) (h2 : tys[j]? = some (cy, .object C)) : cB = cy := by
  obtain ⟨_, _, _, _, _, a⟩ := (hK.2 i _ h1).2
  obtain ⟨_, _, _, _, _, b⟩ := (hK.2 j _ h2).2
  exact Option.some.inj (a.symm.trans b)
def PA (D : va_G) (cyI cyO cyL : ClassId) (W : va_W) (sz : Nat) (U : State) : Prop := U.heap.size = sz ∧ va_P D vwCl W U.heap ∧ KK D cyI cyO cyL U ∧ va_AO RX0 U ∧ va_D (fun _ => True) W
theorem PA_blind {D : va_G} {cyI cyO cyL : ClassId} {W : va_W} {sz : Nat} {As : List Value} : FrameBlind (va_Pc As (PA D cyI cyO cyL W sz)) := by
  intro a U g mk q
  obtain ⟨q0, q1, qP, qK, qA, qD⟩ := q
  exact ⟨q0, q1, qP, ⟨va_K.moved (u := U) (U := U.calling g mk a) (Vm.Alike.refl U.vm) qK.1, NW.same (s := U) (U := U.calling g mk a) rfl qK.2⟩, va_AO.moved (u := U) (U := U.calling g mk a) (Vm.Alike.refl U.vm) qA, qD⟩
def cN {σ : Type} (l : Launch) (y : MethodName) (wy : List Cond) (rm : Room) (D : va_G) (cyI cyO cyL : ClassId) (As : List Value) (W : va_W) (W' : σ → va_W) (mc ms : Nat) : Prop :=
  ∀ sz : Nat, Met l y wy rm (va_Pc As (PA D cyI cyO cyL W sz)) (va_Qv (fun _ : σ => True) (fun u t => va_P D vwCl (W' u) t.heap ∧ va_D (va_A W sz) (W' u)) (va_A W sz)) mc ms (va_A W sz)
section MYA
variable {p : Program} {l : Launch} {e : Env} {R : Room} {s : State} {m : MethodId} {args : Array Value} {below : List Frame} {meth : Method} {c : Code} {H : Heap} {locs : List Loc} {cells slots : Nat} {Q : State → Prop}
variable {cc : ByteArray} {pc : Nat} {ls : Array Slot} {rest st0 : List Value} {D : va_G} {A : Nat → Prop} {a : Nat} {ws : va_W} {H0 : Heap} {cyI cyO cyL : ClassId} {ar : Array Value}
theorem run_IN {y : MethodName} {bytes : ByteArray} {maxL nL mc ms n index : Nat} {wy ws' Ts : List Cond} {rm : Room} {Qc : Array Value → State → Outcome → State → Prop} {free : Addr → Prop} {own host : String} {b : Addr} {As : List Value} {W1 : va_W}
    (S : CallFix p m c cc nL s args Ts own) (hM : Met l y wy rm (va_Pc (.ref b :: As) (PA D cyI cyO cyL W1 H.size)) Qc mc ms free)
    (gg : GoodIn Ts wy) (hw : wy = Cond.code y bytes maxL none :: ws') (hrc : rm.cells = mc) (hrs : rm.slots = ms) (hl : Cond.methodLinkNest own index y host ∈ nw_all) (hini : (Cond.initialized y.cls).before args s = true) (hin : (Cond.instanceMethod y).before args s = true) (hnm : y.name = "<init>")
    (hd : y.cls ≠ "java/lang/invoke/MethodHandle" ∧ y.cls ≠ "java/lang/invoke/VarHandle" ∧ (parseMethodDescriptor y.desc).map (fun d => d.parameters.length) = some n) (hR : rm.frames + 1 ≤ R.frames ∧ 8 + (maxL + 11) + rm.locals ≤ R.locals)
    (hKK : KK D cyI cyO cyL s) (hAO : va_AO RX0 s) (hPc : va_P D vwCl W1 H) (hDc : va_D A W1)
    (hn : As.length = n) (hsize : ls.size = nL) (hst : st0 = As.reverse ++ .ref b :: rest) (hcat : (rest.map fun v => v.category).sum ≤ 8) (hdg : decode cc pc = .ok (.invokespecial index, 3)) (hf : cells + mc ≤ R.cells ∧ slots + ms ≤ R.slots) :
    va_Run p l e R s m args below meth c H locs cells slots mc ms (F0 m pc ls st0) rest (Qc (Value.ref b :: As).toArray) free :=
  va_runIN S hM ⟨va_cnB n S.2.2.2.2 gg hw hrc hrs (hKK.2 _ hl) hini hd hR, hnm, hin⟩ ⟨PA_blind, fun U hU hW => ⟨rfl, by rw [hU], by rw [hU]; exact hPc, hKK.warm hW, va_AO.moved hW.alike hAO, hDc.weaken (fun _ _ _ _ => trivial)⟩⟩ rfl hn hsize hst (lv_room hcat) hdg hf
theorem run_I {y : MethodName} {bytes : ByteArray} {maxL nL mc ms n index : Nat} {wy ws' Ts : List Cond} {rm : Room} {Qc : Array Value → State → Outcome → State → Prop} {free : Addr → Prop} {own : String} {b : Addr} {As : List Value} {W1 : va_W}
    (S : CallFix p m c cc nL s args Ts own) (hM : Met l y wy rm (va_Pc (.ref b :: As) (PA D cyI cyO cyL W1 H.size)) Qc mc ms free)
    (gg : GoodIn Ts wy) (hw : wy = Cond.code y bytes maxL none :: ws') (hrc : rm.cells = mc) (hrs : rm.slots = ms) (hl : (Cond.methodLink own index y).before args s = true) (hini : (Cond.initialized y.cls).before args s = true) (hin : (Cond.instanceMethod y).before args s = true) (hnm : y.name = "<init>")
    (hd : y.cls ≠ "java/lang/invoke/MethodHandle" ∧ y.cls ≠ "java/lang/invoke/VarHandle" ∧ (parseMethodDescriptor y.desc).map (fun d => d.parameters.length) = some n) (hR : rm.frames + 1 ≤ R.frames ∧ 8 + (maxL + 11) + rm.locals ≤ R.locals)
    (hKK : KK D cyI cyO cyL s) (hAO : va_AO RX0 s) (hPc : va_P D vwCl W1 H) (hDc : va_D A W1)
    (hn : As.length = n) (hsize : ls.size = nL) (hst : st0 = As.reverse ++ .ref b :: rest) (hcat : (rest.map fun v => v.category).sum ≤ 8) (hdg : decode cc pc = .ok (.invokespecial index, 3)) (hf : cells + mc ≤ R.cells ∧ slots + ms ≤ R.slots) :
    va_Run p l e R s m args below meth c H locs cells slots mc ms (F0 m pc ls st0) rest (Qc (Value.ref b :: As).toArray) free :=
  va_runI S hM ⟨callB_of n S.2.2.2.2 gg hw hrc hrs hini hl hd hR, hnm, hin⟩ ⟨PA_blind, fun U hU hW => ⟨rfl, by rw [hU], by rw [hU]; exact hPc, hKK.warm hW, va_AO.moved hW.alike hAO, hDc.weaken (fun _ _ _ _ => trivial)⟩⟩ rfl hn hsize hst (lv_room hcat) hdg hf
theorem ret_A {σ : Type} {mc ms : Nat} {W1 wr : va_W} {W2 : σ → va_W} (hr : va_Run p l e R s m args below meth c H locs cells slots mc ms (F0 m pc ls st0) rest (va_Qv (fun _ : σ => True) (fun u t => va_P D vwCl (W2 u) t.heap ∧ va_D (va_A W1 H.size) (W2 u)) (va_A W1 H.size) ar) (va_A W1 H.size)) (hP : va_P D vwCl ws H) (hD : va_D A ws) (hS : va_S A H0 H locs) (hA : ∀ q, H0.size ≤ q → A q) (isC isR : List Nat) (hC : isC.map (fun i => ws[i]?) = W1.map some) (hRr : isR.map (fun i => ws[i]?) = wr.map some) (hnd : va_nd isR = true) (hdis : ∀ i ∈ isR, i ∉ isC)
    (kk : ∀ (u : σ) (H1 : Heap) (locs1 : List Loc), va_P D vwCl (wr ++ W2 u) H1 → va_D A (wr ++ W2 u) → va_S A H0 H1 locs1 → W p l e R s m args below meth c H1 locs1 (cells + mc) (slots + ms) Q (F0 m (pc + 3) ls rest)) : W p l e R s m args below meth c H locs cells slots Q (F0 m pc ls st0) := by
  have hF := va_free hD hS hA isC hC
  refine va_callv hr hS (fun q _ h => hF q h) hF (fun u t H1 locs ht hvm hw1 hB hz1 hk1 hS => ?_)
  rw [ht] at hB
  obtain ⟨a1, a2⟩ := va_join hP hD isC isR hC hRr hnd hdis hk1 hF hB.1 hB.2
  exact kk u H1 locs a1 a2 hS
theorem end_A {σ : Type} {W2 : σ → va_W} (u : σ) (hx : p.tables.exec = Jvm.exec) (hb : c.code = cc) (hr : meth.sig.returnType = none) (hlocks : meth.locks = false) (hP : va_P D vwCl (W2 u) H) (hD : va_D A (W2 u)) (hS : va_S A s.heap H locs) {c1 s1 : Nat} (hdg : decode cc pc = .ok (.return_, 1)) : W p l e R s m args below meth c H locs c1 s1 (MQ below (va_Qv (fun _ : σ => True) (fun u t => va_P D vwCl (W2 u) t.heap ∧ va_D A (W2 u)) A) args s c1 s1 A) (F0 m pc ls []) :=
  W.vret hx hb hr (fun t ht hW => ⟨⟨u, rfl, trivial, by show va_P D vwCl (W2 u) t.heap; rw [ht]; exact hP, hD⟩, hS.F ht⟩) hS.2.2 hdg hlocks
end MYA
/-- rows of ints while they are filled with -1 -/
def nsw (i : Nat) : Nat → Int32 := fun k => if k < i then -1 else 0
theorem nsw_0 : nsw 0 = fun _ => 0 := rfl
theorem nsw_s (i : Nat) : upd (nsw i) i (-1) = nsw (i + 1) := by
  funext k
  unfold upd nsw
  by_cases h : k = i
  · subst h
    simp
  · simp only [h, if_false]
    by_cases h2 : k < i
    · rw [if_pos h2, if_pos (by omega)]
    · rw [if_neg h2, if_neg (by omega)]
