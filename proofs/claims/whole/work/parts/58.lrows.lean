/-! the law's rows: calls of its own methods, of class and reference -/
theorem lg_cmp_self (x : Int64) : lg_cmp x x = 0 := by
  unfold lg_cmp
  rw [if_neg (Int64.lt_irrefl (a := x)), if_pos rfl]
section MYW
variable {p : Program} {l : Launch} {e : Env} {R : Room} {s : State} {m : MethodId} {args : Array Value} {below : List Frame} {meth : Method} {c : Code} {H : Heap} {locs : List Loc} {cells slots : Nat} {Q : State → Prop}
variable {cc : ByteArray} {pc : Nat} {ls : Array Slot} {rest st0 : List Value} {D : va_G} {A : Nat → Prop} {H0 : Heap} {cyI cyO cyL : ClassId}
theorem run_SU {y : MethodName} {bytes : ByteArray} {maxL nL n index : Nat} {ret : Option FieldType} {hh : List (Nat × Nat × Nat × Nat)} {wy ws' Ts : List Cond} {own : String} {As : List Value} {W1 W2 : va_W} {k : Int32}
    (S : CallFix p m c cc nL s args Ts own) (hM : cU l y wy RU D cyI cyO cyL As W1 W2 k) (gg : GoodIn Ts (va_wsS own index y wy)) (hw : wy = Cond.codeWith y bytes maxL ret hh :: ws')
    (hd : y.cls ≠ "java/lang/invoke/MethodHandle" ∧ y.cls ≠ "java/lang/invoke/VarHandle" ∧ (parseMethodDescriptor y.desc).map (fun d => d.parameters.length) = some n) (hR : 8 + 1 ≤ R.frames ∧ 8 + (maxL + 11) + 180 ≤ R.locals)
    (hKK : KK D cyI cyO cyL s) (hXE : XE (va_A W1 H.size) s H) (hNC : NCW s) (hPc : va_P D vwCl W1 H) (hDc : va_D A W1)
    (hn : As.length = n) (hsize : ls.size = nL) (hst : st0 = As.reverse ++ rest) (hcat : (rest.map fun v => v.category).sum ≤ 8) (hdg : decode cc pc = .ok (.invokestatic index, 3)) (hf : cells + 1 ≤ R.cells ∧ slots + 6 ≤ R.slots) :
    va_Run p l e R s m args below meth c H locs cells slots 1 6 (F0 m pc ls st0) rest (va_Qi (fun (x : Int32) (_ : Unit) => x = k) (fun _ t => va_P D vwCl W2 t.heap) (va_A W1 H.size) As.toArray) (va_A W1 H.size) :=
  vx_runSW S (hM H.size) (vx_cwSW n S.2.2.2.2 gg hw rfl rfl hd hR) ⟨PU_blind, fun U hU hW => ⟨rfl, ⟨by rw [hU], by rw [hU]; exact hPc, hKK.warm hW, by rw [hU]; exact hXE.warm hW, hDc.weaken (fun _ _ _ _ => trivial)⟩, NCW.moved hW.alike hNC⟩⟩ rfl hn hsize hst (lv_room hcat) hdg hf
theorem run_VL {y : MethodName} {bytes : ByteArray} {maxL nL n index : Nat} {ret : Option FieldType} {wy ws' Ts : List Cond} {rm : Room} {Qc : Array Value → State → Outcome → State → Prop} {free : Addr → Prop} {own : String} {b : Addr} {As : List Value} {W1 : va_W} {q : vw_C}
    (S : CallFix p m c cc nL s args Ts own) (hM : Met l y wy rm (va_Pc (.ref b :: As) (PP D cyI cyO cyL W1 H.size)) Qc 0 0 free) (gg : GoodIn Ts (wsV own index q.1 y wy)) (hw : wy = Cond.code y bytes maxL ret :: ws') (hrc : rm.cells = 0) (hrs : rm.slots = 0)
    (hd : y.cls = q.1 ∧ y.cls ≠ "java/lang/invoke/MethodHandle" ∧ y.cls ≠ "java/lang/invoke/VarHandle" ∧ (parseMethodDescriptor y.desc).map (fun d => d.parameters.length) = some n) (hR : rm.frames + 1 ≤ R.frames ∧ 8 + (maxL + 11) + rm.locals ≤ R.locals)
    (hKK : KK D cyI cyO cyL s) (hPc : va_P D vwCl W1 H) (hDc : va_D A W1) {q0 ci : Nat} {fs : List Value} (hc : vwCl[ci]? = some q) (he : W1[q0]? = some (b, .inr (ci, fs)))
    (hn : As.length = n) (hsize : ls.size = nL) (hst : st0 = As.reverse ++ .ref b :: rest) (hcat : (rest.map fun v => v.category).sum ≤ 8) (hdg : decode cc pc = .ok (.invokevirtual index, 3)) (hf : cells + 0 ≤ R.cells ∧ slots + 0 ≤ R.slots) :
    va_Run p l e R s m args below meth c H locs cells slots 0 0 (F0 m pc ls st0) rest (Qc (Value.ref b :: As).toArray) free :=
  va_runV (C := q.1) S hM (cwV n S.2.2.2.2 gg hw hrc hrs hd hR) ⟨PP_blind, va_recv hKK.1 hPc hc he, fun U hU hW => ⟨rfl, by rw [hU], by rw [hU]; exact hPc, hKK.warm hW, hDc.weaken (fun _ _ _ _ => trivial)⟩⟩ rfl hn hsize hst (lv_room hcat) hdg hf
end MYW
theorem WL_out {cyI cyO cyL : ClassId} (a : AX) (am : AM) (ao : Nat) (g g2 : SG) (o : Nat → Int64) : ((WXs cyI cyO a g ++ cO cyL ao o) ++ WMs cyI am g2)[30]? = some (ao, .inl (cyL, 1, .inr (.inl o))) := rfl
set_option maxHeartbeats 4000000 in
set_option maxRecDepth 100000 in
theorem c_X6_thrownW (l : Launch) (D : va_G) (cyI cyO cyL : ClassId) (aM : Nat) (ac : Nat) (as_ : Nat) (an : Nat) (ah : Nat) (th : Int32) (bu : Int32) (fd : Int32) (fn : Int32) (cd : Nat → Int32) (sw : Nat → Int32) (rn : Nat → Int32) (ra : Nat → Int32) : cI l yX6_thrown wsX6_thrown ({ frames := 0, cells := 0, slots := 0, locals := 0 }) D cyI cyO cyL [.ref aM] (cM aM ac as_ an ah th bu fd fn ++ cA cyI ac 8 cd ++ cA cyI as_ 12 sw ++ cA cyI an 121 rn ++ cA cyI ah 121 ra) (cM aM ac as_ an ah th bu fd fn ++ cA cyI ac 8 cd ++ cA cyI as_ 12 sw ++ cA cyI an 121 rn ++ cA cyI ah 121 ra) th := by
  intro sz
  refine Met.ofW (cc := cX6_thrown) (maxL := 1) (ret := (some .int)) (by decide) rfl ?_
  intro p e s m args below meth c s₁ B9 hml hv
  obtain ⟨rfl, hsz, hP, hKK, hD0⟩ := hv
  have hx := B9.exec
  have hb := B9.bytes
  have hrt := B9.returns
  have hts := atoms_spec (ws := wsX6_thrown) B9.pre
  have hown : s.vm.findClass RX6 = some m.cls := findClass_of_methodNamed B9.named
  have hlocks := B9.notSynchronized
  have nw := fun {w : Cond} (h : w ∈ nw_all) => NW.use (args := ([.ref aM] : List Value).toArray) hKK.2 h
  have iX6 : ∀ w ∈ wsX60, w ∈ wsX6_thrown := fun _ h => List.mem_cons_of_mem _ (List.mem_append_right _ h)
  subst hsz
  have hD := hD0.self (sz := s.heap.size)
  generalize hAe : va_A (cM aM ac as_ an ah th bu fd fn ++ cA cyI ac 8 cd ++ cA cyI as_ 12 sw ++ cA cyI an 121 rn ++ cA cyI ah 121 ra) s.heap.size = A at hD ⊢
  have hA : ∀ q : Nat, s.heap.size ≤ q → A q := fun q h => by rw [← hAe]; exact Or.inr h
  have hS : va_S A s.heap s.heap [] := va_S.rf
  have hl := lv_entry ([.ref aM]) (n := 1) (Nat.le_of_ble_eq_true rfl)
  rw [lg_entry_eq]
  generalize (lg_sl ([.ref aM]) ++ List.replicate (1 - (lg_sl ([.ref aM])).length) Slot.unset).toArray = ls at hl ⊢
  have hl : lv_has ls 1 [(0, .ref aM)] := hl
  refine lv_aload_n hx hb dX6_thrown_0 rfl (lv_at hl 0 rfl) ?_
  refine va_get (D := D) (ci := 6) (v := .int th) (C := RX6) (T := TX6) (N := 8) hx hb hts iX6 hown hKK.1 hP 0 rfl rfl 0 (by decide) (hts (.fieldLink RX6 1 "TrolleyGangModel" "thrown" "I") (List.mem_of_getElem? (i := 1) rfl)) (fun _ h9 => h9) rfl dX6_thrown_1 ?_
  have e9 : th = th := (by rfl)
  exact end_i hx hb hrt hlocks (by rw [e9]) hP hS dX6_thrown_4
theorem gi_thrown (l : Launch) (D : va_G) (cyI cyO cyL : ClassId) (am : AM) (g : SG) : GI l yX6_thrown wsX6_thrown D cyI cyO cyL [.ref am.1] (WMs cyI am g) (WMs cyI am g) g.2.2.2.2.2.2.2.2.1 :=
  gi_mk (c_X6_thrownW l D cyI cyO cyL am.1 (am.2 0) (am.2 1) (am.2 2) (am.2 3) g.2.2.2.2.2.2.2.2.1 (nI g.2.2.2.2.1) g.2.2.1 g.2.2.2.1 g.1 g.2.1 g.2.2.2.2.2.2.2.2.2.1 g.2.2.2.2.2.2.2.2.2.2) rfl rfl (Nat.le_of_ble_eq_true rfl) (Nat.le_of_ble_eq_true rfl)
