/-! the law: worlds side by side, whole; contracts of its own methods -/
abbrev cO (cyL : ClassId) (ao : Nat) (o : Nat → Int64) : va_W := [(ao, .inl (cyL, 1, .inr (.inl o)))]
theorem preP {D : va_G} {cl : List vw_C} {X Y : va_W} {H : Heap} (h : va_P D cl (X ++ Y) H) : va_P D cl X H := fun k q hq => h k q (by rw [List.getElem?_append_left (List.getElem?_eq_some_iff.mp hq).1]; exact hq)
theorem sufP {D : va_G} {cl : List vw_C} {X Y : va_W} {H : Heap} (h : va_P D cl (X ++ Y) H) : va_P D cl Y H := fun k q hq => h (X.length + k) q (by rw [List.getElem?_append_right (Nat.le_add_right _ _), Nat.add_sub_cancel_left]; exact hq)
theorem sufD {A : Nat → Prop} {X Y : va_W} (h : va_D A (X ++ Y)) : va_D A Y := ⟨fun i j x y hi hj e => by
  have h9 := h.1 (X.length + i) (X.length + j) x y (by rw [List.getElem?_append_right (Nat.le_add_right _ _), Nat.add_sub_cancel_left]; exact hi) (by rw [List.getElem?_append_right (Nat.le_add_right _ _), Nat.add_sub_cancel_left]; exact hj) e
  omega, fun k q hk => h.2 (X.length + k) q (by rw [List.getElem?_append_right (Nat.le_add_right _ _), Nat.add_sub_cancel_left]; exact hk)⟩
theorem call_pre {A0 : Nat → Prop} {D : va_G} {cl : List vw_C} {X X' Y : va_W} {H H1 : Heap} (hP : va_P D cl (X ++ Y) H) (hD : va_D A0 (X ++ Y)) (hf : X'.map (fun q => q.1) = X.map (fun q => q.1)) (hk : ∀ q : Nat, q < H.size → ¬ va_A X H.size q → H1[q]? = H[q]?) (hP1 : va_P D cl X' H1) : va_P D cl (X' ++ Y) H1 ∧ va_D A0 (X' ++ Y) := by
  have hl : X'.length = X.length := by simpa using congrArg List.length hf
  refine ⟨fun k q hq => ?_, D_by hD fun k q hq => ?_⟩
  · by_cases hkl : k < X'.length
    · rw [List.getElem?_append_left hkl] at hq
      exact hP1 k q hq
    · have hq' : (X ++ Y)[k]? = some q := by
        rw [List.getElem?_append_right (by omega)] at hq
        rw [List.getElem?_append_right (by omega), ← hl]
        exact hq
      refine (hP k q hq').kept (hk q.1 (hP k q hq').lt fun h => ?_)
      rcases h with ⟨k2, e, h⟩ | h
      · have h3 := (List.getElem?_eq_some_iff.mp h).1
        have h2 : (X ++ Y)[k2]? = some (q.1, e) := by rw [List.getElem?_append_left h3]; exact h
        have h4 := hD.1 k k2 q (q.1, e) hq' h2 rfl
        omega
      · have h4 := (hP k q hq').lt
        omega
  · by_cases hkl : k < X'.length
    · rw [List.getElem?_append_left hkl] at hq
      have h3 : (X.map (fun q => q.1))[k]? = some q.1 := by rw [← hf, List.getElem?_map, hq]; rfl
      rw [List.getElem?_map] at h3
      cases h4 : X[k]? with
      | none => rw [h4] at h3; cases h3
      | some r =>
        rw [h4] at h3
        exact ⟨r, by rw [List.getElem?_append_left (by omega)]; exact h4, Option.some.inj h3⟩
    · refine ⟨q, ?_, rfl⟩
      rw [List.getElem?_append_right (by omega)] at hq
      rw [List.getElem?_append_right (by omega), ← hl]
      exact hq
theorem call_suf {A0 : Nat → Prop} {D : va_G} {cl : List vw_C} {X Y Y' : va_W} {H H1 : Heap} (hP : va_P D cl (X ++ Y) H) (hD : va_D A0 (X ++ Y)) (hf : Y'.map (fun q => q.1) = Y.map (fun q => q.1)) (hk : ∀ q : Nat, q < H.size → ¬ va_A Y H.size q → H1[q]? = H[q]?) (hP1 : va_P D cl Y' H1) : va_P D cl (X ++ Y') H1 ∧ va_D A0 (X ++ Y') := by
  refine ⟨fun k q hq => ?_, D_by hD fun k q hq => ?_⟩
  · by_cases hkl : k < X.length
    · have hq' : (X ++ Y)[k]? = some q := by
        rw [List.getElem?_append_left hkl] at hq
        rw [List.getElem?_append_left hkl]
        exact hq
      refine (hP k q hq').kept (hk q.1 (hP k q hq').lt fun h => ?_)
      rcases h with ⟨k2, e, h⟩ | h
      · have h2 : (X ++ Y)[X.length + k2]? = some (q.1, e) := by rw [List.getElem?_append_right (Nat.le_add_right _ _), Nat.add_sub_cancel_left]; exact h
        have h4 := hD.1 k (X.length + k2) q (q.1, e) hq' h2 rfl
        omega
      · have h4 := (hP k q hq').lt
        omega
    · rw [List.getElem?_append_right (by omega)] at hq
      exact hP1 _ q hq
  · by_cases hkl : k < X.length
    · refine ⟨q, ?_, rfl⟩
      rw [List.getElem?_append_left hkl] at hq
      rw [List.getElem?_append_left hkl]
      exact hq
    · rw [List.getElem?_append_right (by omega)] at hq
      have h3 : (Y.map (fun q => q.1))[k - X.length]? = some q.1 := by rw [← hf, List.getElem?_map, hq]; rfl
      rw [List.getElem?_map] at h3
      cases h4 : Y[k - X.length]? with
      | none => rw [h4] at h3; cases h3
      | some r =>
        rw [h4] at h3
        exact ⟨r, by rw [List.getElem?_append_right (by omega)]; exact h4, Option.some.inj h3⟩
/-- what the law's handlers pass over -/
def NCW (U : State) : Prop := va_Nc IARG IOOB U ∧ va_Nc ISTA IOOB U ∧ va_Nc IOOB IARG U
def PU (D : va_G) (cyI cyO cyL : ClassId) (W : va_W) (sz : Nat) (U : State) : Prop := PX D cyI cyO cyL W sz U ∧ NCW U
theorem NCW.moved {u U : State} (hvm : u.vm.Alike U.vm) (h : NCW u) : NCW U := ⟨va_Nc.moved hvm h.1, va_Nc.moved hvm h.2.1, va_Nc.moved hvm h.2.2⟩
theorem PU_blind {D : va_G} {cyI cyO cyL : ClassId} {W : va_W} {sz : Nat} {As : List Value} : FrameBlind (va_Pc As (PU D cyI cyO cyL W sz)) := by
  intro a U g mk q
  obtain ⟨q0, ⟨q1, qP, qK, qX, qD⟩, qN⟩ := q
  exact ⟨q0, ⟨q1, qP, ⟨va_K.moved (u := U) (U := U.calling g mk a) (Vm.Alike.refl U.vm) qK.1, NW.same (s := U) (U := U.calling g mk a) rfl qK.2⟩, XE.same (s := U) (U := U.calling g mk a) rfl qX, qD⟩, NCW.moved (u := U) (U := U.calling g mk a) (Vm.Alike.refl U.vm) qN⟩
/-- a method of the law's own: W becomes W', the answer is k, one cell may be new (a throw's) -/
def cU (l : Launch) (y : MethodName) (wy : List Cond) (rm : Room) (D : va_G) (cyI cyO cyL : ClassId) (As : List Value) (W W' : va_W) (k : Int32) : Prop :=
  ∀ sz : Nat, Met l y wy rm (va_Pc As (PU D cyI cyO cyL W sz)) (va_Qi (fun (x : Int32) (_ : Unit) => x = k) (fun _ t => va_P D vwCl W' t.heap) (va_A W sz)) 1 6 (va_A W sz)
/-- contracts in some room that the law has -/
def GI (l : Launch) (y : MethodName) (wy : List Cond) (D : va_G) (cyI cyO cyL : ClassId) (As : List Value) (W W' : va_W) (r : Int32) : Prop := ∃ rm : Room, rm.cells = 0 ∧ rm.slots = 0 ∧ rm.frames ≤ 7 ∧ rm.locals ≤ 150 ∧ cI l y wy rm D cyI cyO cyL As W W' r
def GL (l : Launch) (y : MethodName) (wy : List Cond) (D : va_G) (cyI cyO cyL : ClassId) (As : List Value) (W W' : va_W) (r : Int64) : Prop := ∃ rm : Room, rm.cells = 0 ∧ rm.slots = 0 ∧ rm.frames ≤ 7 ∧ rm.locals ≤ 150 ∧ cL l y wy rm D cyI cyO cyL As W W' r
def GD (l : Launch) (y : MethodName) (wy : List Cond) (D : va_G) (cyI cyO cyL : ClassId) (As : List Value) (W W' : va_W) (r : UInt64) : Prop := ∃ rm : Room, rm.cells = 0 ∧ rm.slots = 0 ∧ rm.frames ≤ 7 ∧ rm.locals ≤ 150 ∧ cD l y wy rm D cyI cyO cyL As W W' r
def GB (l : Launch) (y : MethodName) (wy : List Cond) (D : va_G) (cyI cyO cyL : ClassId) (As : List Value) (W : va_W) (X : String) : Prop := ∃ rm : Room, rm.cells = 1 ∧ rm.slots = 6 ∧ rm.frames ≤ 7 ∧ rm.locals ≤ 150 ∧ cB l y wy rm D cyI cyO cyL As W X
abbrev RU : Room := { frames := 8, cells := 1, slots := 6, locals := 180 }
section MYL
variable {p : Program} {l : Launch} {e : Env} {R : Room} {s : State} {m : MethodId} {args : Array Value} {below : List Frame} {meth : Method} {c : Code} {H : Heap} {locs : List Loc} {cells slots : Nat} {Q : State → Prop}
variable {cc : ByteArray} {pc : Nat} {ls : Array Slot} {rest st0 : List Value} {D : va_G} {A : Nat → Prop} {a : Nat} {ws ws1 : va_W} {H0 : Heap} {cyI cyO cyL : ClassId} {ar : Array Value}
theorem ret_iJ {W1 W2 : va_W} {r : Int32} {mc ms : Nat} (hr : va_Run p l e R s m args below meth c H locs cells slots mc ms (F0 m pc ls st0) rest (va_Qi (fun (x : Int32) (_ : Unit) => x = r) (fun _ t => va_P D vwCl W2 t.heap) (va_A W1 H.size) ar) (va_A W1 H.size)) (hS : va_S A H0 H locs) (hF : ∀ q, va_A W1 H.size q → A q) (hj : ∀ H1 : Heap, (∀ q : Nat, q < H.size → ¬ va_A W1 H.size q → H1[q]? = H[q]?) → va_P D vwCl W2 H1 → va_P D vwCl ws1 H1 ∧ va_D A ws1)
    (kk : ∀ (H1 : Heap) (locs1 : List Loc), va_P D vwCl ws1 H1 → va_D A ws1 → va_S A H0 H1 locs1 → W p l e R s m args below meth c H1 locs1 (cells + mc) (slots + ms) Q (F0 m (pc + 3) ls (.int r :: rest))) : W p l e R s m args below meth c H locs cells slots Q (F0 m pc ls st0) := by
  refine va_calli hr hS (fun q _ h => hF q h) hF (fun r' u t H1 locs ht hvm hw1 hB hz1 hk1 hS => ?_)
  rw [ht] at hB
  subst hw1
  obtain ⟨a1, a2⟩ := hj H1 hk1 hB
  exact kk H1 locs a1 a2 hS
theorem ret_lJ {W1 W2 : va_W} {r : Int64} {mc ms : Nat} (hr : va_Run p l e R s m args below meth c H locs cells slots mc ms (F0 m pc ls st0) rest (va_Ql (fun (x : Int64) (_ : Unit) => x = r) (fun _ t => va_P D vwCl W2 t.heap) (va_A W1 H.size) ar) (va_A W1 H.size)) (hS : va_S A H0 H locs) (hF : ∀ q, va_A W1 H.size q → A q) (hj : ∀ H1 : Heap, (∀ q : Nat, q < H.size → ¬ va_A W1 H.size q → H1[q]? = H[q]?) → va_P D vwCl W2 H1 → va_P D vwCl ws1 H1 ∧ va_D A ws1)
    (kk : ∀ (H1 : Heap) (locs1 : List Loc), va_P D vwCl ws1 H1 → va_D A ws1 → va_S A H0 H1 locs1 → W p l e R s m args below meth c H1 locs1 (cells + mc) (slots + ms) Q (F0 m (pc + 3) ls (.long r :: rest))) : W p l e R s m args below meth c H locs cells slots Q (F0 m pc ls st0) := by
  refine va_calll hr hS (fun q _ h => hF q h) hF (fun r' u t H1 locs ht hvm hw1 hB hz1 hk1 hS => ?_)
  rw [ht] at hB
  subst hw1
  obtain ⟨a1, a2⟩ := hj H1 hk1 hB
  exact kk H1 locs a1 a2 hS
theorem ret_dJ {W1 W2 : va_W} {r : UInt64} {mc ms : Nat} (hr : va_Run p l e R s m args below meth c H locs cells slots mc ms (F0 m pc ls st0) rest (va_Qd (fun (x : UInt64) (_ : Unit) => x = r) (fun _ t => va_P D vwCl W2 t.heap) (va_A W1 H.size) ar) (va_A W1 H.size)) (hS : va_S A H0 H locs) (hF : ∀ q, va_A W1 H.size q → A q) (hj : ∀ H1 : Heap, (∀ q : Nat, q < H.size → ¬ va_A W1 H.size q → H1[q]? = H[q]?) → va_P D vwCl W2 H1 → va_P D vwCl ws1 H1 ∧ va_D A ws1)
    (kk : ∀ (H1 : Heap) (locs1 : List Loc), va_P D vwCl ws1 H1 → va_D A ws1 → va_S A H0 H1 locs1 → W p l e R s m args below meth c H1 locs1 (cells + mc) (slots + ms) Q (F0 m (pc + 3) ls (.double r :: rest))) : W p l e R s m args below meth c H locs cells slots Q (F0 m pc ls st0) := by
  refine va_calld hr hS (fun q _ h => hF q h) hF (fun r' u t H1 locs ht hvm hw1 hB hz1 hk1 hS => ?_)
  rw [ht] at hB
  subst hw1
  obtain ⟨a1, a2⟩ := hj H1 hk1 hB
  exact kk H1 locs a1 a2 hS
/-- the callee throws, the law's method goes on in its table -/
theorem thrJ {W1 : va_W} {X : String} (hr : vx_Run p l e R s m args below meth c H locs cells slots 1 6 (F0 m pc ls st0) rest (fun _ _ _ => False) (vx_X (fun _ : Unit => True) (fun E _ t => E = X ∧ va_P D vwCl W1 t.heap) (va_A W1 H.size)) (va_A W1 H.size)) (hS : va_S A H0 H locs) (hF : ∀ q, va_A W1 H.size q → A q) (hj : ∀ H1 : Heap, (∀ q : Nat, q < H.size → ¬ va_A W1 H.size q → H1[q]? = H[q]?) → va_P D vwCl W1 H1 → va_P D vwCl ws1 H1 ∧ va_D A ws1)
    (kx : ∀ (ce : Cell) (q9 : Addr) (H1 : Heap) (locs1 : List Loc), va_P D vwCl ws1 H1 → va_D A ws1 → va_S A H0 H1 locs1 → H1[q9]? = some ce → ce.vm = .none → s.vm.findClass X = some ce.cls → vx_W p l e R s m args below meth c H1 locs1 (cells + 1) (slots + 6) Q (F0 m pc ls rest) q9) : W p l e R s m args below meth c H locs cells slots Q (F0 m pc ls st0) := by
  intro T hT X9
  rcases hr T hT X9 with ⟨v, st₀, t, T', L, h0, X', hL, e1, e2, hf, st⟩ | ⟨q, st₀, t, T', L, E, ce, h0, X', hL, e1, e2, ⟨u, hp, ⟨rfl, hb⟩, hF9⟩, hce, hcv, hcl, st⟩
  · exact hf.elim
  · obtain ⟨k1, k2, k3⟩ := vx_keep h0 e1 hS (fun q _ h => hF q h) hF hL hF9
    obtain ⟨a1, a2⟩ := hj T'.heap k2 (by rw [e1]; exact hb)
    obtain ⟨t2, a1, b1⟩ := kx ce q T'.heap (locs ++ L) a1 a2 k3 (by rw [e1]; exact hce) hcv hcl T' rfl X'
    exact ⟨t2, st.trans a1, b1⟩
/-- out[0] -/
theorem out_at {X : va_W} {ao : Nat} {o : Nat → Int64} : (X ++ cO cyL ao o)[X.length]? = some (ao, .inl (cyL, 1, .inr (.inl o))) := by
  rw [List.getElem?_append_right (Nat.le_refl _), Nat.sub_self]
  rfl
theorem out_set {X : va_W} {ao : Nat} {o o' : Nat → Int64} : (X ++ cO cyL ao o).set X.length (ao, .inl (cyL, 1, .inr (.inl o'))) = X ++ cO cyL ao o' := by
  rw [List.set_append_right _ _ (Nat.le_refl _), Nat.sub_self]
  rfl
theorem out_st {X : va_W} {ao : Nat} {o : Nat → Int64} {x : Int64} (hx : p.tables.exec = Jvm.exec) (hb : c.code = cc) (hKK : KK D cyI cyO cyL s) (hP : va_P D vwCl (X ++ cO cyL ao o) H) (hD : va_D A (X ++ cO cyL ao o)) (hS : va_S A H0 H locs) (hdg : decode cc pc = .ok (.lastore, 1))
    (kk : ∀ (H1 : Heap) (locs1 : List Loc), va_P D vwCl (X ++ cO cyL ao (vp_updL o 0 x)) H1 → va_D A (X ++ cO cyL ao (vp_updL o 0 x)) → va_S A H0 H1 locs1 → W p l e R s m args below meth c H1 locs1 cells slots Q (F0 m (pc + 1) ls rest)) : W p l e R s m args below meth c H locs cells slots Q (F0 m pc ls (.long x :: .int 0 :: .ref ao :: rest)) := by
  refine va_last hx hb hKK.1 hP hD hS X.length 2 out_at rfl (i := 0) (vp_in_nI (n := 0) (by decide) (by decide)) hdg (fun H1 locs1 hP1 hD1 hS1 => ?_)
  rw [out_set] at hP1 hD1
  exact kk H1 locs1 hP1 hD1 hS1
theorem end_U (hx : p.tables.exec = Jvm.exec) (hb : c.code = cc) (hr : meth.sig.returnType = some .int) (hlocks : meth.locks = false) {W2 : va_W} {v r : Int32} (hv : v = r) (hP : va_P D vwCl W2 H) (hS : va_S A s.heap H locs) (hc : cells ≤ 1) (hs : slots ≤ 6) (hdg : decode cc pc = .ok (.ireturn, 1)) : W p l e R s m args below meth c H locs cells slots (MQ below (va_Qi (fun (x : Int32) (_ : Unit) => x = r) (fun _ t => va_P D vwCl W2 t.heap) A) args s 1 6 A) (F0 m pc ls [.int v]) :=
  W.widen hc hs (W.iret hx hb hr (fun t ht hW => ⟨⟨v, (), rfl, hv, by show va_P D vwCl W2 t.heap; rw [ht]; exact hP⟩, hS.F ht⟩) hS.2.2 hdg hlocks)
end MYL
