/-! throwing roads: what a throw needs of the tables and the statics; contracts of methods that throw -/
abbrev IOOB : String := "java/lang/IndexOutOfBoundsException"
abbrev IARG : String := "java/lang/IllegalArgumentException"
abbrev ISTA : String := "java/lang/IllegalStateException"
abbrev xNames : List String := ["java/lang/RuntimeException", "java/lang/Exception"]
def ngAll : List Cond := [.castable IOOB IOOB, .castable IARG IARG, .castable ISTA ISTA, .declares ⟨"java/lang/RuntimeException", "<init>", "(Ljava/lang/String;)V"⟩, .declares ⟨"java/lang/Exception", "<init>", "(Ljava/lang/String;)V"⟩, .declares ⟨"java/lang/Throwable", "<init>", "(Ljava/lang/String;)V"⟩]
theorem ng_1 : ∀ w ∈ (vx_atS RX5 30 IOOB xNames).filter (fun w => !goodWord w), w ∈ ngAll := by decide +kernel
theorem ng_2 : ∀ w ∈ (vx_atS RX5 37 IARG xNames).filter (fun w => !goodWord w), w ∈ ngAll := by decide +kernel
theorem ng_3 : ∀ w ∈ (vx_atS RX5 73 ISTA xNames).filter (fun w => !goodWord w), w ∈ ngAll := by decide +kernel
def NGW (U : State) : Prop := ∀ w ∈ ngAll, va_Nw w U
def ng_is : Cond → Bool
  | .castable _ _ => true
  | .declares _ => true
  | _ => false
theorem ng_all_is : ngAll.all ng_is = true := by decide +kernel
theorem NGW.warm {s U : State} (hW : s.WarmedH U.vm) (h : NGW s) : NGW U := by
  intro w hw
  have h1 := List.all_eq_true.mp ng_all_is w hw
  have h2 := h w hw
  cases w <;> first
    | exact va_Nw.warmC hW h2
    | exact va_Nw.warmD hW h2
    | exact absurd h1 (by decide)
    | cases h1
theorem NGW.same {s U : State} (hvm : s.vm = U.vm) (h : NGW s) : NGW U := by
  intro w hw
  have h1 := List.all_eq_true.mp ng_all_is w hw
  have h2 := h w hw
  cases w <;> first
    | exact va_Nw.same rfl hvm h2
    | exact absurd h1 (by decide)
    | cases h1
theorem NGW.use {s : State} {args : Array Value} (h : NGW s) : ∀ w ∈ ngAll, w.before args s = true := by
  intro w hw
  have h1 := List.all_eq_true.mp ng_all_is w hw
  have h2 := h w hw
  cases w <;> first
    | exact va_Nw.use rfl h2
    | exact absurd h1 (by decide)
    | cases h1
/-- the texts of the throws -/
def srAll : List (Nat × String) := [(28, "an hour of the table of cold is 0 to 7"), (35, "cold is 0 to 3"), (42, "an hour of the table of swans is 0 to 11"), (44, "the span of a swan is -1 to 23"), (49, "a fare is 0 to 9"), (71, "there are 6 buses"), (91, "a scraper goes from a bus that has one to a bus that has none"), (150, "there are 6 orders"), (152, "there is an order for this span"), (157, "there is no order for this span"), (193, "what is 2, 5, 6, 7 or 8"), (226, "no such bus"), (228, "a span is 0 to 23"), (230, "no such what"), (232, "too few hours, or too many")]
def SRW (U : State) : Prop := ∀ z ∈ srAll, ∃ a : Nat, vk_R RX5 z.1 z.2 a U
/-- what throwing needs -/
def XE (A : Nat → Prop) (U : State) (H : Heap) : Prop := NGW U ∧ SRW U ∧ vx_Zq Bundle.tN "UNASSIGNED_STACK" Bundle.steD A U H ∧ vx_Zq Bundle.tN "SUPPRESSED_SENTINEL" Bundle.listD A U H
theorem XE.warm {A : Nat → Prop} {s U : State} {H : Heap} (hW : s.WarmedH U.vm) (h : XE A s H) : XE A U H :=
  ⟨h.1.warm hW, fun z hz => (h.2.1 z hz).imp fun _ h9 => vk_R.warm hW h9, vx_Zq.moved hW.alike h.2.2.1, vx_Zq.moved hW.alike h.2.2.2⟩
theorem XE.same {A : Nat → Prop} {s U : State} {H : Heap} (hvm : s.vm = U.vm) (h : XE A s H) : XE A U H :=
  ⟨h.1.same hvm, fun z hz => (h.2.1 z hz).imp fun _ h9 => vk_R.same hvm.symm h9, vx_Zq.moved (by rw [← hvm]; exact Vm.Alike.refl s.vm) h.2.2.1, vx_Zq.moved (by rw [← hvm]; exact Vm.Alike.refl s.vm) h.2.2.2⟩
theorem XE.kept {A : Nat → Prop} {s : State} {H H1 : Heap} (h : XE A s H) (hq : ∀ a : Nat, a < H.size → ¬ A a → H1[a]? = H[a]?) : XE A s H1 :=
  ⟨h.1, h.2.1, h.2.2.1.kept hq, h.2.2.2.kept hq⟩
theorem XE.narrow {A B : Nat → Prop} {s : State} {H : Heap} (h : XE A s H) (hAB : ∀ q, B q → A q) : XE B s H :=
  ⟨h.1, h.2.1, h.2.2.1.narrow hAB, h.2.2.2.narrow hAB⟩
def PX (D : va_G) (cyI cyO cyL : ClassId) (W : va_W) (sz : Nat) (U : State) : Prop := U.heap.size = sz ∧ va_P D vwCl W U.heap ∧ KK D cyI cyO cyL U ∧ XE (va_A W sz) U U.heap ∧ va_D (fun _ => True) W
theorem PX_blind {D : va_G} {cyI cyO cyL : ClassId} {W : va_W} {sz : Nat} {As : List Value} : FrameBlind (va_Pc As (PX D cyI cyO cyL W sz)) := by
  intro a U g mk q
  obtain ⟨q0, q1, qP, qK, qX, qD⟩ := q
  exact ⟨q0, q1, qP, ⟨va_K.moved (u := U) (U := U.calling g mk a) (Vm.Alike.refl U.vm) qK.1, NW.same (s := U) (U := U.calling g mk a) rfl qK.2⟩, XE.same (s := U) (U := U.calling g mk a) rfl qX, qD⟩
/-- a method that throws, and leaves its world -/
def cB (l : Launch) (y : MethodName) (wy : List Cond) (rm : Room) (D : va_G) (cyI cyO cyL : ClassId) (As : List Value) (W : va_W) (X : String) : Prop :=
  ∀ sz : Nat, vx_Met l y wy rm (va_Pc As (PX D cyI cyO cyL W sz)) (fun _ _ _ _ => False) (vx_X (fun _ : Unit => True) (fun E _ t => E = X ∧ va_P D vwCl W t.heap) (va_A W sz)) 1 6 (va_A W sz)
