/-! throwing roads of the checks -/
set_option maxHeartbeats 4000000 in
set_option maxRecDepth 100000 in
theorem b_X5_checkSpan (l : Launch) (D : va_G) (cyI cyO cyL : ClassId) (s_ : Int32) (hi : ¬ vp_in s_ 24) (hlf : l.stackTraces = false) : cB l yX5_checkSpan wsX5_checkSpan ({ frames := 6, cells := 1, slots := 6, locals := 82 }) D cyI cyO cyL [.int s_] (([] : va_W)) IOOB := by
  intro sz
  refine vx_ofW (cc := cX5_checkSpan) (maxL := 1) (ret := none) (by decide) rfl ?_
  intro p e s m args below meth c s₁ B9 hml ht9 hv
  obtain ⟨rfl, hsz, hP, hKK, hXE, hD0⟩ := hv
  have hx := B9.exec
  have hb := B9.bytes
  have hrt := B9.returns
  have hts := atoms_spec (ws := wsX5_checkSpan) B9.pre
  have hown : s.vm.findClass RX5 = some m.cls := findClass_of_methodNamed B9.named
  have hlocks := B9.notSynchronized
  have nw := fun {w : Cond} (h : w ∈ nw_all) => NW.use (args := ([.int s_] : List Value).toArray) hKK.2 h
  subst hsz
  have hD := hD0.self (sz := s.heap.size)
  generalize hAe : va_A (([] : va_W)) s.heap.size = A at hD hXE ⊢
  have hA : ∀ q : Nat, s.heap.size ≤ q → A q := fun q h => by rw [← hAe]; exact Or.inr h
  have hS : va_S A s.heap s.heap [] := va_S.rf
  have hl := lv_entry ([.int s_]) (n := 1) (Nat.le_of_ble_eq_true rfl)
  rw [lg_entry_eq]
  generalize (lg_sl ([.int s_]) ++ List.replicate (1 - (lg_sl ([.int s_])).length) Slot.unset).toArray = ls at hl ⊢
  have hl : lv_has ls 1 [(0, .int s_)] := hl
  refine lv_iload_n hx hb dX5_checkSpan_0 rfl (lv_at hl 0 rfl) ?_
  refine lv_if_lt (tgt := 10) hx hb dX5_checkSpan_1 (by decide) (fun h_1 => ?_) (fun h_1 => ?_)
  · skip
    exact throw_S (X := IOOB) (text := "a span is 0 to 23") hx hb hlf hown (by decide +kernel) (hts (.classLink RX5 26 "java/lang/IndexOutOfBoundsException") (List.mem_of_getElem? (i := 1) rfl)) (hts (.initialized "java/lang/IndexOutOfBoundsException") (List.mem_of_getElem? (i := 2) rfl)) (by decide +kernel) hXE (fun w h => hts w (List.mem_cons_of_mem _ (List.mem_append_right _ h))) ng_1 hg_1 hP hS (by rw [hml]; exact hl.1) dX5_checkSpan_10 dX5_checkSpan_13 dX5_checkSpan_14 dX5_checkSpan_16 dX5_checkSpan_19 ht9 (by decide) (by decide) (by decide) (by decide) hlocks
  · skip
    refine lv_iload_n hx hb dX5_checkSpan_4 rfl (lv_at hl 0 rfl) ?_
    refine lv_bipush (v := 24) hx hb dX5_checkSpan_5 (by decide) ?_
    refine lv_icmp_lt (tgt := 20) hx hb dX5_checkSpan_7 (by decide) (fun h_2 => ?_) (fun h_2 => ?_)
    · skip
      exact (hi (vp_of (N := 24) h_1 h_2 (by decide))).elim
    · skip
      exact throw_S (X := IOOB) (text := "a span is 0 to 23") hx hb hlf hown (by decide +kernel) (hts (.classLink RX5 26 "java/lang/IndexOutOfBoundsException") (List.mem_of_getElem? (i := 1) rfl)) (hts (.initialized "java/lang/IndexOutOfBoundsException") (List.mem_of_getElem? (i := 2) rfl)) (by decide +kernel) hXE (fun w h => hts w (List.mem_cons_of_mem _ (List.mem_append_right _ h))) ng_1 hg_1 hP hS (by rw [hml]; exact hl.1) dX5_checkSpan_10 dX5_checkSpan_13 dX5_checkSpan_14 dX5_checkSpan_16 dX5_checkSpan_19 ht9 (by decide) (by decide) (by decide) (by decide) hlocks
set_option maxHeartbeats 4000000 in
set_option maxRecDepth 100000 in
theorem b_X5_checkWhat (l : Launch) (D : va_G) (cyI cyO cyL : ClassId) (x_ : Int32) (m_ : Int32) (h1 : ¬ x_ < 0 → ¬ x_ < m_) (hlf : l.stackTraces = false) : cB l yX5_checkWhat wsX5_checkWhat ({ frames := 6, cells := 1, slots := 6, locals := 82 }) D cyI cyO cyL [.int x_, .int m_] (([] : va_W)) IOOB := by
  intro sz
  refine vx_ofW (cc := cX5_checkWhat) (maxL := 2) (ret := none) (by decide) rfl ?_
  intro p e s m args below meth c s₁ B9 hml ht9 hv
  obtain ⟨rfl, hsz, hP, hKK, hXE, hD0⟩ := hv
  have hx := B9.exec
  have hb := B9.bytes
  have hrt := B9.returns
  have hts := atoms_spec (ws := wsX5_checkWhat) B9.pre
  have hown : s.vm.findClass RX5 = some m.cls := findClass_of_methodNamed B9.named
  have hlocks := B9.notSynchronized
  have nw := fun {w : Cond} (h : w ∈ nw_all) => NW.use (args := ([.int x_, .int m_] : List Value).toArray) hKK.2 h
  subst hsz
  have hD := hD0.self (sz := s.heap.size)
  generalize hAe : va_A (([] : va_W)) s.heap.size = A at hD hXE ⊢
  have hA : ∀ q : Nat, s.heap.size ≤ q → A q := fun q h => by rw [← hAe]; exact Or.inr h
  have hS : va_S A s.heap s.heap [] := va_S.rf
  have hl := lv_entry ([.int x_, .int m_]) (n := 2) (Nat.le_of_ble_eq_true rfl)
  rw [lg_entry_eq]
  generalize (lg_sl ([.int x_, .int m_]) ++ List.replicate (2 - (lg_sl ([.int x_, .int m_])).length) Slot.unset).toArray = ls at hl ⊢
  have hl : lv_has ls 2 [(0, .int x_), (1, .int m_)] := hl
  refine lv_iload_n hx hb dX5_checkWhat_0 rfl (lv_at hl 0 rfl) ?_
  refine lv_if_lt (tgt := 9) hx hb dX5_checkWhat_1 (by decide) (fun h_1 => ?_) (fun h_1 => ?_)
  · skip
    exact throw_S (X := IOOB) (text := "no such what") hx hb hlf hown (by decide +kernel) (hts (.classLink RX5 26 "java/lang/IndexOutOfBoundsException") (List.mem_of_getElem? (i := 1) rfl)) (hts (.initialized "java/lang/IndexOutOfBoundsException") (List.mem_of_getElem? (i := 2) rfl)) (by decide +kernel) hXE (fun w h => hts w (List.mem_cons_of_mem _ (List.mem_append_right _ h))) ng_1 hg_1 hP hS (by rw [hml]; exact hl.1) dX5_checkWhat_9 dX5_checkWhat_12 dX5_checkWhat_13 dX5_checkWhat_15 dX5_checkWhat_18 ht9 (by decide) (by decide) (by decide) (by decide) hlocks
  · skip
    refine lv_iload_n hx hb dX5_checkWhat_4 rfl (lv_at hl 0 rfl) ?_
    refine lv_iload_n hx hb dX5_checkWhat_5 rfl (lv_at hl 1 rfl) ?_
    refine lv_icmp_lt (tgt := 19) hx hb dX5_checkWhat_6 (by decide) (fun h_2 => ?_) (fun h_2 => ?_)
    · skip
      exact (h1 h_1 h_2).elim
    · skip
      exact throw_S (X := IOOB) (text := "no such what") hx hb hlf hown (by decide +kernel) (hts (.classLink RX5 26 "java/lang/IndexOutOfBoundsException") (List.mem_of_getElem? (i := 1) rfl)) (hts (.initialized "java/lang/IndexOutOfBoundsException") (List.mem_of_getElem? (i := 2) rfl)) (by decide +kernel) hXE (fun w h => hts w (List.mem_cons_of_mem _ (List.mem_append_right _ h))) ng_1 hg_1 hP hS (by rw [hml]; exact hl.1) dX5_checkWhat_9 dX5_checkWhat_12 dX5_checkWhat_13 dX5_checkWhat_15 dX5_checkWhat_18 ht9 (by decide) (by decide) (by decide) (by decide) hlocks
set_option maxHeartbeats 4000000 in
set_option maxRecDepth 100000 in
theorem b_X5_checkHours (l : Launch) (D : va_G) (cyI cyO cyL : ClassId) (x_ : Int32) (m_ : Int32) (h1 : ¬ x_ < 1 → ¬ x_ ≤ m_) (hlf : l.stackTraces = false) : cB l yX5_checkHours wsX5_checkHours ({ frames := 6, cells := 1, slots := 6, locals := 82 }) D cyI cyO cyL [.int x_, .int m_] (([] : va_W)) IARG := by
  intro sz
  refine vx_ofW (cc := cX5_checkHours) (maxL := 2) (ret := none) (by decide) rfl ?_
  intro p e s m args below meth c s₁ B9 hml ht9 hv
  obtain ⟨rfl, hsz, hP, hKK, hXE, hD0⟩ := hv
  have hx := B9.exec
  have hb := B9.bytes
  have hrt := B9.returns
  have hts := atoms_spec (ws := wsX5_checkHours) B9.pre
  have hown : s.vm.findClass RX5 = some m.cls := findClass_of_methodNamed B9.named
  have hlocks := B9.notSynchronized
  have nw := fun {w : Cond} (h : w ∈ nw_all) => NW.use (args := ([.int x_, .int m_] : List Value).toArray) hKK.2 h
  subst hsz
  have hD := hD0.self (sz := s.heap.size)
  generalize hAe : va_A (([] : va_W)) s.heap.size = A at hD hXE ⊢
  have hA : ∀ q : Nat, s.heap.size ≤ q → A q := fun q h => by rw [← hAe]; exact Or.inr h
  have hS : va_S A s.heap s.heap [] := va_S.rf
  have hl := lv_entry ([.int x_, .int m_]) (n := 2) (Nat.le_of_ble_eq_true rfl)
  rw [lg_entry_eq]
  generalize (lg_sl ([.int x_, .int m_]) ++ List.replicate (2 - (lg_sl ([.int x_, .int m_])).length) Slot.unset).toArray = ls at hl ⊢
  have hl : lv_has ls 2 [(0, .int x_), (1, .int m_)] := hl
  refine lv_iload_n hx hb dX5_checkHours_0 rfl (lv_at hl 0 rfl) ?_
  refine lv_iconst (v := 1) hx hb dX5_checkHours_1 (by decide) ?_
  refine lv_icmp_lt (tgt := 10) hx hb dX5_checkHours_2 (by decide) (fun h_1 => ?_) (fun h_1 => ?_)
  · skip
    exact throw_S (X := IARG) (text := "too few hours, or too many") hx hb hlf hown (by decide +kernel) (hts (.classLink RX5 33 "java/lang/IllegalArgumentException") (List.mem_of_getElem? (i := 1) rfl)) (hts (.initialized "java/lang/IllegalArgumentException") (List.mem_of_getElem? (i := 2) rfl)) (by decide +kernel) hXE (fun w h => hts w (List.mem_cons_of_mem _ (List.mem_append_right _ h))) ng_2 hg_2 hP hS (by rw [hml]; exact hl.1) dX5_checkHours_10 dX5_checkHours_13 dX5_checkHours_14 dX5_checkHours_16 dX5_checkHours_19 ht9 (by decide) (by decide) (by decide) (by decide) hlocks
  · skip
    refine lv_iload_n hx hb dX5_checkHours_5 rfl (lv_at hl 0 rfl) ?_
    refine lv_iload_n hx hb dX5_checkHours_6 rfl (lv_at hl 1 rfl) ?_
    refine lv_icmp_le (tgt := 20) hx hb dX5_checkHours_7 (by decide) (fun h_2 => ?_) (fun h_2 => ?_)
    · skip
      exact (h1 h_1 h_2).elim
    · skip
      exact throw_S (X := IARG) (text := "too few hours, or too many") hx hb hlf hown (by decide +kernel) (hts (.classLink RX5 33 "java/lang/IllegalArgumentException") (List.mem_of_getElem? (i := 1) rfl)) (hts (.initialized "java/lang/IllegalArgumentException") (List.mem_of_getElem? (i := 2) rfl)) (by decide +kernel) hXE (fun w h => hts w (List.mem_cons_of_mem _ (List.mem_append_right _ h))) ng_2 hg_2 hP hS (by rw [hml]; exact hl.1) dX5_checkHours_10 dX5_checkHours_13 dX5_checkHours_14 dX5_checkHours_16 dX5_checkHours_19 ht9 (by decide) (by decide) (by decide) (by decide) hlocks
set_option maxHeartbeats 4000000 in
set_option maxRecDepth 100000 in
theorem b_X5_checkBus (l : Launch) (D : va_G) (cyI cyO cyL : ClassId) (aX : Nat) (aT : Nat) (aR0 : Nat) (aR1 : Nat) (aW0 : Nat) (aw0 : Nat) (af0 : Nat) (aG0 : Nat) (ao0 : Nat) (aB0 : Nat) (ab0 : Nat → Nat) (w0 : Nat → Int32) (f0 : Nat → Int32) (od0 : Nat → Int32) (g0 : Nat → Int32) (bc0 : Int32) (hr0 : Int32) (co0 : Int32) (b_ : Int32) (h1 : ¬ b_ < 0 → ¬ b_ < bc0) (hlf : l.stackTraces = false) : cB l yX5_checkBus wsX5_checkBus ({ frames := 6, cells := 1, slots := 6, locals := 82 }) D cyI cyO cyL [.ref aX, .int b_] (cX aX aT aR0 aR1 ++ cR cyI cyO aR0 aW0 aw0 af0 aG0 ao0 aB0 ab0 w0 f0 od0 g0 bc0 hr0 co0) IOOB := by
  intro sz
  refine vx_ofW (cc := cX5_checkBus) (maxL := 2) (ret := none) (by decide) rfl ?_
  intro p e s m args below meth c s₁ B9 hml ht9 hv
  obtain ⟨rfl, hsz, hP, hKK, hXE, hD0⟩ := hv
  have hx := B9.exec
  have hb := B9.bytes
  have hrt := B9.returns
  have hts := atoms_spec (ws := wsX5_checkBus) B9.pre
  have hown : s.vm.findClass RX5 = some m.cls := findClass_of_methodNamed B9.named
  have hlocks := B9.notSynchronized
  have nw := fun {w : Cond} (h : w ∈ nw_all) => NW.use (args := ([.ref aX, .int b_] : List Value).toArray) hKK.2 h
  have iX2 : ∀ w ∈ wsX20, w ∈ wsX5_checkBus := fun _ h => List.mem_cons_of_mem _ (List.mem_append_left _ (List.mem_append_right _ h))
  have iX5 : ∀ w ∈ wsX50, w ∈ wsX5_checkBus := fun _ h => List.mem_cons_of_mem _ (List.mem_append_left _ (List.mem_append_left _ (List.mem_append_right _ h)))
  subst hsz
  have hD := hD0.self (sz := s.heap.size)
  generalize hAe : va_A (cX aX aT aR0 aR1 ++ cR cyI cyO aR0 aW0 aw0 af0 aG0 ao0 aB0 ab0 w0 f0 od0 g0 bc0 hr0 co0) s.heap.size = A at hD hXE ⊢
  have hA : ∀ q : Nat, s.heap.size ≤ q → A q := fun q h => by rw [← hAe]; exact Or.inr h
  have hS : va_S A s.heap s.heap [] := va_S.rf
  have hl := lv_entry ([.ref aX, .int b_]) (n := 2) (Nat.le_of_ble_eq_true rfl)
  rw [lg_entry_eq]
  generalize (lg_sl ([.ref aX, .int b_]) ++ List.replicate (2 - (lg_sl ([.ref aX, .int b_])).length) Slot.unset).toArray = ls at hl ⊢
  have hl : lv_has ls 2 [(0, .ref aX), (1, .int b_)] := hl
  refine lv_iload_n hx hb dX5_checkBus_0 rfl (lv_at hl 1 rfl) ?_
  refine lv_if_lt (tgt := 15) hx hb dX5_checkBus_1 (by decide) (fun h_1 => ?_) (fun h_1 => ?_)
  · skip
    exact throw_S (X := IOOB) (text := "no such bus") hx hb hlf hown (by decide +kernel) (hts (.classLink RX5 26 "java/lang/IndexOutOfBoundsException") (List.mem_of_getElem? (i := 1) rfl)) (hts (.initialized "java/lang/IndexOutOfBoundsException") (List.mem_of_getElem? (i := 2) rfl)) (by decide +kernel) hXE (fun w h => hts w (List.mem_cons_of_mem _ (List.mem_append_right _ h))) ng_1 hg_1 hP hS (by rw [hml]; exact hl.1) dX5_checkBus_15 dX5_checkBus_18 dX5_checkBus_19 dX5_checkBus_21 dX5_checkBus_24 ht9 (by decide) (by decide) (by decide) (by decide) hlocks
  · skip
    refine lv_iload_n hx hb dX5_checkBus_4 rfl (lv_at hl 1 rfl) ?_
    refine lv_aload_n hx hb dX5_checkBus_5 rfl (lv_at hl 0 rfl) ?_
    refine va_get (D := D) (ci := 5) (v := .ref aR0) (C := RX5) (T := TX5) (N := 3) hx hb hts iX5 hown hKK.1 hP 0 rfl rfl 1 (by decide) (hts (.fieldLink RX5 19 "TrolleyGang" "now" "LTrolleyGang$Ring;") (List.mem_of_getElem? (i := 3) rfl)) (fun _ h9 => h9) rfl dX5_checkBus_6 ?_
    refine va_getN (D := D) (ci := 2) (v := .int bc0) (C := RX2) (T := TX2) (N := 6) hx hb hts iX2 hown hKK.1 hP 1 rfl rfl 3 (by decide) (nw (w := .fieldLinkNest "TrolleyGang" 66 "TrolleyGang$Ring" "busCount" "I" "TrolleyGang") nq_42) (fun _ h9 => h9) rfl dX5_checkBus_9 ?_
    refine lv_icmp_lt (tgt := 25) hx hb dX5_checkBus_12 (by decide) (fun h_2 => ?_) (fun h_2 => ?_)
    · skip
      exact (h1 h_1 h_2).elim
    · skip
      exact throw_S (X := IOOB) (text := "no such bus") hx hb hlf hown (by decide +kernel) (hts (.classLink RX5 26 "java/lang/IndexOutOfBoundsException") (List.mem_of_getElem? (i := 1) rfl)) (hts (.initialized "java/lang/IndexOutOfBoundsException") (List.mem_of_getElem? (i := 2) rfl)) (by decide +kernel) hXE (fun w h => hts w (List.mem_cons_of_mem _ (List.mem_append_right _ h))) ng_1 hg_1 hP hS (by rw [hml]; exact hl.1) dX5_checkBus_15 dX5_checkBus_18 dX5_checkBus_19 dX5_checkBus_21 dX5_checkBus_24 ht9 (by decide) (by decide) (by decide) (by decide) hlocks
