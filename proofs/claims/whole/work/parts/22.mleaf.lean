set_option maxHeartbeats 4000000 in
set_option maxRecDepth 100000 in
theorem c_X6_thrown (l : Launch) (D : va_G) (cyI cyO cyL : ClassId) (aM : Nat) (ac : Nat) (as_ : Nat) (an : Nat) (ah : Nat) (th : Int32) (bu : Int32) (fd : Int32) (fn : Int32) : cI l yX6_thrown wsX6_thrown ({ frames := 0, cells := 0, slots := 0, locals := 0 }) D cyI cyO cyL [.ref aM] (cM aM ac as_ an ah th bu fd fn) (cM aM ac as_ an ah th bu fd fn) th := by
  intro sz
  refine Met.ofW (cc := cX6_thrown) (maxL := 1) (ret := (some .int)) (by decide) rfl ?_
  intro p e s m args below meth c s₁ B9 hml hv
  obtain ⟨rfl, hsz, hP, hKK, hD0⟩ := hv
  have hx := B9.exec
  have hb := B9.bytes
  have hrt := B9.returns
  have hts := atoms_spec (ws := wsX6_thrown) B9.pre
  have hown : s.vm.findClass RX6 = some m.cls := findClass_of_methodNamed B9.named
  have hlocks := B9.notSynchronized
  have nw := fun {w : Cond} (h : w ∈ nw_all) => NW.use (args := ([.ref aM] : List Value).toArray) hKK.2 h
  have iX6 : ∀ w ∈ wsX60, w ∈ wsX6_thrown := fun _ h => List.mem_cons_of_mem _ (List.mem_append_right _ h)
  subst hsz
  have hD := hD0.self (sz := s.heap.size)
  generalize hAe : va_A (cM aM ac as_ an ah th bu fd fn) s.heap.size = A at hD ⊢
  have hA : ∀ q : Nat, s.heap.size ≤ q → A q := fun q h => by rw [← hAe]; exact Or.inr h
  have hS : va_S A s.heap s.heap [] := va_S.rf
  have hl := lv_entry ([.ref aM]) (n := 1) (Nat.le_of_ble_eq_true rfl)
  rw [lg_entry_eq]
  generalize (lg_sl ([.ref aM]) ++ List.replicate (1 - (lg_sl ([.ref aM])).length) Slot.unset).toArray = ls at hl ⊢
  have hl : lv_has ls 1 [(0, .ref aM)] := hl
  refine lv_aload_n hx hb dX6_thrown_0 rfl (lv_at hl 0 rfl) ?_
  refine va_get (D := D) (ci := 6) (v := .int th) (C := RX6) (T := TX6) (N := 8) hx hb hts iX6 hown hKK.1 hP 0 rfl rfl 0 (by decide) (hts (.fieldLink RX6 1 "TrolleyGangModel" "thrown" "I") (List.mem_of_getElem? (i := 1) rfl)) (fun _ h9 => h9) rfl dX6_thrown_1 ?_
  have e9 : th = th := (by rfl)
  exact end_i hx hb hrt hlocks (by rw [e9]) hP hS dX6_thrown_4
set_option maxHeartbeats 4000000 in
set_option maxRecDepth 100000 in
theorem c_X6_no (l : Launch) (D : va_G) (cyI cyO cyL : ClassId) (aM : Nat) (ac : Nat) (as_ : Nat) (an : Nat) (ah : Nat) (th : Int32) (bu : Int32) (fd : Int32) (fn : Int32) (k_ : Int32) : cI l yX6_no wsX6_no ({ frames := 0, cells := 0, slots := 0, locals := 0 }) D cyI cyO cyL [.ref aM, .int k_] (cM aM ac as_ an ah th bu fd fn) (cM aM ac as_ an ah k_ bu fd fn) 0 := by
  intro sz
  refine Met.ofW (cc := cX6_no) (maxL := 2) (ret := (some .int)) (by decide) rfl ?_
  intro p e s m args below meth c s₁ B9 hml hv
  obtain ⟨rfl, hsz, hP, hKK, hD0⟩ := hv
  have hx := B9.exec
  have hb := B9.bytes
  have hrt := B9.returns
  have hts := atoms_spec (ws := wsX6_no) B9.pre
  have hown : s.vm.findClass RX6 = some m.cls := findClass_of_methodNamed B9.named
  have hlocks := B9.notSynchronized
  have nw := fun {w : Cond} (h : w ∈ nw_all) => NW.use (args := ([.ref aM, .int k_] : List Value).toArray) hKK.2 h
  have iX6 : ∀ w ∈ wsX60, w ∈ wsX6_no := fun _ h => List.mem_cons_of_mem _ (List.mem_append_right _ h)
  subst hsz
  have hD := hD0.self (sz := s.heap.size)
  generalize hAe : va_A (cM aM ac as_ an ah th bu fd fn) s.heap.size = A at hD ⊢
  have hA : ∀ q : Nat, s.heap.size ≤ q → A q := fun q h => by rw [← hAe]; exact Or.inr h
  have hS : va_S A s.heap s.heap [] := va_S.rf
  have hl := lv_entry ([.ref aM, .int k_]) (n := 2) (Nat.le_of_ble_eq_true rfl)
  rw [lg_entry_eq]
  generalize (lg_sl ([.ref aM, .int k_]) ++ List.replicate (2 - (lg_sl ([.ref aM, .int k_])).length) Slot.unset).toArray = ls at hl ⊢
  have hl : lv_has ls 2 [(0, .ref aM), (1, .int k_)] := hl
  refine lv_aload_n hx hb dX6_no_0 rfl (lv_at hl 0 rfl) ?_
  refine lv_iload_n hx hb dX6_no_1 rfl (lv_at hl 1 rfl) ?_
  refine va_put (D := D) (ci := 6) (v := .int k_) (ty := .int) (C := RX6) (T := TX6) (N := 8) hx hb hts iX6 tyX6 tyX6_ok nmX6 hown hKK.1 hP hD hS 0 rfl rfl 0 (by decide) (hts (.fieldLink RX6 1 "TrolleyGangModel" "thrown" "I") (List.mem_of_getElem? (i := 1) rfl)) (fun _ h9 => h9) rfl (by decide +kernel) rfl rfl (Nat.le_of_ble_eq_true rfl) dX6_no_2 (fun H locs hP hD hS => ?_)
  have hP : va_P D vwCl (cM aM ac as_ an ah k_ bu fd fn) H := hP
  have hD : va_D A (cM aM ac as_ an ah k_ bu fd fn) := hD
  refine lv_iconst (v := 0) hx hb dX6_no_5 (by decide) ?_
  exact end_i hx hb hrt hlocks rfl hP hS dX6_no_6
set_option maxHeartbeats 4000000 in
set_option maxRecDepth 100000 in
theorem c_X6_isIn (l : Launch) (D : va_G) (cyI cyO cyL : ClassId) (v_ : Int32) (lo_ : Int32) (hi_ : Int32) : cI l yX6_isIn wsX6_isIn ({ frames := 0, cells := 0, slots := 0, locals := 0 }) D cyI cyO cyL [.int v_, .int lo_, .int hi_] (([] : va_W)) (([] : va_W)) (inI v_ lo_ hi_) := by
  intro sz
  refine Met.ofW (cc := cX6_isIn) (maxL := 3) (ret := (some .boolean)) (by decide) rfl ?_
  intro p e s m args below meth c s₁ B9 hml hv
  obtain ⟨rfl, hsz, hP, hKK, hD0⟩ := hv
  have hx := B9.exec
  have hb := B9.bytes
  have hrt := B9.returns
  have hts := atoms_spec (ws := wsX6_isIn) B9.pre
  have hown : s.vm.findClass RX6 = some m.cls := findClass_of_methodNamed B9.named
  have hlocks := B9.notSynchronized
  have nw := fun {w : Cond} (h : w ∈ nw_all) => NW.use (args := ([.int v_, .int lo_, .int hi_] : List Value).toArray) hKK.2 h
  subst hsz
  have hD := hD0.self (sz := s.heap.size)
  generalize hAe : va_A (([] : va_W)) s.heap.size = A at hD ⊢
  have hA : ∀ q : Nat, s.heap.size ≤ q → A q := fun q h => by rw [← hAe]; exact Or.inr h
  have hS : va_S A s.heap s.heap [] := va_S.rf
  have hl := lv_entry ([.int v_, .int lo_, .int hi_]) (n := 3) (Nat.le_of_ble_eq_true rfl)
  rw [lg_entry_eq]
  generalize (lg_sl ([.int v_, .int lo_, .int hi_]) ++ List.replicate (3 - (lg_sl ([.int v_, .int lo_, .int hi_])).length) Slot.unset).toArray = ls at hl ⊢
  have hl : lv_has ls 3 [(0, .int v_), (1, .int lo_), (2, .int hi_)] := hl
  refine lv_iload_n hx hb dX6_isIn_0 rfl (lv_at hl 0 rfl) ?_
  refine lv_iload_n hx hb dX6_isIn_1 rfl (lv_at hl 1 rfl) ?_
  refine lv_icmp_lt (tgt := 14) hx hb dX6_isIn_2 (by decide) (fun h_1 => ?_) (fun h_1 => ?_)
  · skip
    refine lv_iconst (v := 0) hx hb dX6_isIn_14 (by decide) ?_
    have e9 : inI v_ lo_ hi_ = 0 := (by first | with_reducible rfl | (simp only [inI, h_1, if_true, if_false, reduceIte, not_true_eq_false, not_false_eq_true]; done) | (simp [inI, h_1]; done))
    exact end_z hx hb hrt hlocks (by first | exact Or.inl rfl | exact Or.inr rfl) (by rw [e9]) hP hS dX6_isIn_15
  · skip
    refine lv_iload_n hx hb dX6_isIn_5 rfl (lv_at hl 0 rfl) ?_
    refine lv_iload_n hx hb dX6_isIn_6 rfl (lv_at hl 2 rfl) ?_
    refine lv_icmp_gt (tgt := 14) hx hb dX6_isIn_7 (by decide) (fun h_2 => ?_) (fun h_2 => ?_)
    · skip
      refine lv_iconst (v := 0) hx hb dX6_isIn_14 (by decide) ?_
      have e9 : inI v_ lo_ hi_ = 0 := (by first | with_reducible rfl | (simp only [inI, h_1, h_2, if_true, if_false, reduceIte, not_true_eq_false, not_false_eq_true]; done) | (simp [inI, h_1, h_2]; done))
      exact end_z hx hb hrt hlocks (by first | exact Or.inl rfl | exact Or.inr rfl) (by rw [e9]) hP hS dX6_isIn_15
    · skip
      refine lv_iconst (v := 1) hx hb dX6_isIn_10 (by decide) ?_
      refine lv_goto (tgt := 15) hx hb dX6_isIn_11 (by decide) ?_
      have e9 : inI v_ lo_ hi_ = 1 := (by first | with_reducible rfl | (simp only [inI, h_1, h_2, if_true, if_false, reduceIte, not_true_eq_false, not_false_eq_true]; done) | (simp [inI, h_1, h_2]; done))
      exact end_z hx hb hrt hlocks (by first | exact Or.inl rfl | exact Or.inr rfl) (by rw [e9]) hP hS dX6_isIn_15
set_option maxHeartbeats 4000000 in
set_option maxRecDepth 100000 in
theorem c_X6_isSpan (l : Launch) (D : va_G) (cyI cyO cyL : ClassId) (s_ : Int32) : cI l yX6_isSpan wsX6_isSpan ({ frames := 1, cells := 0, slots := 0, locals := 22 }) D cyI cyO cyL [.int s_] (([] : va_W)) (([] : va_W)) (inI s_ 0 23) := by
  intro sz
  refine Met.ofW (cc := cX6_isSpan) (maxL := 1) (ret := (some .boolean)) (by decide) rfl ?_
  intro p e s m args below meth c s₁ B9 hml hv
  obtain ⟨rfl, hsz, hP, hKK, hD0⟩ := hv
  have hx := B9.exec
  have hb := B9.bytes
  have hrt := B9.returns
  have hts := atoms_spec (ws := wsX6_isSpan) B9.pre
  have hown : s.vm.findClass RX6 = some m.cls := findClass_of_methodNamed B9.named
  have hlocks := B9.notSynchronized
  have nw := fun {w : Cond} (h : w ∈ nw_all) => NW.use (args := ([.int s_] : List Value).toArray) hKK.2 h
  subst hsz
  have hD := hD0.self (sz := s.heap.size)
  generalize hAe : va_A (([] : va_W)) s.heap.size = A at hD ⊢
  have hA : ∀ q : Nat, s.heap.size ≤ q → A q := fun q h => by rw [← hAe]; exact Or.inr h
  have hS : va_S A s.heap s.heap [] := va_S.rf
  have hl := lv_entry ([.int s_]) (n := 1) (Nat.le_of_ble_eq_true rfl)
  rw [lg_entry_eq]
  generalize (lg_sl ([.int s_]) ++ List.replicate (1 - (lg_sl ([.int s_])).length) Slot.unset).toArray = ls at hl ⊢
  have hl : lv_has ls 1 [(0, .int s_)] := hl
  refine lv_iload_n hx hb dX6_isSpan_0 rfl (lv_at hl 0 rfl) ?_
  refine lv_iconst (v := 0) hx hb dX6_isSpan_1 (by decide) ?_
  refine lv_bipush (v := 23) hx hb dX6_isSpan_2 (by decide) ?_
  have hPc := hP.sub (ws' := ([] : va_W)) [] rfl
  have hDc := hD.sub (ws' := ([] : va_W)) [] (by decide) rfl
  refine ret_i (W1 := ([] : va_W)) (W2 := ([] : va_W)) (ws1 := (([] : va_W))) (r := inI s_ 0 23) (run_S (n := 3) (As := [.int s_, .int 0, .int 23]) (rest := []) ⟨hx, hb, hml, hown, hts⟩ (c_X6_isIn l D cyI cyO cyL s_ 0 23 _) ggX6_isSpan_X6_isIn rfl rfl rfl (hts (.methodLink RX6 32 yX6_isIn) (List.mem_of_getElem? (i := 1) rfl)) (hts (.initialized RX6) (List.mem_of_getElem? (i := 3) rfl)) (hts (.static yX6_isIn) (List.mem_of_getElem? (i := 2) rfl)) (by decide +kernel) ⟨Nat.le_of_ble_eq_true rfl, Nat.le_of_ble_eq_true rfl⟩ hKK hPc hDc rfl hl.1 rfl (Nat.le_of_ble_eq_true rfl) dX6_isSpan_4 ⟨Nat.zero_le _, Nat.zero_le _⟩) hP hD hS hA [] rfl rfl [] (by decide +kernel) rfl (fun H locs hP hD hS => ?_)
  have e9 : inI s_ 0 23 = inI s_ 0 23 := (by rfl)
  exact end_z hx hb hrt hlocks (inI01 _ _ _) (by rw [e9]) hP hS dX6_isSpan_7
set_option maxHeartbeats 4000000 in
set_option maxRecDepth 100000 in
theorem c_X6_isBus (l : Launch) (D : va_G) (cyI cyO cyL : ClassId) (aM : Nat) (ac : Nat) (as_ : Nat) (an : Nat) (ah : Nat) (th : Int32) (bu : Int32) (fd : Int32) (fn : Int32) (b_ : Int32) : cI l yX6_isBus wsX6_isBus ({ frames := 1, cells := 0, slots := 0, locals := 22 }) D cyI cyO cyL [.ref aM, .int b_] (cM aM ac as_ an ah th bu fd fn) (cM aM ac as_ an ah th bu fd fn) (inI b_ 0 (bu - 1)) := by
  intro sz
  refine Met.ofW (cc := cX6_isBus) (maxL := 2) (ret := (some .boolean)) (by decide) rfl ?_
  intro p e s m args below meth c s₁ B9 hml hv
  obtain ⟨rfl, hsz, hP, hKK, hD0⟩ := hv
  have hx := B9.exec
  have hb := B9.bytes
  have hrt := B9.returns
  have hts := atoms_spec (ws := wsX6_isBus) B9.pre
  have hown : s.vm.findClass RX6 = some m.cls := findClass_of_methodNamed B9.named
  have hlocks := B9.notSynchronized
  have nw := fun {w : Cond} (h : w ∈ nw_all) => NW.use (args := ([.ref aM, .int b_] : List Value).toArray) hKK.2 h
  have iX6 : ∀ w ∈ wsX60, w ∈ wsX6_isBus := fun _ h => List.mem_cons_of_mem _ (List.mem_append_right _ h)
  subst hsz
  have hD := hD0.self (sz := s.heap.size)
  generalize hAe : va_A (cM aM ac as_ an ah th bu fd fn) s.heap.size = A at hD ⊢
  have hA : ∀ q : Nat, s.heap.size ≤ q → A q := fun q h => by rw [← hAe]; exact Or.inr h
  have hS : va_S A s.heap s.heap [] := va_S.rf
  have hl := lv_entry ([.ref aM, .int b_]) (n := 2) (Nat.le_of_ble_eq_true rfl)
  rw [lg_entry_eq]
  generalize (lg_sl ([.ref aM, .int b_]) ++ List.replicate (2 - (lg_sl ([.ref aM, .int b_])).length) Slot.unset).toArray = ls at hl ⊢
  have hl : lv_has ls 2 [(0, .ref aM), (1, .int b_)] := hl
  refine lv_iload_n hx hb dX6_isBus_0 rfl (lv_at hl 1 rfl) ?_
  refine lv_iconst (v := 0) hx hb dX6_isBus_1 (by decide) ?_
  refine lv_aload_n hx hb dX6_isBus_2 rfl (lv_at hl 0 rfl) ?_
  refine va_get (D := D) (ci := 6) (v := .int bu) (C := RX6) (T := TX6) (N := 8) hx hb hts iX6 hown hKK.1 hP 0 rfl rfl 1 (by decide) (hts (.fieldLink RX6 36 "TrolleyGangModel" "buses" "I") (List.mem_of_getElem? (i := 1) rfl)) (fun _ h9 => h9) rfl dX6_isBus_3 ?_
  refine lv_iconst (v := 1) hx hb dX6_isBus_6 (by decide) ?_
  refine lv_isub hx hb dX6_isBus_7 ?_
  have hPc := hP.sub (ws' := ([] : va_W)) [] rfl
  have hDc := hD.sub (ws' := ([] : va_W)) [] (by decide) rfl
  refine ret_i (W1 := ([] : va_W)) (W2 := ([] : va_W)) (ws1 := (cM aM ac as_ an ah th bu fd fn)) (r := inI b_ 0 (bu - 1)) (run_S (n := 3) (As := [.int b_, .int 0, .int (bu - 1)]) (rest := []) ⟨hx, hb, hml, hown, hts⟩ (c_X6_isIn l D cyI cyO cyL b_ 0 (bu - 1) _) ggX6_isBus_X6_isIn rfl rfl rfl (hts (.methodLink RX6 32 yX6_isIn) (List.mem_of_getElem? (i := 2) rfl)) (hts (.initialized RX6) (List.mem_of_getElem? (i := 4) rfl)) (hts (.static yX6_isIn) (List.mem_of_getElem? (i := 3) rfl)) (by decide +kernel) ⟨Nat.le_of_ble_eq_true rfl, Nat.le_of_ble_eq_true rfl⟩ hKK hPc hDc rfl hl.1 rfl (Nat.le_of_ble_eq_true rfl) dX6_isBus_8 ⟨Nat.zero_le _, Nat.zero_le _⟩) hP hD hS hA [] rfl rfl [(false, 0)] (by decide +kernel) rfl (fun H locs hP hD hS => ?_)
  have e9 : inI b_ 0 (bu - 1) = inI b_ 0 (bu - 1) := (by rfl)
  exact end_z hx hb hrt hlocks (inI01 _ _ _) (by rw [e9]) hP hS dX6_isBus_11
set_option maxHeartbeats 4000000 in
set_option maxRecDepth 100000 in
theorem c_X6_isNight (l : Launch) (D : va_G) (cyI cyO cyL : ClassId) (h_ : Int32) : cI l yX6_isNight wsX6_isNight ({ frames := 0, cells := 0, slots := 0, locals := 0 }) D cyI cyO cyL [.int h_] (([] : va_W)) (([] : va_W)) (ntM h_) := by
  intro sz
  refine Met.ofW (cc := cX6_isNight) (maxL := 1) (ret := (some .boolean)) (by decide) rfl ?_
  intro p e s m args below meth c s₁ B9 hml hv
  obtain ⟨rfl, hsz, hP, hKK, hD0⟩ := hv
  have hx := B9.exec
  have hb := B9.bytes
  have hrt := B9.returns
  have hts := atoms_spec (ws := wsX6_isNight) B9.pre
  have hown : s.vm.findClass RX6 = some m.cls := findClass_of_methodNamed B9.named
  have hlocks := B9.notSynchronized
  have nw := fun {w : Cond} (h : w ∈ nw_all) => NW.use (args := ([.int h_] : List Value).toArray) hKK.2 h
  subst hsz
  have hD := hD0.self (sz := s.heap.size)
  generalize hAe : va_A (([] : va_W)) s.heap.size = A at hD ⊢
  have hA : ∀ q : Nat, s.heap.size ≤ q → A q := fun q h => by rw [← hAe]; exact Or.inr h
  have hS : va_S A s.heap s.heap [] := va_S.rf
  have hl := lv_entry ([.int h_]) (n := 1) (Nat.le_of_ble_eq_true rfl)
  rw [lg_entry_eq]
  generalize (lg_sl ([.int h_]) ++ List.replicate (1 - (lg_sl ([.int h_])).length) Slot.unset).toArray = ls at hl ⊢
  have hl : lv_has ls 1 [(0, .int h_)] := hl
  refine lv_iload_n hx hb dX6_isNight_0 rfl (lv_at hl 0 rfl) ?_
  refine lv_bipush (v := 24) hx hb dX6_isNight_1 (by decide) ?_
  refine lv_irem hx hb dX6_isNight_3 (by decide) ?_
  refine lv_tope (y := ir h_ 24) rfl ?_
  refine lv_bipush (v := 6) hx hb dX6_isNight_4 (by decide) ?_
  refine lv_icmp_lt (tgt := 18) hx hb dX6_isNight_6 (by decide) (fun h_1 => ?_) (fun h_1 => ?_)
  · skip
    refine lv_iconst (v := 1) hx hb dX6_isNight_18 (by decide) ?_
    refine lv_goto (tgt := 23) hx hb dX6_isNight_19 (by decide) ?_
    have e9 : ntM h_ = 1 := (by first | with_reducible rfl | (simp only [ntM, h_1, if_true, if_false, reduceIte, not_true_eq_false, not_false_eq_true]; done) | (simp [ntM, h_1]; done))
    exact end_z hx hb hrt hlocks (by first | exact Or.inl rfl | exact Or.inr rfl) (by rw [e9]) hP hS dX6_isNight_23
  · skip
    refine lv_iload_n hx hb dX6_isNight_9 rfl (lv_at hl 0 rfl) ?_
    refine lv_bipush (v := 24) hx hb dX6_isNight_10 (by decide) ?_
    refine lv_irem hx hb dX6_isNight_12 (by decide) ?_
    refine lv_tope (y := ir h_ 24) rfl ?_
    refine lv_bipush (v := 19) hx hb dX6_isNight_13 (by decide) ?_
    refine lv_icmp_le (tgt := 22) hx hb dX6_isNight_15 (by decide) (fun h_2 => ?_) (fun h_2 => ?_)
    · skip
      refine lv_iconst (v := 0) hx hb dX6_isNight_22 (by decide) ?_
      have e9 : ntM h_ = 0 := (by first | with_reducible rfl | (simp only [ntM, h_1, h_2, if_true, if_false, reduceIte, not_true_eq_false, not_false_eq_true]; done) | (simp [ntM, h_1, h_2]; done))
      exact end_z hx hb hrt hlocks (by first | exact Or.inl rfl | exact Or.inr rfl) (by rw [e9]) hP hS dX6_isNight_23
    · skip
      refine lv_iconst (v := 1) hx hb dX6_isNight_18 (by decide) ?_
      refine lv_goto (tgt := 23) hx hb dX6_isNight_19 (by decide) ?_
      have e9 : ntM h_ = 1 := (by first | with_reducible rfl | (simp only [ntM, h_1, h_2, if_true, if_false, reduceIte, not_true_eq_false, not_false_eq_true]; done) | (simp [ntM, h_1, h_2]; done))
      exact end_z hx hb hrt hlocks (by first | exact Or.inl rfl | exact Or.inr rfl) (by rw [e9]) hP hS dX6_isNight_23
set_option maxHeartbeats 4000000 in
set_option maxRecDepth 100000 in
theorem c_X6_put (l : Launch) (D : va_G) (cyI cyO cyL : ClassId) (ag : Nat) (rg : Nat → Int32) (p_ : Int32) (v_ : Int32) (n_ : Nat) (hp : vp_in p_ n_) : cI l yX6_put wsX6_put ({ frames := 0, cells := 0, slots := 0, locals := 0 }) D cyI cyO cyL [.ref ag, .int p_, .int v_] (cA cyI ag n_ rg) (cA cyI ag n_ (upd rg p_.toNatClampNeg v_)) (rg p_.toNatClampNeg) := by
  intro sz
  refine Met.ofW (cc := cX6_put) (maxL := 4) (ret := (some .int)) (by decide) rfl ?_
  intro p e s m args below meth c s₁ B9 hml hv
  obtain ⟨rfl, hsz, hP, hKK, hD0⟩ := hv
  have hx := B9.exec
  have hb := B9.bytes
  have hrt := B9.returns
  have hts := atoms_spec (ws := wsX6_put) B9.pre
  have hown : s.vm.findClass RX6 = some m.cls := findClass_of_methodNamed B9.named
  have hlocks := B9.notSynchronized
  have nw := fun {w : Cond} (h : w ∈ nw_all) => NW.use (args := ([.ref ag, .int p_, .int v_] : List Value).toArray) hKK.2 h
  subst hsz
  have hD := hD0.self (sz := s.heap.size)
  generalize hAe : va_A (cA cyI ag n_ rg) s.heap.size = A at hD ⊢
  have hA : ∀ q : Nat, s.heap.size ≤ q → A q := fun q h => by rw [← hAe]; exact Or.inr h
  have hS : va_S A s.heap s.heap [] := va_S.rf
  have hl := lv_entry ([.ref ag, .int p_, .int v_]) (n := 4) (Nat.le_of_ble_eq_true rfl)
  rw [lg_entry_eq]
  generalize (lg_sl ([.ref ag, .int p_, .int v_]) ++ List.replicate (4 - (lg_sl ([.ref ag, .int p_, .int v_])).length) Slot.unset).toArray = ls at hl ⊢
  have hl : lv_has ls 4 [(0, .ref ag), (1, .int p_), (2, .int v_)] := hl
  refine lv_aload_n hx hb dX6_put_0 rfl (lv_at hl 0 rfl) ?_
  refine lv_iload_n hx hb dX6_put_1 rfl (lv_at hl 1 rfl) ?_
  refine va_iald hx hb hKK.1 hP 0 0 rfl rfl (hin := hp) dX6_put_2 ?_
  refine lv_istore_n (lv' := [(3, .int (rg p_.toNatClampNeg)), (0, .ref ag), (1, .int p_), (2, .int v_)]) hx hb dX6_put_3 rfl hl (by decide) rfl (fun ls hl => ?_)
  refine lv_aload_n hx hb dX6_put_4 rfl (lv_at hl 1 rfl) ?_
  refine lv_iload_n hx hb dX6_put_5 rfl (lv_at hl 2 rfl) ?_
  refine lv_iload_n hx hb dX6_put_6 rfl (lv_at hl 3 rfl) ?_
  refine va_iast hx hb hKK.1 hP hD hS 0 0 rfl rfl (hin := hp) dX6_put_7 (fun H locs hP hD hS => ?_)
  have hP : va_P D vwCl (cA cyI ag n_ (upd rg p_.toNatClampNeg v_)) H := hP
  have hD : va_D A (cA cyI ag n_ (upd rg p_.toNatClampNeg v_)) := hD
  refine lv_iload_n hx hb dX6_put_8 rfl (lv_at hl 0 rfl) ?_
  exact end_i hx hb hrt hlocks rfl hP hS dX6_put_9
set_option maxHeartbeats 4000000 in
set_option maxRecDepth 100000 in
theorem c_X6_wear (l : Launch) (D : va_G) (cyI cyO cyL : ClassId) (ar : Nat) (rw : Nat → Int32) (s_ : Int32) (by_ : Int32) (hs : vp_in s_ 24) : cV l yX6_wear wsX6_wear ({ frames := 1, cells := 0, slots := 0, locals := 15 }) D cyI cyO cyL [.ref ar, .int s_, .int by_] (cA cyI ar 121 rw) (cA cyI ar 121 (mwear rw s_ by_)) := by
  intro sz
  refine Met.ofW (cc := cX6_wear) (maxL := 3) (ret := none) (by decide) rfl ?_
  intro p e s m args below meth c s₁ B9 hml hv
  obtain ⟨rfl, hsz, hP, hKK, hD0⟩ := hv
  have hx := B9.exec
  have hb := B9.bytes
  have hrt := B9.returns
  have hts := atoms_spec (ws := wsX6_wear) B9.pre
  have hown : s.vm.findClass RX6 = some m.cls := findClass_of_methodNamed B9.named
  have hlocks := B9.notSynchronized
  have nw := fun {w : Cond} (h : w ∈ nw_all) => NW.use (args := ([.ref ar, .int s_, .int by_] : List Value).toArray) hKK.2 h
  subst hsz
  have hD := hD0.self (sz := s.heap.size)
  generalize hAe : va_A (cA cyI ar 121 rw) s.heap.size = A at hD ⊢
  have hA : ∀ q : Nat, s.heap.size ≤ q → A q := fun q h => by rw [← hAe]; exact Or.inr h
  have hS : va_S A s.heap s.heap [] := va_S.rf
  have hl := lv_entry ([.ref ar, .int s_, .int by_]) (n := 3) (Nat.le_of_ble_eq_true rfl)
  rw [lg_entry_eq]
  generalize (lg_sl ([.ref ar, .int s_, .int by_]) ++ List.replicate (3 - (lg_sl ([.ref ar, .int s_, .int by_])).length) Slot.unset).toArray = ls at hl ⊢
  have hl : lv_has ls 3 [(0, .ref ar), (1, .int s_), (2, .int by_)] := hl
  refine lv_aload_n hx hb dX6_wear_0 rfl (lv_at hl 0 rfl) ?_
  refine lv_iconst (v := 0) hx hb dX6_wear_1 (by decide) ?_
  refine lv_iload_n hx hb dX6_wear_2 rfl (lv_at hl 1 rfl) ?_
  refine lv_iadd hx hb dX6_wear_3 ?_
  refine lv_bipush (v := 100) hx hb dX6_wear_4 (by decide) ?_
  refine lv_aload_n hx hb dX6_wear_6 rfl (lv_at hl 0 rfl) ?_
  refine lv_iconst (v := 0) hx hb dX6_wear_7 (by decide) ?_
  refine lv_iload_n hx hb dX6_wear_8 rfl (lv_at hl 1 rfl) ?_
  refine lv_iadd hx hb dX6_wear_9 ?_
  refine va_iald hx hb hKK.1 hP 0 0 rfl rfl (hin := (in0 hs)) dX6_wear_10 ?_
  refine lv_tope (y := rw s_.toNatClampNeg) (by rw [tn0 hs]) ?_
  refine lv_iload_n hx hb dX6_wear_11 rfl (lv_at hl 2 rfl) ?_
  refine lv_iadd hx hb dX6_wear_12 ?_
  refine va_mmin hx hb (by rw [hml]; exact hl.1.symm) hown (hts (.methodLink RX6 77 Lib.Math.min.name) (List.mem_of_getElem? (i := 1) rfl)) (hts (.static Lib.Math.min.name) (List.mem_of_getElem? (i := 2) rfl)) (hts (.initialized "java/lang/Math") (List.mem_of_getElem? (i := 3) rfl)) (hts (.code Lib.Math.min.name Lib.Math.min.code 2 (some .int)) (List.mem_of_getElem? (i := 4) rfl)) (Nat.le_of_ble_eq_true rfl) (Nat.le_of_ble_eq_true rfl) (Nat.zero_le _) (Nat.zero_le _) dX6_wear_13 ?_
  refine lv_tope (y := mmin 100 ((rw s_.toNatClampNeg) + by_)) rfl ?_
  refine va_iast hx hb hKK.1 hP hD hS 0 0 rfl rfl (hin := (in0 hs)) dX6_wear_16 (fun H locs hP hD hS => ?_)
  rw [tn0 hs] at hP hD
  have hP : va_P D vwCl (cA cyI ar 121 (upd rw s_.toNatClampNeg (mmin 100 ((rw s_.toNatClampNeg) + by_)))) H := hP
  have hD : va_D A (cA cyI ar 121 (upd rw s_.toNatClampNeg (mmin 100 ((rw s_.toNatClampNeg) + by_)))) := hD
  refine lv_aload_n hx hb dX6_wear_17 rfl (lv_at hl 0 rfl) ?_
  refine lv_iconst (v := 0) hx hb dX6_wear_18 (by decide) ?_
  refine lv_iload_n hx hb dX6_wear_19 rfl (lv_at hl 1 rfl) ?_
  refine lv_iadd hx hb dX6_wear_20 ?_
  refine va_iald hx hb hKK.1 hP 0 0 rfl rfl (hin := (in0 hs)) dX6_wear_21 ?_
  refine lv_tope (y := (upd rw s_.toNatClampNeg (mmin 100 ((rw s_.toNatClampNeg) + by_))) s_.toNatClampNeg) (by rw [tn0 hs]) ?_
  refine lv_bipush (v := 100) hx hb dX6_wear_22 (by decide) ?_
  refine lv_icmp_ne (tgt := 34) hx hb dX6_wear_24 (by decide) (fun h_1 => ?_) (fun h_1 => ?_)
  · skip
    have e9 : mwear rw s_ by_ = upd rw s_.toNatClampNeg (mmin 100 ((rw s_.toNatClampNeg) + by_)) := (by first | with_reducible rfl | (simp only [mwear, h_1, if_true, if_false, reduceIte, not_true_eq_false, not_false_eq_true]; done) | (simp [mwear, h_1]; done))
    exact end_v hx hb hrt hlocks (by rw [e9]; exact hP) hS dX6_wear_34
  · skip
    refine lv_aload_n hx hb dX6_wear_27 rfl (lv_at hl 0 rfl) ?_
    refine lv_bipush (v := 48) hx hb dX6_wear_28 (by decide) ?_
    refine lv_iload_n hx hb dX6_wear_30 rfl (lv_at hl 1 rfl) ?_
    refine lv_iadd hx hb dX6_wear_31 ?_
    refine lv_iconst (v := 1) hx hb dX6_wear_32 (by decide) ?_
    refine va_iast hx hb hKK.1 hP hD hS 0 0 rfl rfl (hin := (in48 hs)) dX6_wear_33 (fun H locs hP hD hS => ?_)
    rw [tn48 hs] at hP hD
    have hP : va_P D vwCl (cA cyI ar 121 (upd (upd rw s_.toNatClampNeg (mmin 100 ((rw s_.toNatClampNeg) + by_))) (48 + s_.toNatClampNeg) 1)) H := hP
    have hD : va_D A (cA cyI ar 121 (upd (upd rw s_.toNatClampNeg (mmin 100 ((rw s_.toNatClampNeg) + by_))) (48 + s_.toNatClampNeg) 1)) := hD
    have e9 : mwear rw s_ by_ = upd (upd rw s_.toNatClampNeg (mmin 100 ((rw s_.toNatClampNeg) + by_))) (48 + s_.toNatClampNeg) 1 := (by first | with_reducible rfl | (simp only [mwear, h_1, if_true, if_false, reduceIte, not_true_eq_false, not_false_eq_true]; done) | (simp [mwear, h_1]; done))
    exact end_v hx hb hrt hlocks (by rw [e9]; exact hP) hS dX6_wear_34
set_option maxHeartbeats 4000000 in
set_option maxRecDepth 100000 in
theorem c_X6_freeze (l : Launch) (D : va_G) (cyI cyO cyL : ClassId) (aM : Nat) (ac : Nat) (as_ : Nat) (an : Nat) (ah : Nat) (ar : Nat) (th : Int32) (bu : Int32) (fd : Int32) (fn : Int32) (cd : Nat → Int32) (sw : Nat → Int32) (rw : Nat → Int32) (hhr : ∃ n : Nat, n < 2 ^ 30 ∧ rw 120 = nI n) : cV l yX6_freeze wsX6_freeze ({ frames := 1, cells := 0, slots := 0, locals := 20 }) D cyI cyO cyL [.ref aM, .ref ar] (cM aM ac as_ an ah th bu fd fn ++ cA cyI ac 8 cd ++ cA cyI as_ 12 sw ++ cA cyI ar 121 rw) (cM aM ac as_ an ah th bu fd fn ++ cA cyI ac 8 cd ++ cA cyI as_ 12 sw ++ cA cyI ar 121 (mfrL cd (rw 120) 24 24 rw)) := by
  intro sz
  refine Met.ofW (cc := cX6_freeze) (maxL := 4) (ret := none) (by decide) rfl ?_
  intro p e s m args below meth c s₁ B9 hml hv
  obtain ⟨rfl, hsz, hP, hKK, hD0⟩ := hv
  have hx := B9.exec
  have hb := B9.bytes
  have hrt := B9.returns
  have hts := atoms_spec (ws := wsX6_freeze) B9.pre
  have hown : s.vm.findClass RX6 = some m.cls := findClass_of_methodNamed B9.named
  have hlocks := B9.notSynchronized
  have nw := fun {w : Cond} (h : w ∈ nw_all) => NW.use (args := ([.ref aM, .ref ar] : List Value).toArray) hKK.2 h
  have iX6 : ∀ w ∈ wsX60, w ∈ wsX6_freeze := fun _ h => List.mem_cons_of_mem _ (List.mem_append_right _ h)
  subst hsz
  have hD := hD0.self (sz := s.heap.size)
  generalize hAe : va_A (cM aM ac as_ an ah th bu fd fn ++ cA cyI ac 8 cd ++ cA cyI as_ 12 sw ++ cA cyI ar 121 rw) s.heap.size = A at hD ⊢
  have hA : ∀ q : Nat, s.heap.size ≤ q → A q := fun q h => by rw [← hAe]; exact Or.inr h
  have hS : va_S A s.heap s.heap [] := va_S.rf
  have hl := lv_entry ([.ref aM, .ref ar]) (n := 4) (Nat.le_of_ble_eq_true rfl)
  rw [lg_entry_eq]
  generalize (lg_sl ([.ref aM, .ref ar]) ++ List.replicate (4 - (lg_sl ([.ref aM, .ref ar])).length) Slot.unset).toArray = ls at hl ⊢
  have hl : lv_has ls 4 [(0, .ref aM), (1, .ref ar)] := hl
  refine lv_aload_n hx hb dX6_freeze_0 rfl (lv_at hl 1 rfl) ?_
  refine lv_bipush (v := 120) hx hb dX6_freeze_1 (by decide) ?_
  refine va_iald hx hb hKK.1 hP 3 0 rfl rfl (hin := (vp_in_nI (n := 120) (by decide) (by decide))) dX6_freeze_3 ?_
  refine lv_tope (y := rw 120) rfl ?_
  refine lv_istore_n (lv' := [(2, .int (rw 120)), (0, .ref aM), (1, .ref ar)]) hx hb dX6_freeze_4 rfl hl (by decide) rfl (fun ls hl => ?_)
  refine lv_bipush (v := 24) hx hb dX6_freeze_5 (by decide) ?_
  refine lv_istore_n (lv' := [(3, .int 24), (2, .int (rw 120)), (0, .ref aM), (1, .ref ar)]) hx hb dX6_freeze_7 rfl hl (by decide) rfl (fun ls hl => ?_)
  refine wloop (σ := (Nat) × (Nat → Int32)) (fun d9 x9 H9 L9 s9 => ((x9.1) + d9 = 48) ∧ (mfrL cd (rw 120) 24 24 rw = mfrL cd (rw 120) d9 (x9.1) (x9.2)) ∧ (24 ≤ (x9.1)) ∧ (va_P D vwCl (cM aM ac as_ an ah th bu fd fn ++ cA cyI ac 8 cd ++ cA cyI as_ 12 sw ++ cA cyI ar 121 (x9.2)) H9) ∧ (va_D A (cM aM ac as_ an ah th bu fd fn ++ cA cyI ac 8 cd ++ cA cyI as_ 12 sw ++ cA cyI ar 121 (x9.2))) ∧ (va_S A s.heap H9 L9) ∧ (lv_has s9 4 [(3, .int (nI (x9.1))), (2, .int (rw 120)), (0, .ref aM), (1, .ref ar)])) (fun d9 x9 H locs ls g9 ih => ?_) 24 (24, rw) _ _ _ ⟨(by omega), rfl, (by omega), hP, hD, hS, lv_sub hl [0, 1, 2, 3] rfl⟩
  obtain ⟨i, rw1⟩ := x9
  obtain ⟨hid, hsp, hi24, hP, hD, hS, hl⟩ := g9
  obtain ⟨d, rfl⟩ : ∃ z, z = d9 := ⟨_, rfl⟩
  have hid : i + d = 48 := hid
  have hsp : mfrL cd (rw 120) 24 24 rw = mfrL cd (rw 120) d i rw1 := hsp
  have hi24 : 24 ≤ i := hi24
  have hP : va_P D vwCl (cM aM ac as_ an ah th bu fd fn ++ cA cyI ac 8 cd ++ cA cyI as_ 12 sw ++ cA cyI ar 121 rw1) H := hP
  have hD : va_D A (cM aM ac as_ an ah th bu fd fn ++ cA cyI ac 8 cd ++ cA cyI as_ 12 sw ++ cA cyI ar 121 rw1) := hD
  have hl : lv_has ls 4 [(3, .int (nI i)), (2, .int (rw 120)), (0, .ref aM), (1, .ref ar)] := hl
  refine lv_iload_n hx hb dX6_freeze_8 rfl (lv_at hl 0 rfl) ?_
  refine lv_bipush (v := 48) hx hb dX6_freeze_9 (by decide) ?_
  refine lv_icmp_ge (tgt := 60) hx hb dX6_freeze_11 (by decide) (fun h_1 => ?_) (fun h_1 => ?_)
  · skip
    obtain rfl : d = 0 := by have h9 := (nI_leI (a := 48) (b := i) (by omega) (by omega)).mp h_1; omega
    have hiN : i = 48 := by omega
    have e9 : mfrL cd (rw 120) 24 24 rw = rw1 := (hsp.trans rfl)
    exact end_v hx hb hrt hlocks (by rw [e9]; exact hP) hS dX6_freeze_60
  · skip
    have hlt : i < 48 := by have h9 := mt (nI_leI (a := 48) (b := i) (by omega) (by omega)).mpr h_1; omega
    obtain ⟨d, rfl⟩ : ∃ k, d = k + 1 := ⟨d - 1, by omega⟩
    refine lv_aload_n hx hb dX6_freeze_14 rfl (lv_at hl 3 rfl) ?_
    refine lv_iload_n hx hb dX6_freeze_15 rfl (lv_at hl 0 rfl) ?_
    refine lv_iload_n hx hb dX6_freeze_16 rfl (lv_at hl 1 rfl) ?_
    have hPc := hP.sub (ws' := ([] : va_W)) [] rfl
    have hDc := hD.sub (ws' := ([] : va_W)) [] (by decide) rfl
    refine ret_i (W1 := ([] : va_W)) (W2 := ([] : va_W)) (ws1 := (cM aM ac as_ an ah th bu fd fn ++ cA cyI ac 8 cd ++ cA cyI as_ 12 sw ++ cA cyI ar 121 rw1)) (r := ntM (rw 120)) (run_S (n := 1) (As := [.int (rw 120)]) (rest := [.int (nI i), .ref ar]) ⟨hx, hb, hml, hown, hts⟩ (c_X6_isNight l D cyI cyO cyL (rw 120) _) ggX6_freeze_X6_isNight rfl rfl rfl (hts (.methodLink RX6 95 yX6_isNight) (List.mem_of_getElem? (i := 9) rfl)) (hts (.initialized RX6) (List.mem_of_getElem? (i := 11) rfl)) (hts (.static yX6_isNight) (List.mem_of_getElem? (i := 10) rfl)) (by decide +kernel) ⟨Nat.le_of_ble_eq_true rfl, Nat.le_of_ble_eq_true rfl⟩ hKK hPc hDc rfl hl.1 rfl (Nat.le_of_ble_eq_true rfl) dX6_freeze_17 ⟨Nat.zero_le _, Nat.zero_le _⟩) hP hD hS hA [] rfl rfl [(false, 0), (false, 1), (false, 2), (false, 3)] (by decide +kernel) rfl (fun H locs hP hD hS => ?_)
    refine lv_if_eq (tgt := 44) hx hb dX6_freeze_20 (by decide) (fun h_2 => ?_) (fun h_2 => ?_)
    · skip
      refine lv_iconst (v := 0) hx hb dX6_freeze_44 (by decide) ?_
      refine lv_aload_n hx hb dX6_freeze_45 rfl (lv_at hl 3 rfl) ?_
      refine lv_iload_n hx hb dX6_freeze_46 rfl (lv_at hl 0 rfl) ?_
      refine va_iald hx hb hKK.1 hP 3 0 rfl rfl (hin := (vp_in_nI (show i < 121 by omega) (by omega))) dX6_freeze_47 ?_
      refine lv_tope (y := rw1 i) (by rw [nI_clamp (by omega)]) ?_
      refine lv_iconst (v := 2) hx hb dX6_freeze_48 (by decide) ?_
      refine lv_isub hx hb dX6_freeze_49 ?_
      refine va_mmax hx hb (by rw [hml]; exact hl.1.symm) hown (hts (.methodLink RX6 104 Lib.Math.max.name) (List.mem_of_getElem? (i := 6) rfl)) (hts (.static Lib.Math.max.name) (List.mem_of_getElem? (i := 7) rfl)) (hts (.initialized "java/lang/Math") (List.mem_of_getElem? (i := 4) rfl)) (hts (.code Lib.Math.max.name Lib.Math.max.code 2 (some .int)) (List.mem_of_getElem? (i := 8) rfl)) (Nat.le_of_ble_eq_true rfl) (Nat.le_of_ble_eq_true rfl) (Nat.zero_le _) (Nat.zero_le _) dX6_freeze_50 ?_
      refine lv_tope (y := mmax 0 ((rw1 i) - 2)) rfl ?_
      refine va_iast hx hb hKK.1 hP hD hS 3 0 rfl rfl (hin := (vp_in_nI (show i < 121 by omega) (by omega))) dX6_freeze_53 (fun H locs hP hD hS => ?_)
      rw [nI_clamp (by omega)] at hP hD
      have hP : va_P D vwCl (cM aM ac as_ an ah th bu fd fn ++ cA cyI ac 8 cd ++ cA cyI as_ 12 sw ++ cA cyI ar 121 (upd rw1 i (mmax 0 ((rw1 i) - 2)))) H := hP
      have hD : va_D A (cM aM ac as_ an ah th bu fd fn ++ cA cyI ac 8 cd ++ cA cyI as_ 12 sw ++ cA cyI ar 121 (upd rw1 i (mmax 0 ((rw1 i) - 2)))) := hD
      refine lv_iinc (v := nI (i + 1)) (lv' := [(3, .int (nI (i + 1))), (2, .int (rw 120)), (0, .ref aM), (1, .ref ar)]) hx hb dX6_freeze_54 hl (k := 0) rfl (nI_1 i) (by decide) rfl (fun ls hl => ?_)
      refine lv_goto (tgt := 8) hx hb dX6_freeze_57 (by decide) ?_
      exact ih d ((i + 1), (upd rw1 i (mmax 0 ((rw1 i) - 2)))) _ _ _ (by omega) ⟨(by omega), (hsp.trans (by first | with_reducible rfl | (simp only [mfrL, h_1, h_2, if_true, if_false, reduceIte, not_true_eq_false, not_false_eq_true]; done) | (simp [mfrL, h_1, h_2]; done))), (by omega), hP, hD, hS, lv_sub hl [0, 1, 2, 3] rfl⟩
    · skip
      refine lv_bipush (v := 9) hx hb dX6_freeze_23 (by decide) ?_
      refine lv_aload_n hx hb dX6_freeze_25 rfl (lv_at hl 3 rfl) ?_
      refine lv_iload_n hx hb dX6_freeze_26 rfl (lv_at hl 0 rfl) ?_
      refine va_iald hx hb hKK.1 hP 3 0 rfl rfl (hin := (vp_in_nI (show i < 121 by omega) (by omega))) dX6_freeze_27 ?_
      refine lv_tope (y := rw1 i) (by rw [nI_clamp (by omega)]) ?_
      refine lv_aload_n hx hb dX6_freeze_28 rfl (lv_at hl 2 rfl) ?_
      refine va_get (D := D) (ci := 6) (v := .ref ac) (C := RX6) (T := TX6) (N := 8) hx hb hts iX6 hown hKK.1 hP 0 rfl rfl 4 (by decide) (hts (.fieldLink RX6 19 "TrolleyGangModel" "cold" "[I") (List.mem_of_getElem? (i := 1) rfl)) (fun _ h9 => h9) rfl dX6_freeze_29 ?_
      refine lv_iload_n hx hb dX6_freeze_32 rfl (lv_at hl 1 rfl) ?_
      refine lv_bipush (v := 8) hx hb dX6_freeze_33 (by decide) ?_
      refine lv_irem hx hb dX6_freeze_35 (by decide) ?_
      refine lv_tope (y := ir (rw 120) 8) rfl ?_
      refine va_iald hx hb hKK.1 hP 1 0 rfl rfl (hin := (ir_in8 hhr)) dX6_freeze_36 ?_
      refine lv_iadd hx hb dX6_freeze_37 ?_
      refine va_mmin hx hb (by rw [hml]; exact hl.1.symm) hown (hts (.methodLink RX6 77 Lib.Math.min.name) (List.mem_of_getElem? (i := 2) rfl)) (hts (.static Lib.Math.min.name) (List.mem_of_getElem? (i := 3) rfl)) (hts (.initialized "java/lang/Math") (List.mem_of_getElem? (i := 4) rfl)) (hts (.code Lib.Math.min.name Lib.Math.min.code 2 (some .int)) (List.mem_of_getElem? (i := 5) rfl)) (Nat.le_of_ble_eq_true rfl) (Nat.le_of_ble_eq_true rfl) (Nat.zero_le _) (Nat.zero_le _) dX6_freeze_38 ?_
      refine lv_tope (y := mmin 9 ((rw1 i) + (cd (ir (rw 120) 8).toNatClampNeg))) rfl ?_
      refine lv_goto (tgt := 53) hx hb dX6_freeze_41 (by decide) ?_
      refine va_iast hx hb hKK.1 hP hD hS 3 0 rfl rfl (hin := (vp_in_nI (show i < 121 by omega) (by omega))) dX6_freeze_53 (fun H locs hP hD hS => ?_)
      rw [nI_clamp (by omega)] at hP hD
      have hP : va_P D vwCl (cM aM ac as_ an ah th bu fd fn ++ cA cyI ac 8 cd ++ cA cyI as_ 12 sw ++ cA cyI ar 121 (upd rw1 i (mmin 9 ((rw1 i) + (cd (ir (rw 120) 8).toNatClampNeg))))) H := hP
      have hD : va_D A (cM aM ac as_ an ah th bu fd fn ++ cA cyI ac 8 cd ++ cA cyI as_ 12 sw ++ cA cyI ar 121 (upd rw1 i (mmin 9 ((rw1 i) + (cd (ir (rw 120) 8).toNatClampNeg))))) := hD
      refine lv_iinc (v := nI (i + 1)) (lv' := [(3, .int (nI (i + 1))), (2, .int (rw 120)), (0, .ref aM), (1, .ref ar)]) hx hb dX6_freeze_54 hl (k := 0) rfl (nI_1 i) (by decide) rfl (fun ls hl => ?_)
      refine lv_goto (tgt := 8) hx hb dX6_freeze_57 (by decide) ?_
      exact ih d ((i + 1), (upd rw1 i (mmin 9 ((rw1 i) + (cd (ir (rw 120) 8).toNatClampNeg))))) _ _ _ (by omega) ⟨(by omega), (hsp.trans (by first | with_reducible rfl | (simp only [mfrL, h_1, h_2, if_true, if_false, reduceIte, not_true_eq_false, not_false_eq_true]; done) | (simp [mfrL, h_1, h_2]; done))), (by omega), hP, hD, hS, lv_sub hl [0, 1, 2, 3] rfl⟩
set_option maxHeartbeats 4000000 in
set_option maxRecDepth 100000 in
theorem c_X6_remove (l : Launch) (D : va_G) (cyI cyO cyL : ClassId) (ar : Nat) (rw : Nat → Int32) (n : Nat) (p_ : Nat) (hn : n ≤ 6) (hoc : rw 109 = nI n) (hp : p_ < n) : cV l yX6_remove wsX6_remove ({ frames := 0, cells := 0, slots := 0, locals := 0 }) D cyI cyO cyL [.ref ar, .int (nI p_)] (cA cyI ar 121 rw) (cA cyI ar 121 (mrem rw p_ n)) := by
  intro sz
  refine Met.ofW (cc := cX6_remove) (maxL := 3) (ret := none) (by decide) rfl ?_
  intro p e s m args below meth c s₁ B9 hml hv
  obtain ⟨rfl, hsz, hP, hKK, hD0⟩ := hv
  have hx := B9.exec
  have hb := B9.bytes
  have hrt := B9.returns
  have hts := atoms_spec (ws := wsX6_remove) B9.pre
  have hown : s.vm.findClass RX6 = some m.cls := findClass_of_methodNamed B9.named
  have hlocks := B9.notSynchronized
  have nw := fun {w : Cond} (h : w ∈ nw_all) => NW.use (args := ([.ref ar, .int (nI p_)] : List Value).toArray) hKK.2 h
  subst hsz
  have hD := hD0.self (sz := s.heap.size)
  generalize hAe : va_A (cA cyI ar 121 rw) s.heap.size = A at hD ⊢
  have hA : ∀ q : Nat, s.heap.size ≤ q → A q := fun q h => by rw [← hAe]; exact Or.inr h
  have hS : va_S A s.heap s.heap [] := va_S.rf
  have hl := lv_entry ([.ref ar, .int (nI p_)]) (n := 3) (Nat.le_of_ble_eq_true rfl)
  rw [lg_entry_eq]
  generalize (lg_sl ([.ref ar, .int (nI p_)]) ++ List.replicate (3 - (lg_sl ([.ref ar, .int (nI p_)])).length) Slot.unset).toArray = ls at hl ⊢
  have hl : lv_has ls 3 [(0, .ref ar), (1, .int (nI p_))] := hl
  refine lv_iload_n hx hb dX6_remove_0 rfl (lv_at hl 1 rfl) ?_
  refine lv_istore_n (lv' := [(2, .int (nI p_)), (0, .ref ar), (1, .int (nI p_))]) hx hb dX6_remove_1 rfl hl (by decide) rfl (fun ls hl => ?_)
  refine wloop (σ := (Nat) × (Nat → Int32)) (fun d9 x9 H9 L9 s9 => ((x9.1) + 1 + d9 = n) ∧ (mrmL (n - (p_ + 1)) p_ rw = mrmL d9 (x9.1) (x9.2)) ∧ ((x9.2) 109 = nI n) ∧ (va_P D vwCl (cA cyI ar 121 (x9.2)) H9) ∧ (va_D A (cA cyI ar 121 (x9.2))) ∧ (va_S A s.heap H9 L9) ∧ (lv_has s9 3 [(2, .int (nI (x9.1))), (0, .ref ar), (1, .int (nI p_))])) (fun d9 x9 H locs ls g9 ih => ?_) (n - (p_ + 1)) (p_, rw) _ _ _ ⟨(by omega), rfl, hoc, hP, hD, hS, lv_sub hl [0, 1, 2] rfl⟩
  obtain ⟨i, rw1⟩ := x9
  obtain ⟨hid, hsp, hoc1, hP, hD, hS, hl⟩ := g9
  obtain ⟨d, rfl⟩ : ∃ z, z = d9 := ⟨_, rfl⟩
  have hid : i + 1 + d = n := hid
  have hsp : mrmL (n - (p_ + 1)) p_ rw = mrmL d i rw1 := hsp
  have hoc1 : rw1 109 = nI n := hoc1
  have hP : va_P D vwCl (cA cyI ar 121 rw1) H := hP
  have hD : va_D A (cA cyI ar 121 rw1) := hD
  have hl : lv_has ls 3 [(2, .int (nI i)), (0, .ref ar), (1, .int (nI p_))] := hl
  refine lv_iload_n hx hb dX6_remove_2 rfl (lv_at hl 0 rfl) ?_
  refine lv_iconst (v := 1) hx hb dX6_remove_3 (by decide) ?_
  refine lv_iadd hx hb dX6_remove_4 ?_
  refine lv_tope (y := nI (i + 1)) (nI_add i 1) ?_
  refine lv_aload_n hx hb dX6_remove_5 rfl (lv_at hl 1 rfl) ?_
  refine lv_bipush (v := 109) hx hb dX6_remove_6 (by decide) ?_
  refine va_iald hx hb hKK.1 hP 0 0 rfl rfl (hin := (vp_in_nI (n := 109) (by decide) (by decide))) dX6_remove_8 ?_
  refine lv_tope (y := rw1 109) rfl ?_
  refine lv_tope (y := nI n) hoc1 ?_
  refine lv_icmp_ge (tgt := 32) hx hb dX6_remove_9 (by decide) (fun h_1 => ?_) (fun h_1 => ?_)
  · skip
    obtain rfl : d = 0 := by have h9 := (nI_leI (a := n) (b := i + 1) (by omega) (by omega)).mp h_1; omega
    refine lv_aload_n hx hb dX6_remove_32 rfl (lv_at hl 1 rfl) ?_
    refine lv_bipush (v := 109) hx hb dX6_remove_33 (by decide) ?_
    refine lv_dup2_11 hx hb dX6_remove_35 rfl rfl ?_
    refine va_iald hx hb hKK.1 hP 0 0 rfl rfl (hin := (vp_in_nI (n := 109) (by decide) (by decide))) dX6_remove_36 ?_
    refine lv_tope (y := rw1 109) rfl ?_
    refine lv_iconst (v := 1) hx hb dX6_remove_37 (by decide) ?_
    refine lv_isub hx hb dX6_remove_38 ?_
    refine va_iast hx hb hKK.1 hP hD hS 0 0 rfl rfl (hin := (vp_in_nI (n := 109) (by decide) (by decide))) dX6_remove_39 (fun H locs hP hD hS => ?_)
    have hP : va_P D vwCl (cA cyI ar 121 (upd rw1 109 ((rw1 109) - 1))) H := hP
    have hD : va_D A (cA cyI ar 121 (upd rw1 109 ((rw1 109) - 1))) := hD
    refine lv_iload_n hx hb dX6_remove_40 rfl (lv_at hl 2 rfl) ?_
    refine lv_if_ne (tgt := 49) hx hb dX6_remove_41 (by decide) (fun h_2 => ?_) (fun h_2 => ?_)
    · skip
      have e9 : mrem rw p_ n = upd rw1 109 ((rw1 109) - 1) := (by unfold mrem; rw [hsp]; first | exact if_pos h_2 | exact if_neg h_2)
      exact end_v hx hb hrt hlocks (by rw [e9]; exact hP) hS dX6_remove_49
    · skip
      refine lv_aload_n hx hb dX6_remove_44 rfl (lv_at hl 1 rfl) ?_
      refine lv_bipush (v := 110) hx hb dX6_remove_45 (by decide) ?_
      refine lv_iconst (v := 0) hx hb dX6_remove_47 (by decide) ?_
      refine va_iast hx hb hKK.1 hP hD hS 0 0 rfl rfl (hin := (vp_in_nI (n := 110) (by decide) (by decide))) dX6_remove_48 (fun H locs hP hD hS => ?_)
      have hP : va_P D vwCl (cA cyI ar 121 (upd (upd rw1 109 ((rw1 109) - 1)) 110 0)) H := hP
      have hD : va_D A (cA cyI ar 121 (upd (upd rw1 109 ((rw1 109) - 1)) 110 0)) := hD
      have e9 : mrem rw p_ n = upd (upd rw1 109 ((rw1 109) - 1)) 110 0 := (by unfold mrem; rw [hsp]; first | exact if_pos h_2 | exact if_neg h_2)
      exact end_v hx hb hrt hlocks (by rw [e9]; exact hP) hS dX6_remove_49
  · skip
    have hlt : i + 1 < n := by have h9 := mt (nI_leI (a := n) (b := i + 1) (by omega) (by omega)).mpr h_1; omega
    obtain ⟨d, rfl⟩ : ∃ k, d = k + 1 := ⟨d - 1, by omega⟩
    refine lv_aload_n hx hb dX6_remove_12 rfl (lv_at hl 1 rfl) ?_
    refine lv_bipush (v := 113) hx hb dX6_remove_13 (by decide) ?_
    refine lv_iload_n hx hb dX6_remove_15 rfl (lv_at hl 0 rfl) ?_
    refine lv_iadd hx hb dX6_remove_16 ?_
    refine lv_tope (y := nI (113 + i)) (nI_add 113 i) ?_
    refine lv_aload_n hx hb dX6_remove_17 rfl (lv_at hl 1 rfl) ?_
    refine lv_bipush (v := 113) hx hb dX6_remove_18 (by decide) ?_
    refine lv_iload_n hx hb dX6_remove_20 rfl (lv_at hl 0 rfl) ?_
    refine lv_iadd hx hb dX6_remove_21 ?_
    refine lv_tope (y := nI (113 + i)) (nI_add 113 i) ?_
    refine lv_iconst (v := 1) hx hb dX6_remove_22 (by decide) ?_
    refine lv_iadd hx hb dX6_remove_23 ?_
    refine lv_tope (y := nI ((113 + i) + 1)) (nI_add (113 + i) 1) ?_
    refine va_iald hx hb hKK.1 hP 0 0 rfl rfl (hin := (vp_in_nI (show ((113 + i) + 1) < 121 by omega) (by omega))) dX6_remove_24 ?_
    refine lv_tope (y := rw1 ((113 + i) + 1)) (by rw [nI_clamp (by omega)]) ?_
    refine va_iast hx hb hKK.1 hP hD hS 0 0 rfl rfl (hin := (vp_in_nI (show (113 + i) < 121 by omega) (by omega))) dX6_remove_25 (fun H locs hP hD hS => ?_)
    rw [nI_clamp (by omega)] at hP hD
    have hP : va_P D vwCl (cA cyI ar 121 (upd rw1 (113 + i) (rw1 ((113 + i) + 1)))) H := hP
    have hD : va_D A (cA cyI ar 121 (upd rw1 (113 + i) (rw1 ((113 + i) + 1)))) := hD
    refine lv_iinc (v := nI (i + 1)) (lv' := [(2, .int (nI (i + 1))), (0, .ref ar), (1, .int (nI p_))]) hx hb dX6_remove_26 hl (k := 0) rfl (nI_1 i) (by decide) rfl (fun ls hl => ?_)
    refine lv_goto (tgt := 2) hx hb dX6_remove_29 (by decide) ?_
    exact ih d ((i + 1), (upd rw1 (113 + i) (rw1 ((113 + i) + 1)))) _ _ _ (by omega) ⟨(by omega), (hsp.trans (by first | with_reducible rfl | (simp only [mrmL, h_1, if_true, if_false, reduceIte, not_true_eq_false, not_false_eq_true]; done) | (simp [mrmL, h_1]; done))), ((upd_ne _ _ (by omega)).trans hoc1), hP, hD, hS, lv_sub hl [0, 1, 2] rfl⟩
set_option maxHeartbeats 4000000 in
set_option maxRecDepth 100000 in
theorem c_X6_upwards (l : Launch) (D : va_G) (cyI cyO cyL : ClassId) (a_ : Int32) (b_ : Int32) : cI l yX6_upwards wsX6_upwards ({ frames := 0, cells := 0, slots := 0, locals := 0 }) D cyI cyO cyL [.int a_, .int b_] (([] : va_W)) (([] : va_W)) (mup a_ b_) := by
  intro sz
  refine Met.ofW (cc := cX6_upwards) (maxL := 2) (ret := (some .int)) (by decide) rfl ?_
  intro p e s m args below meth c s₁ B9 hml hv
  obtain ⟨rfl, hsz, hP, hKK, hD0⟩ := hv
  have hx := B9.exec
  have hb := B9.bytes
  have hrt := B9.returns
  have hts := atoms_spec (ws := wsX6_upwards) B9.pre
  have hown : s.vm.findClass RX6 = some m.cls := findClass_of_methodNamed B9.named
  have hlocks := B9.notSynchronized
  have nw := fun {w : Cond} (h : w ∈ nw_all) => NW.use (args := ([.int a_, .int b_] : List Value).toArray) hKK.2 h
  subst hsz
  have hD := hD0.self (sz := s.heap.size)
  generalize hAe : va_A (([] : va_W)) s.heap.size = A at hD ⊢
  have hA : ∀ q : Nat, s.heap.size ≤ q → A q := fun q h => by rw [← hAe]; exact Or.inr h
  have hS : va_S A s.heap s.heap [] := va_S.rf
  have hl := lv_entry ([.int a_, .int b_]) (n := 2) (Nat.le_of_ble_eq_true rfl)
  rw [lg_entry_eq]
  generalize (lg_sl ([.int a_, .int b_]) ++ List.replicate (2 - (lg_sl ([.int a_, .int b_])).length) Slot.unset).toArray = ls at hl ⊢
  have hl : lv_has ls 2 [(0, .int a_), (1, .int b_)] := hl
  refine lv_iload_n hx hb dX6_upwards_0 rfl (lv_at hl 1 rfl) ?_
  refine lv_iload_n hx hb dX6_upwards_1 rfl (lv_at hl 0 rfl) ?_
  refine lv_isub hx hb dX6_upwards_2 ?_
  refine lv_bipush (v := 24) hx hb dX6_upwards_3 (by decide) ?_
  refine lv_iadd hx hb dX6_upwards_5 ?_
  refine lv_bipush (v := 24) hx hb dX6_upwards_6 (by decide) ?_
  refine lv_irem hx hb dX6_upwards_8 (by decide) ?_
  refine lv_tope (y := ir ((b_ - a_) + 24) 24) rfl ?_
  have e9 : mup a_ b_ = ir ((b_ - a_) + 24) 24 := (by rfl)
  exact end_i hx hb hrt hlocks (by rw [e9]) hP hS dX6_upwards_9
set_option maxHeartbeats 4000000 in
set_option maxRecDepth 100000 in
theorem c_X6_sum (l : Launch) (D : va_G) (cyI cyO cyL : ClassId) (ar : Nat) (rw : Nat → Int32) (a_ : Nat) (ha : a_ ≤ 48) : cI l yX6_sum wsX6_sum ({ frames := 0, cells := 0, slots := 0, locals := 0 }) D cyI cyO cyL [.ref ar, .int (nI a_)] (cA cyI ar 121 rw) (cA cyI ar 121 rw) (msum rw a_ 24 0 0) := by
  intro sz
  refine Met.ofW (cc := cX6_sum) (maxL := 4) (ret := (some .int)) (by decide) rfl ?_
  intro p e s m args below meth c s₁ B9 hml hv
  obtain ⟨rfl, hsz, hP, hKK, hD0⟩ := hv
  have hx := B9.exec
  have hb := B9.bytes
  have hrt := B9.returns
  have hts := atoms_spec (ws := wsX6_sum) B9.pre
  have hown : s.vm.findClass RX6 = some m.cls := findClass_of_methodNamed B9.named
  have hlocks := B9.notSynchronized
  have nw := fun {w : Cond} (h : w ∈ nw_all) => NW.use (args := ([.ref ar, .int (nI a_)] : List Value).toArray) hKK.2 h
  subst hsz
  have hD := hD0.self (sz := s.heap.size)
  generalize hAe : va_A (cA cyI ar 121 rw) s.heap.size = A at hD ⊢
  have hA : ∀ q : Nat, s.heap.size ≤ q → A q := fun q h => by rw [← hAe]; exact Or.inr h
  have hS : va_S A s.heap s.heap [] := va_S.rf
  have hl := lv_entry ([.ref ar, .int (nI a_)]) (n := 4) (Nat.le_of_ble_eq_true rfl)
  rw [lg_entry_eq]
  generalize (lg_sl ([.ref ar, .int (nI a_)]) ++ List.replicate (4 - (lg_sl ([.ref ar, .int (nI a_)])).length) Slot.unset).toArray = ls at hl ⊢
  have hl : lv_has ls 4 [(0, .ref ar), (1, .int (nI a_))] := hl
  refine lv_iconst (v := 0) hx hb dX6_sum_0 (by decide) ?_
  refine lv_istore_n (lv' := [(2, .int 0), (0, .ref ar), (1, .int (nI a_))]) hx hb dX6_sum_1 rfl hl (by decide) rfl (fun ls hl => ?_)
  refine lv_iconst (v := 0) hx hb dX6_sum_2 (by decide) ?_
  refine lv_istore_n (lv' := [(3, .int 0), (2, .int 0), (0, .ref ar), (1, .int (nI a_))]) hx hb dX6_sum_3 rfl hl (by decide) rfl (fun ls hl => ?_)
  refine wloop (σ := (Nat) × (Int32)) (fun d9 x9 H9 L9 s9 => ((x9.1) + d9 = 24) ∧ (msum rw a_ 24 0 0 = msum rw a_ d9 (x9.1) (x9.2)) ∧ (va_P D vwCl (cA cyI ar 121 rw) H9) ∧ (va_D A (cA cyI ar 121 rw)) ∧ (va_S A s.heap H9 L9) ∧ (lv_has s9 4 [(3, .int (nI (x9.1))), (2, .int (x9.2)), (0, .ref ar), (1, .int (nI a_))])) (fun d9 x9 H locs ls g9 ih => ?_) 24 (0, 0) _ _ _ ⟨(by omega), rfl, hP, hD, hS, lv_sub hl [0, 1, 2, 3] rfl⟩
  obtain ⟨i, x1⟩ := x9
  obtain ⟨hid, hsp, hP, hD, hS, hl⟩ := g9
  obtain ⟨d, rfl⟩ : ∃ z, z = d9 := ⟨_, rfl⟩
  have hid : i + d = 24 := hid
  have hsp : msum rw a_ 24 0 0 = msum rw a_ d i x1 := hsp
  have hP : va_P D vwCl (cA cyI ar 121 rw) H := hP
  have hD : va_D A (cA cyI ar 121 rw) := hD
  have hl : lv_has ls 4 [(3, .int (nI i)), (2, .int x1), (0, .ref ar), (1, .int (nI a_))] := hl
  refine lv_iload_n hx hb dX6_sum_4 rfl (lv_at hl 0 rfl) ?_
  refine lv_bipush (v := 24) hx hb dX6_sum_5 (by decide) ?_
  refine lv_icmp_ge (tgt := 24) hx hb dX6_sum_7 (by decide) (fun h_1 => ?_) (fun h_1 => ?_)
  · skip
    obtain rfl : d = 0 := by have h9 := (nI_leI (a := 24) (b := i) (by omega) (by omega)).mp h_1; omega
    have hiN : i = 24 := by omega
    refine lv_iload_n hx hb dX6_sum_24 rfl (lv_at hl 1 rfl) ?_
    have e9 : msum rw a_ 24 0 0 = x1 := (hsp.trans (by first | with_reducible rfl | (simp only [msum, h_1, if_true, if_false, reduceIte, not_true_eq_false, not_false_eq_true]; done) | (simp [msum, h_1]; done)))
    exact end_i hx hb hrt hlocks (by rw [e9]) hP hS dX6_sum_25
  · skip
    have hlt : i < 24 := by have h9 := mt (nI_leI (a := 24) (b := i) (by omega) (by omega)).mpr h_1; omega
    obtain ⟨d, rfl⟩ : ∃ k, d = k + 1 := ⟨d - 1, by omega⟩
    refine lv_iload_n hx hb dX6_sum_10 rfl (lv_at hl 1 rfl) ?_
    refine lv_aload_n hx hb dX6_sum_11 rfl (lv_at hl 2 rfl) ?_
    refine lv_iload_n hx hb dX6_sum_12 rfl (lv_at hl 3 rfl) ?_
    refine lv_iload_n hx hb dX6_sum_13 rfl (lv_at hl 0 rfl) ?_
    refine lv_iadd hx hb dX6_sum_14 ?_
    refine lv_tope (y := nI (a_ + i)) (nI_add a_ i) ?_
    refine va_iald hx hb hKK.1 hP 0 0 rfl rfl (hin := (vp_in_nI (show (a_ + i) < 121 by omega) (by omega))) dX6_sum_15 ?_
    refine lv_tope (y := rw (a_ + i)) (by rw [nI_clamp (by omega)]) ?_
    refine lv_iadd hx hb dX6_sum_16 ?_
    refine lv_istore_n (lv' := [(2, .int (x1 + (rw (a_ + i)))), (3, .int (nI i)), (0, .ref ar), (1, .int (nI a_))]) hx hb dX6_sum_17 rfl hl (by decide) rfl (fun ls hl => ?_)
    refine lv_iinc (v := nI (i + 1)) (lv' := [(3, .int (nI (i + 1))), (2, .int (x1 + (rw (a_ + i)))), (0, .ref ar), (1, .int (nI a_))]) hx hb dX6_sum_18 hl (k := 1) rfl (nI_1 i) (by decide) rfl (fun ls hl => ?_)
    refine lv_goto (tgt := 4) hx hb dX6_sum_21 (by decide) ?_
    exact ih d ((i + 1), (x1 + (rw (a_ + i)))) _ _ _ (by omega) ⟨(by omega), (hsp.trans (by first | with_reducible rfl | (simp only [msum, h_1, if_true, if_false, reduceIte, not_true_eq_false, not_false_eq_true]; done) | (simp [msum, h_1]; done))), hP, hD, hS, lv_sub hl [0, 1, 2, 3] rfl⟩
set_option maxHeartbeats 4000000 in
set_option maxRecDepth 100000 in
theorem c_X6_ofBuses (l : Launch) (D : va_G) (cyI cyO cyL : ClassId) (aM : Nat) (ac : Nat) (as_ : Nat) (an : Nat) (ah : Nat) (ar : Nat) (th : Int32) (bu : Int32) (fd : Int32) (fn : Int32) (rw : Nat → Int32) (n : Nat) (a_ : Nat) (hn : n ≤ 6) (hbu : bu = nI n) (ha : a_ < 6) : cI l yX6_ofBuses wsX6_ofBuses ({ frames := 0, cells := 0, slots := 0, locals := 0 }) D cyI cyO cyL [.ref aM, .ref ar, .int (nI a_)] (cM aM ac as_ an ah th bu fd fn ++ cA cyI ar 121 rw) (cM aM ac as_ an ah th bu fd fn ++ cA cyI ar 121 rw) (mob rw a_ n 0 0) := by
  intro sz
  refine Met.ofW (cc := cX6_ofBuses) (maxL := 5) (ret := (some .int)) (by decide) rfl ?_
  intro p e s m args below meth c s₁ B9 hml hv
  obtain ⟨rfl, hsz, hP, hKK, hD0⟩ := hv
  have hx := B9.exec
  have hb := B9.bytes
  have hrt := B9.returns
  have hts := atoms_spec (ws := wsX6_ofBuses) B9.pre
  have hown : s.vm.findClass RX6 = some m.cls := findClass_of_methodNamed B9.named
  have hlocks := B9.notSynchronized
  have nw := fun {w : Cond} (h : w ∈ nw_all) => NW.use (args := ([.ref aM, .ref ar, .int (nI a_)] : List Value).toArray) hKK.2 h
  have iX6 : ∀ w ∈ wsX60, w ∈ wsX6_ofBuses := fun _ h => List.mem_cons_of_mem _ (List.mem_append_right _ h)
  subst hsz
  have hD := hD0.self (sz := s.heap.size)
  generalize hAe : va_A (cM aM ac as_ an ah th bu fd fn ++ cA cyI ar 121 rw) s.heap.size = A at hD ⊢
  have hA : ∀ q : Nat, s.heap.size ≤ q → A q := fun q h => by rw [← hAe]; exact Or.inr h
  have hS : va_S A s.heap s.heap [] := va_S.rf
  have hl := lv_entry ([.ref aM, .ref ar, .int (nI a_)]) (n := 5) (Nat.le_of_ble_eq_true rfl)
  rw [lg_entry_eq]
  generalize (lg_sl ([.ref aM, .ref ar, .int (nI a_)]) ++ List.replicate (5 - (lg_sl ([.ref aM, .ref ar, .int (nI a_)])).length) Slot.unset).toArray = ls at hl ⊢
  have hl : lv_has ls 5 [(0, .ref aM), (1, .ref ar), (2, .int (nI a_))] := hl
  refine lv_iconst (v := 0) hx hb dX6_ofBuses_0 (by decide) ?_
  refine lv_istore_n (lv' := [(3, .int 0), (0, .ref aM), (1, .ref ar), (2, .int (nI a_))]) hx hb dX6_ofBuses_1 rfl hl (by decide) rfl (fun ls hl => ?_)
  refine lv_iconst (v := 0) hx hb dX6_ofBuses_2 (by decide) ?_
  refine lv_istore (lv' := [(4, .int 0), (3, .int 0), (0, .ref aM), (1, .ref ar), (2, .int (nI a_))]) hx hb dX6_ofBuses_3 hl (by decide) rfl (fun ls hl => ?_)
  refine wloop (σ := (Nat) × (Int32)) (fun d9 x9 H9 L9 s9 => ((x9.1) + d9 = n) ∧ (mob rw a_ n 0 0 = mob rw a_ d9 (x9.1) (x9.2)) ∧ (va_P D vwCl (cM aM ac as_ an ah th bu fd fn ++ cA cyI ar 121 rw) H9) ∧ (va_D A (cM aM ac as_ an ah th bu fd fn ++ cA cyI ar 121 rw)) ∧ (va_S A s.heap H9 L9) ∧ (lv_has s9 5 [(4, .int (nI (x9.1))), (3, .int (x9.2)), (0, .ref aM), (1, .ref ar), (2, .int (nI a_))])) (fun d9 x9 H locs ls g9 ih => ?_) n (0, 0) _ _ _ ⟨(by omega), rfl, hP, hD, hS, lv_sub hl [0, 1, 2, 3, 4] rfl⟩
  obtain ⟨i, x1⟩ := x9
  obtain ⟨hid, hsp, hP, hD, hS, hl⟩ := g9
  obtain ⟨d, rfl⟩ : ∃ z, z = d9 := ⟨_, rfl⟩
  have hid : i + d = n := hid
  have hsp : mob rw a_ n 0 0 = mob rw a_ d i x1 := hsp
  have hP : va_P D vwCl (cM aM ac as_ an ah th bu fd fn ++ cA cyI ar 121 rw) H := hP
  have hD : va_D A (cM aM ac as_ an ah th bu fd fn ++ cA cyI ar 121 rw) := hD
  have hl : lv_has ls 5 [(4, .int (nI i)), (3, .int x1), (0, .ref aM), (1, .ref ar), (2, .int (nI a_))] := hl
  refine lv_iload hx hb dX6_ofBuses_5 (lv_at hl 0 rfl) ?_
  refine lv_aload_n hx hb dX6_ofBuses_7 rfl (lv_at hl 2 rfl) ?_
  refine va_get (D := D) (ci := 6) (v := .int bu) (C := RX6) (T := TX6) (N := 8) hx hb hts iX6 hown hKK.1 hP 0 rfl rfl 1 (by decide) (hts (.fieldLink RX6 36 "TrolleyGangModel" "buses" "I") (List.mem_of_getElem? (i := 1) rfl)) (fun _ h9 => h9) rfl dX6_ofBuses_8 ?_
  refine lv_tope (y := nI n) hbu ?_
  refine lv_icmp_ge (tgt := 35) hx hb dX6_ofBuses_11 (by decide) (fun h_1 => ?_) (fun h_1 => ?_)
  · skip
    obtain rfl : d = 0 := by have h9 := (nI_leI (a := n) (b := i) (by omega) (by omega)).mp h_1; omega
    have hiN : i = n := by omega
    refine lv_iload_n hx hb dX6_ofBuses_35 rfl (lv_at hl 1 rfl) ?_
    have e9 : mob rw a_ n 0 0 = x1 := (hsp.trans (by first | with_reducible rfl | (simp only [mob, h_1, if_true, if_false, reduceIte, not_true_eq_false, not_false_eq_true]; done) | (simp [mob, h_1]; done)))
    exact end_i hx hb hrt hlocks (by rw [e9]) hP hS dX6_ofBuses_36
  · skip
    have hlt : i < n := by have h9 := mt (nI_leI (a := n) (b := i) (by omega) (by omega)).mpr h_1; omega
    obtain ⟨d, rfl⟩ : ∃ k, d = k + 1 := ⟨d - 1, by omega⟩
    refine lv_iload_n hx hb dX6_ofBuses_14 rfl (lv_at hl 1 rfl) ?_
    refine lv_aload_n hx hb dX6_ofBuses_15 rfl (lv_at hl 3 rfl) ?_
    refine lv_bipush (v := 72) hx hb dX6_ofBuses_16 (by decide) ?_
    refine lv_bipush (v := 6) hx hb dX6_ofBuses_18 (by decide) ?_
    refine lv_iload hx hb dX6_ofBuses_20 (lv_at hl 0 rfl) ?_
    refine lv_imul hx hb dX6_ofBuses_22 ?_
    refine lv_tope (y := nI (6 * i)) (pk_mul 6 i) ?_
    refine lv_iadd hx hb dX6_ofBuses_23 ?_
    refine lv_tope (y := nI (72 + (6 * i))) (nI_add 72 (6 * i)) ?_
    refine lv_iload_n hx hb dX6_ofBuses_24 rfl (lv_at hl 4 rfl) ?_
    refine lv_iadd hx hb dX6_ofBuses_25 ?_
    refine lv_tope (y := nI ((72 + (6 * i)) + a_)) (nI_add (72 + (6 * i)) a_) ?_
    refine va_iald hx hb hKK.1 hP 1 0 rfl rfl (hin := (vp_in_nI (show ((72 + (6 * i)) + a_) < 121 by omega) (by omega))) dX6_ofBuses_26 ?_
    refine lv_tope (y := rw ((72 + (6 * i)) + a_)) (by rw [nI_clamp (by omega)]) ?_
    refine lv_iadd hx hb dX6_ofBuses_27 ?_
    refine lv_istore_n (lv' := [(3, .int (x1 + (rw ((72 + (6 * i)) + a_)))), (4, .int (nI i)), (0, .ref aM), (1, .ref ar), (2, .int (nI a_))]) hx hb dX6_ofBuses_28 rfl hl (by decide) rfl (fun ls hl => ?_)
    refine lv_iinc (v := nI (i + 1)) (lv' := [(4, .int (nI (i + 1))), (3, .int (x1 + (rw ((72 + (6 * i)) + a_)))), (0, .ref aM), (1, .ref ar), (2, .int (nI a_))]) hx hb dX6_ofBuses_29 hl (k := 1) rfl (nI_1 i) (by decide) rfl (fun ls hl => ?_)
    refine lv_goto (tgt := 5) hx hb dX6_ofBuses_32 (by decide) ?_
    exact ih d ((i + 1), (x1 + (rw ((72 + (6 * i)) + a_)))) _ _ _ (by omega) ⟨(by omega), (hsp.trans (by first | with_reducible rfl | (simp only [mob, h_1, if_true, if_false, reduceIte, not_true_eq_false, not_false_eq_true]; done) | (simp [mob, h_1]; done))), hP, hD, hS, lv_sub hl [0, 1, 2, 3, 4] rfl⟩
