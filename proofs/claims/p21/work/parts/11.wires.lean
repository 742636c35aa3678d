set_option maxHeartbeats 4000000 in
set_option maxRecDepth 100000 in
theorem c_X5_oneIf (l : Launch) (D : va_G) (cyI cyO cyL : ClassId) (b : Int32) : cI l yX5_oneIf wsX5_oneIf ({ frames := 0, cells := 0, slots := 0, locals := 0 }) D cyI cyO cyL [.int b] (([] : va_W)) (([] : va_W)) (oneI b) := by
  intro sz
  refine Met.ofW (cc := cX5_oneIf) (maxL := 1) (ret := (some .int)) (by decide) rfl ?_
  intro p e s m args below meth c s₁ B9 hml hv
  obtain ⟨rfl, hsz, hP, hKK, hD0⟩ := hv
  have hx := B9.exec
  have hb := B9.bytes
  have hrt := B9.returns
  have hts := atoms_spec (ws := wsX5_oneIf) B9.pre
  have hown : s.vm.findClass RX5 = some m.cls := findClass_of_methodNamed B9.named
  have hlocks := B9.notSynchronized
  have nw := fun {w : Cond} (h : w ∈ nw_all) => NW.use (args := ([.int b] : List Value).toArray) hKK.2 h
  subst hsz
  have hD := hD0.self (sz := s.heap.size)
  generalize hAe : va_A (([] : va_W)) s.heap.size = A at hD ⊢
  have hA : ∀ q : Nat, s.heap.size ≤ q → A q := fun q h => by rw [← hAe]; exact Or.inr h
  have hS : va_S A s.heap s.heap [] := va_S.rf
  have hl := lv_entry ([.int b]) (n := 1) (Nat.le_of_ble_eq_true rfl)
  rw [lg_entry_eq]
  generalize (lg_sl ([.int b]) ++ List.replicate (1 - (lg_sl ([.int b])).length) Slot.unset).toArray = ls at hl ⊢
  have hl : lv_has ls 1 [(0, .int b)] := hl
  refine lv_iload_n hx hb dX5_oneIf_0 rfl (lv_at hl 0 rfl) ?_
  refine lv_if_eq (tgt := 8) hx hb dX5_oneIf_1 (by decide) (fun h_1 => ?_) (fun h_1 => ?_)
  · skip
    refine lv_iconst (v := 0) hx hb dX5_oneIf_8 (by decide) ?_
    have e9 : oneI b = 0 := (by first | with_reducible rfl | (simp only [oneI, h_1, if_true, if_false, reduceIte, not_true_eq_false, not_false_eq_true]; done) | (simp [oneI, h_1]; done))
    exact end_i hx hb hrt hlocks (by rw [e9]) hP hS dX5_oneIf_9
  · skip
    refine lv_iconst (v := 1) hx hb dX5_oneIf_4 (by decide) ?_
    refine lv_goto (tgt := 9) hx hb dX5_oneIf_5 (by decide) ?_
    have e9 : oneI b = 1 := (by first | with_reducible rfl | (simp only [oneI, h_1, if_true, if_false, reduceIte, not_true_eq_false, not_false_eq_true]; done) | (simp [oneI, h_1]; done))
    exact end_i hx hb hrt hlocks (by rw [e9]) hP hS dX5_oneIf_9
set_option maxHeartbeats 4000000 in
set_option maxRecDepth 100000 in
theorem c_X4_isDown (l : Launch) (D : va_G) (cyI cyO cyL : ClassId) (aW : Nat) (aw : Nat) (af : Nat) (w : Nat → Int32) (f : Nat → Int32) (i : Int32) (hi : vp_in i 24) : cI l yX4_isDown wsX4_isDown ({ frames := 0, cells := 0, slots := 0, locals := 0 }) D cyI cyO cyL [.ref aW, .int i] (cW cyI aW aw af w f) (cW cyI aW aw af w f) (dnI w i) := by
  intro sz
  refine Met.ofW (cc := cX4_isDown) (maxL := 2) (ret := (some .boolean)) (by decide) rfl ?_
  intro p e s m args below meth c s₁ B9 hml hv
  obtain ⟨rfl, hsz, hP, hKK, hD0⟩ := hv
  have hx := B9.exec
  have hb := B9.bytes
  have hrt := B9.returns
  have hts := atoms_spec (ws := wsX4_isDown) B9.pre
  have hown : s.vm.findClass RX4 = some m.cls := findClass_of_methodNamed B9.named
  have hlocks := B9.notSynchronized
  have nw := fun {w : Cond} (h : w ∈ nw_all) => NW.use (args := ([.ref aW, .int i] : List Value).toArray) hKK.2 h
  have iX4 : ∀ w ∈ wsX40, w ∈ wsX4_isDown := fun _ h => List.mem_cons_of_mem _ (List.mem_append_right _ h)
  subst hsz
  have hD := hD0.self (sz := s.heap.size)
  generalize hAe : va_A (cW cyI aW aw af w f) s.heap.size = A at hD ⊢
  have hA : ∀ q : Nat, s.heap.size ≤ q → A q := fun q h => by rw [← hAe]; exact Or.inr h
  have hS : va_S A s.heap s.heap [] := va_S.rf
  have hl := lv_entry ([.ref aW, .int i]) (n := 2) (Nat.le_of_ble_eq_true rfl)
  rw [lg_entry_eq]
  generalize (lg_sl ([.ref aW, .int i]) ++ List.replicate (2 - (lg_sl ([.ref aW, .int i])).length) Slot.unset).toArray = ls at hl ⊢
  have hl : lv_has ls 2 [(0, .ref aW), (1, .int i)] := hl
  refine lv_aload_n hx hb dX4_isDown_0 rfl (lv_at hl 0 rfl) ?_
  refine va_get (D := D) (ci := 4) (v := .ref aw) (C := RX4) (T := TX4) (N := 2) hx hb hts iX4 hown hKK.1 hP 0 rfl rfl 0 (by decide) (hts (.fieldLink RX4 9 "TrolleyGang$Wires" "worn" "[I") (List.mem_of_getElem? (i := 1) rfl)) (fun _ h9 => h9) rfl dX4_isDown_1 ?_
  refine lv_iload_n hx hb dX4_isDown_4 rfl (lv_at hl 1 rfl) ?_
  refine va_iald hx hb hKK.1 hP 1 0 rfl rfl (hin := hi) dX4_isDown_5 ?_
  refine lv_bipush (v := 100) hx hb dX4_isDown_6 (by decide) ?_
  refine lv_icmp_lt (tgt := 15) hx hb dX4_isDown_8 (by decide) (fun h_1 => ?_) (fun h_1 => ?_)
  · skip
    refine lv_iconst (v := 0) hx hb dX4_isDown_15 (by decide) ?_
    have e9 : dnI w i = 0 := (by first | with_reducible rfl | (simp only [dnI, h_1, if_true, if_false, reduceIte, not_true_eq_false, not_false_eq_true]; done) | (simp [dnI, h_1]; done))
    exact end_z hx hb hrt hlocks (by decide) (by rw [e9]) hP hS dX4_isDown_16
  · skip
    refine lv_iconst (v := 1) hx hb dX4_isDown_11 (by decide) ?_
    refine lv_goto (tgt := 16) hx hb dX4_isDown_12 (by decide) ?_
    have e9 : dnI w i = 1 := (by first | with_reducible rfl | (simp only [dnI, h_1, if_true, if_false, reduceIte, not_true_eq_false, not_false_eq_true]; done) | (simp [dnI, h_1]; done))
    exact end_z hx hb hrt hlocks (by decide) (by rw [e9]) hP hS dX4_isDown_16
set_option maxHeartbeats 4000000 in
set_option maxRecDepth 100000 in
theorem c_X4_putUp (l : Launch) (D : va_G) (cyI cyO cyL : ClassId) (aW : Nat) (aw : Nat) (af : Nat) (w : Nat → Int32) (f : Nat → Int32) (i : Int32) (hi : vp_in i 24) : cV l yX4_putUp wsX4_putUp ({ frames := 0, cells := 0, slots := 0, locals := 0 }) D cyI cyO cyL [.ref aW, .int i] (cW cyI aW aw af w f) (cW cyI aW aw af (putS w i) f) := by
  intro sz
  refine Met.ofW (cc := cX4_putUp) (maxL := 2) (ret := none) (by decide) rfl ?_
  intro p e s m args below meth c s₁ B9 hml hv
  obtain ⟨rfl, hsz, hP, hKK, hD0⟩ := hv
  have hx := B9.exec
  have hb := B9.bytes
  have hrt := B9.returns
  have hts := atoms_spec (ws := wsX4_putUp) B9.pre
  have hown : s.vm.findClass RX4 = some m.cls := findClass_of_methodNamed B9.named
  have hlocks := B9.notSynchronized
  have nw := fun {w : Cond} (h : w ∈ nw_all) => NW.use (args := ([.ref aW, .int i] : List Value).toArray) hKK.2 h
  have iX4 : ∀ w ∈ wsX40, w ∈ wsX4_putUp := fun _ h => List.mem_cons_of_mem _ (List.mem_append_right _ h)
  subst hsz
  have hD := hD0.self (sz := s.heap.size)
  generalize hAe : va_A (cW cyI aW aw af w f) s.heap.size = A at hD ⊢
  have hA : ∀ q : Nat, s.heap.size ≤ q → A q := fun q h => by rw [← hAe]; exact Or.inr h
  have hS : va_S A s.heap s.heap [] := va_S.rf
  have hl := lv_entry ([.ref aW, .int i]) (n := 2) (Nat.le_of_ble_eq_true rfl)
  rw [lg_entry_eq]
  generalize (lg_sl ([.ref aW, .int i]) ++ List.replicate (2 - (lg_sl ([.ref aW, .int i])).length) Slot.unset).toArray = ls at hl ⊢
  have hl : lv_has ls 2 [(0, .ref aW), (1, .int i)] := hl
  refine lv_aload_n hx hb dX4_putUp_0 rfl (lv_at hl 0 rfl) ?_
  refine va_get (D := D) (ci := 4) (v := .ref aw) (C := RX4) (T := TX4) (N := 2) hx hb hts iX4 hown hKK.1 hP 0 rfl rfl 0 (by decide) (hts (.fieldLink RX4 9 "TrolleyGang$Wires" "worn" "[I") (List.mem_of_getElem? (i := 1) rfl)) (fun _ h9 => h9) rfl dX4_putUp_1 ?_
  refine lv_iload_n hx hb dX4_putUp_4 rfl (lv_at hl 1 rfl) ?_
  refine lv_bipush (v := 50) hx hb dX4_putUp_5 (by decide) ?_
  refine va_iast hx hb hKK.1 hP hD hS 1 0 rfl rfl (hin := hi) dX4_putUp_7 (fun H locs hP hD hS => ?_)
  have hP : va_P D vwCl (cW cyI aW aw af (upd w i.toNatClampNeg 50) f) H := hP
  have hD : va_D A (cW cyI aW aw af (upd w i.toNatClampNeg 50) f) := hD
  have e9 : putS w i = upd w i.toNatClampNeg 50 := (by rfl)
  exact end_v hx hb hrt hlocks (by rw [e9]; exact hP) hS dX4_putUp_8
set_option maxHeartbeats 4000000 in
set_option maxRecDepth 100000 in
theorem c_X4_wear (l : Launch) (D : va_G) (cyI cyO cyL : ClassId) (aW : Nat) (aw : Nat) (af : Nat) (w : Nat → Int32) (f : Nat → Int32) (i : Int32) (by_ : Int32) (hi : vp_in i 24) : cV l yX4_wear wsX4_wear ({ frames := 1, cells := 0, slots := 0, locals := 15 }) D cyI cyO cyL [.ref aW, .int i, .int by_] (cW cyI aW aw af w f) (cW cyI aW aw af (wearS w i by_) f) := by
  intro sz
  refine Met.ofW (cc := cX4_wear) (maxL := 3) (ret := none) (by decide) rfl ?_
  intro p e s m args below meth c s₁ B9 hml hv
  obtain ⟨rfl, hsz, hP, hKK, hD0⟩ := hv
  have hx := B9.exec
  have hb := B9.bytes
  have hrt := B9.returns
  have hts := atoms_spec (ws := wsX4_wear) B9.pre
  have hown : s.vm.findClass RX4 = some m.cls := findClass_of_methodNamed B9.named
  have hlocks := B9.notSynchronized
  have nw := fun {w : Cond} (h : w ∈ nw_all) => NW.use (args := ([.ref aW, .int i, .int by_] : List Value).toArray) hKK.2 h
  have iX4 : ∀ w ∈ wsX40, w ∈ wsX4_wear := fun _ h => List.mem_cons_of_mem _ (List.mem_append_right _ h)
  subst hsz
  have hD := hD0.self (sz := s.heap.size)
  generalize hAe : va_A (cW cyI aW aw af w f) s.heap.size = A at hD ⊢
  have hA : ∀ q : Nat, s.heap.size ≤ q → A q := fun q h => by rw [← hAe]; exact Or.inr h
  have hS : va_S A s.heap s.heap [] := va_S.rf
  have hl := lv_entry ([.ref aW, .int i, .int by_]) (n := 3) (Nat.le_of_ble_eq_true rfl)
  rw [lg_entry_eq]
  generalize (lg_sl ([.ref aW, .int i, .int by_]) ++ List.replicate (3 - (lg_sl ([.ref aW, .int i, .int by_])).length) Slot.unset).toArray = ls at hl ⊢
  have hl : lv_has ls 3 [(0, .ref aW), (1, .int i), (2, .int by_)] := hl
  refine lv_aload_n hx hb dX4_wear_0 rfl (lv_at hl 0 rfl) ?_
  refine va_get (D := D) (ci := 4) (v := .ref aw) (C := RX4) (T := TX4) (N := 2) hx hb hts iX4 hown hKK.1 hP 0 rfl rfl 0 (by decide) (hts (.fieldLink RX4 9 "TrolleyGang$Wires" "worn" "[I") (List.mem_of_getElem? (i := 1) rfl)) (fun _ h9 => h9) rfl dX4_wear_1 ?_
  refine lv_iload_n hx hb dX4_wear_4 rfl (lv_at hl 1 rfl) ?_
  refine lv_bipush (v := 100) hx hb dX4_wear_5 (by decide) ?_
  refine lv_aload_n hx hb dX4_wear_7 rfl (lv_at hl 0 rfl) ?_
  refine va_get (D := D) (ci := 4) (v := .ref aw) (C := RX4) (T := TX4) (N := 2) hx hb hts iX4 hown hKK.1 hP 0 rfl rfl 0 (by decide) (hts (.fieldLink RX4 9 "TrolleyGang$Wires" "worn" "[I") (List.mem_of_getElem? (i := 1) rfl)) (fun _ h9 => h9) rfl dX4_wear_8 ?_
  refine lv_iload_n hx hb dX4_wear_11 rfl (lv_at hl 1 rfl) ?_
  refine va_iald hx hb hKK.1 hP 1 0 rfl rfl (hin := hi) dX4_wear_12 ?_
  refine lv_iload_n hx hb dX4_wear_13 rfl (lv_at hl 2 rfl) ?_
  refine lv_iadd hx hb dX4_wear_14 ?_
  refine va_mmin hx hb (by rw [hml]; exact hl.1.symm) hown (hts (.methodLink RX4 24 Lib.Math.min.name) (List.mem_of_getElem? (i := 2) rfl)) (hts (.static Lib.Math.min.name) (List.mem_of_getElem? (i := 3) rfl)) (hts (.initialized "java/lang/Math") (List.mem_of_getElem? (i := 4) rfl)) (hts (.code Lib.Math.min.name Lib.Math.min.code 2 (some .int)) (List.mem_of_getElem? (i := 5) rfl)) (Nat.le_of_ble_eq_true rfl) (Nat.le_of_ble_eq_true rfl) (Nat.zero_le _) (Nat.zero_le _) dX4_wear_15 ?_
  refine lv_tope (y := mmin 100 ((w i.toNatClampNeg) + by_)) rfl ?_
  refine va_iast hx hb hKK.1 hP hD hS 1 0 rfl rfl (hin := hi) dX4_wear_18 (fun H locs hP hD hS => ?_)
  have hP : va_P D vwCl (cW cyI aW aw af (upd w i.toNatClampNeg (mmin 100 ((w i.toNatClampNeg) + by_))) f) H := hP
  have hD : va_D A (cW cyI aW aw af (upd w i.toNatClampNeg (mmin 100 ((w i.toNatClampNeg) + by_))) f) := hD
  have e9 : wearS w i by_ = upd w i.toNatClampNeg (mmin 100 ((w i.toNatClampNeg) + by_)) := (by rfl)
  exact end_v hx hb hrt hlocks (by rw [e9]; exact hP) hS dX4_wear_19
set_option maxHeartbeats 4000000 in
set_option maxRecDepth 100000 in
theorem c_X4_mend (l : Launch) (D : va_G) (cyI cyO cyL : ClassId) (aW : Nat) (aw : Nat) (af : Nat) (w : Nat → Int32) (f : Nat → Int32) (i : Int32) (by_ : Int32) (hi : vp_in i 24) : cV l yX4_mend wsX4_mend ({ frames := 1, cells := 0, slots := 0, locals := 15 }) D cyI cyO cyL [.ref aW, .int i, .int by_] (cW cyI aW aw af w f) (cW cyI aW aw af (mendS w i by_) f) := by
  intro sz
  refine Met.ofW (cc := cX4_mend) (maxL := 3) (ret := none) (by decide) rfl ?_
  intro p e s m args below meth c s₁ B9 hml hv
  obtain ⟨rfl, hsz, hP, hKK, hD0⟩ := hv
  have hx := B9.exec
  have hb := B9.bytes
  have hrt := B9.returns
  have hts := atoms_spec (ws := wsX4_mend) B9.pre
  have hown : s.vm.findClass RX4 = some m.cls := findClass_of_methodNamed B9.named
  have hlocks := B9.notSynchronized
  have nw := fun {w : Cond} (h : w ∈ nw_all) => NW.use (args := ([.ref aW, .int i, .int by_] : List Value).toArray) hKK.2 h
  have iX4 : ∀ w ∈ wsX40, w ∈ wsX4_mend := fun _ h => List.mem_cons_of_mem _ (List.mem_append_right _ h)
  subst hsz
  have hD := hD0.self (sz := s.heap.size)
  generalize hAe : va_A (cW cyI aW aw af w f) s.heap.size = A at hD ⊢
  have hA : ∀ q : Nat, s.heap.size ≤ q → A q := fun q h => by rw [← hAe]; exact Or.inr h
  have hS : va_S A s.heap s.heap [] := va_S.rf
  have hl := lv_entry ([.ref aW, .int i, .int by_]) (n := 3) (Nat.le_of_ble_eq_true rfl)
  rw [lg_entry_eq]
  generalize (lg_sl ([.ref aW, .int i, .int by_]) ++ List.replicate (3 - (lg_sl ([.ref aW, .int i, .int by_])).length) Slot.unset).toArray = ls at hl ⊢
  have hl : lv_has ls 3 [(0, .ref aW), (1, .int i), (2, .int by_)] := hl
  refine lv_aload_n hx hb dX4_mend_0 rfl (lv_at hl 0 rfl) ?_
  refine va_get (D := D) (ci := 4) (v := .ref aw) (C := RX4) (T := TX4) (N := 2) hx hb hts iX4 hown hKK.1 hP 0 rfl rfl 0 (by decide) (hts (.fieldLink RX4 9 "TrolleyGang$Wires" "worn" "[I") (List.mem_of_getElem? (i := 1) rfl)) (fun _ h9 => h9) rfl dX4_mend_1 ?_
  refine lv_iload_n hx hb dX4_mend_4 rfl (lv_at hl 1 rfl) ?_
  refine lv_iconst (v := 0) hx hb dX4_mend_5 (by decide) ?_
  refine lv_aload_n hx hb dX4_mend_6 rfl (lv_at hl 0 rfl) ?_
  refine va_get (D := D) (ci := 4) (v := .ref aw) (C := RX4) (T := TX4) (N := 2) hx hb hts iX4 hown hKK.1 hP 0 rfl rfl 0 (by decide) (hts (.fieldLink RX4 9 "TrolleyGang$Wires" "worn" "[I") (List.mem_of_getElem? (i := 1) rfl)) (fun _ h9 => h9) rfl dX4_mend_7 ?_
  refine lv_iload_n hx hb dX4_mend_10 rfl (lv_at hl 1 rfl) ?_
  refine va_iald hx hb hKK.1 hP 1 0 rfl rfl (hin := hi) dX4_mend_11 ?_
  refine lv_iload_n hx hb dX4_mend_12 rfl (lv_at hl 2 rfl) ?_
  refine lv_isub hx hb dX4_mend_13 ?_
  refine va_mmax hx hb (by rw [hml]; exact hl.1.symm) hown (hts (.methodLink RX4 30 Lib.Math.max.name) (List.mem_of_getElem? (i := 2) rfl)) (hts (.static Lib.Math.max.name) (List.mem_of_getElem? (i := 3) rfl)) (hts (.initialized "java/lang/Math") (List.mem_of_getElem? (i := 4) rfl)) (hts (.code Lib.Math.max.name Lib.Math.max.code 2 (some .int)) (List.mem_of_getElem? (i := 5) rfl)) (Nat.le_of_ble_eq_true rfl) (Nat.le_of_ble_eq_true rfl) (Nat.zero_le _) (Nat.zero_le _) dX4_mend_14 ?_
  refine lv_tope (y := mmax 0 ((w i.toNatClampNeg) - by_)) rfl ?_
  refine va_iast hx hb hKK.1 hP hD hS 1 0 rfl rfl (hin := hi) dX4_mend_17 (fun H locs hP hD hS => ?_)
  have hP : va_P D vwCl (cW cyI aW aw af (upd w i.toNatClampNeg (mmax 0 ((w i.toNatClampNeg) - by_))) f) H := hP
  have hD : va_D A (cW cyI aW aw af (upd w i.toNatClampNeg (mmax 0 ((w i.toNatClampNeg) - by_))) f) := hD
  have e9 : mendS w i by_ = upd w i.toNatClampNeg (mmax 0 ((w i.toNatClampNeg) - by_)) := (by rfl)
  exact end_v hx hb hrt hlocks (by rw [e9]; exact hP) hS dX4_mend_18
set_option maxHeartbeats 4000000 in
set_option maxRecDepth 100000 in
theorem c_X4_freeze (l : Launch) (D : va_G) (cyI cyO cyL : ClassId) (aW : Nat) (aw : Nat) (af : Nat) (w : Nat → Int32) (f : Nat → Int32) (cold : Int32) : cV l yX4_freeze wsX4_freeze ({ frames := 1, cells := 0, slots := 0, locals := 15 }) D cyI cyO cyL [.ref aW, .int cold] (cW cyI aW aw af w f) (cW cyI aW aw af w (frzL cold 24 0 f)) := by
  intro sz
  refine Met.ofW (cc := cX4_freeze) (maxL := 3) (ret := none) (by decide) rfl ?_
  intro p e s m args below meth c s₁ B9 hml hv
  obtain ⟨rfl, hsz, hP, hKK, hD0⟩ := hv
  have hx := B9.exec
  have hb := B9.bytes
  have hrt := B9.returns
  have hts := atoms_spec (ws := wsX4_freeze) B9.pre
  have hown : s.vm.findClass RX4 = some m.cls := findClass_of_methodNamed B9.named
  have hlocks := B9.notSynchronized
  have nw := fun {w : Cond} (h : w ∈ nw_all) => NW.use (args := ([.ref aW, .int cold] : List Value).toArray) hKK.2 h
  have iX4 : ∀ w ∈ wsX40, w ∈ wsX4_freeze := fun _ h => List.mem_cons_of_mem _ (List.mem_append_right _ h)
  subst hsz
  have hD := hD0.self (sz := s.heap.size)
  generalize hAe : va_A (cW cyI aW aw af w f) s.heap.size = A at hD ⊢
  have hA : ∀ q : Nat, s.heap.size ≤ q → A q := fun q h => by rw [← hAe]; exact Or.inr h
  have hS : va_S A s.heap s.heap [] := va_S.rf
  have hl := lv_entry ([.ref aW, .int cold]) (n := 3) (Nat.le_of_ble_eq_true rfl)
  rw [lg_entry_eq]
  generalize (lg_sl ([.ref aW, .int cold]) ++ List.replicate (3 - (lg_sl ([.ref aW, .int cold])).length) Slot.unset).toArray = ls at hl ⊢
  have hl : lv_has ls 3 [(0, .ref aW), (1, .int cold)] := hl
  refine lv_iconst (v := 0) hx hb dX4_freeze_0 (by decide) ?_
  refine lv_istore_n (lv' := [(2, .int 0), (0, .ref aW), (1, .int cold)]) hx hb dX4_freeze_1 rfl hl (by decide) rfl (fun ls hl => ?_)
  refine wloop (σ := (Nat) × (Nat → Int32)) (fun d9 x9 H9 L9 s9 => ((x9.1) + d9 = 24) ∧ (frzL cold 24 0 f = frzL cold d9 (x9.1) (x9.2)) ∧ (va_P D vwCl (cW cyI aW aw af w (x9.2)) H9) ∧ (va_D A (cW cyI aW aw af w (x9.2))) ∧ (va_S A s.heap H9 L9) ∧ (lv_has s9 3 [(2, .int (nI (x9.1))), (0, .ref aW), (1, .int cold)])) (fun d9 x9 H locs ls g9 ih => ?_) 24 (0, f) _ _ _ ⟨(by omega), rfl, hP, hD, hS, lv_sub hl [0, 1, 2] rfl⟩
  obtain ⟨i, f1⟩ := x9
  obtain ⟨hid, hsp, hP, hD, hS, hl⟩ := g9
  obtain ⟨d, rfl⟩ : ∃ z, z = d9 := ⟨_, rfl⟩
  have hid : i + d = 24 := hid
  have hsp : frzL cold 24 0 f = frzL cold d i f1 := hsp
  have hP : va_P D vwCl (cW cyI aW aw af w f1) H := hP
  have hD : va_D A (cW cyI aW aw af w f1) := hD
  have hl : lv_has ls 3 [(2, .int (nI i)), (0, .ref aW), (1, .int cold)] := hl
  refine lv_iload_n hx hb dX4_freeze_2 rfl (lv_at hl 0 rfl) ?_
  refine lv_bipush (v := 24) hx hb dX4_freeze_3 (by decide) ?_
  refine lv_icmp_ge (tgt := 33) hx hb dX4_freeze_5 (by decide) (fun h_1 => ?_) (fun h_1 => ?_)
  · skip
    obtain rfl : d = 0 := by have h9 := (nI_leI (a := 24) (b := i) (by omega) (by omega)).mp h_1; omega
    have hiN : i = 24 := by omega
    have e9 : frzL cold 24 0 f = f1 := (hsp.trans (by rfl))
    exact end_v hx hb hrt hlocks (by rw [e9]; exact hP) hS dX4_freeze_33
  · skip
    have hlt : i < 24 := by have h9 := mt (nI_leI (a := 24) (b := i) (by omega) (by omega)).mpr h_1; omega
    obtain ⟨d, rfl⟩ : ∃ k, d = k + 1 := ⟨d - 1, by omega⟩
    refine lv_aload_n hx hb dX4_freeze_8 rfl (lv_at hl 1 rfl) ?_
    refine va_get (D := D) (ci := 4) (v := .ref af) (C := RX4) (T := TX4) (N := 2) hx hb hts iX4 hown hKK.1 hP 0 rfl rfl 1 (by decide) (hts (.fieldLink RX4 15 "TrolleyGang$Wires" "frost" "[I") (List.mem_of_getElem? (i := 1) rfl)) (fun _ h9 => h9) rfl dX4_freeze_9 ?_
    refine lv_iload_n hx hb dX4_freeze_12 rfl (lv_at hl 0 rfl) ?_
    refine lv_bipush (v := 9) hx hb dX4_freeze_13 (by decide) ?_
    refine lv_aload_n hx hb dX4_freeze_15 rfl (lv_at hl 1 rfl) ?_
    refine va_get (D := D) (ci := 4) (v := .ref af) (C := RX4) (T := TX4) (N := 2) hx hb hts iX4 hown hKK.1 hP 0 rfl rfl 1 (by decide) (hts (.fieldLink RX4 15 "TrolleyGang$Wires" "frost" "[I") (List.mem_of_getElem? (i := 1) rfl)) (fun _ h9 => h9) rfl dX4_freeze_16 ?_
    refine lv_iload_n hx hb dX4_freeze_19 rfl (lv_at hl 0 rfl) ?_
    refine va_iald hx hb hKK.1 hP 2 0 rfl rfl (hin := (vp_in_nI hlt (by omega))) dX4_freeze_20 ?_
    refine lv_tope (y := f1 i) (by rw [nI_clamp (by omega)]) ?_
    refine lv_iload_n hx hb dX4_freeze_21 rfl (lv_at hl 2 rfl) ?_
    refine lv_iadd hx hb dX4_freeze_22 ?_
    refine va_mmin hx hb (by rw [hml]; exact hl.1.symm) hown (hts (.methodLink RX4 24 Lib.Math.min.name) (List.mem_of_getElem? (i := 2) rfl)) (hts (.static Lib.Math.min.name) (List.mem_of_getElem? (i := 3) rfl)) (hts (.initialized "java/lang/Math") (List.mem_of_getElem? (i := 4) rfl)) (hts (.code Lib.Math.min.name Lib.Math.min.code 2 (some .int)) (List.mem_of_getElem? (i := 5) rfl)) (Nat.le_of_ble_eq_true rfl) (Nat.le_of_ble_eq_true rfl) (Nat.zero_le _) (Nat.zero_le _) dX4_freeze_23 ?_
    refine lv_tope (y := mmin 9 ((f1 i) + cold)) rfl ?_
    refine va_iast hx hb hKK.1 hP hD hS 2 0 rfl rfl (hin := (vp_in_nI hlt (by omega))) dX4_freeze_26 (fun H locs hP hD hS => ?_)
    rw [nI_clamp (by omega)] at hP hD
    have hP : va_P D vwCl (cW cyI aW aw af w (upd f1 i (mmin 9 ((f1 i) + cold)))) H := hP
    have hD : va_D A (cW cyI aW aw af w (upd f1 i (mmin 9 ((f1 i) + cold)))) := hD
    refine lv_iinc (v := nI (i + 1)) (lv' := [(2, .int (nI (i + 1))), (0, .ref aW), (1, .int cold)]) hx hb dX4_freeze_27 hl (k := 0) rfl (nI_1 i) (by decide) rfl (fun ls hl => ?_)
    refine lv_goto (tgt := 2) hx hb dX4_freeze_30 (by decide) ?_
    exact ih d ((i + 1), (upd f1 i (mmin 9 ((f1 i) + cold)))) _ _ _ (by omega) ⟨(by omega), (hsp.trans (by rfl)), hP, hD, hS, lv_sub hl [0, 1, 2] rfl⟩
set_option maxHeartbeats 4000000 in
set_option maxRecDepth 100000 in
theorem c_X4_thaw (l : Launch) (D : va_G) (cyI cyO cyL : ClassId) (aW : Nat) (aw : Nat) (af : Nat) (w : Nat → Int32) (f : Nat → Int32) : cV l yX4_thaw wsX4_thaw ({ frames := 1, cells := 0, slots := 0, locals := 15 }) D cyI cyO cyL [.ref aW] (cW cyI aW aw af w f) (cW cyI aW aw af w (thwL 24 0 f)) := by
  intro sz
  refine Met.ofW (cc := cX4_thaw) (maxL := 2) (ret := none) (by decide) rfl ?_
  intro p e s m args below meth c s₁ B9 hml hv
  obtain ⟨rfl, hsz, hP, hKK, hD0⟩ := hv
  have hx := B9.exec
  have hb := B9.bytes
  have hrt := B9.returns
  have hts := atoms_spec (ws := wsX4_thaw) B9.pre
  have hown : s.vm.findClass RX4 = some m.cls := findClass_of_methodNamed B9.named
  have hlocks := B9.notSynchronized
  have nw := fun {w : Cond} (h : w ∈ nw_all) => NW.use (args := ([.ref aW] : List Value).toArray) hKK.2 h
  have iX4 : ∀ w ∈ wsX40, w ∈ wsX4_thaw := fun _ h => List.mem_cons_of_mem _ (List.mem_append_right _ h)
  subst hsz
  have hD := hD0.self (sz := s.heap.size)
  generalize hAe : va_A (cW cyI aW aw af w f) s.heap.size = A at hD ⊢
  have hA : ∀ q : Nat, s.heap.size ≤ q → A q := fun q h => by rw [← hAe]; exact Or.inr h
  have hS : va_S A s.heap s.heap [] := va_S.rf
  have hl := lv_entry ([.ref aW]) (n := 2) (Nat.le_of_ble_eq_true rfl)
  rw [lg_entry_eq]
  generalize (lg_sl ([.ref aW]) ++ List.replicate (2 - (lg_sl ([.ref aW])).length) Slot.unset).toArray = ls at hl ⊢
  have hl : lv_has ls 2 [(0, .ref aW)] := hl
  refine lv_iconst (v := 0) hx hb dX4_thaw_0 (by decide) ?_
  refine lv_istore_n (lv' := [(1, .int 0), (0, .ref aW)]) hx hb dX4_thaw_1 rfl hl (by decide) rfl (fun ls hl => ?_)
  refine wloop (σ := (Nat) × (Nat → Int32)) (fun d9 x9 H9 L9 s9 => ((x9.1) + d9 = 24) ∧ (thwL 24 0 f = thwL d9 (x9.1) (x9.2)) ∧ (va_P D vwCl (cW cyI aW aw af w (x9.2)) H9) ∧ (va_D A (cW cyI aW aw af w (x9.2))) ∧ (va_S A s.heap H9 L9) ∧ (lv_has s9 2 [(1, .int (nI (x9.1))), (0, .ref aW)])) (fun d9 x9 H locs ls g9 ih => ?_) 24 (0, f) _ _ _ ⟨(by omega), rfl, hP, hD, hS, lv_sub hl [0, 1] rfl⟩
  obtain ⟨i, f1⟩ := x9
  obtain ⟨hid, hsp, hP, hD, hS, hl⟩ := g9
  obtain ⟨d, rfl⟩ : ∃ z, z = d9 := ⟨_, rfl⟩
  have hid : i + d = 24 := hid
  have hsp : thwL 24 0 f = thwL d i f1 := hsp
  have hP : va_P D vwCl (cW cyI aW aw af w f1) H := hP
  have hD : va_D A (cW cyI aW aw af w f1) := hD
  have hl : lv_has ls 2 [(1, .int (nI i)), (0, .ref aW)] := hl
  refine lv_iload_n hx hb dX4_thaw_2 rfl (lv_at hl 0 rfl) ?_
  refine lv_bipush (v := 24) hx hb dX4_thaw_3 (by decide) ?_
  refine lv_icmp_ge (tgt := 32) hx hb dX4_thaw_5 (by decide) (fun h_1 => ?_) (fun h_1 => ?_)
  · skip
    obtain rfl : d = 0 := by have h9 := (nI_leI (a := 24) (b := i) (by omega) (by omega)).mp h_1; omega
    have hiN : i = 24 := by omega
    have e9 : thwL 24 0 f = f1 := (hsp.trans (by rfl))
    exact end_v hx hb hrt hlocks (by rw [e9]; exact hP) hS dX4_thaw_32
  · skip
    have hlt : i < 24 := by have h9 := mt (nI_leI (a := 24) (b := i) (by omega) (by omega)).mpr h_1; omega
    obtain ⟨d, rfl⟩ : ∃ k, d = k + 1 := ⟨d - 1, by omega⟩
    refine lv_aload_n hx hb dX4_thaw_8 rfl (lv_at hl 1 rfl) ?_
    refine va_get (D := D) (ci := 4) (v := .ref af) (C := RX4) (T := TX4) (N := 2) hx hb hts iX4 hown hKK.1 hP 0 rfl rfl 1 (by decide) (hts (.fieldLink RX4 15 "TrolleyGang$Wires" "frost" "[I") (List.mem_of_getElem? (i := 1) rfl)) (fun _ h9 => h9) rfl dX4_thaw_9 ?_
    refine lv_iload_n hx hb dX4_thaw_12 rfl (lv_at hl 0 rfl) ?_
    refine lv_iconst (v := 0) hx hb dX4_thaw_13 (by decide) ?_
    refine lv_aload_n hx hb dX4_thaw_14 rfl (lv_at hl 1 rfl) ?_
    refine va_get (D := D) (ci := 4) (v := .ref af) (C := RX4) (T := TX4) (N := 2) hx hb hts iX4 hown hKK.1 hP 0 rfl rfl 1 (by decide) (hts (.fieldLink RX4 15 "TrolleyGang$Wires" "frost" "[I") (List.mem_of_getElem? (i := 1) rfl)) (fun _ h9 => h9) rfl dX4_thaw_15 ?_
    refine lv_iload_n hx hb dX4_thaw_18 rfl (lv_at hl 0 rfl) ?_
    refine va_iald hx hb hKK.1 hP 2 0 rfl rfl (hin := (vp_in_nI hlt (by omega))) dX4_thaw_19 ?_
    refine lv_tope (y := f1 i) (by rw [nI_clamp (by omega)]) ?_
    refine lv_iconst (v := 2) hx hb dX4_thaw_20 (by decide) ?_
    refine lv_isub hx hb dX4_thaw_21 ?_
    refine va_mmax hx hb (by rw [hml]; exact hl.1.symm) hown (hts (.methodLink RX4 30 Lib.Math.max.name) (List.mem_of_getElem? (i := 2) rfl)) (hts (.static Lib.Math.max.name) (List.mem_of_getElem? (i := 3) rfl)) (hts (.initialized "java/lang/Math") (List.mem_of_getElem? (i := 4) rfl)) (hts (.code Lib.Math.max.name Lib.Math.max.code 2 (some .int)) (List.mem_of_getElem? (i := 5) rfl)) (Nat.le_of_ble_eq_true rfl) (Nat.le_of_ble_eq_true rfl) (Nat.zero_le _) (Nat.zero_le _) dX4_thaw_22 ?_
    refine lv_tope (y := mmax 0 ((f1 i) - 2)) rfl ?_
    refine va_iast hx hb hKK.1 hP hD hS 2 0 rfl rfl (hin := (vp_in_nI hlt (by omega))) dX4_thaw_25 (fun H locs hP hD hS => ?_)
    rw [nI_clamp (by omega)] at hP hD
    have hP : va_P D vwCl (cW cyI aW aw af w (upd f1 i (mmax 0 ((f1 i) - 2)))) H := hP
    have hD : va_D A (cW cyI aW aw af w (upd f1 i (mmax 0 ((f1 i) - 2)))) := hD
    refine lv_iinc (v := nI (i + 1)) (lv' := [(1, .int (nI (i + 1))), (0, .ref aW)]) hx hb dX4_thaw_26 hl (k := 0) rfl (nI_1 i) (by decide) rfl (fun ls hl => ?_)
    refine lv_goto (tgt := 2) hx hb dX4_thaw_29 (by decide) ?_
    exact ih d ((i + 1), (upd f1 i (mmax 0 ((f1 i) - 2)))) _ _ _ (by omega) ⟨(by omega), (hsp.trans (by rfl)), hP, hD, hS, lv_sub hl [0, 1] rfl⟩
set_option maxHeartbeats 4000000 in
set_option maxRecDepth 100000 in
theorem c_X4_wornInAll (l : Launch) (D : va_G) (cyI cyO cyL : ClassId) (aW : Nat) (aw : Nat) (af : Nat) (w : Nat → Int32) (f : Nat → Int32) : cI l yX4_wornInAll wsX4_wornInAll ({ frames := 0, cells := 0, slots := 0, locals := 0 }) D cyI cyO cyL [.ref aW] (cW cyI aW aw af w f) (cW cyI aW aw af w f) (sumL w 24 0 0) := by
  intro sz
  refine Met.ofW (cc := cX4_wornInAll) (maxL := 3) (ret := (some .int)) (by decide) rfl ?_
  intro p e s m args below meth c s₁ B9 hml hv
  obtain ⟨rfl, hsz, hP, hKK, hD0⟩ := hv
  have hx := B9.exec
  have hb := B9.bytes
  have hrt := B9.returns
  have hts := atoms_spec (ws := wsX4_wornInAll) B9.pre
  have hown : s.vm.findClass RX4 = some m.cls := findClass_of_methodNamed B9.named
  have hlocks := B9.notSynchronized
  have nw := fun {w : Cond} (h : w ∈ nw_all) => NW.use (args := ([.ref aW] : List Value).toArray) hKK.2 h
  have iX4 : ∀ w ∈ wsX40, w ∈ wsX4_wornInAll := fun _ h => List.mem_cons_of_mem _ (List.mem_append_right _ h)
  subst hsz
  have hD := hD0.self (sz := s.heap.size)
  generalize hAe : va_A (cW cyI aW aw af w f) s.heap.size = A at hD ⊢
  have hA : ∀ q : Nat, s.heap.size ≤ q → A q := fun q h => by rw [← hAe]; exact Or.inr h
  have hS : va_S A s.heap s.heap [] := va_S.rf
  have hl := lv_entry ([.ref aW]) (n := 3) (Nat.le_of_ble_eq_true rfl)
  rw [lg_entry_eq]
  generalize (lg_sl ([.ref aW]) ++ List.replicate (3 - (lg_sl ([.ref aW])).length) Slot.unset).toArray = ls at hl ⊢
  have hl : lv_has ls 3 [(0, .ref aW)] := hl
  refine lv_iconst (v := 0) hx hb dX4_wornInAll_0 (by decide) ?_
  refine lv_istore_n (lv' := [(1, .int 0), (0, .ref aW)]) hx hb dX4_wornInAll_1 rfl hl (by decide) rfl (fun ls hl => ?_)
  refine lv_iconst (v := 0) hx hb dX4_wornInAll_2 (by decide) ?_
  refine lv_istore_n (lv' := [(2, .int 0), (1, .int 0), (0, .ref aW)]) hx hb dX4_wornInAll_3 rfl hl (by decide) rfl (fun ls hl => ?_)
  refine wloop (σ := (Nat) × (Int32)) (fun d9 x9 H9 L9 s9 => ((x9.1) + d9 = 24) ∧ (sumL w 24 0 0 = sumL w d9 (x9.1) (x9.2)) ∧ (va_P D vwCl (cW cyI aW aw af w f) H9) ∧ (va_D A (cW cyI aW aw af w f)) ∧ (va_S A s.heap H9 L9) ∧ (lv_has s9 3 [(2, .int (nI (x9.1))), (1, .int (x9.2)), (0, .ref aW)])) (fun d9 x9 H locs ls g9 ih => ?_) 24 (0, 0) _ _ _ ⟨(by omega), rfl, hP, hD, hS, lv_sub hl [0, 1, 2] rfl⟩
  obtain ⟨i, a1⟩ := x9
  obtain ⟨hid, hsp, hP, hD, hS, hl⟩ := g9
  obtain ⟨d, rfl⟩ : ∃ z, z = d9 := ⟨_, rfl⟩
  have hid : i + d = 24 := hid
  have hsp : sumL w 24 0 0 = sumL w d i a1 := hsp
  have hP : va_P D vwCl (cW cyI aW aw af w f) H := hP
  have hD : va_D A (cW cyI aW aw af w f) := hD
  have hl : lv_has ls 3 [(2, .int (nI i)), (1, .int a1), (0, .ref aW)] := hl
  refine lv_iload_n hx hb dX4_wornInAll_4 rfl (lv_at hl 0 rfl) ?_
  refine lv_bipush (v := 24) hx hb dX4_wornInAll_5 (by decide) ?_
  refine lv_icmp_ge (tgt := 25) hx hb dX4_wornInAll_7 (by decide) (fun h_1 => ?_) (fun h_1 => ?_)
  · skip
    obtain rfl : d = 0 := by have h9 := (nI_leI (a := 24) (b := i) (by omega) (by omega)).mp h_1; omega
    have hiN : i = 24 := by omega
    refine lv_iload_n hx hb dX4_wornInAll_25 rfl (lv_at hl 1 rfl) ?_
    have e9 : sumL w 24 0 0 = a1 := (hsp.trans (by rfl))
    exact end_i hx hb hrt hlocks (by rw [e9]) hP hS dX4_wornInAll_26
  · skip
    have hlt : i < 24 := by have h9 := mt (nI_leI (a := 24) (b := i) (by omega) (by omega)).mpr h_1; omega
    obtain ⟨d, rfl⟩ : ∃ k, d = k + 1 := ⟨d - 1, by omega⟩
    refine lv_iload_n hx hb dX4_wornInAll_10 rfl (lv_at hl 1 rfl) ?_
    refine lv_aload_n hx hb dX4_wornInAll_11 rfl (lv_at hl 2 rfl) ?_
    refine va_get (D := D) (ci := 4) (v := .ref aw) (C := RX4) (T := TX4) (N := 2) hx hb hts iX4 hown hKK.1 hP 0 rfl rfl 0 (by decide) (hts (.fieldLink RX4 9 "TrolleyGang$Wires" "worn" "[I") (List.mem_of_getElem? (i := 1) rfl)) (fun _ h9 => h9) rfl dX4_wornInAll_12 ?_
    refine lv_iload_n hx hb dX4_wornInAll_15 rfl (lv_at hl 0 rfl) ?_
    refine va_iald hx hb hKK.1 hP 1 0 rfl rfl (hin := (vp_in_nI hlt (by omega))) dX4_wornInAll_16 ?_
    refine lv_tope (y := w i) (by rw [nI_clamp (by omega)]) ?_
    refine lv_iadd hx hb dX4_wornInAll_17 ?_
    refine lv_istore_n (lv' := [(1, .int (a1 + (w i))), (2, .int (nI i)), (0, .ref aW)]) hx hb dX4_wornInAll_18 rfl hl (by decide) rfl (fun ls hl => ?_)
    refine lv_iinc (v := nI (i + 1)) (lv' := [(2, .int (nI (i + 1))), (1, .int (a1 + (w i))), (0, .ref aW)]) hx hb dX4_wornInAll_19 hl (k := 1) rfl (nI_1 i) (by decide) rfl (fun ls hl => ?_)
    refine lv_goto (tgt := 4) hx hb dX4_wornInAll_22 (by decide) ?_
    exact ih d ((i + 1), (a1 + (w i))) _ _ _ (by omega) ⟨(by omega), (hsp.trans (by rfl)), hP, hD, hS, lv_sub hl [0, 1, 2] rfl⟩
set_option maxHeartbeats 4000000 in
set_option maxRecDepth 100000 in
theorem c_X4_frostInAll (l : Launch) (D : va_G) (cyI cyO cyL : ClassId) (aW : Nat) (aw : Nat) (af : Nat) (w : Nat → Int32) (f : Nat → Int32) : cI l yX4_frostInAll wsX4_frostInAll ({ frames := 0, cells := 0, slots := 0, locals := 0 }) D cyI cyO cyL [.ref aW] (cW cyI aW aw af w f) (cW cyI aW aw af w f) (sumL f 24 0 0) := by
  intro sz
  refine Met.ofW (cc := cX4_frostInAll) (maxL := 3) (ret := (some .int)) (by decide) rfl ?_
  intro p e s m args below meth c s₁ B9 hml hv
  obtain ⟨rfl, hsz, hP, hKK, hD0⟩ := hv
  have hx := B9.exec
  have hb := B9.bytes
  have hrt := B9.returns
  have hts := atoms_spec (ws := wsX4_frostInAll) B9.pre
  have hown : s.vm.findClass RX4 = some m.cls := findClass_of_methodNamed B9.named
  have hlocks := B9.notSynchronized
  have nw := fun {w : Cond} (h : w ∈ nw_all) => NW.use (args := ([.ref aW] : List Value).toArray) hKK.2 h
  have iX4 : ∀ w ∈ wsX40, w ∈ wsX4_frostInAll := fun _ h => List.mem_cons_of_mem _ (List.mem_append_right _ h)
  subst hsz
  have hD := hD0.self (sz := s.heap.size)
  generalize hAe : va_A (cW cyI aW aw af w f) s.heap.size = A at hD ⊢
  have hA : ∀ q : Nat, s.heap.size ≤ q → A q := fun q h => by rw [← hAe]; exact Or.inr h
  have hS : va_S A s.heap s.heap [] := va_S.rf
  have hl := lv_entry ([.ref aW]) (n := 3) (Nat.le_of_ble_eq_true rfl)
  rw [lg_entry_eq]
  generalize (lg_sl ([.ref aW]) ++ List.replicate (3 - (lg_sl ([.ref aW])).length) Slot.unset).toArray = ls at hl ⊢
  have hl : lv_has ls 3 [(0, .ref aW)] := hl
  refine lv_iconst (v := 0) hx hb dX4_frostInAll_0 (by decide) ?_
  refine lv_istore_n (lv' := [(1, .int 0), (0, .ref aW)]) hx hb dX4_frostInAll_1 rfl hl (by decide) rfl (fun ls hl => ?_)
  refine lv_iconst (v := 0) hx hb dX4_frostInAll_2 (by decide) ?_
  refine lv_istore_n (lv' := [(2, .int 0), (1, .int 0), (0, .ref aW)]) hx hb dX4_frostInAll_3 rfl hl (by decide) rfl (fun ls hl => ?_)
  refine wloop (σ := (Nat) × (Int32)) (fun d9 x9 H9 L9 s9 => ((x9.1) + d9 = 24) ∧ (sumL f 24 0 0 = sumL f d9 (x9.1) (x9.2)) ∧ (va_P D vwCl (cW cyI aW aw af w f) H9) ∧ (va_D A (cW cyI aW aw af w f)) ∧ (va_S A s.heap H9 L9) ∧ (lv_has s9 3 [(2, .int (nI (x9.1))), (1, .int (x9.2)), (0, .ref aW)])) (fun d9 x9 H locs ls g9 ih => ?_) 24 (0, 0) _ _ _ ⟨(by omega), rfl, hP, hD, hS, lv_sub hl [0, 1, 2] rfl⟩
  obtain ⟨i, a1⟩ := x9
  obtain ⟨hid, hsp, hP, hD, hS, hl⟩ := g9
  obtain ⟨d, rfl⟩ : ∃ z, z = d9 := ⟨_, rfl⟩
  have hid : i + d = 24 := hid
  have hsp : sumL f 24 0 0 = sumL f d i a1 := hsp
  have hP : va_P D vwCl (cW cyI aW aw af w f) H := hP
  have hD : va_D A (cW cyI aW aw af w f) := hD
  have hl : lv_has ls 3 [(2, .int (nI i)), (1, .int a1), (0, .ref aW)] := hl
  refine lv_iload_n hx hb dX4_frostInAll_4 rfl (lv_at hl 0 rfl) ?_
  refine lv_bipush (v := 24) hx hb dX4_frostInAll_5 (by decide) ?_
  refine lv_icmp_ge (tgt := 25) hx hb dX4_frostInAll_7 (by decide) (fun h_1 => ?_) (fun h_1 => ?_)
  · skip
    obtain rfl : d = 0 := by have h9 := (nI_leI (a := 24) (b := i) (by omega) (by omega)).mp h_1; omega
    have hiN : i = 24 := by omega
    refine lv_iload_n hx hb dX4_frostInAll_25 rfl (lv_at hl 1 rfl) ?_
    have e9 : sumL f 24 0 0 = a1 := (hsp.trans (by rfl))
    exact end_i hx hb hrt hlocks (by rw [e9]) hP hS dX4_frostInAll_26
  · skip
    have hlt : i < 24 := by have h9 := mt (nI_leI (a := 24) (b := i) (by omega) (by omega)).mpr h_1; omega
    obtain ⟨d, rfl⟩ : ∃ k, d = k + 1 := ⟨d - 1, by omega⟩
    refine lv_iload_n hx hb dX4_frostInAll_10 rfl (lv_at hl 1 rfl) ?_
    refine lv_aload_n hx hb dX4_frostInAll_11 rfl (lv_at hl 2 rfl) ?_
    refine va_get (D := D) (ci := 4) (v := .ref af) (C := RX4) (T := TX4) (N := 2) hx hb hts iX4 hown hKK.1 hP 0 rfl rfl 1 (by decide) (hts (.fieldLink RX4 15 "TrolleyGang$Wires" "frost" "[I") (List.mem_of_getElem? (i := 1) rfl)) (fun _ h9 => h9) rfl dX4_frostInAll_12 ?_
    refine lv_iload_n hx hb dX4_frostInAll_15 rfl (lv_at hl 0 rfl) ?_
    refine va_iald hx hb hKK.1 hP 2 0 rfl rfl (hin := (vp_in_nI hlt (by omega))) dX4_frostInAll_16 ?_
    refine lv_tope (y := f i) (by rw [nI_clamp (by omega)]) ?_
    refine lv_iadd hx hb dX4_frostInAll_17 ?_
    refine lv_istore_n (lv' := [(1, .int (a1 + (f i))), (2, .int (nI i)), (0, .ref aW)]) hx hb dX4_frostInAll_18 rfl hl (by decide) rfl (fun ls hl => ?_)
    refine lv_iinc (v := nI (i + 1)) (lv' := [(2, .int (nI (i + 1))), (1, .int (a1 + (f i))), (0, .ref aW)]) hx hb dX4_frostInAll_19 hl (k := 1) rfl (nI_1 i) (by decide) rfl (fun ls hl => ?_)
    refine lv_goto (tgt := 4) hx hb dX4_frostInAll_22 (by decide) ?_
    exact ih d ((i + 1), (a1 + (f i))) _ _ _ (by omega) ⟨(by omega), (hsp.trans (by rfl)), hP, hD, hS, lv_sub hl [0, 1, 2] rfl⟩
set_option maxHeartbeats 4000000 in
set_option maxRecDepth 100000 in
theorem c_X4_spansDown (l : Launch) (D : va_G) (cyI cyO cyL : ClassId) (aW : Nat) (aw : Nat) (af : Nat) (w : Nat → Int32) (f : Nat → Int32) : cI l yX4_spansDown wsX4_spansDown ({ frames := 1, cells := 0, slots := 0, locals := 21 }) D cyI cyO cyL [.ref aW] (cW cyI aW aw af w f) (cW cyI aW aw af w f) (spdL w 24 0 0) := by
  intro sz
  refine Met.ofW (cc := cX4_spansDown) (maxL := 3) (ret := (some .int)) (by decide) rfl ?_
  intro p e s m args below meth c s₁ B9 hml hv
  obtain ⟨rfl, hsz, hP, hKK, hD0⟩ := hv
  have hx := B9.exec
  have hb := B9.bytes
  have hrt := B9.returns
  have hts := atoms_spec (ws := wsX4_spansDown) B9.pre
  have hown : s.vm.findClass RX4 = some m.cls := findClass_of_methodNamed B9.named
  have hlocks := B9.notSynchronized
  have nw := fun {w : Cond} (h : w ∈ nw_all) => NW.use (args := ([.ref aW] : List Value).toArray) hKK.2 h
  subst hsz
  have hD := hD0.self (sz := s.heap.size)
  generalize hAe : va_A (cW cyI aW aw af w f) s.heap.size = A at hD ⊢
  have hA : ∀ q : Nat, s.heap.size ≤ q → A q := fun q h => by rw [← hAe]; exact Or.inr h
  have hS : va_S A s.heap s.heap [] := va_S.rf
  have hl := lv_entry ([.ref aW]) (n := 3) (Nat.le_of_ble_eq_true rfl)
  rw [lg_entry_eq]
  generalize (lg_sl ([.ref aW]) ++ List.replicate (3 - (lg_sl ([.ref aW])).length) Slot.unset).toArray = ls at hl ⊢
  have hl : lv_has ls 3 [(0, .ref aW)] := hl
  refine lv_iconst (v := 0) hx hb dX4_spansDown_0 (by decide) ?_
  refine lv_istore_n (lv' := [(1, .int 0), (0, .ref aW)]) hx hb dX4_spansDown_1 rfl hl (by decide) rfl (fun ls hl => ?_)
  refine lv_iconst (v := 0) hx hb dX4_spansDown_2 (by decide) ?_
  refine lv_istore_n (lv' := [(2, .int 0), (1, .int 0), (0, .ref aW)]) hx hb dX4_spansDown_3 rfl hl (by decide) rfl (fun ls hl => ?_)
  refine wloop (σ := (Nat) × (Int32)) (fun d9 x9 H9 L9 s9 => ((x9.1) + d9 = 24) ∧ (spdL w 24 0 0 = spdL w d9 (x9.1) (x9.2)) ∧ (va_P D vwCl (cW cyI aW aw af w f) H9) ∧ (va_D A (cW cyI aW aw af w f)) ∧ (va_S A s.heap H9 L9) ∧ (lv_has s9 3 [(2, .int (nI (x9.1))), (1, .int (x9.2)), (0, .ref aW)])) (fun d9 x9 H locs ls g9 ih => ?_) 24 (0, 0) _ _ _ ⟨(by omega), rfl, hP, hD, hS, lv_sub hl [0, 1, 2] rfl⟩
  obtain ⟨i, a1⟩ := x9
  obtain ⟨hid, hsp, hP, hD, hS, hl⟩ := g9
  obtain ⟨d, rfl⟩ : ∃ z, z = d9 := ⟨_, rfl⟩
  have hid : i + d = 24 := hid
  have hsp : spdL w 24 0 0 = spdL w d i a1 := hsp
  have hP : va_P D vwCl (cW cyI aW aw af w f) H := hP
  have hD : va_D A (cW cyI aW aw af w f) := hD
  have hl : lv_has ls 3 [(2, .int (nI i)), (1, .int a1), (0, .ref aW)] := hl
  refine lv_iload_n hx hb dX4_spansDown_4 rfl (lv_at hl 0 rfl) ?_
  refine lv_bipush (v := 24) hx hb dX4_spansDown_5 (by decide) ?_
  refine lv_icmp_ge (tgt := 27) hx hb dX4_spansDown_7 (by decide) (fun h_1 => ?_) (fun h_1 => ?_)
  · skip
    obtain rfl : d = 0 := by have h9 := (nI_leI (a := 24) (b := i) (by omega) (by omega)).mp h_1; omega
    have hiN : i = 24 := by omega
    refine lv_iload_n hx hb dX4_spansDown_27 rfl (lv_at hl 1 rfl) ?_
    have e9 : spdL w 24 0 0 = a1 := (hsp.trans (by rfl))
    exact end_i hx hb hrt hlocks (by rw [e9]) hP hS dX4_spansDown_28
  · skip
    have hlt : i < 24 := by have h9 := mt (nI_leI (a := 24) (b := i) (by omega) (by omega)).mpr h_1; omega
    obtain ⟨d, rfl⟩ : ∃ k, d = k + 1 := ⟨d - 1, by omega⟩
    refine lv_iload_n hx hb dX4_spansDown_10 rfl (lv_at hl 1 rfl) ?_
    refine lv_aload_n hx hb dX4_spansDown_11 rfl (lv_at hl 2 rfl) ?_
    refine lv_iload_n hx hb dX4_spansDown_12 rfl (lv_at hl 0 rfl) ?_
    have hPc := hP.sub (ws' := (cW cyI aW aw af w f)) [0, 1, 2] rfl
    have hDc := hD.sub (ws' := (cW cyI aW aw af w f)) [0, 1, 2] (by decide) rfl
    refine ret_i (W1 := (cW cyI aW aw af w f)) (W2 := (cW cyI aW aw af w f)) (ws1 := (cW cyI aW aw af w f)) (r := dnI w (nI i)) (run_V (q := (RX4, TX4, 2)) (n := 1) (As := [.int (nI i)]) (rest := [.int a1]) ⟨hx, hb, hml, hown, hts⟩ (c_X4_isDown l D cyI cyO cyL aW aw af w f (nI i) (vp_in_nI hlt (by omega)) _) ggX4_spansDown_X4_isDown rfl rfl rfl (hts (.methodLink RX4 33 yX4_isDown) (List.mem_of_getElem? (i := 1) rfl)) (hts (.initialized RX4) (List.mem_of_getElem? (i := 4) rfl)) (hts (.instanceMethod yX4_isDown) (List.mem_of_getElem? (i := 2) rfl)) (hts (.selects RX4 yX4_isDown yX4_isDown) (List.mem_of_getElem? (i := 3) rfl)) (by decide +kernel) ⟨Nat.le_of_ble_eq_true rfl, Nat.le_of_ble_eq_true rfl⟩ hKK hPc hDc (ci := 4) (q0 := 0) rfl rfl rfl hl.1 rfl (Nat.le_of_ble_eq_true rfl) dX4_spansDown_13 ⟨Nat.zero_le _, Nat.zero_le _⟩) hP hD hS hA [0, 1, 2] rfl rfl [(true, 0), (true, 1), (true, 2)] (by decide +kernel) rfl (fun H locs hP hD hS => ?_)
    have hPc := hP.sub (ws' := ([] : va_W)) [] rfl
    have hDc := hD.sub (ws' := ([] : va_W)) [] (by decide) rfl
    refine ret_i (W1 := ([] : va_W)) (W2 := ([] : va_W)) (ws1 := (cW cyI aW aw af w f)) (r := oneI (dnI w (nI i))) (run_SN (n := 1) (As := [.int (dnI w (nI i))]) (rest := [.int a1]) ⟨hx, hb, hml, hown, hts⟩ (c_X5_oneIf l D cyI cyO cyL (dnI w (nI i)) _) ggX4_spansDown_X5_oneIf rfl rfl rfl nq_10 (hts (.initialized RX5) (List.mem_of_getElem? (i := 8) rfl)) (hts (.static yX5_oneIf) (List.mem_of_getElem? (i := 7) rfl)) (by decide +kernel) ⟨Nat.le_of_ble_eq_true rfl, Nat.le_of_ble_eq_true rfl⟩ hKK hPc hDc rfl hl.1 rfl (Nat.le_of_ble_eq_true rfl) dX4_spansDown_16 ⟨Nat.zero_le _, Nat.zero_le _⟩) hP hD hS hA [] rfl rfl [(false, 0), (false, 1), (false, 2)] (by decide +kernel) rfl (fun H locs hP hD hS => ?_)
    refine lv_iadd hx hb dX4_spansDown_19 ?_
    refine lv_istore_n (lv' := [(1, .int (a1 + (oneI (dnI w (nI i))))), (2, .int (nI i)), (0, .ref aW)]) hx hb dX4_spansDown_20 rfl hl (by decide) rfl (fun ls hl => ?_)
    refine lv_iinc (v := nI (i + 1)) (lv' := [(2, .int (nI (i + 1))), (1, .int (a1 + (oneI (dnI w (nI i))))), (0, .ref aW)]) hx hb dX4_spansDown_21 hl (k := 1) rfl (nI_1 i) (by decide) rfl (fun ls hl => ?_)
    refine lv_goto (tgt := 4) hx hb dX4_spansDown_24 (by decide) ?_
    exact ih d ((i + 1), (a1 + (oneI (dnI w (nI i))))) _ _ _ (by omega) ⟨(by omega), (hsp.trans (by rfl)), hP, hD, hS, lv_sub hl [0, 1, 2] rfl⟩
set_option maxHeartbeats 4000000 in
set_option maxRecDepth 100000 in
theorem c_X4_spansUpBehind (l : Launch) (D : va_G) (cyI cyO cyL : ClassId) (aW : Nat) (aw : Nat) (af : Nat) (w : Nat → Int32) (f : Nat → Int32) (s_ : Int32) (hs : vp_in s_ 24) : cI l yX4_spansUpBehind wsX4_spansUpBehind ({ frames := 1, cells := 0, slots := 0, locals := 21 }) D cyI cyO cyL [.ref aW, .int s_] (cW cyI aW aw af w f) (cW cyI aW aw af w f) (spuL w s_ 24 0) := by
  intro sz
  refine Met.ofW (cc := cX4_spansUpBehind) (maxL := 3) (ret := (some .int)) (by decide) rfl ?_
  intro p e s m args below meth c s₁ B9 hml hv
  obtain ⟨rfl, hsz, hP, hKK, hD0⟩ := hv
  have hx := B9.exec
  have hb := B9.bytes
  have hrt := B9.returns
  have hts := atoms_spec (ws := wsX4_spansUpBehind) B9.pre
  have hown : s.vm.findClass RX4 = some m.cls := findClass_of_methodNamed B9.named
  have hlocks := B9.notSynchronized
  have nw := fun {w : Cond} (h : w ∈ nw_all) => NW.use (args := ([.ref aW, .int s_] : List Value).toArray) hKK.2 h
  subst hsz
  have hD := hD0.self (sz := s.heap.size)
  generalize hAe : va_A (cW cyI aW aw af w f) s.heap.size = A at hD ⊢
  have hA : ∀ q : Nat, s.heap.size ≤ q → A q := fun q h => by rw [← hAe]; exact Or.inr h
  have hS : va_S A s.heap s.heap [] := va_S.rf
  have hl := lv_entry ([.ref aW, .int s_]) (n := 3) (Nat.le_of_ble_eq_true rfl)
  rw [lg_entry_eq]
  generalize (lg_sl ([.ref aW, .int s_]) ++ List.replicate (3 - (lg_sl ([.ref aW, .int s_])).length) Slot.unset).toArray = ls at hl ⊢
  have hl : lv_has ls 3 [(0, .ref aW), (1, .int s_)] := hl
  refine lv_iconst (v := 0) hx hb dX4_spansUpBehind_0 (by decide) ?_
  refine lv_istore_n (lv' := [(2, .int 0), (0, .ref aW), (1, .int s_)]) hx hb dX4_spansUpBehind_1 rfl hl (by decide) rfl (fun ls hl => ?_)
  refine wloop (σ := (Nat)) (fun d9 x9 H9 L9 s9 => (x9 + d9 = 24) ∧ (spuL w s_ 24 0 = spuL w s_ d9 x9) ∧ (va_P D vwCl (cW cyI aW aw af w f) H9) ∧ (va_D A (cW cyI aW aw af w f)) ∧ (va_S A s.heap H9 L9) ∧ (lv_has s9 3 [(2, .int (nI x9)), (0, .ref aW), (1, .int s_)])) (fun d9 x9 H locs ls g9 ih => ?_) 24 0 _ _ _ ⟨(by omega), rfl, hP, hD, hS, lv_sub hl [0, 1, 2] rfl⟩
  obtain ⟨i, rfl⟩ : ∃ z, z = x9 := ⟨_, rfl⟩
  obtain ⟨hid, hsp, hP, hD, hS, hl⟩ := g9
  obtain ⟨d, rfl⟩ : ∃ z, z = d9 := ⟨_, rfl⟩
  have hid : i + d = 24 := hid
  have hsp : spuL w s_ 24 0 = spuL w s_ d i := hsp
  have hP : va_P D vwCl (cW cyI aW aw af w f) H := hP
  have hD : va_D A (cW cyI aW aw af w f) := hD
  have hl : lv_has ls 3 [(2, .int (nI i)), (0, .ref aW), (1, .int s_)] := hl
  refine lv_iload_n hx hb dX4_spansUpBehind_2 rfl (lv_at hl 0 rfl) ?_
  refine lv_bipush (v := 24) hx hb dX4_spansUpBehind_3 (by decide) ?_
  refine lv_icmp_ge (tgt := 29) hx hb dX4_spansUpBehind_5 (by decide) (fun h_1 => ?_) (fun h_1 => ?_)
  · skip
    obtain rfl : d = 0 := by have h9 := (nI_leI (a := 24) (b := i) (by omega) (by omega)).mp h_1; omega
    have hiN : i = 24 := by omega
    refine lv_iload_n hx hb dX4_spansUpBehind_29 rfl (lv_at hl 0 rfl) ?_
    have e9 : spuL w s_ 24 0 = nI i := (hsp.trans (by first | with_reducible rfl | (simp only [spuL, h_1, if_true, if_false, reduceIte, not_true_eq_false, not_false_eq_true]; done) | (simp [spuL, h_1]; done)))
    exact end_i hx hb hrt hlocks (by rw [e9]) hP hS dX4_spansUpBehind_30
  · skip
    have hlt : i < 24 := by have h9 := mt (nI_leI (a := 24) (b := i) (by omega) (by omega)).mpr h_1; omega
    obtain ⟨d, rfl⟩ : ∃ k, d = k + 1 := ⟨d - 1, by omega⟩
    refine lv_aload_n hx hb dX4_spansUpBehind_8 rfl (lv_at hl 1 rfl) ?_
    refine lv_iload_n hx hb dX4_spansUpBehind_9 rfl (lv_at hl 2 rfl) ?_
    refine lv_iload_n hx hb dX4_spansUpBehind_10 rfl (lv_at hl 0 rfl) ?_
    refine lv_iadd hx hb dX4_spansUpBehind_11 ?_
    refine lv_iconst (v := 1) hx hb dX4_spansUpBehind_12 (by decide) ?_
    refine lv_iadd hx hb dX4_spansUpBehind_13 ?_
    refine lv_bipush (v := 24) hx hb dX4_spansUpBehind_14 (by decide) ?_
    refine lv_irem hx hb dX4_spansUpBehind_16 (by decide) ?_
    refine lv_tope (y := ir ((s_ + (nI i)) + 1) 24) rfl ?_
    have hPc := hP.sub (ws' := (cW cyI aW aw af w f)) [0, 1, 2] rfl
    have hDc := hD.sub (ws' := (cW cyI aW aw af w f)) [0, 1, 2] (by decide) rfl
    refine ret_i (W1 := (cW cyI aW aw af w f)) (W2 := (cW cyI aW aw af w f)) (ws1 := (cW cyI aW aw af w f)) (r := dnI w (ir ((s_ + (nI i)) + 1) 24)) (run_V (q := (RX4, TX4, 2)) (n := 1) (As := [.int (ir ((s_ + (nI i)) + 1) 24)]) (rest := []) ⟨hx, hb, hml, hown, hts⟩ (c_X4_isDown l D cyI cyO cyL aW aw af w f (ir ((s_ + (nI i)) + 1) 24) (spu_in hs hlt) _) ggX4_spansUpBehind_X4_isDown rfl rfl rfl (hts (.methodLink RX4 33 yX4_isDown) (List.mem_of_getElem? (i := 1) rfl)) (hts (.initialized RX4) (List.mem_of_getElem? (i := 4) rfl)) (hts (.instanceMethod yX4_isDown) (List.mem_of_getElem? (i := 2) rfl)) (hts (.selects RX4 yX4_isDown yX4_isDown) (List.mem_of_getElem? (i := 3) rfl)) (by decide +kernel) ⟨Nat.le_of_ble_eq_true rfl, Nat.le_of_ble_eq_true rfl⟩ hKK hPc hDc (ci := 4) (q0 := 0) rfl rfl rfl hl.1 rfl (Nat.le_of_ble_eq_true rfl) dX4_spansUpBehind_17 ⟨Nat.zero_le _, Nat.zero_le _⟩) hP hD hS hA [0, 1, 2] rfl rfl [(true, 0), (true, 1), (true, 2)] (by decide +kernel) rfl (fun H locs hP hD hS => ?_)
    refine lv_if_ne (tgt := 29) hx hb dX4_spansUpBehind_20 (by decide) (fun h_2 => ?_) (fun h_2 => ?_)
    · skip
      refine lv_iload_n hx hb dX4_spansUpBehind_29 rfl (lv_at hl 0 rfl) ?_
      have e9 : spuL w s_ 24 0 = nI i := (hsp.trans (by first | with_reducible rfl | (simp only [spuL, h_1, h_2, if_true, if_false, reduceIte, not_true_eq_false, not_false_eq_true]; done) | (simp [spuL, h_1, h_2]; done)))
      exact end_i hx hb hrt hlocks (by rw [e9]) hP hS dX4_spansUpBehind_30
    · skip
      refine lv_iinc (v := nI (i + 1)) (lv' := [(2, .int (nI (i + 1))), (0, .ref aW), (1, .int s_)]) hx hb dX4_spansUpBehind_23 hl (k := 0) rfl (nI_1 i) (by decide) rfl (fun ls hl => ?_)
      refine lv_goto (tgt := 2) hx hb dX4_spansUpBehind_26 (by decide) ?_
      exact ih d (i + 1) _ _ _ (by omega) ⟨(by omega), (hsp.trans (by first | with_reducible rfl | (simp only [spuL, h_1, h_2, if_true, if_false, reduceIte, not_true_eq_false, not_false_eq_true]; done) | (simp [spuL, h_1, h_2]; done))), hP, hD, hS, lv_sub hl [0, 1, 2] rfl⟩
