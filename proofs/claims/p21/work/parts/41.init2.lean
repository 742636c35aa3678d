set_option maxHeartbeats 4000000 in
set_option maxRecDepth 100000 in
theorem c_X0_init (l : Launch) (D : va_G) (cyI cyO cyL : ClassId) (aU : Nat) : cN (σ := Unit) l yX0_init wsX0_init ({ frames := 1, cells := 0, slots := 0, locals := 15 }) D cyI cyO cyL [.ref aU] ([(aU, .inr (0, [.int 0, .int 0, .int 0, .int 0, .int 0, .int 0]))]) (fun u => [(aU, .inr (0, [.int 0, .int 0, .int 0, .int 0, .int 0, .int 0]))]) 0 0 := by
  intro sz
  refine Met.ofW (cc := cX0_init) (maxL := 1) (ret := none) (by decide) rfl ?_
  intro p e s m args below meth c s₁ B9 hml hv
  obtain ⟨rfl, hsz, hP, hKK, hAO, hD0⟩ := hv
  have hx := B9.exec
  have hb := B9.bytes
  have hrt := B9.returns
  have hts := atoms_spec (ws := wsX0_init) B9.pre
  have hown : s.vm.findClass RX0 = some m.cls := findClass_of_methodNamed B9.named
  have hlocks := B9.notSynchronized
  have hin : meth.name = "<init>" := (name_of_methodNamed B9.named B9.method).1
  subst hsz
  have hD := hD0.self (sz := s.heap.size)
  generalize hAe : va_A [(aU, .inr (0, [.int 0, .int 0, .int 0, .int 0, .int 0, .int 0]))] s.heap.size = A at hD ⊢
  have hA : ∀ q : Nat, s.heap.size ≤ q → A q := fun q h => by rw [← hAe]; exact Or.inr h
  have hS : va_S A s.heap s.heap [] := va_S.rf
  have hP : va_P D vwCl [(aU, .inr (0, [.int 0, .int 0, .int 0, .int 0, .int 0, .int 0]))] s.heap := hP
  have hl := lv_entry ([.ref aU]) (n := 1) (Nat.le_of_ble_eq_true rfl)
  rw [lg_entry_eq]
  generalize (lg_sl ([.ref aU]) ++ List.replicate (1 - (lg_sl ([.ref aU])).length) Slot.unset).toArray = ls at hl ⊢
  have hl : lv_has ls 1 [(0, .ref aU)] := hl
  refine lv_aload_n hx hb dX0_init_0 rfl (lv_at hl 0 rfl) ?_
  refine W.objInit hx hb hown (hts (.methodLink RX0 1 objectInit) (List.mem_of_getElem? (i := 1) rfl)) (hts (.instanceMethod objectInit) (List.mem_of_getElem? (i := 2) rfl)) (hts (.code objectInit ⟨#[0xb1]⟩ 1 none) (List.mem_of_getElem? (i := 3) rfl)) rfl (by rw [hml]; exact hl.1) rfl dX0_init_1 (Nat.le_of_ble_eq_true rfl) (Nat.le_of_ble_eq_true rfl) ?_
  refine W.eq (g2 := F0 m 4 ls []) rfl ?_
  exact end_A (σ := Unit) (W2 := fun u => [(aU, .inr (0, [.int 0, .int 0, .int 0, .int 0, .int 0, .int 0]))]) () hx hb hrt hlocks hP hD hS dX0_init_4
set_option maxHeartbeats 4000000 in
set_option maxRecDepth 100000 in
theorem c_X1_init (l : Launch) (D : va_G) (cyI cyO cyL : ClassId) (aG : Nat) : cN (σ := Nat) l yX1_init wsX1_init ({ frames := 1, cells := 1, slots := 6, locals := 15 }) D cyI cyO cyL [.ref aG] ([(aG, .inr (1, [.null, .int 0, .int 0, .int 0, .int 0, .int 0]))]) (fun u => cG cyI aG u (fun _ => 0) (fun _ => 0)) 1 6 := by
  intro sz
  refine Met.ofW (cc := cX1_init) (maxL := 1) (ret := none) (by decide) rfl ?_
  intro p e s m args below meth c s₁ B9 hml hv
  obtain ⟨rfl, hsz, hP, hKK, hAO, hD0⟩ := hv
  have hx := B9.exec
  have hb := B9.bytes
  have hrt := B9.returns
  have hts := atoms_spec (ws := wsX1_init) B9.pre
  have hown : s.vm.findClass RX1 = some m.cls := findClass_of_methodNamed B9.named
  have hlocks := B9.notSynchronized
  have hin : meth.name = "<init>" := (name_of_methodNamed B9.named B9.method).1
  subst hsz
  have hD := hD0.self (sz := s.heap.size)
  generalize hAe : va_A [(aG, .inr (1, [.null, .int 0, .int 0, .int 0, .int 0, .int 0]))] s.heap.size = A at hD ⊢
  have hA : ∀ q : Nat, s.heap.size ≤ q → A q := fun q h => by rw [← hAe]; exact Or.inr h
  have hS : va_S A s.heap s.heap [] := va_S.rf
  have hP : va_P D vwCl [(aG, .inr (1, [.null, .int 0, .int 0, .int 0, .int 0, .int 0]))] s.heap := hP
  have hl := lv_entry ([.ref aG]) (n := 1) (Nat.le_of_ble_eq_true rfl)
  rw [lg_entry_eq]
  generalize (lg_sl ([.ref aG]) ++ List.replicate (1 - (lg_sl ([.ref aG])).length) Slot.unset).toArray = ls at hl ⊢
  have hl : lv_has ls 1 [(0, .ref aG)] := hl
  refine lv_aload_n hx hb dX1_init_0 rfl (lv_at hl 0 rfl) ?_
  refine W.objInit hx hb hown (hts (.methodLink RX1 3 objectInit) (List.mem_of_getElem? (i := 1) rfl)) (hts (.instanceMethod objectInit) (List.mem_of_getElem? (i := 2) rfl)) (hts (.code objectInit ⟨#[0xb1]⟩ 1 none) (List.mem_of_getElem? (i := 3) rfl)) rfl (by rw [hml]; exact hl.1) rfl dX1_init_1 (Nat.le_of_ble_eq_true rfl) (Nat.le_of_ble_eq_true rfl) ?_
  refine W.eq (g2 := F0 m 4 ls []) rfl ?_
  refine lv_aload_n hx hb dX1_init_4 rfl (lv_at hl 0 rfl) ?_
  refine lv_bipush (v := 6) hx hb dX1_init_5 (by decide) ?_
  refine va_newa (atype := .int) (ty := .int) (N' := 6) (a0 := (6, .inl (fun _ => 0))) hx hb (hts (.arrayClass .int) (List.mem_of_getElem? (i := 4) rfl)) rfl hKK.1 hP hD hS hA (fun _ => rfl) (by decide) (by decide) (Nat.le_of_ble_eq_true rfl) (Nat.le_of_ble_eq_true rfl) (Nat.le_of_ble_eq_true rfl) dX1_init_7 (fun q1 cB H hK3 hP hD hS => ?_)
  obtain rfl := (int_row 3 0 hK3 rfl rfl).symm
  have hP : va_P D vwCl [(aG, .inr (1, [.null, .int 0, .int 0, .int 0, .int 0, .int 0])), (q1, .inl (cyI, 6, .inl (fun _ => 0)))] H := hP
  have hD : va_D A [(aG, .inr (1, [.null, .int 0, .int 0, .int 0, .int 0, .int 0])), (q1, .inl (cyI, 6, .inl (fun _ => 0)))] := hD
  refine va_putF (D := D) (ci := 1) (v := .ref q1) (ty := .array .int) (C := RX1) (T := TX1) (N := 6) hx hb hts (fun _ h => List.mem_cons_of_mem _ (List.mem_append_right _ h)) tyX1 tyX1_ok nmX1 hown hKK.1 hP hD hS 0 rfl rfl 0 (by decide) (hts (.fieldLink RX1 9 "TrolleyGang$Gang" "orders" "[I") (List.mem_of_getElem? (i := 5) rfl)) (fun _ h9 => h9) rfl hin rfl (by decide +kernel) rfl rfl (Nat.le_of_ble_eq_true rfl) dX1_init_9 (fun H locs hP hD hS => ?_)
  have hP : va_P D vwCl [(aG, .inr (1, [.ref q1, .int 0, .int 0, .int 0, .int 0, .int 0])), (q1, .inl (cyI, 6, .inl (fun _ => 0)))] H := hP
  have hD : va_D A [(aG, .inr (1, [.ref q1, .int 0, .int 0, .int 0, .int 0, .int 0])), (q1, .inl (cyI, 6, .inl (fun _ => 0)))] := hD
  exact end_A (σ := Nat) (W2 := fun u => cG cyI aG u (fun _ => 0) (fun _ => 0)) q1 hx hb hrt hlocks hP hD hS dX1_init_12
set_option maxHeartbeats 4000000 in
set_option maxRecDepth 100000 in
theorem c_X4_init (l : Launch) (D : va_G) (cyI cyO cyL : ClassId) (aW : Nat) : cN (σ := Nat × Nat) l yX4_init wsX4_init ({ frames := 1, cells := 2, slots := 48, locals := 15 }) D cyI cyO cyL [.ref aW] ([(aW, .inr (4, [.null, .null]))]) (fun u => cW cyI aW u.1 u.2 (fun _ => 0) (fun _ => 0)) 2 48 := by
  intro sz
  refine Met.ofW (cc := cX4_init) (maxL := 1) (ret := none) (by decide) rfl ?_
  intro p e s m args below meth c s₁ B9 hml hv
  obtain ⟨rfl, hsz, hP, hKK, hAO, hD0⟩ := hv
  have hx := B9.exec
  have hb := B9.bytes
  have hrt := B9.returns
  have hts := atoms_spec (ws := wsX4_init) B9.pre
  have hown : s.vm.findClass RX4 = some m.cls := findClass_of_methodNamed B9.named
  have hlocks := B9.notSynchronized
  have hin : meth.name = "<init>" := (name_of_methodNamed B9.named B9.method).1
  subst hsz
  have hD := hD0.self (sz := s.heap.size)
  generalize hAe : va_A [(aW, .inr (4, [.null, .null]))] s.heap.size = A at hD ⊢
  have hA : ∀ q : Nat, s.heap.size ≤ q → A q := fun q h => by rw [← hAe]; exact Or.inr h
  have hS : va_S A s.heap s.heap [] := va_S.rf
  have hP : va_P D vwCl [(aW, .inr (4, [.null, .null]))] s.heap := hP
  have hl := lv_entry ([.ref aW]) (n := 1) (Nat.le_of_ble_eq_true rfl)
  rw [lg_entry_eq]
  generalize (lg_sl ([.ref aW]) ++ List.replicate (1 - (lg_sl ([.ref aW])).length) Slot.unset).toArray = ls at hl ⊢
  have hl : lv_has ls 1 [(0, .ref aW)] := hl
  refine lv_aload_n hx hb dX4_init_0 rfl (lv_at hl 0 rfl) ?_
  refine W.objInit hx hb hown (hts (.methodLink RX4 3 objectInit) (List.mem_of_getElem? (i := 1) rfl)) (hts (.instanceMethod objectInit) (List.mem_of_getElem? (i := 2) rfl)) (hts (.code objectInit ⟨#[0xb1]⟩ 1 none) (List.mem_of_getElem? (i := 3) rfl)) rfl (by rw [hml]; exact hl.1) rfl dX4_init_1 (Nat.le_of_ble_eq_true rfl) (Nat.le_of_ble_eq_true rfl) ?_
  refine W.eq (g2 := F0 m 4 ls []) rfl ?_
  refine lv_aload_n hx hb dX4_init_4 rfl (lv_at hl 0 rfl) ?_
  refine lv_bipush (v := 24) hx hb dX4_init_5 (by decide) ?_
  refine va_newa (atype := .int) (ty := .int) (N' := 24) (a0 := (24, .inl (fun _ => 0))) hx hb (hts (.arrayClass .int) (List.mem_of_getElem? (i := 4) rfl)) rfl hKK.1 hP hD hS hA (fun _ => rfl) (by decide) (by decide) (Nat.le_of_ble_eq_true rfl) (Nat.le_of_ble_eq_true rfl) (Nat.le_of_ble_eq_true rfl) dX4_init_7 (fun q1 cB H hK3 hP hD hS => ?_)
  obtain rfl := (int_row 3 0 hK3 rfl rfl).symm
  have hP : va_P D vwCl [(aW, .inr (4, [.null, .null])), (q1, .inl (cyI, 24, .inl (fun _ => 0)))] H := hP
  have hD : va_D A [(aW, .inr (4, [.null, .null])), (q1, .inl (cyI, 24, .inl (fun _ => 0)))] := hD
  refine va_putF (D := D) (ci := 4) (v := .ref q1) (ty := .array .int) (C := RX4) (T := TX4) (N := 2) hx hb hts (fun _ h => List.mem_cons_of_mem _ (List.mem_append_right _ h)) tyX4 tyX4_ok nmX4 hown hKK.1 hP hD hS 0 rfl rfl 0 (by decide) (hts (.fieldLink RX4 9 "TrolleyGang$Wires" "worn" "[I") (List.mem_of_getElem? (i := 5) rfl)) (fun _ h9 => h9) rfl hin rfl (by decide +kernel) rfl rfl (Nat.le_of_ble_eq_true rfl) dX4_init_9 (fun H locs hP hD hS => ?_)
  have hP : va_P D vwCl [(aW, .inr (4, [.ref q1, .null])), (q1, .inl (cyI, 24, .inl (fun _ => 0)))] H := hP
  have hD : va_D A [(aW, .inr (4, [.ref q1, .null])), (q1, .inl (cyI, 24, .inl (fun _ => 0)))] := hD
  refine lv_aload_n hx hb dX4_init_12 rfl (lv_at hl 0 rfl) ?_
  refine lv_bipush (v := 24) hx hb dX4_init_13 (by decide) ?_
  refine va_newa (atype := .int) (ty := .int) (N' := 24) (a0 := (24, .inl (fun _ => 0))) hx hb (hts (.arrayClass .int) (List.mem_of_getElem? (i := 4) rfl)) rfl hKK.1 hP hD hS hA (fun _ => rfl) (by decide) (by decide) (Nat.le_of_ble_eq_true rfl) (Nat.le_of_ble_eq_true rfl) (Nat.le_of_ble_eq_true rfl) dX4_init_15 (fun q2 cB H hK3 hP hD hS => ?_)
  obtain rfl := (int_row 3 0 hK3 rfl rfl).symm
  have hP : va_P D vwCl [(aW, .inr (4, [.ref q1, .null])), (q1, .inl (cyI, 24, .inl (fun _ => 0))), (q2, .inl (cyI, 24, .inl (fun _ => 0)))] H := hP
  have hD : va_D A [(aW, .inr (4, [.ref q1, .null])), (q1, .inl (cyI, 24, .inl (fun _ => 0))), (q2, .inl (cyI, 24, .inl (fun _ => 0)))] := hD
  refine va_putF (D := D) (ci := 4) (v := .ref q2) (ty := .array .int) (C := RX4) (T := TX4) (N := 2) hx hb hts (fun _ h => List.mem_cons_of_mem _ (List.mem_append_right _ h)) tyX4 tyX4_ok nmX4 hown hKK.1 hP hD hS 0 rfl rfl 1 (by decide) (hts (.fieldLink RX4 15 "TrolleyGang$Wires" "frost" "[I") (List.mem_of_getElem? (i := 6) rfl)) (fun _ h9 => h9) rfl hin rfl (by decide +kernel) rfl rfl (Nat.le_of_ble_eq_true rfl) dX4_init_17 (fun H locs hP hD hS => ?_)
  have hP : va_P D vwCl [(aW, .inr (4, [.ref q1, .ref q2])), (q1, .inl (cyI, 24, .inl (fun _ => 0))), (q2, .inl (cyI, 24, .inl (fun _ => 0)))] H := hP
  have hD : va_D A [(aW, .inr (4, [.ref q1, .ref q2])), (q1, .inl (cyI, 24, .inl (fun _ => 0))), (q2, .inl (cyI, 24, .inl (fun _ => 0)))] := hD
  exact end_A (σ := Nat × Nat) (W2 := fun u => cW cyI aW u.1 u.2 (fun _ => 0) (fun _ => 0)) (q1, q2) hx hb hrt hlocks hP hD hS dX4_init_20
set_option maxHeartbeats 4000000 in
set_option maxRecDepth 100000 in
theorem c_X3_init (l : Launch) (D : va_G) (cyI cyO cyL : ClassId) (aT : Nat) : cN (σ := Nat × Nat) l yX3_init wsX3_init ({ frames := 1, cells := 2, slots := 20, locals := 15 }) D cyI cyO cyL [.ref aT] ([(aT, .inr (3, [.null, .null, .int 0, .int 0]))]) (fun u => cT cyI aT u.1 u.2 (fun _ => 0) (nsw 12) 2 3) 2 20 := by
  intro sz
  refine Met.ofW (cc := cX3_init) (maxL := 2) (ret := none) (by decide) rfl ?_
  intro p e s m args below meth c s₁ B9 hml hv
  obtain ⟨rfl, hsz, hP, hKK, hAO, hD0⟩ := hv
  have hx := B9.exec
  have hb := B9.bytes
  have hrt := B9.returns
  have hts := atoms_spec (ws := wsX3_init) B9.pre
  have hown : s.vm.findClass RX3 = some m.cls := findClass_of_methodNamed B9.named
  have hlocks := B9.notSynchronized
  have hin : meth.name = "<init>" := (name_of_methodNamed B9.named B9.method).1
  subst hsz
  have hD := hD0.self (sz := s.heap.size)
  generalize hAe : va_A [(aT, .inr (3, [.null, .null, .int 0, .int 0]))] s.heap.size = A at hD ⊢
  have hA : ∀ q : Nat, s.heap.size ≤ q → A q := fun q h => by rw [← hAe]; exact Or.inr h
  have hS : va_S A s.heap s.heap [] := va_S.rf
  have hP : va_P D vwCl [(aT, .inr (3, [.null, .null, .int 0, .int 0]))] s.heap := hP
  have hl := lv_entry ([.ref aT]) (n := 2) (Nat.le_of_ble_eq_true rfl)
  rw [lg_entry_eq]
  generalize (lg_sl ([.ref aT]) ++ List.replicate (2 - (lg_sl ([.ref aT])).length) Slot.unset).toArray = ls at hl ⊢
  have hl : lv_has ls 2 [(0, .ref aT)] := hl
  refine lv_aload_n hx hb dX3_init_0 rfl (lv_at hl 0 rfl) ?_
  refine W.objInit hx hb hown (hts (.methodLink RX3 3 objectInit) (List.mem_of_getElem? (i := 1) rfl)) (hts (.instanceMethod objectInit) (List.mem_of_getElem? (i := 2) rfl)) (hts (.code objectInit ⟨#[0xb1]⟩ 1 none) (List.mem_of_getElem? (i := 3) rfl)) rfl (by rw [hml]; exact hl.1) rfl dX3_init_1 (Nat.le_of_ble_eq_true rfl) (Nat.le_of_ble_eq_true rfl) ?_
  refine W.eq (g2 := F0 m 4 ls []) rfl ?_
  refine lv_aload_n hx hb dX3_init_4 rfl (lv_at hl 0 rfl) ?_
  refine lv_bipush (v := 8) hx hb dX3_init_5 (by decide) ?_
  refine va_newa (atype := .int) (ty := .int) (N' := 8) (a0 := (8, .inl (fun _ => 0))) hx hb (hts (.arrayClass .int) (List.mem_of_getElem? (i := 4) rfl)) rfl hKK.1 hP hD hS hA (fun _ => rfl) (by decide) (by decide) (Nat.le_of_ble_eq_true rfl) (Nat.le_of_ble_eq_true rfl) (Nat.le_of_ble_eq_true rfl) dX3_init_7 (fun q1 cB H hK3 hP hD hS => ?_)
  obtain rfl := (int_row 3 0 hK3 rfl rfl).symm
  have hP : va_P D vwCl [(aT, .inr (3, [.null, .null, .int 0, .int 0])), (q1, .inl (cyI, 8, .inl (fun _ => 0)))] H := hP
  have hD : va_D A [(aT, .inr (3, [.null, .null, .int 0, .int 0])), (q1, .inl (cyI, 8, .inl (fun _ => 0)))] := hD
  refine va_putF (D := D) (ci := 3) (v := .ref q1) (ty := .array .int) (C := RX3) (T := TX3) (N := 4) hx hb hts (fun _ h => List.mem_cons_of_mem _ (List.mem_append_right _ h)) tyX3 tyX3_ok nmX3 hown hKK.1 hP hD hS 0 rfl rfl 0 (by decide) (hts (.fieldLink RX3 9 "TrolleyGang$Tables" "colds" "[I") (List.mem_of_getElem? (i := 5) rfl)) (fun _ h9 => h9) rfl hin rfl (by decide +kernel) rfl rfl (Nat.le_of_ble_eq_true rfl) dX3_init_9 (fun H locs hP hD hS => ?_)
  have hP : va_P D vwCl [(aT, .inr (3, [.ref q1, .null, .int 0, .int 0])), (q1, .inl (cyI, 8, .inl (fun _ => 0)))] H := hP
  have hD : va_D A [(aT, .inr (3, [.ref q1, .null, .int 0, .int 0])), (q1, .inl (cyI, 8, .inl (fun _ => 0)))] := hD
  refine lv_aload_n hx hb dX3_init_12 rfl (lv_at hl 0 rfl) ?_
  refine lv_bipush (v := 12) hx hb dX3_init_13 (by decide) ?_
  refine va_newa (atype := .int) (ty := .int) (N' := 12) (a0 := (12, .inl (fun _ => 0))) hx hb (hts (.arrayClass .int) (List.mem_of_getElem? (i := 4) rfl)) rfl hKK.1 hP hD hS hA (fun _ => rfl) (by decide) (by decide) (Nat.le_of_ble_eq_true rfl) (Nat.le_of_ble_eq_true rfl) (Nat.le_of_ble_eq_true rfl) dX3_init_15 (fun q2 cB H hK3 hP hD hS => ?_)
  obtain rfl := (int_row 3 0 hK3 rfl rfl).symm
  have hP : va_P D vwCl [(aT, .inr (3, [.ref q1, .null, .int 0, .int 0])), (q1, .inl (cyI, 8, .inl (fun _ => 0))), (q2, .inl (cyI, 12, .inl (fun _ => 0)))] H := hP
  have hD : va_D A [(aT, .inr (3, [.ref q1, .null, .int 0, .int 0])), (q1, .inl (cyI, 8, .inl (fun _ => 0))), (q2, .inl (cyI, 12, .inl (fun _ => 0)))] := hD
  refine va_putF (D := D) (ci := 3) (v := .ref q2) (ty := .array .int) (C := RX3) (T := TX3) (N := 4) hx hb hts (fun _ h => List.mem_cons_of_mem _ (List.mem_append_right _ h)) tyX3 tyX3_ok nmX3 hown hKK.1 hP hD hS 0 rfl rfl 1 (by decide) (hts (.fieldLink RX3 15 "TrolleyGang$Tables" "swans" "[I") (List.mem_of_getElem? (i := 6) rfl)) (fun _ h9 => h9) rfl hin rfl (by decide +kernel) rfl rfl (Nat.le_of_ble_eq_true rfl) dX3_init_17 (fun H locs hP hD hS => ?_)
  have hP : va_P D vwCl [(aT, .inr (3, [.ref q1, .ref q2, .int 0, .int 0])), (q1, .inl (cyI, 8, .inl (fun _ => 0))), (q2, .inl (cyI, 12, .inl (fun _ => 0)))] H := hP
  have hD : va_D A [(aT, .inr (3, [.ref q1, .ref q2, .int 0, .int 0])), (q1, .inl (cyI, 8, .inl (fun _ => 0))), (q2, .inl (cyI, 12, .inl (fun _ => 0)))] := hD
  refine lv_aload_n hx hb dX3_init_20 rfl (lv_at hl 0 rfl) ?_
  refine lv_iconst (v := 2) hx hb dX3_init_21 (by decide) ?_
  refine va_put (D := D) (ci := 3) (v := .int 2) (ty := .int) (C := RX3) (T := TX3) (N := 4) hx hb hts (fun _ h => List.mem_cons_of_mem _ (List.mem_append_right _ h)) tyX3 tyX3_ok nmX3 hown hKK.1 hP hD hS 0 rfl rfl 2 (by decide) (hts (.fieldLink RX3 18 "TrolleyGang$Tables" "fareByDay" "I") (List.mem_of_getElem? (i := 7) rfl)) (fun _ h9 => h9) rfl (by decide +kernel) rfl rfl (Nat.le_of_ble_eq_true rfl) dX3_init_22 (fun H locs hP hD hS => ?_)
  have hP : va_P D vwCl [(aT, .inr (3, [.ref q1, .ref q2, .int 2, .int 0])), (q1, .inl (cyI, 8, .inl (fun _ => 0))), (q2, .inl (cyI, 12, .inl (fun _ => 0)))] H := hP
  have hD : va_D A [(aT, .inr (3, [.ref q1, .ref q2, .int 2, .int 0])), (q1, .inl (cyI, 8, .inl (fun _ => 0))), (q2, .inl (cyI, 12, .inl (fun _ => 0)))] := hD
  refine lv_aload_n hx hb dX3_init_25 rfl (lv_at hl 0 rfl) ?_
  refine lv_iconst (v := 3) hx hb dX3_init_26 (by decide) ?_
  refine va_put (D := D) (ci := 3) (v := .int 3) (ty := .int) (C := RX3) (T := TX3) (N := 4) hx hb hts (fun _ h => List.mem_cons_of_mem _ (List.mem_append_right _ h)) tyX3 tyX3_ok nmX3 hown hKK.1 hP hD hS 0 rfl rfl 3 (by decide) (hts (.fieldLink RX3 22 "TrolleyGang$Tables" "fareByNight" "I") (List.mem_of_getElem? (i := 8) rfl)) (fun _ h9 => h9) rfl (by decide +kernel) rfl rfl (Nat.le_of_ble_eq_true rfl) dX3_init_27 (fun H locs hP hD hS => ?_)
  have hP : va_P D vwCl [(aT, .inr (3, [.ref q1, .ref q2, .int 2, .int 3])), (q1, .inl (cyI, 8, .inl (fun _ => 0))), (q2, .inl (cyI, 12, .inl (fun _ => 0)))] H := hP
  have hD : va_D A [(aT, .inr (3, [.ref q1, .ref q2, .int 2, .int 3])), (q1, .inl (cyI, 8, .inl (fun _ => 0))), (q2, .inl (cyI, 12, .inl (fun _ => 0)))] := hD
  refine lv_iconst (v := 0) hx hb dX3_init_30 (by decide) ?_
  refine lv_istore_n (lv' := [(1, .int 0), (0, .ref aT)]) hx hb dX3_init_31 rfl hl (by decide) rfl (fun ls hl => ?_)
  refine lv_iload_n hx hb dX3_init_32 rfl (lv_at hl 0 rfl) ?_
  refine lv_bipush (v := 12) hx hb dX3_init_33 (by decide) ?_
  refine lv_icmp_ge (tgt := 51) hx hb dX3_init_35 (by decide) (fun h_9 => ?_) (fun h_9 => ?_)
  exact absurd h_9 (by decide)
  refine lv_aload_n hx hb dX3_init_38 rfl (lv_at hl 1 rfl) ?_
  refine va_get (D := D) (ci := 3) (v := .ref q2) (C := RX3) (T := TX3) (N := 4) hx hb hts (fun _ h => List.mem_cons_of_mem _ (List.mem_append_right _ h)) hown hKK.1 hP 0 rfl rfl 1 (by decide) (hts (.fieldLink RX3 15 "TrolleyGang$Tables" "swans" "[I") (List.mem_of_getElem? (i := 6) rfl)) (fun _ h9 => h9) rfl dX3_init_39 ?_
  refine lv_iload_n hx hb dX3_init_42 rfl (lv_at hl 0 rfl) ?_
  refine lv_iconst (v := (-1)) hx hb dX3_init_43 (by decide) ?_
  refine va_iast hx hb hKK.1 hP hD hS 2 0 rfl rfl (hin := (vp_in_nI (n := 0) (by decide) (by decide))) dX3_init_44 (fun H locs hP hD hS => ?_)
  have hP : va_P D vwCl [(aT, .inr (3, [.ref q1, .ref q2, .int 2, .int 3])), (q1, .inl (cyI, 8, .inl (fun _ => 0))), (q2, .inl (cyI, 12, .inl (upd (nsw 0) 0 (-1))))] H := hP
  have hD : va_D A [(aT, .inr (3, [.ref q1, .ref q2, .int 2, .int 3])), (q1, .inl (cyI, 8, .inl (fun _ => 0))), (q2, .inl (cyI, 12, .inl (upd (nsw 0) 0 (-1))))] := hD
  rw [show upd (nsw 0) 0 (-1) = nsw 1 from nsw_s 0] at hP hD
  have hP : va_P D vwCl [(aT, .inr (3, [.ref q1, .ref q2, .int 2, .int 3])), (q1, .inl (cyI, 8, .inl (fun _ => 0))), (q2, .inl (cyI, 12, .inl (nsw 1)))] H := hP
  have hD : va_D A [(aT, .inr (3, [.ref q1, .ref q2, .int 2, .int 3])), (q1, .inl (cyI, 8, .inl (fun _ => 0))), (q2, .inl (cyI, 12, .inl (nsw 1)))] := hD
  refine lv_iinc (v := 1) (lv' := [(1, .int 1), (0, .ref aT)]) hx hb dX3_init_45 hl (k := 0) rfl (by decide) (by decide) rfl (fun ls hl => ?_)
  refine lv_goto (tgt := 32) hx hb dX3_init_48 (by decide) ?_
  refine lv_iload_n hx hb dX3_init_32 rfl (lv_at hl 0 rfl) ?_
  refine lv_bipush (v := 12) hx hb dX3_init_33 (by decide) ?_
  refine lv_icmp_ge (tgt := 51) hx hb dX3_init_35 (by decide) (fun h_9 => ?_) (fun h_9 => ?_)
  exact absurd h_9 (by decide)
  refine lv_aload_n hx hb dX3_init_38 rfl (lv_at hl 1 rfl) ?_
  refine va_get (D := D) (ci := 3) (v := .ref q2) (C := RX3) (T := TX3) (N := 4) hx hb hts (fun _ h => List.mem_cons_of_mem _ (List.mem_append_right _ h)) hown hKK.1 hP 0 rfl rfl 1 (by decide) (hts (.fieldLink RX3 15 "TrolleyGang$Tables" "swans" "[I") (List.mem_of_getElem? (i := 6) rfl)) (fun _ h9 => h9) rfl dX3_init_39 ?_
  refine lv_iload_n hx hb dX3_init_42 rfl (lv_at hl 0 rfl) ?_
  refine lv_iconst (v := (-1)) hx hb dX3_init_43 (by decide) ?_
  refine va_iast hx hb hKK.1 hP hD hS 2 0 rfl rfl (hin := (vp_in_nI (n := 1) (by decide) (by decide))) dX3_init_44 (fun H locs hP hD hS => ?_)
  have hP : va_P D vwCl [(aT, .inr (3, [.ref q1, .ref q2, .int 2, .int 3])), (q1, .inl (cyI, 8, .inl (fun _ => 0))), (q2, .inl (cyI, 12, .inl (upd (nsw 1) 1 (-1))))] H := hP
  have hD : va_D A [(aT, .inr (3, [.ref q1, .ref q2, .int 2, .int 3])), (q1, .inl (cyI, 8, .inl (fun _ => 0))), (q2, .inl (cyI, 12, .inl (upd (nsw 1) 1 (-1))))] := hD
  rw [show upd (nsw 1) 1 (-1) = nsw 2 from nsw_s 1] at hP hD
  have hP : va_P D vwCl [(aT, .inr (3, [.ref q1, .ref q2, .int 2, .int 3])), (q1, .inl (cyI, 8, .inl (fun _ => 0))), (q2, .inl (cyI, 12, .inl (nsw 2)))] H := hP
  have hD : va_D A [(aT, .inr (3, [.ref q1, .ref q2, .int 2, .int 3])), (q1, .inl (cyI, 8, .inl (fun _ => 0))), (q2, .inl (cyI, 12, .inl (nsw 2)))] := hD
  refine lv_iinc (v := 2) (lv' := [(1, .int 2), (0, .ref aT)]) hx hb dX3_init_45 hl (k := 0) rfl (by decide) (by decide) rfl (fun ls hl => ?_)
  refine lv_goto (tgt := 32) hx hb dX3_init_48 (by decide) ?_
  refine lv_iload_n hx hb dX3_init_32 rfl (lv_at hl 0 rfl) ?_
  refine lv_bipush (v := 12) hx hb dX3_init_33 (by decide) ?_
  refine lv_icmp_ge (tgt := 51) hx hb dX3_init_35 (by decide) (fun h_9 => ?_) (fun h_9 => ?_)
  exact absurd h_9 (by decide)
  refine lv_aload_n hx hb dX3_init_38 rfl (lv_at hl 1 rfl) ?_
  refine va_get (D := D) (ci := 3) (v := .ref q2) (C := RX3) (T := TX3) (N := 4) hx hb hts (fun _ h => List.mem_cons_of_mem _ (List.mem_append_right _ h)) hown hKK.1 hP 0 rfl rfl 1 (by decide) (hts (.fieldLink RX3 15 "TrolleyGang$Tables" "swans" "[I") (List.mem_of_getElem? (i := 6) rfl)) (fun _ h9 => h9) rfl dX3_init_39 ?_
  refine lv_iload_n hx hb dX3_init_42 rfl (lv_at hl 0 rfl) ?_
  refine lv_iconst (v := (-1)) hx hb dX3_init_43 (by decide) ?_
  refine va_iast hx hb hKK.1 hP hD hS 2 0 rfl rfl (hin := (vp_in_nI (n := 2) (by decide) (by decide))) dX3_init_44 (fun H locs hP hD hS => ?_)
  have hP : va_P D vwCl [(aT, .inr (3, [.ref q1, .ref q2, .int 2, .int 3])), (q1, .inl (cyI, 8, .inl (fun _ => 0))), (q2, .inl (cyI, 12, .inl (upd (nsw 2) 2 (-1))))] H := hP
  have hD : va_D A [(aT, .inr (3, [.ref q1, .ref q2, .int 2, .int 3])), (q1, .inl (cyI, 8, .inl (fun _ => 0))), (q2, .inl (cyI, 12, .inl (upd (nsw 2) 2 (-1))))] := hD
  rw [show upd (nsw 2) 2 (-1) = nsw 3 from nsw_s 2] at hP hD
  have hP : va_P D vwCl [(aT, .inr (3, [.ref q1, .ref q2, .int 2, .int 3])), (q1, .inl (cyI, 8, .inl (fun _ => 0))), (q2, .inl (cyI, 12, .inl (nsw 3)))] H := hP
  have hD : va_D A [(aT, .inr (3, [.ref q1, .ref q2, .int 2, .int 3])), (q1, .inl (cyI, 8, .inl (fun _ => 0))), (q2, .inl (cyI, 12, .inl (nsw 3)))] := hD
  refine lv_iinc (v := 3) (lv' := [(1, .int 3), (0, .ref aT)]) hx hb dX3_init_45 hl (k := 0) rfl (by decide) (by decide) rfl (fun ls hl => ?_)
  refine lv_goto (tgt := 32) hx hb dX3_init_48 (by decide) ?_
  refine lv_iload_n hx hb dX3_init_32 rfl (lv_at hl 0 rfl) ?_
  refine lv_bipush (v := 12) hx hb dX3_init_33 (by decide) ?_
  refine lv_icmp_ge (tgt := 51) hx hb dX3_init_35 (by decide) (fun h_9 => ?_) (fun h_9 => ?_)
  exact absurd h_9 (by decide)
  refine lv_aload_n hx hb dX3_init_38 rfl (lv_at hl 1 rfl) ?_
  refine va_get (D := D) (ci := 3) (v := .ref q2) (C := RX3) (T := TX3) (N := 4) hx hb hts (fun _ h => List.mem_cons_of_mem _ (List.mem_append_right _ h)) hown hKK.1 hP 0 rfl rfl 1 (by decide) (hts (.fieldLink RX3 15 "TrolleyGang$Tables" "swans" "[I") (List.mem_of_getElem? (i := 6) rfl)) (fun _ h9 => h9) rfl dX3_init_39 ?_
  refine lv_iload_n hx hb dX3_init_42 rfl (lv_at hl 0 rfl) ?_
  refine lv_iconst (v := (-1)) hx hb dX3_init_43 (by decide) ?_
  refine va_iast hx hb hKK.1 hP hD hS 2 0 rfl rfl (hin := (vp_in_nI (n := 3) (by decide) (by decide))) dX3_init_44 (fun H locs hP hD hS => ?_)
  have hP : va_P D vwCl [(aT, .inr (3, [.ref q1, .ref q2, .int 2, .int 3])), (q1, .inl (cyI, 8, .inl (fun _ => 0))), (q2, .inl (cyI, 12, .inl (upd (nsw 3) 3 (-1))))] H := hP
  have hD : va_D A [(aT, .inr (3, [.ref q1, .ref q2, .int 2, .int 3])), (q1, .inl (cyI, 8, .inl (fun _ => 0))), (q2, .inl (cyI, 12, .inl (upd (nsw 3) 3 (-1))))] := hD
  rw [show upd (nsw 3) 3 (-1) = nsw 4 from nsw_s 3] at hP hD
  have hP : va_P D vwCl [(aT, .inr (3, [.ref q1, .ref q2, .int 2, .int 3])), (q1, .inl (cyI, 8, .inl (fun _ => 0))), (q2, .inl (cyI, 12, .inl (nsw 4)))] H := hP
  have hD : va_D A [(aT, .inr (3, [.ref q1, .ref q2, .int 2, .int 3])), (q1, .inl (cyI, 8, .inl (fun _ => 0))), (q2, .inl (cyI, 12, .inl (nsw 4)))] := hD
  refine lv_iinc (v := 4) (lv' := [(1, .int 4), (0, .ref aT)]) hx hb dX3_init_45 hl (k := 0) rfl (by decide) (by decide) rfl (fun ls hl => ?_)
  refine lv_goto (tgt := 32) hx hb dX3_init_48 (by decide) ?_
  refine lv_iload_n hx hb dX3_init_32 rfl (lv_at hl 0 rfl) ?_
  refine lv_bipush (v := 12) hx hb dX3_init_33 (by decide) ?_
  refine lv_icmp_ge (tgt := 51) hx hb dX3_init_35 (by decide) (fun h_9 => ?_) (fun h_9 => ?_)
  exact absurd h_9 (by decide)
  refine lv_aload_n hx hb dX3_init_38 rfl (lv_at hl 1 rfl) ?_
  refine va_get (D := D) (ci := 3) (v := .ref q2) (C := RX3) (T := TX3) (N := 4) hx hb hts (fun _ h => List.mem_cons_of_mem _ (List.mem_append_right _ h)) hown hKK.1 hP 0 rfl rfl 1 (by decide) (hts (.fieldLink RX3 15 "TrolleyGang$Tables" "swans" "[I") (List.mem_of_getElem? (i := 6) rfl)) (fun _ h9 => h9) rfl dX3_init_39 ?_
  refine lv_iload_n hx hb dX3_init_42 rfl (lv_at hl 0 rfl) ?_
  refine lv_iconst (v := (-1)) hx hb dX3_init_43 (by decide) ?_
  refine va_iast hx hb hKK.1 hP hD hS 2 0 rfl rfl (hin := (vp_in_nI (n := 4) (by decide) (by decide))) dX3_init_44 (fun H locs hP hD hS => ?_)
  have hP : va_P D vwCl [(aT, .inr (3, [.ref q1, .ref q2, .int 2, .int 3])), (q1, .inl (cyI, 8, .inl (fun _ => 0))), (q2, .inl (cyI, 12, .inl (upd (nsw 4) 4 (-1))))] H := hP
  have hD : va_D A [(aT, .inr (3, [.ref q1, .ref q2, .int 2, .int 3])), (q1, .inl (cyI, 8, .inl (fun _ => 0))), (q2, .inl (cyI, 12, .inl (upd (nsw 4) 4 (-1))))] := hD
  rw [show upd (nsw 4) 4 (-1) = nsw 5 from nsw_s 4] at hP hD
  have hP : va_P D vwCl [(aT, .inr (3, [.ref q1, .ref q2, .int 2, .int 3])), (q1, .inl (cyI, 8, .inl (fun _ => 0))), (q2, .inl (cyI, 12, .inl (nsw 5)))] H := hP
  have hD : va_D A [(aT, .inr (3, [.ref q1, .ref q2, .int 2, .int 3])), (q1, .inl (cyI, 8, .inl (fun _ => 0))), (q2, .inl (cyI, 12, .inl (nsw 5)))] := hD
  refine lv_iinc (v := 5) (lv' := [(1, .int 5), (0, .ref aT)]) hx hb dX3_init_45 hl (k := 0) rfl (by decide) (by decide) rfl (fun ls hl => ?_)
  refine lv_goto (tgt := 32) hx hb dX3_init_48 (by decide) ?_
  refine lv_iload_n hx hb dX3_init_32 rfl (lv_at hl 0 rfl) ?_
  refine lv_bipush (v := 12) hx hb dX3_init_33 (by decide) ?_
  refine lv_icmp_ge (tgt := 51) hx hb dX3_init_35 (by decide) (fun h_9 => ?_) (fun h_9 => ?_)
  exact absurd h_9 (by decide)
  refine lv_aload_n hx hb dX3_init_38 rfl (lv_at hl 1 rfl) ?_
  refine va_get (D := D) (ci := 3) (v := .ref q2) (C := RX3) (T := TX3) (N := 4) hx hb hts (fun _ h => List.mem_cons_of_mem _ (List.mem_append_right _ h)) hown hKK.1 hP 0 rfl rfl 1 (by decide) (hts (.fieldLink RX3 15 "TrolleyGang$Tables" "swans" "[I") (List.mem_of_getElem? (i := 6) rfl)) (fun _ h9 => h9) rfl dX3_init_39 ?_
  refine lv_iload_n hx hb dX3_init_42 rfl (lv_at hl 0 rfl) ?_
  refine lv_iconst (v := (-1)) hx hb dX3_init_43 (by decide) ?_
  refine va_iast hx hb hKK.1 hP hD hS 2 0 rfl rfl (hin := (vp_in_nI (n := 5) (by decide) (by decide))) dX3_init_44 (fun H locs hP hD hS => ?_)
  have hP : va_P D vwCl [(aT, .inr (3, [.ref q1, .ref q2, .int 2, .int 3])), (q1, .inl (cyI, 8, .inl (fun _ => 0))), (q2, .inl (cyI, 12, .inl (upd (nsw 5) 5 (-1))))] H := hP
  have hD : va_D A [(aT, .inr (3, [.ref q1, .ref q2, .int 2, .int 3])), (q1, .inl (cyI, 8, .inl (fun _ => 0))), (q2, .inl (cyI, 12, .inl (upd (nsw 5) 5 (-1))))] := hD
  rw [show upd (nsw 5) 5 (-1) = nsw 6 from nsw_s 5] at hP hD
  have hP : va_P D vwCl [(aT, .inr (3, [.ref q1, .ref q2, .int 2, .int 3])), (q1, .inl (cyI, 8, .inl (fun _ => 0))), (q2, .inl (cyI, 12, .inl (nsw 6)))] H := hP
  have hD : va_D A [(aT, .inr (3, [.ref q1, .ref q2, .int 2, .int 3])), (q1, .inl (cyI, 8, .inl (fun _ => 0))), (q2, .inl (cyI, 12, .inl (nsw 6)))] := hD
  refine lv_iinc (v := 6) (lv' := [(1, .int 6), (0, .ref aT)]) hx hb dX3_init_45 hl (k := 0) rfl (by decide) (by decide) rfl (fun ls hl => ?_)
  refine lv_goto (tgt := 32) hx hb dX3_init_48 (by decide) ?_
  refine lv_iload_n hx hb dX3_init_32 rfl (lv_at hl 0 rfl) ?_
  refine lv_bipush (v := 12) hx hb dX3_init_33 (by decide) ?_
  refine lv_icmp_ge (tgt := 51) hx hb dX3_init_35 (by decide) (fun h_9 => ?_) (fun h_9 => ?_)
  exact absurd h_9 (by decide)
  refine lv_aload_n hx hb dX3_init_38 rfl (lv_at hl 1 rfl) ?_
  refine va_get (D := D) (ci := 3) (v := .ref q2) (C := RX3) (T := TX3) (N := 4) hx hb hts (fun _ h => List.mem_cons_of_mem _ (List.mem_append_right _ h)) hown hKK.1 hP 0 rfl rfl 1 (by decide) (hts (.fieldLink RX3 15 "TrolleyGang$Tables" "swans" "[I") (List.mem_of_getElem? (i := 6) rfl)) (fun _ h9 => h9) rfl dX3_init_39 ?_
  refine lv_iload_n hx hb dX3_init_42 rfl (lv_at hl 0 rfl) ?_
  refine lv_iconst (v := (-1)) hx hb dX3_init_43 (by decide) ?_
  refine va_iast hx hb hKK.1 hP hD hS 2 0 rfl rfl (hin := (vp_in_nI (n := 6) (by decide) (by decide))) dX3_init_44 (fun H locs hP hD hS => ?_)
  have hP : va_P D vwCl [(aT, .inr (3, [.ref q1, .ref q2, .int 2, .int 3])), (q1, .inl (cyI, 8, .inl (fun _ => 0))), (q2, .inl (cyI, 12, .inl (upd (nsw 6) 6 (-1))))] H := hP
  have hD : va_D A [(aT, .inr (3, [.ref q1, .ref q2, .int 2, .int 3])), (q1, .inl (cyI, 8, .inl (fun _ => 0))), (q2, .inl (cyI, 12, .inl (upd (nsw 6) 6 (-1))))] := hD
  rw [show upd (nsw 6) 6 (-1) = nsw 7 from nsw_s 6] at hP hD
  have hP : va_P D vwCl [(aT, .inr (3, [.ref q1, .ref q2, .int 2, .int 3])), (q1, .inl (cyI, 8, .inl (fun _ => 0))), (q2, .inl (cyI, 12, .inl (nsw 7)))] H := hP
  have hD : va_D A [(aT, .inr (3, [.ref q1, .ref q2, .int 2, .int 3])), (q1, .inl (cyI, 8, .inl (fun _ => 0))), (q2, .inl (cyI, 12, .inl (nsw 7)))] := hD
  refine lv_iinc (v := 7) (lv' := [(1, .int 7), (0, .ref aT)]) hx hb dX3_init_45 hl (k := 0) rfl (by decide) (by decide) rfl (fun ls hl => ?_)
  refine lv_goto (tgt := 32) hx hb dX3_init_48 (by decide) ?_
  refine lv_iload_n hx hb dX3_init_32 rfl (lv_at hl 0 rfl) ?_
  refine lv_bipush (v := 12) hx hb dX3_init_33 (by decide) ?_
  refine lv_icmp_ge (tgt := 51) hx hb dX3_init_35 (by decide) (fun h_9 => ?_) (fun h_9 => ?_)
  exact absurd h_9 (by decide)
  refine lv_aload_n hx hb dX3_init_38 rfl (lv_at hl 1 rfl) ?_
  refine va_get (D := D) (ci := 3) (v := .ref q2) (C := RX3) (T := TX3) (N := 4) hx hb hts (fun _ h => List.mem_cons_of_mem _ (List.mem_append_right _ h)) hown hKK.1 hP 0 rfl rfl 1 (by decide) (hts (.fieldLink RX3 15 "TrolleyGang$Tables" "swans" "[I") (List.mem_of_getElem? (i := 6) rfl)) (fun _ h9 => h9) rfl dX3_init_39 ?_
  refine lv_iload_n hx hb dX3_init_42 rfl (lv_at hl 0 rfl) ?_
  refine lv_iconst (v := (-1)) hx hb dX3_init_43 (by decide) ?_
  refine va_iast hx hb hKK.1 hP hD hS 2 0 rfl rfl (hin := (vp_in_nI (n := 7) (by decide) (by decide))) dX3_init_44 (fun H locs hP hD hS => ?_)
  have hP : va_P D vwCl [(aT, .inr (3, [.ref q1, .ref q2, .int 2, .int 3])), (q1, .inl (cyI, 8, .inl (fun _ => 0))), (q2, .inl (cyI, 12, .inl (upd (nsw 7) 7 (-1))))] H := hP
  have hD : va_D A [(aT, .inr (3, [.ref q1, .ref q2, .int 2, .int 3])), (q1, .inl (cyI, 8, .inl (fun _ => 0))), (q2, .inl (cyI, 12, .inl (upd (nsw 7) 7 (-1))))] := hD
  rw [show upd (nsw 7) 7 (-1) = nsw 8 from nsw_s 7] at hP hD
  have hP : va_P D vwCl [(aT, .inr (3, [.ref q1, .ref q2, .int 2, .int 3])), (q1, .inl (cyI, 8, .inl (fun _ => 0))), (q2, .inl (cyI, 12, .inl (nsw 8)))] H := hP
  have hD : va_D A [(aT, .inr (3, [.ref q1, .ref q2, .int 2, .int 3])), (q1, .inl (cyI, 8, .inl (fun _ => 0))), (q2, .inl (cyI, 12, .inl (nsw 8)))] := hD
  refine lv_iinc (v := 8) (lv' := [(1, .int 8), (0, .ref aT)]) hx hb dX3_init_45 hl (k := 0) rfl (by decide) (by decide) rfl (fun ls hl => ?_)
  refine lv_goto (tgt := 32) hx hb dX3_init_48 (by decide) ?_
  refine lv_iload_n hx hb dX3_init_32 rfl (lv_at hl 0 rfl) ?_
  refine lv_bipush (v := 12) hx hb dX3_init_33 (by decide) ?_
  refine lv_icmp_ge (tgt := 51) hx hb dX3_init_35 (by decide) (fun h_9 => ?_) (fun h_9 => ?_)
  exact absurd h_9 (by decide)
  refine lv_aload_n hx hb dX3_init_38 rfl (lv_at hl 1 rfl) ?_
  refine va_get (D := D) (ci := 3) (v := .ref q2) (C := RX3) (T := TX3) (N := 4) hx hb hts (fun _ h => List.mem_cons_of_mem _ (List.mem_append_right _ h)) hown hKK.1 hP 0 rfl rfl 1 (by decide) (hts (.fieldLink RX3 15 "TrolleyGang$Tables" "swans" "[I") (List.mem_of_getElem? (i := 6) rfl)) (fun _ h9 => h9) rfl dX3_init_39 ?_
  refine lv_iload_n hx hb dX3_init_42 rfl (lv_at hl 0 rfl) ?_
  refine lv_iconst (v := (-1)) hx hb dX3_init_43 (by decide) ?_
  refine va_iast hx hb hKK.1 hP hD hS 2 0 rfl rfl (hin := (vp_in_nI (n := 8) (by decide) (by decide))) dX3_init_44 (fun H locs hP hD hS => ?_)
  have hP : va_P D vwCl [(aT, .inr (3, [.ref q1, .ref q2, .int 2, .int 3])), (q1, .inl (cyI, 8, .inl (fun _ => 0))), (q2, .inl (cyI, 12, .inl (upd (nsw 8) 8 (-1))))] H := hP
  have hD : va_D A [(aT, .inr (3, [.ref q1, .ref q2, .int 2, .int 3])), (q1, .inl (cyI, 8, .inl (fun _ => 0))), (q2, .inl (cyI, 12, .inl (upd (nsw 8) 8 (-1))))] := hD
  rw [show upd (nsw 8) 8 (-1) = nsw 9 from nsw_s 8] at hP hD
  have hP : va_P D vwCl [(aT, .inr (3, [.ref q1, .ref q2, .int 2, .int 3])), (q1, .inl (cyI, 8, .inl (fun _ => 0))), (q2, .inl (cyI, 12, .inl (nsw 9)))] H := hP
  have hD : va_D A [(aT, .inr (3, [.ref q1, .ref q2, .int 2, .int 3])), (q1, .inl (cyI, 8, .inl (fun _ => 0))), (q2, .inl (cyI, 12, .inl (nsw 9)))] := hD
  refine lv_iinc (v := 9) (lv' := [(1, .int 9), (0, .ref aT)]) hx hb dX3_init_45 hl (k := 0) rfl (by decide) (by decide) rfl (fun ls hl => ?_)
  refine lv_goto (tgt := 32) hx hb dX3_init_48 (by decide) ?_
  refine lv_iload_n hx hb dX3_init_32 rfl (lv_at hl 0 rfl) ?_
  refine lv_bipush (v := 12) hx hb dX3_init_33 (by decide) ?_
  refine lv_icmp_ge (tgt := 51) hx hb dX3_init_35 (by decide) (fun h_9 => ?_) (fun h_9 => ?_)
  exact absurd h_9 (by decide)
  refine lv_aload_n hx hb dX3_init_38 rfl (lv_at hl 1 rfl) ?_
  refine va_get (D := D) (ci := 3) (v := .ref q2) (C := RX3) (T := TX3) (N := 4) hx hb hts (fun _ h => List.mem_cons_of_mem _ (List.mem_append_right _ h)) hown hKK.1 hP 0 rfl rfl 1 (by decide) (hts (.fieldLink RX3 15 "TrolleyGang$Tables" "swans" "[I") (List.mem_of_getElem? (i := 6) rfl)) (fun _ h9 => h9) rfl dX3_init_39 ?_
  refine lv_iload_n hx hb dX3_init_42 rfl (lv_at hl 0 rfl) ?_
  refine lv_iconst (v := (-1)) hx hb dX3_init_43 (by decide) ?_
  refine va_iast hx hb hKK.1 hP hD hS 2 0 rfl rfl (hin := (vp_in_nI (n := 9) (by decide) (by decide))) dX3_init_44 (fun H locs hP hD hS => ?_)
  have hP : va_P D vwCl [(aT, .inr (3, [.ref q1, .ref q2, .int 2, .int 3])), (q1, .inl (cyI, 8, .inl (fun _ => 0))), (q2, .inl (cyI, 12, .inl (upd (nsw 9) 9 (-1))))] H := hP
  have hD : va_D A [(aT, .inr (3, [.ref q1, .ref q2, .int 2, .int 3])), (q1, .inl (cyI, 8, .inl (fun _ => 0))), (q2, .inl (cyI, 12, .inl (upd (nsw 9) 9 (-1))))] := hD
  rw [show upd (nsw 9) 9 (-1) = nsw 10 from nsw_s 9] at hP hD
  have hP : va_P D vwCl [(aT, .inr (3, [.ref q1, .ref q2, .int 2, .int 3])), (q1, .inl (cyI, 8, .inl (fun _ => 0))), (q2, .inl (cyI, 12, .inl (nsw 10)))] H := hP
  have hD : va_D A [(aT, .inr (3, [.ref q1, .ref q2, .int 2, .int 3])), (q1, .inl (cyI, 8, .inl (fun _ => 0))), (q2, .inl (cyI, 12, .inl (nsw 10)))] := hD
  refine lv_iinc (v := 10) (lv' := [(1, .int 10), (0, .ref aT)]) hx hb dX3_init_45 hl (k := 0) rfl (by decide) (by decide) rfl (fun ls hl => ?_)
  refine lv_goto (tgt := 32) hx hb dX3_init_48 (by decide) ?_
  refine lv_iload_n hx hb dX3_init_32 rfl (lv_at hl 0 rfl) ?_
  refine lv_bipush (v := 12) hx hb dX3_init_33 (by decide) ?_
  refine lv_icmp_ge (tgt := 51) hx hb dX3_init_35 (by decide) (fun h_9 => ?_) (fun h_9 => ?_)
  exact absurd h_9 (by decide)
  refine lv_aload_n hx hb dX3_init_38 rfl (lv_at hl 1 rfl) ?_
  refine va_get (D := D) (ci := 3) (v := .ref q2) (C := RX3) (T := TX3) (N := 4) hx hb hts (fun _ h => List.mem_cons_of_mem _ (List.mem_append_right _ h)) hown hKK.1 hP 0 rfl rfl 1 (by decide) (hts (.fieldLink RX3 15 "TrolleyGang$Tables" "swans" "[I") (List.mem_of_getElem? (i := 6) rfl)) (fun _ h9 => h9) rfl dX3_init_39 ?_
  refine lv_iload_n hx hb dX3_init_42 rfl (lv_at hl 0 rfl) ?_
  refine lv_iconst (v := (-1)) hx hb dX3_init_43 (by decide) ?_
  refine va_iast hx hb hKK.1 hP hD hS 2 0 rfl rfl (hin := (vp_in_nI (n := 10) (by decide) (by decide))) dX3_init_44 (fun H locs hP hD hS => ?_)
  have hP : va_P D vwCl [(aT, .inr (3, [.ref q1, .ref q2, .int 2, .int 3])), (q1, .inl (cyI, 8, .inl (fun _ => 0))), (q2, .inl (cyI, 12, .inl (upd (nsw 10) 10 (-1))))] H := hP
  have hD : va_D A [(aT, .inr (3, [.ref q1, .ref q2, .int 2, .int 3])), (q1, .inl (cyI, 8, .inl (fun _ => 0))), (q2, .inl (cyI, 12, .inl (upd (nsw 10) 10 (-1))))] := hD
  rw [show upd (nsw 10) 10 (-1) = nsw 11 from nsw_s 10] at hP hD
  have hP : va_P D vwCl [(aT, .inr (3, [.ref q1, .ref q2, .int 2, .int 3])), (q1, .inl (cyI, 8, .inl (fun _ => 0))), (q2, .inl (cyI, 12, .inl (nsw 11)))] H := hP
  have hD : va_D A [(aT, .inr (3, [.ref q1, .ref q2, .int 2, .int 3])), (q1, .inl (cyI, 8, .inl (fun _ => 0))), (q2, .inl (cyI, 12, .inl (nsw 11)))] := hD
  refine lv_iinc (v := 11) (lv' := [(1, .int 11), (0, .ref aT)]) hx hb dX3_init_45 hl (k := 0) rfl (by decide) (by decide) rfl (fun ls hl => ?_)
  refine lv_goto (tgt := 32) hx hb dX3_init_48 (by decide) ?_
  refine lv_iload_n hx hb dX3_init_32 rfl (lv_at hl 0 rfl) ?_
  refine lv_bipush (v := 12) hx hb dX3_init_33 (by decide) ?_
  refine lv_icmp_ge (tgt := 51) hx hb dX3_init_35 (by decide) (fun h_9 => ?_) (fun h_9 => ?_)
  exact absurd h_9 (by decide)
  refine lv_aload_n hx hb dX3_init_38 rfl (lv_at hl 1 rfl) ?_
  refine va_get (D := D) (ci := 3) (v := .ref q2) (C := RX3) (T := TX3) (N := 4) hx hb hts (fun _ h => List.mem_cons_of_mem _ (List.mem_append_right _ h)) hown hKK.1 hP 0 rfl rfl 1 (by decide) (hts (.fieldLink RX3 15 "TrolleyGang$Tables" "swans" "[I") (List.mem_of_getElem? (i := 6) rfl)) (fun _ h9 => h9) rfl dX3_init_39 ?_
  refine lv_iload_n hx hb dX3_init_42 rfl (lv_at hl 0 rfl) ?_
  refine lv_iconst (v := (-1)) hx hb dX3_init_43 (by decide) ?_
  refine va_iast hx hb hKK.1 hP hD hS 2 0 rfl rfl (hin := (vp_in_nI (n := 11) (by decide) (by decide))) dX3_init_44 (fun H locs hP hD hS => ?_)
  have hP : va_P D vwCl [(aT, .inr (3, [.ref q1, .ref q2, .int 2, .int 3])), (q1, .inl (cyI, 8, .inl (fun _ => 0))), (q2, .inl (cyI, 12, .inl (upd (nsw 11) 11 (-1))))] H := hP
  have hD : va_D A [(aT, .inr (3, [.ref q1, .ref q2, .int 2, .int 3])), (q1, .inl (cyI, 8, .inl (fun _ => 0))), (q2, .inl (cyI, 12, .inl (upd (nsw 11) 11 (-1))))] := hD
  rw [show upd (nsw 11) 11 (-1) = nsw 12 from nsw_s 11] at hP hD
  have hP : va_P D vwCl [(aT, .inr (3, [.ref q1, .ref q2, .int 2, .int 3])), (q1, .inl (cyI, 8, .inl (fun _ => 0))), (q2, .inl (cyI, 12, .inl (nsw 12)))] H := hP
  have hD : va_D A [(aT, .inr (3, [.ref q1, .ref q2, .int 2, .int 3])), (q1, .inl (cyI, 8, .inl (fun _ => 0))), (q2, .inl (cyI, 12, .inl (nsw 12)))] := hD
  refine lv_iinc (v := 12) (lv' := [(1, .int 12), (0, .ref aT)]) hx hb dX3_init_45 hl (k := 0) rfl (by decide) (by decide) rfl (fun ls hl => ?_)
  refine lv_goto (tgt := 32) hx hb dX3_init_48 (by decide) ?_
  refine lv_iload_n hx hb dX3_init_32 rfl (lv_at hl 0 rfl) ?_
  refine lv_bipush (v := 12) hx hb dX3_init_33 (by decide) ?_
  refine lv_icmp_ge (tgt := 51) hx hb dX3_init_35 (by decide) (fun h_9 => ?_) (fun h_9 => ?_)
  rotate_left
  exact absurd (by decide) h_9
  exact end_A (σ := Nat × Nat) (W2 := fun u => cT cyI aT u.1 u.2 (fun _ => 0) (nsw 12) 2 3) (q1, q2) hx hb hrt hlocks hP hD hS dX3_init_51
