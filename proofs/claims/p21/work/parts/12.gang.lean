set_option maxHeartbeats 4000000 in
set_option maxRecDepth 100000 in
theorem c_X1_placeOf (l : Launch) (D : va_G) (cyI cyO cyL : ClassId) (aG : Nat) (ao : Nat) (od : Nat → Int32) (g : Nat → Int32) (x_ : Int32) (n : Nat) (hn : n ≤ 6) (hoc : g 0 = nI n) : cI l yX1_placeOf wsX1_placeOf ({ frames := 0, cells := 0, slots := 0, locals := 0 }) D cyI cyO cyL [.ref aG, .int x_] (cG cyI aG ao od g) (cG cyI aG ao od g) (pofL od x_ n 0) := by
  intro sz
  refine Met.ofW (cc := cX1_placeOf) (maxL := 3) (ret := (some .int)) (by decide) rfl ?_
  intro p e s m args below meth c s₁ B9 hml hv
  obtain ⟨rfl, hsz, hP, hKK, hD0⟩ := hv
  have hx := B9.exec
  have hb := B9.bytes
  have hrt := B9.returns
  have hts := atoms_spec (ws := wsX1_placeOf) B9.pre
  have hown : s.vm.findClass RX1 = some m.cls := findClass_of_methodNamed B9.named
  have hlocks := B9.notSynchronized
  have nw := fun {w : Cond} (h : w ∈ nw_all) => NW.use (args := ([.ref aG, .int x_] : List Value).toArray) hKK.2 h
  have iX1 : ∀ w ∈ wsX10, w ∈ wsX1_placeOf := fun _ h => List.mem_cons_of_mem _ (List.mem_append_right _ h)
  subst hsz
  have hD := hD0.self (sz := s.heap.size)
  generalize hAe : va_A (cG cyI aG ao od g) s.heap.size = A at hD ⊢
  have hA : ∀ q : Nat, s.heap.size ≤ q → A q := fun q h => by rw [← hAe]; exact Or.inr h
  have hS : va_S A s.heap s.heap [] := va_S.rf
  have hl := lv_entry ([.ref aG, .int x_]) (n := 3) (Nat.le_of_ble_eq_true rfl)
  rw [lg_entry_eq]
  generalize (lg_sl ([.ref aG, .int x_]) ++ List.replicate (3 - (lg_sl ([.ref aG, .int x_])).length) Slot.unset).toArray = ls at hl ⊢
  have hl : lv_has ls 3 [(0, .ref aG), (1, .int x_)] := hl
  refine lv_iconst (v := 0) hx hb dX1_placeOf_0 (by decide) ?_
  refine lv_istore_n (lv' := [(2, .int 0), (0, .ref aG), (1, .int x_)]) hx hb dX1_placeOf_1 rfl hl (by decide) rfl (fun ls hl => ?_)
  refine wloop (σ := (Nat)) (fun d9 x9 H9 L9 s9 => (x9 + d9 = n) ∧ (pofL od x_ n 0 = pofL od x_ d9 x9) ∧ (va_P D vwCl (cG cyI aG ao od g) H9) ∧ (va_D A (cG cyI aG ao od g)) ∧ (va_S A s.heap H9 L9) ∧ (lv_has s9 3 [(2, .int (nI x9)), (0, .ref aG), (1, .int x_)])) (fun d9 x9 H locs ls g9 ih => ?_) n 0 _ _ _ ⟨(by omega), rfl, hP, hD, hS, lv_sub hl [0, 1, 2] rfl⟩
  obtain ⟨i, rfl⟩ : ∃ z, z = x9 := ⟨_, rfl⟩
  obtain ⟨hid, hsp, hP, hD, hS, hl⟩ := g9
  obtain ⟨d, rfl⟩ : ∃ z, z = d9 := ⟨_, rfl⟩
  have hid : i + d = n := hid
  have hsp : pofL od x_ n 0 = pofL od x_ d i := hsp
  have hP : va_P D vwCl (cG cyI aG ao od g) H := hP
  have hD : va_D A (cG cyI aG ao od g) := hD
  have hl : lv_has ls 3 [(2, .int (nI i)), (0, .ref aG), (1, .int x_)] := hl
  refine lv_iload_n hx hb dX1_placeOf_2 rfl (lv_at hl 0 rfl) ?_
  refine lv_aload_n hx hb dX1_placeOf_3 rfl (lv_at hl 1 rfl) ?_
  refine va_get (D := D) (ci := 1) (v := .int (g 0)) (C := RX1) (T := TX1) (N := 6) hx hb hts iX1 hown hKK.1 hP 0 rfl rfl 1 (by decide) (hts (.fieldLink RX1 21 "TrolleyGang$Gang" "orderCount" "I") (List.mem_of_getElem? (i := 1) rfl)) (fun _ h9 => h9) rfl dX1_placeOf_4 ?_
  refine lv_tope (y := nI n) hoc ?_
  refine lv_icmp_ge (tgt := 28) hx hb dX1_placeOf_7 (by decide) (fun h_1 => ?_) (fun h_1 => ?_)
  · skip
    obtain rfl : d = 0 := by have h9 := (nI_leI (a := n) (b := i) (by omega) (by omega)).mp h_1; omega
    have hiN : i = n := by omega
    refine lv_iconst (v := (-1)) hx hb dX1_placeOf_28 (by decide) ?_
    have e9 : pofL od x_ n 0 = (-1) := (hsp.trans (by first | with_reducible rfl | (simp only [pofL, h_1, if_true, if_false, reduceIte, not_true_eq_false, not_false_eq_true]; done) | (simp [pofL, h_1]; done)))
    exact end_i hx hb hrt hlocks (by rw [e9]) hP hS dX1_placeOf_29
  · skip
    have hlt : i < n := by have h9 := mt (nI_leI (a := n) (b := i) (by omega) (by omega)).mpr h_1; omega
    obtain ⟨d, rfl⟩ : ∃ k, d = k + 1 := ⟨d - 1, by omega⟩
    refine lv_aload_n hx hb dX1_placeOf_10 rfl (lv_at hl 1 rfl) ?_
    refine va_get (D := D) (ci := 1) (v := .ref ao) (C := RX1) (T := TX1) (N := 6) hx hb hts iX1 hown hKK.1 hP 0 rfl rfl 0 (by decide) (hts (.fieldLink RX1 9 "TrolleyGang$Gang" "orders" "[I") (List.mem_of_getElem? (i := 2) rfl)) (fun _ h9 => h9) rfl dX1_placeOf_11 ?_
    refine lv_iload_n hx hb dX1_placeOf_14 rfl (lv_at hl 0 rfl) ?_
    refine va_iald hx hb hKK.1 hP 1 0 rfl rfl (hin := (vp_in_nI (show i < 6 by omega) (by omega))) dX1_placeOf_15 ?_
    refine lv_tope (y := od i) (by rw [nI_clamp (by omega)]) ?_
    refine lv_iload_n hx hb dX1_placeOf_16 rfl (lv_at hl 2 rfl) ?_
    refine lv_icmp_ne (tgt := 22) hx hb dX1_placeOf_17 (by decide) (fun h_2 => ?_) (fun h_2 => ?_)
    · skip
      refine lv_iinc (v := nI (i + 1)) (lv' := [(2, .int (nI (i + 1))), (0, .ref aG), (1, .int x_)]) hx hb dX1_placeOf_22 hl (k := 0) rfl (nI_1 i) (by decide) rfl (fun ls hl => ?_)
      refine lv_goto (tgt := 2) hx hb dX1_placeOf_25 (by decide) ?_
      exact ih d (i + 1) _ _ _ (by omega) ⟨(by omega), (hsp.trans (by first | with_reducible rfl | (simp only [pofL, h_1, h_2, if_true, if_false, reduceIte, not_true_eq_false, not_false_eq_true]; done) | (simp [pofL, h_1, h_2]; done))), hP, hD, hS, lv_sub hl [0, 1, 2] rfl⟩
    · skip
      refine lv_iload_n hx hb dX1_placeOf_20 rfl (lv_at hl 0 rfl) ?_
      have e9 : pofL od x_ n 0 = nI i := (hsp.trans (by first | with_reducible rfl | (simp only [pofL, h_1, h_2, if_true, if_false, reduceIte, not_true_eq_false, not_false_eq_true]; done) | (simp [pofL, h_1, h_2]; done)))
      exact end_i hx hb hrt hlocks (by rw [e9]) hP hS dX1_placeOf_21
set_option maxHeartbeats 4000000 in
set_option maxRecDepth 100000 in
theorem c_X1_takeOut (l : Launch) (D : va_G) (cyI cyO cyL : ClassId) (aG : Nat) (ao : Nat) (od : Nat → Int32) (g : Nat → Int32) (p_ : Nat) (n : Nat) (hn : n ≤ 6) (hoc : g 0 = nI n) (hp : p_ < n) : cV l yX1_takeOut wsX1_takeOut ({ frames := 0, cells := 0, slots := 0, locals := 0 }) D cyI cyO cyL [.ref aG, .int (nI p_)] (cG cyI aG ao od g) (cG cyI aG ao ((takeS od g p_ n).1) ((takeS od g p_ n).2)) := by
  intro sz
  refine Met.ofW (cc := cX1_takeOut) (maxL := 3) (ret := none) (by decide) rfl ?_
  intro p e s m args below meth c s₁ B9 hml hv
  obtain ⟨rfl, hsz, hP, hKK, hD0⟩ := hv
  have hx := B9.exec
  have hb := B9.bytes
  have hrt := B9.returns
  have hts := atoms_spec (ws := wsX1_takeOut) B9.pre
  have hown : s.vm.findClass RX1 = some m.cls := findClass_of_methodNamed B9.named
  have hlocks := B9.notSynchronized
  have nw := fun {w : Cond} (h : w ∈ nw_all) => NW.use (args := ([.ref aG, .int (nI p_)] : List Value).toArray) hKK.2 h
  have iX1 : ∀ w ∈ wsX10, w ∈ wsX1_takeOut := fun _ h => List.mem_cons_of_mem _ (List.mem_append_right _ h)
  subst hsz
  have hD := hD0.self (sz := s.heap.size)
  generalize hAe : va_A (cG cyI aG ao od g) s.heap.size = A at hD ⊢
  have hA : ∀ q : Nat, s.heap.size ≤ q → A q := fun q h => by rw [← hAe]; exact Or.inr h
  have hS : va_S A s.heap s.heap [] := va_S.rf
  have hl := lv_entry ([.ref aG, .int (nI p_)]) (n := 3) (Nat.le_of_ble_eq_true rfl)
  rw [lg_entry_eq]
  generalize (lg_sl ([.ref aG, .int (nI p_)]) ++ List.replicate (3 - (lg_sl ([.ref aG, .int (nI p_)])).length) Slot.unset).toArray = ls at hl ⊢
  have hl : lv_has ls 3 [(0, .ref aG), (1, .int (nI p_))] := hl
  refine lv_iload_n hx hb dX1_takeOut_0 rfl (lv_at hl 1 rfl) ?_
  refine lv_iconst (v := 1) hx hb dX1_takeOut_1 (by decide) ?_
  refine lv_iadd hx hb dX1_takeOut_2 ?_
  refine lv_tope (y := nI (p_ + 1)) (nI_1 p_) ?_
  refine lv_istore_n (lv' := [(2, .int (nI (p_ + 1))), (0, .ref aG), (1, .int (nI p_))]) hx hb dX1_takeOut_3 rfl hl (by decide) rfl (fun ls hl => ?_)
  refine wloop (σ := (Nat) × (Nat → Int32)) (fun d9 x9 H9 L9 s9 => ((x9.1) + d9 = n) ∧ (tkL (n - (p_ + 1)) (p_ + 1) od = tkL d9 (x9.1) (x9.2)) ∧ (p_ < (x9.1)) ∧ (va_P D vwCl (cG cyI aG ao (x9.2) g) H9) ∧ (va_D A (cG cyI aG ao (x9.2) g)) ∧ (va_S A s.heap H9 L9) ∧ (lv_has s9 3 [(2, .int (nI (x9.1))), (0, .ref aG), (1, .int (nI p_))])) (fun d9 x9 H locs ls g9 ih => ?_) (n - (p_ + 1)) ((p_ + 1), od) _ _ _ ⟨(by omega), rfl, (by omega), hP, hD, hS, lv_sub hl [0, 1, 2] rfl⟩
  obtain ⟨i, od1⟩ := x9
  obtain ⟨hid, hsp, hip, hP, hD, hS, hl⟩ := g9
  obtain ⟨d, rfl⟩ : ∃ z, z = d9 := ⟨_, rfl⟩
  have hid : i + d = n := hid
  have hsp : tkL (n - (p_ + 1)) (p_ + 1) od = tkL d i od1 := hsp
  have hip : p_ < i := hip
  have hP : va_P D vwCl (cG cyI aG ao od1 g) H := hP
  have hD : va_D A (cG cyI aG ao od1 g) := hD
  have hl : lv_has ls 3 [(2, .int (nI i)), (0, .ref aG), (1, .int (nI p_))] := hl
  refine lv_iload_n hx hb dX1_takeOut_4 rfl (lv_at hl 0 rfl) ?_
  refine lv_aload_n hx hb dX1_takeOut_5 rfl (lv_at hl 1 rfl) ?_
  refine va_get (D := D) (ci := 1) (v := .int (g 0)) (C := RX1) (T := TX1) (N := 6) hx hb hts iX1 hown hKK.1 hP 0 rfl rfl 1 (by decide) (hts (.fieldLink RX1 21 "TrolleyGang$Gang" "orderCount" "I") (List.mem_of_getElem? (i := 1) rfl)) (fun _ h9 => h9) rfl dX1_takeOut_6 ?_
  refine lv_tope (y := nI n) hoc ?_
  refine lv_icmp_ge (tgt := 32) hx hb dX1_takeOut_9 (by decide) (fun h_1 => ?_) (fun h_1 => ?_)
  · skip
    obtain rfl : d = 0 := by have h9 := (nI_leI (a := n) (b := i) (by omega) (by omega)).mp h_1; omega
    have hiN : i = n := by omega
    refine lv_aload_n hx hb dX1_takeOut_32 rfl (lv_at hl 1 rfl) ?_
    refine lv_dup hx hb dX1_takeOut_33 rfl ?_
    refine va_get (D := D) (ci := 1) (v := .int (g 0)) (C := RX1) (T := TX1) (N := 6) hx hb hts iX1 hown hKK.1 hP 0 rfl rfl 1 (by decide) (hts (.fieldLink RX1 21 "TrolleyGang$Gang" "orderCount" "I") (List.mem_of_getElem? (i := 1) rfl)) (fun _ h9 => h9) rfl dX1_takeOut_34 ?_
    refine lv_tope (y := g 0) rfl ?_
    refine lv_iconst (v := 1) hx hb dX1_takeOut_37 (by decide) ?_
    refine lv_isub hx hb dX1_takeOut_38 ?_
    refine va_put (D := D) (ci := 1) (v := .int ((g 0) - 1)) (ty := .int) (C := RX1) (T := TX1) (N := 6) hx hb hts iX1 tyX1 tyX1_ok nmX1 hown hKK.1 hP hD hS 0 rfl rfl 1 (by decide) (hts (.fieldLink RX1 21 "TrolleyGang$Gang" "orderCount" "I") (List.mem_of_getElem? (i := 1) rfl)) (fun _ h9 => h9) rfl (by decide +kernel) rfl rfl (Nat.le_of_ble_eq_true rfl) dX1_takeOut_39 (fun H locs hP hD hS => ?_)
    have hP : va_P D vwCl (cG cyI aG ao od1 (upd g 0 ((g 0) - 1))) H := hP
    have hD : va_D A (cG cyI aG ao od1 (upd g 0 ((g 0) - 1))) := hD
    refine lv_iload_n hx hb dX1_takeOut_42 rfl (lv_at hl 2 rfl) ?_
    refine lv_if_ne (tgt := 51) hx hb dX1_takeOut_43 (by decide) (fun h_2 => ?_) (fun h_2 => ?_)
    · skip
      have e9 : takeS od g p_ n = (od1, (upd g 0 ((g 0) - 1))) := (by rw [takeS, hsp]; exact (by first | with_reducible rfl | (simp only [takeS, tkL, h_1, h_2, if_true, if_false, reduceIte, not_true_eq_false, not_false_eq_true]; done) | (simp [takeS, tkL, h_1, h_2]; done)))
      exact end_v hx hb hrt hlocks (by rw [e9]; exact hP) hS dX1_takeOut_51
    · skip
      refine lv_aload_n hx hb dX1_takeOut_46 rfl (lv_at hl 1 rfl) ?_
      refine lv_iconst (v := 0) hx hb dX1_takeOut_47 (by decide) ?_
      refine va_put (D := D) (ci := 1) (v := .int 0) (ty := .int) (C := RX1) (T := TX1) (N := 6) hx hb hts iX1 tyX1 tyX1_ok nmX1 hown hKK.1 hP hD hS 0 rfl rfl 3 (by decide) (hts (.fieldLink RX1 28 "TrolleyGang$Gang" "worksAtFirst" "I") (List.mem_of_getElem? (i := 3) rfl)) (fun _ h9 => h9) rfl (by decide +kernel) rfl rfl (Nat.le_of_ble_eq_true rfl) dX1_takeOut_48 (fun H locs hP hD hS => ?_)
      have hP : va_P D vwCl (cG cyI aG ao od1 (upd (upd g 0 ((g 0) - 1)) 2 0)) H := hP
      have hD : va_D A (cG cyI aG ao od1 (upd (upd g 0 ((g 0) - 1)) 2 0)) := hD
      have e9 : takeS od g p_ n = (od1, (upd (upd g 0 ((g 0) - 1)) 2 0)) := (by rw [takeS, hsp]; exact (by first | with_reducible rfl | (simp only [takeS, tkL, h_1, h_2, if_true, if_false, reduceIte, not_true_eq_false, not_false_eq_true]; done) | (simp [takeS, tkL, h_1, h_2]; done)))
      exact end_v hx hb hrt hlocks (by rw [e9]; exact hP) hS dX1_takeOut_51
  · skip
    have hlt : i < n := by have h9 := mt (nI_leI (a := n) (b := i) (by omega) (by omega)).mpr h_1; omega
    obtain ⟨d, rfl⟩ : ∃ k, d = k + 1 := ⟨d - 1, by omega⟩
    refine lv_aload_n hx hb dX1_takeOut_12 rfl (lv_at hl 1 rfl) ?_
    refine va_get (D := D) (ci := 1) (v := .ref ao) (C := RX1) (T := TX1) (N := 6) hx hb hts iX1 hown hKK.1 hP 0 rfl rfl 0 (by decide) (hts (.fieldLink RX1 9 "TrolleyGang$Gang" "orders" "[I") (List.mem_of_getElem? (i := 2) rfl)) (fun _ h9 => h9) rfl dX1_takeOut_13 ?_
    refine lv_iload_n hx hb dX1_takeOut_16 rfl (lv_at hl 0 rfl) ?_
    refine lv_iconst (v := 1) hx hb dX1_takeOut_17 (by decide) ?_
    refine lv_isub hx hb dX1_takeOut_18 ?_
    refine lv_tope (y := nI (i - 1)) (pk_sub (a := i) (b := 1) (by omega)) ?_
    refine lv_aload_n hx hb dX1_takeOut_19 rfl (lv_at hl 1 rfl) ?_
    refine va_get (D := D) (ci := 1) (v := .ref ao) (C := RX1) (T := TX1) (N := 6) hx hb hts iX1 hown hKK.1 hP 0 rfl rfl 0 (by decide) (hts (.fieldLink RX1 9 "TrolleyGang$Gang" "orders" "[I") (List.mem_of_getElem? (i := 2) rfl)) (fun _ h9 => h9) rfl dX1_takeOut_20 ?_
    refine lv_iload_n hx hb dX1_takeOut_23 rfl (lv_at hl 0 rfl) ?_
    refine va_iald hx hb hKK.1 hP 1 0 rfl rfl (hin := (vp_in_nI (show i < 6 by omega) (by omega))) dX1_takeOut_24 ?_
    refine lv_tope (y := od1 i) (by rw [nI_clamp (by omega)]) ?_
    refine va_iast hx hb hKK.1 hP hD hS 1 0 rfl rfl (hin := (vp_in_nI (show i - 1 < 6 by omega) (by omega))) dX1_takeOut_25 (fun H locs hP hD hS => ?_)
    rw [nI_clamp (by omega)] at hP hD
    have hP : va_P D vwCl (cG cyI aG ao (upd od1 (i - 1) (od1 i)) g) H := hP
    have hD : va_D A (cG cyI aG ao (upd od1 (i - 1) (od1 i)) g) := hD
    refine lv_iinc (v := nI (i + 1)) (lv' := [(2, .int (nI (i + 1))), (0, .ref aG), (1, .int (nI p_))]) hx hb dX1_takeOut_26 hl (k := 0) rfl (nI_1 i) (by decide) rfl (fun ls hl => ?_)
    refine lv_goto (tgt := 4) hx hb dX1_takeOut_29 (by decide) ?_
    exact ih d ((i + 1), (upd od1 (i - 1) (od1 i))) _ _ _ (by omega) ⟨(by omega), (hsp.trans (by first | with_reducible rfl | (simp only [takeS, tkL, h_1, if_true, if_false, reduceIte, not_true_eq_false, not_false_eq_true]; done) | (simp [takeS, tkL, h_1]; done))), (by omega), hP, hD, hS, lv_sub hl [0, 1, 2] rfl⟩
set_option maxHeartbeats 4000000 in
set_option maxRecDepth 100000 in
theorem c_X1_haveOnly (l : Launch) (D : va_G) (cyI cyO cyL : ClassId) (aG : Nat) (ao : Nat) (od : Nat → Int32) (g : Nat → Int32) (x_ : Int32) : cV l yX1_haveOnly wsX1_haveOnly ({ frames := 0, cells := 0, slots := 0, locals := 0 }) D cyI cyO cyL [.ref aG, .int x_] (cG cyI aG ao od g) (cG cyI aG ao ((haveS od g x_).1) ((haveS od g x_).2)) := by
  intro sz
  refine Met.ofW (cc := cX1_haveOnly) (maxL := 2) (ret := none) (by decide) rfl ?_
  intro p e s m args below meth c s₁ B9 hml hv
  obtain ⟨rfl, hsz, hP, hKK, hD0⟩ := hv
  have hx := B9.exec
  have hb := B9.bytes
  have hrt := B9.returns
  have hts := atoms_spec (ws := wsX1_haveOnly) B9.pre
  have hown : s.vm.findClass RX1 = some m.cls := findClass_of_methodNamed B9.named
  have hlocks := B9.notSynchronized
  have nw := fun {w : Cond} (h : w ∈ nw_all) => NW.use (args := ([.ref aG, .int x_] : List Value).toArray) hKK.2 h
  have iX1 : ∀ w ∈ wsX10, w ∈ wsX1_haveOnly := fun _ h => List.mem_cons_of_mem _ (List.mem_append_right _ h)
  subst hsz
  have hD := hD0.self (sz := s.heap.size)
  generalize hAe : va_A (cG cyI aG ao od g) s.heap.size = A at hD ⊢
  have hA : ∀ q : Nat, s.heap.size ≤ q → A q := fun q h => by rw [← hAe]; exact Or.inr h
  have hS : va_S A s.heap s.heap [] := va_S.rf
  have hl := lv_entry ([.ref aG, .int x_]) (n := 2) (Nat.le_of_ble_eq_true rfl)
  rw [lg_entry_eq]
  generalize (lg_sl ([.ref aG, .int x_]) ++ List.replicate (2 - (lg_sl ([.ref aG, .int x_])).length) Slot.unset).toArray = ls at hl ⊢
  have hl : lv_has ls 2 [(0, .ref aG), (1, .int x_)] := hl
  refine lv_aload_n hx hb dX1_haveOnly_0 rfl (lv_at hl 0 rfl) ?_
  refine lv_iconst (v := 0) hx hb dX1_haveOnly_1 (by decide) ?_
  refine va_put (D := D) (ci := 1) (v := .int 0) (ty := .int) (C := RX1) (T := TX1) (N := 6) hx hb hts iX1 tyX1 tyX1_ok nmX1 hown hKK.1 hP hD hS 0 rfl rfl 1 (by decide) (hts (.fieldLink RX1 21 "TrolleyGang$Gang" "orderCount" "I") (List.mem_of_getElem? (i := 1) rfl)) (fun _ h9 => h9) rfl (by decide +kernel) rfl rfl (Nat.le_of_ble_eq_true rfl) dX1_haveOnly_2 (fun H locs hP hD hS => ?_)
  have hP : va_P D vwCl (cG cyI aG ao od (upd g 0 0)) H := hP
  have hD : va_D A (cG cyI aG ao od (upd g 0 0)) := hD
  refine lv_aload_n hx hb dX1_haveOnly_5 rfl (lv_at hl 0 rfl) ?_
  refine lv_iconst (v := 0) hx hb dX1_haveOnly_6 (by decide) ?_
  refine va_put (D := D) (ci := 1) (v := .int 0) (ty := .int) (C := RX1) (T := TX1) (N := 6) hx hb hts iX1 tyX1 tyX1_ok nmX1 hown hKK.1 hP hD hS 0 rfl rfl 3 (by decide) (hts (.fieldLink RX1 28 "TrolleyGang$Gang" "worksAtFirst" "I") (List.mem_of_getElem? (i := 2) rfl)) (fun _ h9 => h9) rfl (by decide +kernel) rfl rfl (Nat.le_of_ble_eq_true rfl) dX1_haveOnly_7 (fun H locs hP hD hS => ?_)
  have hP : va_P D vwCl (cG cyI aG ao od (upd (upd g 0 0) 2 0)) H := hP
  have hD : va_D A (cG cyI aG ao od (upd (upd g 0 0) 2 0)) := hD
  refine lv_iload_n hx hb dX1_haveOnly_10 rfl (lv_at hl 1 rfl) ?_
  refine lv_iconst (v := (-1)) hx hb dX1_haveOnly_11 (by decide) ?_
  refine lv_icmp_eq (tgt := 27) hx hb dX1_haveOnly_12 (by decide) (fun h_1 => ?_) (fun h_1 => ?_)
  · skip
    have e9 : haveS od g x_ = (od, (upd (upd g 0 0) 2 0)) := (by first | with_reducible rfl | (simp only [haveS, h_1, if_true, if_false, reduceIte, not_true_eq_false, not_false_eq_true]; done) | (simp [haveS, h_1]; done))
    exact end_v hx hb hrt hlocks (by rw [e9]; exact hP) hS dX1_haveOnly_27
  · skip
    refine lv_aload_n hx hb dX1_haveOnly_15 rfl (lv_at hl 0 rfl) ?_
    refine va_get (D := D) (ci := 1) (v := .ref ao) (C := RX1) (T := TX1) (N := 6) hx hb hts iX1 hown hKK.1 hP 0 rfl rfl 0 (by decide) (hts (.fieldLink RX1 9 "TrolleyGang$Gang" "orders" "[I") (List.mem_of_getElem? (i := 3) rfl)) (fun _ h9 => h9) rfl dX1_haveOnly_16 ?_
    refine lv_iconst (v := 0) hx hb dX1_haveOnly_19 (by decide) ?_
    refine lv_iload_n hx hb dX1_haveOnly_20 rfl (lv_at hl 1 rfl) ?_
    refine va_iast hx hb hKK.1 hP hD hS 1 0 rfl rfl (hin := (vp_in_nI (n := 0) (by omega) (by omega))) dX1_haveOnly_21 (fun H locs hP hD hS => ?_)
    have hP : va_P D vwCl (cG cyI aG ao (upd od 0 x_) (upd (upd g 0 0) 2 0)) H := hP
    have hD : va_D A (cG cyI aG ao (upd od 0 x_) (upd (upd g 0 0) 2 0)) := hD
    refine lv_aload_n hx hb dX1_haveOnly_22 rfl (lv_at hl 0 rfl) ?_
    refine lv_iconst (v := 1) hx hb dX1_haveOnly_23 (by decide) ?_
    refine va_put (D := D) (ci := 1) (v := .int 1) (ty := .int) (C := RX1) (T := TX1) (N := 6) hx hb hts iX1 tyX1 tyX1_ok nmX1 hown hKK.1 hP hD hS 0 rfl rfl 1 (by decide) (hts (.fieldLink RX1 21 "TrolleyGang$Gang" "orderCount" "I") (List.mem_of_getElem? (i := 1) rfl)) (fun _ h9 => h9) rfl (by decide +kernel) rfl rfl (Nat.le_of_ble_eq_true rfl) dX1_haveOnly_24 (fun H locs hP hD hS => ?_)
    have hP : va_P D vwCl (cG cyI aG ao (upd od 0 x_) (upd (upd (upd g 0 0) 2 0) 0 1)) H := hP
    have hD : va_D A (cG cyI aG ao (upd od 0 x_) (upd (upd (upd g 0 0) 2 0) 0 1)) := hD
    have e9 : haveS od g x_ = (upd od 0 x_, (upd (upd (upd g 0 0) 2 0) 0 1)) := (by first | with_reducible rfl | (simp only [haveS, h_1, if_true, if_false, reduceIte, not_true_eq_false, not_false_eq_true]; done) | (simp [haveS, h_1]; done))
    exact end_v hx hb hrt hlocks (by rw [e9]; exact hP) hS dX1_haveOnly_27
set_option maxHeartbeats 4000000 in
set_option maxRecDepth 100000 in
theorem c_X1_spansUpwardsToFirst (l : Launch) (D : va_G) (cyI cyO cyL : ClassId) (aG : Nat) (ao : Nat) (od : Nat → Int32) (g : Nat → Int32) : cI l yX1_spansUpwardsToFirst wsX1_spansUpwardsToFirst ({ frames := 0, cells := 0, slots := 0, locals := 0 }) D cyI cyO cyL [.ref aG] (cG cyI aG ao od g) (cG cyI aG ao od g) (upS od g) := by
  intro sz
  refine Met.ofW (cc := cX1_spansUpwardsToFirst) (maxL := 1) (ret := (some .int)) (by decide) rfl ?_
  intro p e s m args below meth c s₁ B9 hml hv
  obtain ⟨rfl, hsz, hP, hKK, hD0⟩ := hv
  have hx := B9.exec
  have hb := B9.bytes
  have hrt := B9.returns
  have hts := atoms_spec (ws := wsX1_spansUpwardsToFirst) B9.pre
  have hown : s.vm.findClass RX1 = some m.cls := findClass_of_methodNamed B9.named
  have hlocks := B9.notSynchronized
  have nw := fun {w : Cond} (h : w ∈ nw_all) => NW.use (args := ([.ref aG] : List Value).toArray) hKK.2 h
  have iX1 : ∀ w ∈ wsX10, w ∈ wsX1_spansUpwardsToFirst := fun _ h => List.mem_cons_of_mem _ (List.mem_append_right _ h)
  subst hsz
  have hD := hD0.self (sz := s.heap.size)
  generalize hAe : va_A (cG cyI aG ao od g) s.heap.size = A at hD ⊢
  have hA : ∀ q : Nat, s.heap.size ≤ q → A q := fun q h => by rw [← hAe]; exact Or.inr h
  have hS : va_S A s.heap s.heap [] := va_S.rf
  have hl := lv_entry ([.ref aG]) (n := 1) (Nat.le_of_ble_eq_true rfl)
  rw [lg_entry_eq]
  generalize (lg_sl ([.ref aG]) ++ List.replicate (1 - (lg_sl ([.ref aG])).length) Slot.unset).toArray = ls at hl ⊢
  have hl : lv_has ls 1 [(0, .ref aG)] := hl
  refine lv_aload_n hx hb dX1_spansUpwardsToFirst_0 rfl (lv_at hl 0 rfl) ?_
  refine va_get (D := D) (ci := 1) (v := .ref ao) (C := RX1) (T := TX1) (N := 6) hx hb hts iX1 hown hKK.1 hP 0 rfl rfl 0 (by decide) (hts (.fieldLink RX1 9 "TrolleyGang$Gang" "orders" "[I") (List.mem_of_getElem? (i := 1) rfl)) (fun _ h9 => h9) rfl dX1_spansUpwardsToFirst_1 ?_
  refine lv_iconst (v := 0) hx hb dX1_spansUpwardsToFirst_4 (by decide) ?_
  refine va_iald hx hb hKK.1 hP 1 0 rfl rfl (hin := (vp_in_nI (n := 0) (by omega) (by omega))) dX1_spansUpwardsToFirst_5 ?_
  refine lv_tope (y := od 0) rfl ?_
  refine lv_aload_n hx hb dX1_spansUpwardsToFirst_6 rfl (lv_at hl 0 rfl) ?_
  refine va_get (D := D) (ci := 1) (v := .int (g 1)) (C := RX1) (T := TX1) (N := 6) hx hb hts iX1 hown hKK.1 hP 0 rfl rfl 2 (by decide) (hts (.fieldLink RX1 25 "TrolleyGang$Gang" "at" "I") (List.mem_of_getElem? (i := 2) rfl)) (fun _ h9 => h9) rfl dX1_spansUpwardsToFirst_7 ?_
  refine lv_isub hx hb dX1_spansUpwardsToFirst_10 ?_
  refine lv_bipush (v := 24) hx hb dX1_spansUpwardsToFirst_11 (by decide) ?_
  refine lv_iadd hx hb dX1_spansUpwardsToFirst_13 ?_
  refine lv_bipush (v := 24) hx hb dX1_spansUpwardsToFirst_14 (by decide) ?_
  refine lv_irem hx hb dX1_spansUpwardsToFirst_16 (by decide) ?_
  refine lv_tope (y := ir (((od 0) - (g 1)) + 24) 24) rfl ?_
  have e9 : upS od g = ir (((od 0) - (g 1)) + 24) 24 := (by rfl)
  exact end_i hx hb hrt hlocks (by rw [e9]) hP hS dX1_spansUpwardsToFirst_17
set_option maxHeartbeats 4000000 in
set_option maxRecDepth 100000 in
theorem c_X1_hoursToFirst (l : Launch) (D : va_G) (cyI cyO cyL : ClassId) (aG : Nat) (ao : Nat) (od : Nat → Int32) (g : Nat → Int32) : cI l yX1_hoursToFirst wsX1_hoursToFirst ({ frames := 1, cells := 0, slots := 0, locals := 20 }) D cyI cyO cyL [.ref aG] (cG cyI aG ao od g) (cG cyI aG ao od g) (hrsS od g) := by
  intro sz
  refine Met.ofW (cc := cX1_hoursToFirst) (maxL := 3) (ret := (some .int)) (by decide) rfl ?_
  intro p e s m args below meth c s₁ B9 hml hv
  obtain ⟨rfl, hsz, hP, hKK, hD0⟩ := hv
  have hx := B9.exec
  have hb := B9.bytes
  have hrt := B9.returns
  have hts := atoms_spec (ws := wsX1_hoursToFirst) B9.pre
  have hown : s.vm.findClass RX1 = some m.cls := findClass_of_methodNamed B9.named
  have hlocks := B9.notSynchronized
  have nw := fun {w : Cond} (h : w ∈ nw_all) => NW.use (args := ([.ref aG] : List Value).toArray) hKK.2 h
  have iX1 : ∀ w ∈ wsX10, w ∈ wsX1_hoursToFirst := fun _ h => List.mem_cons_of_mem _ (List.mem_append_right _ h)
  subst hsz
  have hD := hD0.self (sz := s.heap.size)
  generalize hAe : va_A (cG cyI aG ao od g) s.heap.size = A at hD ⊢
  have hA : ∀ q : Nat, s.heap.size ≤ q → A q := fun q h => by rw [← hAe]; exact Or.inr h
  have hS : va_S A s.heap s.heap [] := va_S.rf
  have hl := lv_entry ([.ref aG]) (n := 3) (Nat.le_of_ble_eq_true rfl)
  rw [lg_entry_eq]
  generalize (lg_sl ([.ref aG]) ++ List.replicate (3 - (lg_sl ([.ref aG])).length) Slot.unset).toArray = ls at hl ⊢
  have hl : lv_has ls 3 [(0, .ref aG)] := hl
  refine lv_aload_n hx hb dX1_hoursToFirst_0 rfl (lv_at hl 0 rfl) ?_
  refine va_get (D := D) (ci := 1) (v := .int (g 0)) (C := RX1) (T := TX1) (N := 6) hx hb hts iX1 hown hKK.1 hP 0 rfl rfl 1 (by decide) (hts (.fieldLink RX1 21 "TrolleyGang$Gang" "orderCount" "I") (List.mem_of_getElem? (i := 1) rfl)) (fun _ h9 => h9) rfl dX1_hoursToFirst_1 ?_
  refine lv_if_ne (tgt := 9) hx hb dX1_hoursToFirst_4 (by decide) (fun h_1 => ?_) (fun h_1 => ?_)
  · skip
    refine lv_aload_n hx hb dX1_hoursToFirst_9 rfl (lv_at hl 0 rfl) ?_
    have hPc := hP.sub (ws' := (cG cyI aG ao od g)) [0, 1] rfl
    have hDc := hD.sub (ws' := (cG cyI aG ao od g)) [0, 1] (by decide) rfl
    refine ret_i (W1 := (cG cyI aG ao od g)) (W2 := (cG cyI aG ao od g)) (ws1 := (cG cyI aG ao od g)) (r := upS od g) (run_V (q := (RX1, TX1, 6)) (n := 0) (As := []) (rest := []) ⟨hx, hb, hml, hown, hts⟩ (c_X1_spansUpwardsToFirst l D cyI cyO cyL aG ao od g _) ggX1_hoursToFirst_X1_spansUpwardsToFirst rfl rfl rfl (hts (.methodLink RX1 37 yX1_spansUpwardsToFirst) (List.mem_of_getElem? (i := 6) rfl)) (hts (.initialized RX1) (List.mem_of_getElem? (i := 9) rfl)) (hts (.instanceMethod yX1_spansUpwardsToFirst) (List.mem_of_getElem? (i := 7) rfl)) (hts (.selects RX1 yX1_spansUpwardsToFirst yX1_spansUpwardsToFirst) (List.mem_of_getElem? (i := 8) rfl)) (by decide +kernel) ⟨Nat.le_of_ble_eq_true rfl, Nat.le_of_ble_eq_true rfl⟩ hKK hPc hDc (ci := 1) (q0 := 0) rfl rfl rfl hl.1 rfl (Nat.le_of_ble_eq_true rfl) dX1_hoursToFirst_10 ⟨Nat.zero_le _, Nat.zero_le _⟩) hP hD hS hA [0, 1] rfl rfl [(true, 0), (true, 1)] (by decide +kernel) rfl (fun H locs hP hD hS => ?_)
    refine lv_istore_n (lv' := [(1, .int (upS od g)), (0, .ref aG)]) hx hb dX1_hoursToFirst_13 rfl hl (by decide) rfl (fun ls hl => ?_)
    refine lv_iload_n hx hb dX1_hoursToFirst_14 rfl (lv_at hl 0 rfl) ?_
    refine lv_bipush (v := 24) hx hb dX1_hoursToFirst_15 (by decide) ?_
    refine lv_iload_n hx hb dX1_hoursToFirst_17 rfl (lv_at hl 0 rfl) ?_
    refine lv_isub hx hb dX1_hoursToFirst_18 ?_
    refine va_mmin hx hb (by rw [hml]; exact hl.1.symm) hown (hts (.methodLink RX1 41 Lib.Math.min.name) (List.mem_of_getElem? (i := 2) rfl)) (hts (.static Lib.Math.min.name) (List.mem_of_getElem? (i := 3) rfl)) (hts (.initialized "java/lang/Math") (List.mem_of_getElem? (i := 4) rfl)) (hts (.code Lib.Math.min.name Lib.Math.min.code 2 (some .int)) (List.mem_of_getElem? (i := 5) rfl)) (Nat.le_of_ble_eq_true rfl) (Nat.le_of_ble_eq_true rfl) (Nat.zero_le _) (Nat.zero_le _) dX1_hoursToFirst_19 ?_
    refine lv_tope (y := mmin (upS od g) (24 - (upS od g))) rfl ?_
    refine lv_istore_n (lv' := [(2, .int (mmin (upS od g) (24 - (upS od g)))), (1, .int (upS od g)), (0, .ref aG)]) hx hb dX1_hoursToFirst_22 rfl hl (by decide) rfl (fun ls hl => ?_)
    refine lv_iload_n hx hb dX1_hoursToFirst_23 rfl (lv_at hl 0 rfl) ?_
    refine lv_iconst (v := 4) hx hb dX1_hoursToFirst_24 (by decide) ?_
    refine lv_iadd hx hb dX1_hoursToFirst_25 ?_
    refine lv_iconst (v := 1) hx hb dX1_hoursToFirst_26 (by decide) ?_
    refine lv_isub hx hb dX1_hoursToFirst_27 ?_
    refine lv_iconst (v := 4) hx hb dX1_hoursToFirst_28 (by decide) ?_
    refine lv_idiv hx hb dX1_hoursToFirst_29 (by decide) ?_
    have e9 : hrsS od g = (((mmin (upS od g) (24 - (upS od g))) + 4) - 1) / 4 := (by first | with_reducible rfl | (simp only [hrsS, h_1, if_true, if_false, reduceIte, not_true_eq_false, not_false_eq_true]; done) | (simp [hrsS, h_1]; done))
    exact end_i hx hb hrt hlocks (by rw [e9]) hP hS dX1_hoursToFirst_30
  · skip
    refine lv_iconst (v := (-1)) hx hb dX1_hoursToFirst_7 (by decide) ?_
    have e9 : hrsS od g = (-1) := (by first | with_reducible rfl | (simp only [hrsS, h_1, if_true, if_false, reduceIte, not_true_eq_false, not_false_eq_true]; done) | (simp [hrsS, h_1]; done))
    exact end_i hx hb hrt hlocks (by rw [e9]) hP hS dX1_hoursToFirst_8
set_option maxHeartbeats 4000000 in
set_option maxRecDepth 100000 in
theorem c_X1_goToFirst (l : Launch) (D : va_G) (cyI cyO cyL : ClassId) (aG : Nat) (ao : Nat) (od : Nat → Int32) (g : Nat → Int32) : cV l yX1_goToFirst wsX1_goToFirst ({ frames := 1, cells := 0, slots := 0, locals := 20 }) D cyI cyO cyL [.ref aG] (cG cyI aG ao od g) (cG cyI aG ao od (goS od g)) := by
  intro sz
  refine Met.ofW (cc := cX1_goToFirst) (maxL := 4) (ret := none) (by decide) rfl ?_
  intro p e s m args below meth c s₁ B9 hml hv
  obtain ⟨rfl, hsz, hP, hKK, hD0⟩ := hv
  have hx := B9.exec
  have hb := B9.bytes
  have hrt := B9.returns
  have hts := atoms_spec (ws := wsX1_goToFirst) B9.pre
  have hown : s.vm.findClass RX1 = some m.cls := findClass_of_methodNamed B9.named
  have hlocks := B9.notSynchronized
  have nw := fun {w : Cond} (h : w ∈ nw_all) => NW.use (args := ([.ref aG] : List Value).toArray) hKK.2 h
  have iX1 : ∀ w ∈ wsX10, w ∈ wsX1_goToFirst := fun _ h => List.mem_cons_of_mem _ (List.mem_append_right _ h)
  subst hsz
  have hD := hD0.self (sz := s.heap.size)
  generalize hAe : va_A (cG cyI aG ao od g) s.heap.size = A at hD ⊢
  have hA : ∀ q : Nat, s.heap.size ≤ q → A q := fun q h => by rw [← hAe]; exact Or.inr h
  have hS : va_S A s.heap s.heap [] := va_S.rf
  have hl := lv_entry ([.ref aG]) (n := 4) (Nat.le_of_ble_eq_true rfl)
  rw [lg_entry_eq]
  generalize (lg_sl ([.ref aG]) ++ List.replicate (4 - (lg_sl ([.ref aG])).length) Slot.unset).toArray = ls at hl ⊢
  have hl : lv_has ls 4 [(0, .ref aG)] := hl
  refine lv_aload_n hx hb dX1_goToFirst_0 rfl (lv_at hl 0 rfl) ?_
  have hPc := hP.sub (ws' := (cG cyI aG ao od g)) [0, 1] rfl
  have hDc := hD.sub (ws' := (cG cyI aG ao od g)) [0, 1] (by decide) rfl
  refine ret_i (W1 := (cG cyI aG ao od g)) (W2 := (cG cyI aG ao od g)) (ws1 := (cG cyI aG ao od g)) (r := upS od g) (run_V (q := (RX1, TX1, 6)) (n := 0) (As := []) (rest := []) ⟨hx, hb, hml, hown, hts⟩ (c_X1_spansUpwardsToFirst l D cyI cyO cyL aG ao od g _) ggX1_goToFirst_X1_spansUpwardsToFirst rfl rfl rfl (hts (.methodLink RX1 37 yX1_spansUpwardsToFirst) (List.mem_of_getElem? (i := 6) rfl)) (hts (.initialized RX1) (List.mem_of_getElem? (i := 9) rfl)) (hts (.instanceMethod yX1_spansUpwardsToFirst) (List.mem_of_getElem? (i := 7) rfl)) (hts (.selects RX1 yX1_spansUpwardsToFirst yX1_spansUpwardsToFirst) (List.mem_of_getElem? (i := 8) rfl)) (by decide +kernel) ⟨Nat.le_of_ble_eq_true rfl, Nat.le_of_ble_eq_true rfl⟩ hKK hPc hDc (ci := 1) (q0 := 0) rfl rfl rfl hl.1 rfl (Nat.le_of_ble_eq_true rfl) dX1_goToFirst_1 ⟨Nat.zero_le _, Nat.zero_le _⟩) hP hD hS hA [0, 1] rfl rfl [(true, 0), (true, 1)] (by decide +kernel) rfl (fun H locs hP hD hS => ?_)
  refine lv_istore_n (lv' := [(1, .int (upS od g)), (0, .ref aG)]) hx hb dX1_goToFirst_4 rfl hl (by decide) rfl (fun ls hl => ?_)
  refine lv_bipush (v := 24) hx hb dX1_goToFirst_5 (by decide) ?_
  refine lv_iload_n hx hb dX1_goToFirst_7 rfl (lv_at hl 0 rfl) ?_
  refine lv_isub hx hb dX1_goToFirst_8 ?_
  refine lv_istore_n (lv' := [(2, .int (24 - (upS od g))), (1, .int (upS od g)), (0, .ref aG)]) hx hb dX1_goToFirst_9 rfl hl (by decide) rfl (fun ls hl => ?_)
  refine lv_iload_n hx hb dX1_goToFirst_10 rfl (lv_at hl 1 rfl) ?_
  refine lv_iload_n hx hb dX1_goToFirst_11 rfl (lv_at hl 0 rfl) ?_
  refine lv_icmp_gt (tgt := 23) hx hb dX1_goToFirst_12 (by decide) (fun h_1 => ?_) (fun h_1 => ?_)
  · skip
    refine lv_iload_n hx hb dX1_goToFirst_23 rfl (lv_at hl 0 rfl) ?_
    refine lv_iconst (v := 4) hx hb dX1_goToFirst_24 (by decide) ?_
    refine va_mmin hx hb (by rw [hml]; exact hl.1.symm) hown (hts (.methodLink RX1 41 Lib.Math.min.name) (List.mem_of_getElem? (i := 1) rfl)) (hts (.static Lib.Math.min.name) (List.mem_of_getElem? (i := 2) rfl)) (hts (.initialized "java/lang/Math") (List.mem_of_getElem? (i := 3) rfl)) (hts (.code Lib.Math.min.name Lib.Math.min.code 2 (some .int)) (List.mem_of_getElem? (i := 4) rfl)) (Nat.le_of_ble_eq_true rfl) (Nat.le_of_ble_eq_true rfl) (Nat.zero_le _) (Nat.zero_le _) dX1_goToFirst_25 ?_
    refine lv_tope (y := mmin (24 - (upS od g)) 4) rfl ?_
    refine lv_ineg hx hb dX1_goToFirst_28 ?_
    refine lv_istore_n (lv' := [(3, .int (-(mmin (24 - (upS od g)) 4))), (2, .int (24 - (upS od g))), (1, .int (upS od g)), (0, .ref aG)]) hx hb dX1_goToFirst_29 rfl hl (by decide) rfl (fun ls hl => ?_)
    refine lv_aload_n hx hb dX1_goToFirst_30 rfl (lv_at hl 3 rfl) ?_
    refine lv_aload_n hx hb dX1_goToFirst_31 rfl (lv_at hl 3 rfl) ?_
    refine va_get (D := D) (ci := 1) (v := .int (g 1)) (C := RX1) (T := TX1) (N := 6) hx hb hts iX1 hown hKK.1 hP 0 rfl rfl 2 (by decide) (hts (.fieldLink RX1 25 "TrolleyGang$Gang" "at" "I") (List.mem_of_getElem? (i := 5) rfl)) (fun _ h9 => h9) rfl dX1_goToFirst_32 ?_
    refine lv_iload_n hx hb dX1_goToFirst_35 rfl (lv_at hl 0 rfl) ?_
    refine lv_iadd hx hb dX1_goToFirst_36 ?_
    refine lv_bipush (v := 24) hx hb dX1_goToFirst_37 (by decide) ?_
    refine lv_iadd hx hb dX1_goToFirst_39 ?_
    refine lv_bipush (v := 24) hx hb dX1_goToFirst_40 (by decide) ?_
    refine lv_irem hx hb dX1_goToFirst_42 (by decide) ?_
    refine lv_tope (y := ir (((g 1) + (-(mmin (24 - (upS od g)) 4))) + 24) 24) rfl ?_
    refine va_put (D := D) (ci := 1) (v := .int (ir (((g 1) + (-(mmin (24 - (upS od g)) 4))) + 24) 24)) (ty := .int) (C := RX1) (T := TX1) (N := 6) hx hb hts iX1 tyX1 tyX1_ok nmX1 hown hKK.1 hP hD hS 0 rfl rfl 2 (by decide) (hts (.fieldLink RX1 25 "TrolleyGang$Gang" "at" "I") (List.mem_of_getElem? (i := 5) rfl)) (fun _ h9 => h9) rfl (by decide +kernel) rfl rfl (Nat.le_of_ble_eq_true rfl) dX1_goToFirst_43 (fun H locs hP hD hS => ?_)
    have hP : va_P D vwCl (cG cyI aG ao od (upd g 1 (ir (((g 1) + (-(mmin (24 - (upS od g)) 4))) + 24) 24))) H := hP
    have hD : va_D A (cG cyI aG ao od (upd g 1 (ir (((g 1) + (-(mmin (24 - (upS od g)) 4))) + 24) 24))) := hD
    have e9 : goS od g = (upd g 1 (ir (((g 1) + (-(mmin (24 - (upS od g)) 4))) + 24) 24)) := (by first | with_reducible rfl | (simp only [goS, wayS, h_1, if_true, if_false, reduceIte, not_true_eq_false, not_false_eq_true]; done) | (simp [goS, wayS, h_1]; done))
    exact end_v hx hb hrt hlocks (by rw [e9]; exact hP) hS dX1_goToFirst_46
  · skip
    refine lv_iload_n hx hb dX1_goToFirst_15 rfl (lv_at hl 1 rfl) ?_
    refine lv_iconst (v := 4) hx hb dX1_goToFirst_16 (by decide) ?_
    refine va_mmin hx hb (by rw [hml]; exact hl.1.symm) hown (hts (.methodLink RX1 41 Lib.Math.min.name) (List.mem_of_getElem? (i := 1) rfl)) (hts (.static Lib.Math.min.name) (List.mem_of_getElem? (i := 2) rfl)) (hts (.initialized "java/lang/Math") (List.mem_of_getElem? (i := 3) rfl)) (hts (.code Lib.Math.min.name Lib.Math.min.code 2 (some .int)) (List.mem_of_getElem? (i := 4) rfl)) (Nat.le_of_ble_eq_true rfl) (Nat.le_of_ble_eq_true rfl) (Nat.zero_le _) (Nat.zero_le _) dX1_goToFirst_17 ?_
    refine lv_tope (y := mmin (upS od g) 4) rfl ?_
    refine lv_goto (tgt := 29) hx hb dX1_goToFirst_20 (by decide) ?_
    refine lv_istore_n (lv' := [(3, .int (mmin (upS od g) 4)), (2, .int (24 - (upS od g))), (1, .int (upS od g)), (0, .ref aG)]) hx hb dX1_goToFirst_29 rfl hl (by decide) rfl (fun ls hl => ?_)
    refine lv_aload_n hx hb dX1_goToFirst_30 rfl (lv_at hl 3 rfl) ?_
    refine lv_aload_n hx hb dX1_goToFirst_31 rfl (lv_at hl 3 rfl) ?_
    refine va_get (D := D) (ci := 1) (v := .int (g 1)) (C := RX1) (T := TX1) (N := 6) hx hb hts iX1 hown hKK.1 hP 0 rfl rfl 2 (by decide) (hts (.fieldLink RX1 25 "TrolleyGang$Gang" "at" "I") (List.mem_of_getElem? (i := 5) rfl)) (fun _ h9 => h9) rfl dX1_goToFirst_32 ?_
    refine lv_iload_n hx hb dX1_goToFirst_35 rfl (lv_at hl 0 rfl) ?_
    refine lv_iadd hx hb dX1_goToFirst_36 ?_
    refine lv_bipush (v := 24) hx hb dX1_goToFirst_37 (by decide) ?_
    refine lv_iadd hx hb dX1_goToFirst_39 ?_
    refine lv_bipush (v := 24) hx hb dX1_goToFirst_40 (by decide) ?_
    refine lv_irem hx hb dX1_goToFirst_42 (by decide) ?_
    refine lv_tope (y := ir (((g 1) + (mmin (upS od g) 4)) + 24) 24) rfl ?_
    refine va_put (D := D) (ci := 1) (v := .int (ir (((g 1) + (mmin (upS od g) 4)) + 24) 24)) (ty := .int) (C := RX1) (T := TX1) (N := 6) hx hb hts iX1 tyX1 tyX1_ok nmX1 hown hKK.1 hP hD hS 0 rfl rfl 2 (by decide) (hts (.fieldLink RX1 25 "TrolleyGang$Gang" "at" "I") (List.mem_of_getElem? (i := 5) rfl)) (fun _ h9 => h9) rfl (by decide +kernel) rfl rfl (Nat.le_of_ble_eq_true rfl) dX1_goToFirst_43 (fun H locs hP hD hS => ?_)
    have hP : va_P D vwCl (cG cyI aG ao od (upd g 1 (ir (((g 1) + (mmin (upS od g) 4)) + 24) 24))) H := hP
    have hD : va_D A (cG cyI aG ao od (upd g 1 (ir (((g 1) + (mmin (upS od g) 4)) + 24) 24))) := hD
    have e9 : goS od g = (upd g 1 (ir (((g 1) + (mmin (upS od g) 4)) + 24) 24)) := (by first | with_reducible rfl | (simp only [goS, wayS, h_1, if_true, if_false, reduceIte, not_true_eq_false, not_false_eq_true]; done) | (simp [goS, wayS, h_1]; done))
    exact end_v hx hb hrt hlocks (by rw [e9]; exact hP) hS dX1_goToFirst_46
set_option maxHeartbeats 4000000 in
set_option maxRecDepth 100000 in
theorem c_X1_copyFrom (l : Launch) (D : va_G) (cyI cyO cyL : ClassId) (aG : Nat) (ao : Nat) (aG2 : Nat) (ao2 : Nat) (od : Nat → Int32) (g : Nat → Int32) (od2 : Nat → Int32) (g2 : Nat → Int32) : cV l yX1_copyFrom wsX1_copyFrom ({ frames := 1, cells := 0, slots := 0, locals := 40 }) D cyI cyO cyL [.ref aG, .ref aG2] (cG cyI aG ao od g ++ cG cyI aG2 ao2 od2 g2) (cG cyI aG ao (va_cpy od2 od 0 0 6) (gcp g g2) ++ cG cyI aG2 ao2 od2 g2) := by
  intro sz
  refine Met.ofW (cc := cX1_copyFrom) (maxL := 2) (ret := none) (by decide) rfl ?_
  intro p e s m args below meth c s₁ B9 hml hv
  obtain ⟨rfl, hsz, hP, hKK, hD0⟩ := hv
  have hx := B9.exec
  have hb := B9.bytes
  have hrt := B9.returns
  have hts := atoms_spec (ws := wsX1_copyFrom) B9.pre
  have hown : s.vm.findClass RX1 = some m.cls := findClass_of_methodNamed B9.named
  have hlocks := B9.notSynchronized
  have nw := fun {w : Cond} (h : w ∈ nw_all) => NW.use (args := ([.ref aG, .ref aG2] : List Value).toArray) hKK.2 h
  have iX1 : ∀ w ∈ wsX10, w ∈ wsX1_copyFrom := fun _ h => List.mem_cons_of_mem _ (List.mem_append_right _ h)
  subst hsz
  have hD := hD0.self (sz := s.heap.size)
  generalize hAe : va_A (cG cyI aG ao od g ++ cG cyI aG2 ao2 od2 g2) s.heap.size = A at hD ⊢
  have hA : ∀ q : Nat, s.heap.size ≤ q → A q := fun q h => by rw [← hAe]; exact Or.inr h
  have hS : va_S A s.heap s.heap [] := va_S.rf
  have hl := lv_entry ([.ref aG, .ref aG2]) (n := 2) (Nat.le_of_ble_eq_true rfl)
  rw [lg_entry_eq]
  generalize (lg_sl ([.ref aG, .ref aG2]) ++ List.replicate (2 - (lg_sl ([.ref aG, .ref aG2])).length) Slot.unset).toArray = ls at hl ⊢
  have hl : lv_has ls 2 [(0, .ref aG), (1, .ref aG2)] := hl
  refine lv_aload_n hx hb dX1_copyFrom_0 rfl (lv_at hl 1 rfl) ?_
  refine va_get (D := D) (ci := 1) (v := .ref ao2) (C := RX1) (T := TX1) (N := 6) hx hb hts iX1 hown hKK.1 hP 2 rfl rfl 0 (by decide) (hts (.fieldLink RX1 9 "TrolleyGang$Gang" "orders" "[I") (List.mem_of_getElem? (i := 1) rfl)) (fun _ h9 => h9) rfl dX1_copyFrom_1 ?_
  refine lv_iconst (v := 0) hx hb dX1_copyFrom_4 (by decide) ?_
  refine lv_aload_n hx hb dX1_copyFrom_5 rfl (lv_at hl 0 rfl) ?_
  refine va_get (D := D) (ci := 1) (v := .ref ao) (C := RX1) (T := TX1) (N := 6) hx hb hts iX1 hown hKK.1 hP 0 rfl rfl 0 (by decide) (hts (.fieldLink RX1 9 "TrolleyGang$Gang" "orders" "[I") (List.mem_of_getElem? (i := 1) rfl)) (fun _ h9 => h9) rfl dX1_copyFrom_6 ?_
  refine lv_iconst (v := 0) hx hb dX1_copyFrom_9 (by decide) ?_
  refine lv_bipush (v := 6) hx hb dX1_copyFrom_10 (by decide) ?_
  refine va_copyi hx hb (by rw [hml]; exact hl.1.symm) hown (hts (.methodLink RX1 15 arraycopyName) (List.mem_of_getElem? (i := 2) rfl)) (hts (.native arraycopyName) (List.mem_of_getElem? (i := 3) rfl)) (hts (.static arraycopyName) (List.mem_of_getElem? (i := 4) rfl)) (hts (.initialized "java/lang/System") (List.mem_of_getElem? (i := 5) rfl)) hKK.1 hP hD hS 3 1 0 0 rfl rfl rfl rfl rfl (by decide) (by decide) (by decide) (by decide) (by decide) (fun _ _ => rfl) (Nat.le_of_ble_eq_true rfl) (by decide +kernel) dX1_copyFrom_12 (fun H locs hP hD hS => ?_)
  have hP : va_P D vwCl (cG cyI aG ao (va_cpy od2 od 0 0 6) g ++ cG cyI aG2 ao2 od2 g2) H := hP
  have hD : va_D A (cG cyI aG ao (va_cpy od2 od 0 0 6) g ++ cG cyI aG2 ao2 od2 g2) := hD
  refine lv_aload_n hx hb dX1_copyFrom_15 rfl (lv_at hl 0 rfl) ?_
  refine lv_aload_n hx hb dX1_copyFrom_16 rfl (lv_at hl 1 rfl) ?_
  refine va_get (D := D) (ci := 1) (v := .int (g2 0)) (C := RX1) (T := TX1) (N := 6) hx hb hts iX1 hown hKK.1 hP 2 rfl rfl 1 (by decide) (hts (.fieldLink RX1 21 "TrolleyGang$Gang" "orderCount" "I") (List.mem_of_getElem? (i := 6) rfl)) (fun _ h9 => h9) rfl dX1_copyFrom_17 ?_
  refine va_put (D := D) (ci := 1) (v := .int (g2 0)) (ty := .int) (C := RX1) (T := TX1) (N := 6) hx hb hts iX1 tyX1 tyX1_ok nmX1 hown hKK.1 hP hD hS 0 rfl rfl 1 (by decide) (hts (.fieldLink RX1 21 "TrolleyGang$Gang" "orderCount" "I") (List.mem_of_getElem? (i := 6) rfl)) (fun _ h9 => h9) rfl (by decide +kernel) rfl rfl (Nat.le_of_ble_eq_true rfl) dX1_copyFrom_20 (fun H locs hP hD hS => ?_)
  have hP : va_P D vwCl (cG cyI aG ao (va_cpy od2 od 0 0 6) (upd g 0 (g2 0)) ++ cG cyI aG2 ao2 od2 g2) H := hP
  have hD : va_D A (cG cyI aG ao (va_cpy od2 od 0 0 6) (upd g 0 (g2 0)) ++ cG cyI aG2 ao2 od2 g2) := hD
  refine lv_aload_n hx hb dX1_copyFrom_23 rfl (lv_at hl 0 rfl) ?_
  refine lv_aload_n hx hb dX1_copyFrom_24 rfl (lv_at hl 1 rfl) ?_
  refine va_get (D := D) (ci := 1) (v := .int (g2 1)) (C := RX1) (T := TX1) (N := 6) hx hb hts iX1 hown hKK.1 hP 2 rfl rfl 2 (by decide) (hts (.fieldLink RX1 25 "TrolleyGang$Gang" "at" "I") (List.mem_of_getElem? (i := 7) rfl)) (fun _ h9 => h9) rfl dX1_copyFrom_25 ?_
  refine va_put (D := D) (ci := 1) (v := .int (g2 1)) (ty := .int) (C := RX1) (T := TX1) (N := 6) hx hb hts iX1 tyX1 tyX1_ok nmX1 hown hKK.1 hP hD hS 0 rfl rfl 2 (by decide) (hts (.fieldLink RX1 25 "TrolleyGang$Gang" "at" "I") (List.mem_of_getElem? (i := 7) rfl)) (fun _ h9 => h9) rfl (by decide +kernel) rfl rfl (Nat.le_of_ble_eq_true rfl) dX1_copyFrom_28 (fun H locs hP hD hS => ?_)
  have hP : va_P D vwCl (cG cyI aG ao (va_cpy od2 od 0 0 6) (upd (upd g 0 (g2 0)) 1 (g2 1)) ++ cG cyI aG2 ao2 od2 g2) H := hP
  have hD : va_D A (cG cyI aG ao (va_cpy od2 od 0 0 6) (upd (upd g 0 (g2 0)) 1 (g2 1)) ++ cG cyI aG2 ao2 od2 g2) := hD
  refine lv_aload_n hx hb dX1_copyFrom_31 rfl (lv_at hl 0 rfl) ?_
  refine lv_aload_n hx hb dX1_copyFrom_32 rfl (lv_at hl 1 rfl) ?_
  refine va_get (D := D) (ci := 1) (v := .int (g2 2)) (C := RX1) (T := TX1) (N := 6) hx hb hts iX1 hown hKK.1 hP 2 rfl rfl 3 (by decide) (hts (.fieldLink RX1 28 "TrolleyGang$Gang" "worksAtFirst" "I") (List.mem_of_getElem? (i := 8) rfl)) (fun _ h9 => h9) rfl dX1_copyFrom_33 ?_
  refine va_put (D := D) (ci := 1) (v := .int (g2 2)) (ty := .int) (C := RX1) (T := TX1) (N := 6) hx hb hts iX1 tyX1 tyX1_ok nmX1 hown hKK.1 hP hD hS 0 rfl rfl 3 (by decide) (hts (.fieldLink RX1 28 "TrolleyGang$Gang" "worksAtFirst" "I") (List.mem_of_getElem? (i := 8) rfl)) (fun _ h9 => h9) rfl (by decide +kernel) rfl rfl (Nat.le_of_ble_eq_true rfl) dX1_copyFrom_36 (fun H locs hP hD hS => ?_)
  have hP : va_P D vwCl (cG cyI aG ao (va_cpy od2 od 0 0 6) (upd (upd (upd g 0 (g2 0)) 1 (g2 1)) 2 (g2 2)) ++ cG cyI aG2 ao2 od2 g2) H := hP
  have hD : va_D A (cG cyI aG ao (va_cpy od2 od 0 0 6) (upd (upd (upd g 0 (g2 0)) 1 (g2 1)) 2 (g2 2)) ++ cG cyI aG2 ao2 od2 g2) := hD
  refine lv_aload_n hx hb dX1_copyFrom_39 rfl (lv_at hl 0 rfl) ?_
  refine lv_aload_n hx hb dX1_copyFrom_40 rfl (lv_at hl 1 rfl) ?_
  refine va_get (D := D) (ci := 1) (v := .int (g2 3)) (C := RX1) (T := TX1) (N := 6) hx hb hts iX1 hown hKK.1 hP 2 rfl rfl 4 (by decide) (hts (.fieldLink RX1 31 "TrolleyGang$Gang" "worksInAll" "I") (List.mem_of_getElem? (i := 9) rfl)) (fun _ h9 => h9) rfl dX1_copyFrom_41 ?_
  refine va_put (D := D) (ci := 1) (v := .int (g2 3)) (ty := .int) (C := RX1) (T := TX1) (N := 6) hx hb hts iX1 tyX1 tyX1_ok nmX1 hown hKK.1 hP hD hS 0 rfl rfl 4 (by decide) (hts (.fieldLink RX1 31 "TrolleyGang$Gang" "worksInAll" "I") (List.mem_of_getElem? (i := 9) rfl)) (fun _ h9 => h9) rfl (by decide +kernel) rfl rfl (Nat.le_of_ble_eq_true rfl) dX1_copyFrom_44 (fun H locs hP hD hS => ?_)
  have hP : va_P D vwCl (cG cyI aG ao (va_cpy od2 od 0 0 6) (upd (upd (upd (upd g 0 (g2 0)) 1 (g2 1)) 2 (g2 2)) 3 (g2 3)) ++ cG cyI aG2 ao2 od2 g2) H := hP
  have hD : va_D A (cG cyI aG ao (va_cpy od2 od 0 0 6) (upd (upd (upd (upd g 0 (g2 0)) 1 (g2 1)) 2 (g2 2)) 3 (g2 3)) ++ cG cyI aG2 ao2 od2 g2) := hD
  refine lv_aload_n hx hb dX1_copyFrom_47 rfl (lv_at hl 0 rfl) ?_
  refine lv_aload_n hx hb dX1_copyFrom_48 rfl (lv_at hl 1 rfl) ?_
  refine va_get (D := D) (ci := 1) (v := .int (g2 4)) (C := RX1) (T := TX1) (N := 6) hx hb hts iX1 hown hKK.1 hP 2 rfl rfl 5 (by decide) (hts (.fieldLink RX1 34 "TrolleyGang$Gang" "putUpInAll" "I") (List.mem_of_getElem? (i := 10) rfl)) (fun _ h9 => h9) rfl dX1_copyFrom_49 ?_
  refine va_put (D := D) (ci := 1) (v := .int (g2 4)) (ty := .int) (C := RX1) (T := TX1) (N := 6) hx hb hts iX1 tyX1 tyX1_ok nmX1 hown hKK.1 hP hD hS 0 rfl rfl 5 (by decide) (hts (.fieldLink RX1 34 "TrolleyGang$Gang" "putUpInAll" "I") (List.mem_of_getElem? (i := 10) rfl)) (fun _ h9 => h9) rfl (by decide +kernel) rfl rfl (Nat.le_of_ble_eq_true rfl) dX1_copyFrom_52 (fun H locs hP hD hS => ?_)
  have hP : va_P D vwCl (cG cyI aG ao (va_cpy od2 od 0 0 6) (upd (upd (upd (upd (upd g 0 (g2 0)) 1 (g2 1)) 2 (g2 2)) 3 (g2 3)) 4 (g2 4)) ++ cG cyI aG2 ao2 od2 g2) H := hP
  have hD : va_D A (cG cyI aG ao (va_cpy od2 od 0 0 6) (upd (upd (upd (upd (upd g 0 (g2 0)) 1 (g2 1)) 2 (g2 2)) 3 (g2 3)) 4 (g2 4)) ++ cG cyI aG2 ao2 od2 g2) := hD
  have e9_1 : (gcp g g2) = (upd (upd (upd (upd (upd g 0 (g2 0)) 1 (g2 1)) 2 (g2 2)) 3 (g2 3)) 4 (g2 4)) := (by rfl)
  exact end_v hx hb hrt hlocks (by first | exact hP | (rw [e9_1]; exact hP)) hS dX1_copyFrom_55
set_option maxHeartbeats 4000000 in
set_option maxRecDepth 100000 in
theorem c_X0_come (l : Launch) (D : va_G) (cyI cyO cyL : ClassId) (LB : List Nat) (B : Nat → Nat → Int32) (b : Nat) (s_ : Int32) (c_ : Int32) (hL_b : b ∈ LB) (hc_ : c_ = 0 ∨ c_ = 1) : cV l yX0_come wsX0_come ({ frames := 0, cells := 0, slots := 0, locals := 0 }) D cyI cyO cyL [.ref b, .int s_, .int c_] ((([] : va_W)) ++ pB LB B) ((([] : va_W)) ++ pB LB (comeS B b s_ c_)) := by
  intro sz
  refine Met.ofW (cc := cX0_come) (maxL := 3) (ret := none) (by decide) rfl ?_
  intro p e s m args below meth c s₁ B9 hml hv
  obtain ⟨rfl, hsz, hP, hKK, hD0⟩ := hv
  have hx := B9.exec
  have hb := B9.bytes
  have hrt := B9.returns
  have hts := atoms_spec (ws := wsX0_come) B9.pre
  have hown : s.vm.findClass RX0 = some m.cls := findClass_of_methodNamed B9.named
  have hlocks := B9.notSynchronized
  have nw := fun {w : Cond} (h : w ∈ nw_all) => NW.use (args := ([.ref b, .int s_, .int c_] : List Value).toArray) hKK.2 h
  have iX0 : ∀ w ∈ wsX00, w ∈ wsX0_come := fun _ h => List.mem_cons_of_mem _ (List.mem_append_right _ h)
  subst hsz
  have hD := hD0.self (sz := s.heap.size)
  generalize hAe : va_A ((([] : va_W)) ++ pB LB B) s.heap.size = A at hD ⊢
  have hA : ∀ q : Nat, s.heap.size ≤ q → A q := fun q h => by rw [← hAe]; exact Or.inr h
  have hS : va_S A s.heap s.heap [] := va_S.rf
  have hl := lv_entry ([.ref b, .int s_, .int c_]) (n := 3) (Nat.le_of_ble_eq_true rfl)
  rw [lg_entry_eq]
  generalize (lg_sl ([.ref b, .int s_, .int c_]) ++ List.replicate (3 - (lg_sl ([.ref b, .int s_, .int c_])).length) Slot.unset).toArray = ls at hl ⊢
  have hl : lv_has ls 3 [(0, .ref b), (1, .int s_), (2, .int c_)] := hl
  refine lv_aload_n hx hb dX0_come_0 rfl (lv_at hl 0 rfl) ?_
  refine lv_iload_n hx hb dX0_come_1 rfl (lv_at hl 1 rfl) ?_
  refine bus_put hx hb hts iX0 hown hKK hP hD hS hL_b 0 (by decide) (hts (.fieldLink RX0 7 "TrolleyGang$Bus" "at" "I") (List.mem_of_getElem? (i := 1) rfl)) (fun _ h9 => h9) rfl (ty := .int) (v := s_) (by decide +kernel) rfl rfl dX0_come_2 (fun H locs hP hD hS => ?_)
  have hP : va_P D vwCl ((([] : va_W)) ++ pB LB (up2 B b 0 s_)) H := hP
  have hD : va_D A ((([] : va_W)) ++ pB LB (up2 B b 0 s_)) := hD
  refine lv_aload_n hx hb dX0_come_5 rfl (lv_at hl 0 rfl) ?_
  refine lv_iload_n hx hb dX0_come_6 rfl (lv_at hl 2 rfl) ?_
  refine bus_put hx hb hts iX0 hown hKK hP hD hS hL_b 1 (by decide) (hts (.fieldLink RX0 13 "TrolleyGang$Bus" "hasScraper" "Z") (List.mem_of_getElem? (i := 2) rfl)) (fun _ h9 => h9) rfl (ty := .boolean) (v := c_) (by decide +kernel) (nar01 hc_) (fit01 hc_) dX0_come_7 (fun H locs hP hD hS => ?_)
  have hP : va_P D vwCl ((([] : va_W)) ++ pB LB (up2 (up2 B b 0 s_) b 1 c_)) H := hP
  have hD : va_D A ((([] : va_W)) ++ pB LB (up2 (up2 B b 0 s_) b 1 c_)) := hD
  refine lv_aload_n hx hb dX0_come_10 rfl (lv_at hl 0 rfl) ?_
  refine lv_iconst (v := 1) hx hb dX0_come_11 (by decide) ?_
  refine bus_put hx hb hts iX0 hown hKK hP hD hS hL_b 2 (by decide) (hts (.fieldLink RX0 17 "TrolleyGang$Bus" "runs" "Z") (List.mem_of_getElem? (i := 3) rfl)) (fun _ h9 => h9) rfl (ty := .boolean) (v := 1) (by decide +kernel) (nar01 (Or.inr rfl)) (fit01 (Or.inr rfl)) dX0_come_12 (fun H locs hP hD hS => ?_)
  have hP : va_P D vwCl ((([] : va_W)) ++ pB LB (up2 (up2 (up2 B b 0 s_) b 1 c_) b 2 1)) H := hP
  have hD : va_D A ((([] : va_W)) ++ pB LB (up2 (up2 (up2 B b 0 s_) b 1 c_) b 2 1)) := hD
  have e9 : comeS B b s_ c_ = (up2 (up2 (up2 B b 0 s_) b 1 c_) b 2 1) := (by rfl)
  exact end_v hx hb hrt hlocks (by rw [e9]; exact hP) hS dX0_come_15
set_option maxHeartbeats 4000000 in
set_option maxRecDepth 100000 in
theorem c_X0_copyFrom (l : Launch) (D : va_G) (cyI cyO cyL : ClassId) (LB : List Nat) (B : Nat → Nat → Int32) (b : Nat) (b2 : Nat) (hL_b : b ∈ LB) (hL_b2 : b2 ∈ LB) (h1 : B b2 1 = 0 ∨ B b2 1 = 1) (h2 : B b2 2 = 0 ∨ B b2 2 = 1) : cV l yX0_copyFrom wsX0_copyFrom ({ frames := 0, cells := 0, slots := 0, locals := 0 }) D cyI cyO cyL [.ref b, .ref b2] ((([] : va_W)) ++ pB LB B) ((([] : va_W)) ++ pB LB (bcp B b b2)) := by
  intro sz
  refine Met.ofW (cc := cX0_copyFrom) (maxL := 2) (ret := none) (by decide) rfl ?_
  intro p e s m args below meth c s₁ B9 hml hv
  obtain ⟨rfl, hsz, hP, hKK, hD0⟩ := hv
  have hx := B9.exec
  have hb := B9.bytes
  have hrt := B9.returns
  have hts := atoms_spec (ws := wsX0_copyFrom) B9.pre
  have hown : s.vm.findClass RX0 = some m.cls := findClass_of_methodNamed B9.named
  have hlocks := B9.notSynchronized
  have nw := fun {w : Cond} (h : w ∈ nw_all) => NW.use (args := ([.ref b, .ref b2] : List Value).toArray) hKK.2 h
  have iX0 : ∀ w ∈ wsX00, w ∈ wsX0_copyFrom := fun _ h => List.mem_cons_of_mem _ (List.mem_append_right _ h)
  subst hsz
  have hD := hD0.self (sz := s.heap.size)
  generalize hAe : va_A ((([] : va_W)) ++ pB LB B) s.heap.size = A at hD ⊢
  have hA : ∀ q : Nat, s.heap.size ≤ q → A q := fun q h => by rw [← hAe]; exact Or.inr h
  have hS : va_S A s.heap s.heap [] := va_S.rf
  have hl := lv_entry ([.ref b, .ref b2]) (n := 2) (Nat.le_of_ble_eq_true rfl)
  rw [lg_entry_eq]
  generalize (lg_sl ([.ref b, .ref b2]) ++ List.replicate (2 - (lg_sl ([.ref b, .ref b2])).length) Slot.unset).toArray = ls at hl ⊢
  have hl : lv_has ls 2 [(0, .ref b), (1, .ref b2)] := hl
  refine lv_aload_n hx hb dX0_copyFrom_0 rfl (lv_at hl 0 rfl) ?_
  refine lv_aload_n hx hb dX0_copyFrom_1 rfl (lv_at hl 1 rfl) ?_
  refine bus_get hx hb hts iX0 hown hKK hP hL_b2 0 (by decide) (hts (.fieldLink RX0 7 "TrolleyGang$Bus" "at" "I") (List.mem_of_getElem? (i := 1) rfl)) (fun _ h9 => h9) dX0_copyFrom_2 ?_
  refine bus_put hx hb hts iX0 hown hKK hP hD hS hL_b 0 (by decide) (hts (.fieldLink RX0 7 "TrolleyGang$Bus" "at" "I") (List.mem_of_getElem? (i := 1) rfl)) (fun _ h9 => h9) rfl (ty := .int) (v := B b2 0) (by decide +kernel) rfl rfl dX0_copyFrom_5 (fun H locs hP hD hS => ?_)
  have hP : va_P D vwCl ((([] : va_W)) ++ pB LB (up2 B b 0 (B b2 0))) H := hP
  have hD : va_D A ((([] : va_W)) ++ pB LB (up2 B b 0 (B b2 0))) := hD
  refine lv_aload_n hx hb dX0_copyFrom_8 rfl (lv_at hl 0 rfl) ?_
  refine lv_aload_n hx hb dX0_copyFrom_9 rfl (lv_at hl 1 rfl) ?_
  refine bus_get hx hb hts iX0 hown hKK hP hL_b2 1 (by decide) (hts (.fieldLink RX0 13 "TrolleyGang$Bus" "hasScraper" "Z") (List.mem_of_getElem? (i := 2) rfl)) (fun _ h9 => h9) dX0_copyFrom_10 ?_
  refine lv_tope (y := B b2 1) rfl ?_
  refine bus_put hx hb hts iX0 hown hKK hP hD hS hL_b 1 (by decide) (hts (.fieldLink RX0 13 "TrolleyGang$Bus" "hasScraper" "Z") (List.mem_of_getElem? (i := 2) rfl)) (fun _ h9 => h9) rfl (ty := .boolean) (v := B b2 1) (by decide +kernel) (nar01 h1) (fit01 h1) dX0_copyFrom_13 (fun H locs hP hD hS => ?_)
  have hP : va_P D vwCl ((([] : va_W)) ++ pB LB (up2 (up2 B b 0 (B b2 0)) b 1 (B b2 1))) H := hP
  have hD : va_D A ((([] : va_W)) ++ pB LB (up2 (up2 B b 0 (B b2 0)) b 1 (B b2 1))) := hD
  refine lv_aload_n hx hb dX0_copyFrom_16 rfl (lv_at hl 0 rfl) ?_
  refine lv_aload_n hx hb dX0_copyFrom_17 rfl (lv_at hl 1 rfl) ?_
  refine bus_get hx hb hts iX0 hown hKK hP hL_b2 2 (by decide) (hts (.fieldLink RX0 17 "TrolleyGang$Bus" "runs" "Z") (List.mem_of_getElem? (i := 3) rfl)) (fun _ h9 => h9) dX0_copyFrom_18 ?_
  refine lv_tope (y := B b2 2) rfl ?_
  refine bus_put hx hb hts iX0 hown hKK hP hD hS hL_b 2 (by decide) (hts (.fieldLink RX0 17 "TrolleyGang$Bus" "runs" "Z") (List.mem_of_getElem? (i := 3) rfl)) (fun _ h9 => h9) rfl (ty := .boolean) (v := B b2 2) (by decide +kernel) (nar01 h2) (fit01 h2) dX0_copyFrom_21 (fun H locs hP hD hS => ?_)
  have hP : va_P D vwCl ((([] : va_W)) ++ pB LB (up2 (up2 (up2 B b 0 (B b2 0)) b 1 (B b2 1)) b 2 (B b2 2))) H := hP
  have hD : va_D A ((([] : va_W)) ++ pB LB (up2 (up2 (up2 B b 0 (B b2 0)) b 1 (B b2 1)) b 2 (B b2 2))) := hD
  refine lv_aload_n hx hb dX0_copyFrom_24 rfl (lv_at hl 0 rfl) ?_
  refine lv_aload_n hx hb dX0_copyFrom_25 rfl (lv_at hl 1 rfl) ?_
  refine bus_get hx hb hts iX0 hown hKK hP hL_b2 3 (by decide) (hts (.fieldLink RX0 20 "TrolleyGang$Bus" "spansInAll" "I") (List.mem_of_getElem? (i := 4) rfl)) (fun _ h9 => h9) dX0_copyFrom_26 ?_
  refine lv_tope (y := B b2 3) rfl ?_
  refine bus_put hx hb hts iX0 hown hKK hP hD hS hL_b 3 (by decide) (hts (.fieldLink RX0 20 "TrolleyGang$Bus" "spansInAll" "I") (List.mem_of_getElem? (i := 4) rfl)) (fun _ h9 => h9) rfl (ty := .int) (v := B b2 3) (by decide +kernel) rfl rfl dX0_copyFrom_29 (fun H locs hP hD hS => ?_)
  have hP : va_P D vwCl ((([] : va_W)) ++ pB LB (up2 (up2 (up2 (up2 B b 0 (B b2 0)) b 1 (B b2 1)) b 2 (B b2 2)) b 3 (B b2 3))) H := hP
  have hD : va_D A ((([] : va_W)) ++ pB LB (up2 (up2 (up2 (up2 B b 0 (B b2 0)) b 1 (B b2 1)) b 2 (B b2 2)) b 3 (B b2 3))) := hD
  refine lv_aload_n hx hb dX0_copyFrom_32 rfl (lv_at hl 0 rfl) ?_
  refine lv_aload_n hx hb dX0_copyFrom_33 rfl (lv_at hl 1 rfl) ?_
  refine bus_get hx hb hts iX0 hown hKK hP hL_b2 4 (by decide) (hts (.fieldLink RX0 23 "TrolleyGang$Bus" "faresInAll" "I") (List.mem_of_getElem? (i := 5) rfl)) (fun _ h9 => h9) dX0_copyFrom_34 ?_
  refine lv_tope (y := B b2 4) rfl ?_
  refine bus_put hx hb hts iX0 hown hKK hP hD hS hL_b 4 (by decide) (hts (.fieldLink RX0 23 "TrolleyGang$Bus" "faresInAll" "I") (List.mem_of_getElem? (i := 5) rfl)) (fun _ h9 => h9) rfl (ty := .int) (v := B b2 4) (by decide +kernel) rfl rfl dX0_copyFrom_37 (fun H locs hP hD hS => ?_)
  have hP : va_P D vwCl ((([] : va_W)) ++ pB LB (up2 (up2 (up2 (up2 (up2 B b 0 (B b2 0)) b 1 (B b2 1)) b 2 (B b2 2)) b 3 (B b2 3)) b 4 (B b2 4))) H := hP
  have hD : va_D A ((([] : va_W)) ++ pB LB (up2 (up2 (up2 (up2 (up2 B b 0 (B b2 0)) b 1 (B b2 1)) b 2 (B b2 2)) b 3 (B b2 3)) b 4 (B b2 4))) := hD
  refine lv_aload_n hx hb dX0_copyFrom_40 rfl (lv_at hl 0 rfl) ?_
  refine lv_aload_n hx hb dX0_copyFrom_41 rfl (lv_at hl 1 rfl) ?_
  refine bus_get hx hb hts iX0 hown hKK hP hL_b2 5 (by decide) (hts (.fieldLink RX0 26 "TrolleyGang$Bus" "hoursStuck" "I") (List.mem_of_getElem? (i := 6) rfl)) (fun _ h9 => h9) dX0_copyFrom_42 ?_
  refine lv_tope (y := B b2 5) rfl ?_
  refine bus_put hx hb hts iX0 hown hKK hP hD hS hL_b 5 (by decide) (hts (.fieldLink RX0 26 "TrolleyGang$Bus" "hoursStuck" "I") (List.mem_of_getElem? (i := 6) rfl)) (fun _ h9 => h9) rfl (ty := .int) (v := B b2 5) (by decide +kernel) rfl rfl dX0_copyFrom_45 (fun H locs hP hD hS => ?_)
  have hP : va_P D vwCl ((([] : va_W)) ++ pB LB (up2 (up2 (up2 (up2 (up2 (up2 B b 0 (B b2 0)) b 1 (B b2 1)) b 2 (B b2 2)) b 3 (B b2 3)) b 4 (B b2 4)) b 5 (B b2 5))) H := hP
  have hD : va_D A ((([] : va_W)) ++ pB LB (up2 (up2 (up2 (up2 (up2 (up2 B b 0 (B b2 0)) b 1 (B b2 1)) b 2 (B b2 2)) b 3 (B b2 3)) b 4 (B b2 4)) b 5 (B b2 5))) := hD
  have e9 : bcp B b b2 = (up2 (up2 (up2 (up2 (up2 (up2 B b 0 (B b2 0)) b 1 (B b2 1)) b 2 (B b2 2)) b 3 (B b2 3)) b 4 (B b2 4)) b 5 (B b2 5)) := (by rfl)
  exact end_v hx hb hrt hlocks (by rw [e9]; exact hP) hS dX0_copyFrom_48
set_option maxHeartbeats 4000000 in
set_option maxRecDepth 100000 in
theorem c_X3_fare (l : Launch) (D : va_G) (cyI cyO cyL : ClassId) (aT : Nat) (ac : Nat) (as_ : Nat) (cd : Nat → Int32) (sw : Nat → Int32) (fd : Int32) (fn : Int32) (i : Int32) : cI l yX3_fare wsX3_fare ({ frames := 0, cells := 0, slots := 0, locals := 0 }) D cyI cyO cyL [.ref aT, .int i] (cT cyI aT ac as_ cd sw fd fn) (cT cyI aT ac as_ cd sw fd fn) (fareS i fd fn) := by
  intro sz
  refine Met.ofW (cc := cX3_fare) (maxL := 2) (ret := (some .int)) (by decide) rfl ?_
  intro p e s m args below meth c s₁ B9 hml hv
  obtain ⟨rfl, hsz, hP, hKK, hD0⟩ := hv
  have hx := B9.exec
  have hb := B9.bytes
  have hrt := B9.returns
  have hts := atoms_spec (ws := wsX3_fare) B9.pre
  have hown : s.vm.findClass RX3 = some m.cls := findClass_of_methodNamed B9.named
  have hlocks := B9.notSynchronized
  have nw := fun {w : Cond} (h : w ∈ nw_all) => NW.use (args := ([.ref aT, .int i] : List Value).toArray) hKK.2 h
  have iX3 : ∀ w ∈ wsX30, w ∈ wsX3_fare := fun _ h => List.mem_cons_of_mem _ (List.mem_append_right _ h)
  subst hsz
  have hD := hD0.self (sz := s.heap.size)
  generalize hAe : va_A (cT cyI aT ac as_ cd sw fd fn) s.heap.size = A at hD ⊢
  have hA : ∀ q : Nat, s.heap.size ≤ q → A q := fun q h => by rw [← hAe]; exact Or.inr h
  have hS : va_S A s.heap s.heap [] := va_S.rf
  have hl := lv_entry ([.ref aT, .int i]) (n := 2) (Nat.le_of_ble_eq_true rfl)
  rw [lg_entry_eq]
  generalize (lg_sl ([.ref aT, .int i]) ++ List.replicate (2 - (lg_sl ([.ref aT, .int i])).length) Slot.unset).toArray = ls at hl ⊢
  have hl : lv_has ls 2 [(0, .ref aT), (1, .int i)] := hl
  refine lv_iload_n hx hb dX3_fare_0 rfl (lv_at hl 1 rfl) ?_
  refine lv_if_eq (tgt := 11) hx hb dX3_fare_1 (by decide) (fun h_1 => ?_) (fun h_1 => ?_)
  · skip
    refine lv_aload_n hx hb dX3_fare_11 rfl (lv_at hl 0 rfl) ?_
    refine va_get (D := D) (ci := 3) (v := .int fd) (C := RX3) (T := TX3) (N := 4) hx hb hts iX3 hown hKK.1 hP 0 rfl rfl 2 (by decide) (hts (.fieldLink RX3 18 "TrolleyGang$Tables" "fareByDay" "I") (List.mem_of_getElem? (i := 2) rfl)) (fun _ h9 => h9) rfl dX3_fare_12 ?_
    have e9 : fareS i fd fn = fd := (by first | with_reducible rfl | (simp only [fareS, h_1, if_true, if_false, reduceIte, not_true_eq_false, not_false_eq_true]; done) | (simp [fareS, h_1]; done))
    exact end_i hx hb hrt hlocks (by rw [e9]) hP hS dX3_fare_15
  · skip
    refine lv_aload_n hx hb dX3_fare_4 rfl (lv_at hl 0 rfl) ?_
    refine va_get (D := D) (ci := 3) (v := .int fn) (C := RX3) (T := TX3) (N := 4) hx hb hts iX3 hown hKK.1 hP 0 rfl rfl 3 (by decide) (hts (.fieldLink RX3 22 "TrolleyGang$Tables" "fareByNight" "I") (List.mem_of_getElem? (i := 1) rfl)) (fun _ h9 => h9) rfl dX3_fare_5 ?_
    refine lv_goto (tgt := 15) hx hb dX3_fare_8 (by decide) ?_
    have e9 : fareS i fd fn = fn := (by first | with_reducible rfl | (simp only [fareS, h_1, if_true, if_false, reduceIte, not_true_eq_false, not_false_eq_true]; done) | (simp [fareS, h_1]; done))
    exact end_i hx hb hrt hlocks (by rw [e9]) hP hS dX3_fare_15
set_option maxHeartbeats 4000000 in
set_option maxRecDepth 100000 in
theorem c_X4_copyFrom (l : Launch) (D : va_G) (cyI cyO cyL : ClassId) (aW : Nat) (aw : Nat) (af : Nat) (aW2 : Nat) (aw2 : Nat) (af2 : Nat) (w : Nat → Int32) (f : Nat → Int32) (w2 : Nat → Int32) (f2 : Nat → Int32) : cV l yX4_copyFrom wsX4_copyFrom ({ frames := 1, cells := 0, slots := 0, locals := 40 }) D cyI cyO cyL [.ref aW, .ref aW2] (cW cyI aW aw af w f ++ cW cyI aW2 aw2 af2 w2 f2) (cW cyI aW aw af (va_cpy w2 w 0 0 24) (va_cpy f2 f 0 0 24) ++ cW cyI aW2 aw2 af2 w2 f2) := by
  intro sz
  refine Met.ofW (cc := cX4_copyFrom) (maxL := 2) (ret := none) (by decide) rfl ?_
  intro p e s m args below meth c s₁ B9 hml hv
  obtain ⟨rfl, hsz, hP, hKK, hD0⟩ := hv
  have hx := B9.exec
  have hb := B9.bytes
  have hrt := B9.returns
  have hts := atoms_spec (ws := wsX4_copyFrom) B9.pre
  have hown : s.vm.findClass RX4 = some m.cls := findClass_of_methodNamed B9.named
  have hlocks := B9.notSynchronized
  have nw := fun {w : Cond} (h : w ∈ nw_all) => NW.use (args := ([.ref aW, .ref aW2] : List Value).toArray) hKK.2 h
  have iX4 : ∀ w ∈ wsX40, w ∈ wsX4_copyFrom := fun _ h => List.mem_cons_of_mem _ (List.mem_append_right _ h)
  subst hsz
  have hD := hD0.self (sz := s.heap.size)
  generalize hAe : va_A (cW cyI aW aw af w f ++ cW cyI aW2 aw2 af2 w2 f2) s.heap.size = A at hD ⊢
  have hA : ∀ q : Nat, s.heap.size ≤ q → A q := fun q h => by rw [← hAe]; exact Or.inr h
  have hS : va_S A s.heap s.heap [] := va_S.rf
  have hl := lv_entry ([.ref aW, .ref aW2]) (n := 2) (Nat.le_of_ble_eq_true rfl)
  rw [lg_entry_eq]
  generalize (lg_sl ([.ref aW, .ref aW2]) ++ List.replicate (2 - (lg_sl ([.ref aW, .ref aW2])).length) Slot.unset).toArray = ls at hl ⊢
  have hl : lv_has ls 2 [(0, .ref aW), (1, .ref aW2)] := hl
  refine lv_aload_n hx hb dX4_copyFrom_0 rfl (lv_at hl 1 rfl) ?_
  refine va_get (D := D) (ci := 4) (v := .ref aw2) (C := RX4) (T := TX4) (N := 2) hx hb hts iX4 hown hKK.1 hP 3 rfl rfl 0 (by decide) (hts (.fieldLink RX4 9 "TrolleyGang$Wires" "worn" "[I") (List.mem_of_getElem? (i := 1) rfl)) (fun _ h9 => h9) rfl dX4_copyFrom_1 ?_
  refine lv_iconst (v := 0) hx hb dX4_copyFrom_4 (by decide) ?_
  refine lv_aload_n hx hb dX4_copyFrom_5 rfl (lv_at hl 0 rfl) ?_
  refine va_get (D := D) (ci := 4) (v := .ref aw) (C := RX4) (T := TX4) (N := 2) hx hb hts iX4 hown hKK.1 hP 0 rfl rfl 0 (by decide) (hts (.fieldLink RX4 9 "TrolleyGang$Wires" "worn" "[I") (List.mem_of_getElem? (i := 1) rfl)) (fun _ h9 => h9) rfl dX4_copyFrom_6 ?_
  refine lv_iconst (v := 0) hx hb dX4_copyFrom_9 (by decide) ?_
  refine lv_bipush (v := 24) hx hb dX4_copyFrom_10 (by decide) ?_
  refine va_copyi hx hb (by rw [hml]; exact hl.1.symm) hown (hts (.methodLink RX4 18 arraycopyName) (List.mem_of_getElem? (i := 2) rfl)) (hts (.native arraycopyName) (List.mem_of_getElem? (i := 3) rfl)) (hts (.static arraycopyName) (List.mem_of_getElem? (i := 4) rfl)) (hts (.initialized "java/lang/System") (List.mem_of_getElem? (i := 5) rfl)) hKK.1 hP hD hS 4 1 0 0 rfl rfl rfl rfl rfl (by decide) (by decide) (by decide) (by decide) (by decide) (fun _ _ => rfl) (Nat.le_of_ble_eq_true rfl) (by decide +kernel) dX4_copyFrom_12 (fun H locs hP hD hS => ?_)
  have hP : va_P D vwCl (cW cyI aW aw af (va_cpy w2 w 0 0 24) f ++ cW cyI aW2 aw2 af2 w2 f2) H := hP
  have hD : va_D A (cW cyI aW aw af (va_cpy w2 w 0 0 24) f ++ cW cyI aW2 aw2 af2 w2 f2) := hD
  refine lv_aload_n hx hb dX4_copyFrom_15 rfl (lv_at hl 1 rfl) ?_
  refine va_get (D := D) (ci := 4) (v := .ref af2) (C := RX4) (T := TX4) (N := 2) hx hb hts iX4 hown hKK.1 hP 3 rfl rfl 1 (by decide) (hts (.fieldLink RX4 15 "TrolleyGang$Wires" "frost" "[I") (List.mem_of_getElem? (i := 6) rfl)) (fun _ h9 => h9) rfl dX4_copyFrom_16 ?_
  refine lv_iconst (v := 0) hx hb dX4_copyFrom_19 (by decide) ?_
  refine lv_aload_n hx hb dX4_copyFrom_20 rfl (lv_at hl 0 rfl) ?_
  refine va_get (D := D) (ci := 4) (v := .ref af) (C := RX4) (T := TX4) (N := 2) hx hb hts iX4 hown hKK.1 hP 0 rfl rfl 1 (by decide) (hts (.fieldLink RX4 15 "TrolleyGang$Wires" "frost" "[I") (List.mem_of_getElem? (i := 6) rfl)) (fun _ h9 => h9) rfl dX4_copyFrom_21 ?_
  refine lv_iconst (v := 0) hx hb dX4_copyFrom_24 (by decide) ?_
  refine lv_bipush (v := 24) hx hb dX4_copyFrom_25 (by decide) ?_
  refine va_copyi hx hb (by rw [hml]; exact hl.1.symm) hown (hts (.methodLink RX4 18 arraycopyName) (List.mem_of_getElem? (i := 2) rfl)) (hts (.native arraycopyName) (List.mem_of_getElem? (i := 3) rfl)) (hts (.static arraycopyName) (List.mem_of_getElem? (i := 4) rfl)) (hts (.initialized "java/lang/System") (List.mem_of_getElem? (i := 5) rfl)) hKK.1 hP hD hS 5 2 0 0 rfl rfl rfl rfl rfl (by decide) (by decide) (by decide) (by decide) (by decide) (fun _ _ => rfl) (Nat.le_of_ble_eq_true rfl) (by decide +kernel) dX4_copyFrom_27 (fun H locs hP hD hS => ?_)
  have hP : va_P D vwCl (cW cyI aW aw af (va_cpy w2 w 0 0 24) (va_cpy f2 f 0 0 24) ++ cW cyI aW2 aw2 af2 w2 f2) H := hP
  have hD : va_D A (cW cyI aW aw af (va_cpy w2 w 0 0 24) (va_cpy f2 f 0 0 24) ++ cW cyI aW2 aw2 af2 w2 f2) := hD
  exact end_v hx hb hrt hlocks hP hS dX4_copyFrom_30
set_option maxHeartbeats 4000000 in
set_option maxRecDepth 100000 in
theorem c_J9_floorMod_7cf53 (l : Launch) (D : va_G) (cyI cyO cyL : ClassId) (x_ : Int32) (y_ : Int32) (hy : ¬ y_ = 0) (hxy : 0 ≤ x_ ^^^ y_) : cI l yJ9_floorMod_7cf53 wsJ9_floorMod_7cf53 ({ frames := 0, cells := 0, slots := 0, locals := 0 }) D cyI cyO cyL [.int x_, .int y_] (([] : va_W)) (([] : va_W)) (ir x_ y_) := by
  intro sz
  refine va_MetF (cc := cJ9_floorMod_7cf53) (maxL := 3) (ret := (some .int)) (by decide +kernel) rfl ?_
  intro p e s m args below meth c s₁ B9 hml hv
  obtain ⟨rfl, hsz, hP, hKK, hD0⟩ := hv
  have hx := B9.exec
  have hb := B9.bytes
  have hrt := B9.returns
  have hts := atoms_spec (ws := wsJ9_floorMod_7cf53) B9.pre
  have hown : s.vm.findClass RJ9 = some m.cls := findClass_of_methodNamed B9.named
  have hlocks := B9.notSynchronized
  have nw := fun {w : Cond} (h : w ∈ nw_all) => NW.use (args := ([.int x_, .int y_] : List Value).toArray) hKK.2 h
  subst hsz
  have hD := hD0.self (sz := s.heap.size)
  generalize hAe : va_A (([] : va_W)) s.heap.size = A at hD ⊢
  have hA : ∀ q : Nat, s.heap.size ≤ q → A q := fun q h => by rw [← hAe]; exact Or.inr h
  have hS : va_S A s.heap s.heap [] := va_S.rf
  have hl := lv_entry ([.int x_, .int y_]) (n := 3) (Nat.le_of_ble_eq_true rfl)
  rw [lg_entry_eq]
  generalize (lg_sl ([.int x_, .int y_]) ++ List.replicate (3 - (lg_sl ([.int x_, .int y_])).length) Slot.unset).toArray = ls at hl ⊢
  have hl : lv_has ls 3 [(0, .int x_), (1, .int y_)] := hl
  refine lv_iload_n hx hb dJ9_floorMod_7cf53_0 rfl (lv_at hl 0 rfl) ?_
  refine lv_iload_n hx hb dJ9_floorMod_7cf53_1 rfl (lv_at hl 1 rfl) ?_
  refine lv_irem hx hb dJ9_floorMod_7cf53_2 hy ?_
  refine lv_tope (y := ir x_ y_) rfl ?_
  refine lv_istore_n (lv' := [(2, .int (ir x_ y_)), (0, .int x_), (1, .int y_)]) hx hb dJ9_floorMod_7cf53_3 rfl hl (by decide) rfl (fun ls hl => ?_)
  refine lv_iload_n hx hb dJ9_floorMod_7cf53_4 rfl (lv_at hl 1 rfl) ?_
  refine lv_iload_n hx hb dJ9_floorMod_7cf53_5 rfl (lv_at hl 2 rfl) ?_
  refine lv_ixor hx hb dJ9_floorMod_7cf53_6 ?_
  refine lv_if_ge (tgt := 18) hx hb dJ9_floorMod_7cf53_7 (by decide) (fun h_1 => ?_) (fun h_1 => ?_)
  · skip
    refine lv_iload_n hx hb dJ9_floorMod_7cf53_18 rfl (lv_at hl 0 rfl) ?_
    have e9 : ir x_ y_ = ir x_ y_ := (by rfl)
    exact end_i hx hb hrt hlocks (by rw [e9]) hP hS dJ9_floorMod_7cf53_19
  · skip
    exact absurd hxy h_1
set_option maxHeartbeats 4000000 in
set_option maxRecDepth 100000 in
theorem c_X5_isNightAt (l : Launch) (D : va_G) (cyI cyO cyL : ClassId) (h_ : Int32) (hh : OkH h_) : cI l yX5_isNightAt wsX5_isNightAt ({ frames := 1, cells := 0, slots := 0, locals := 22 }) D cyI cyO cyL [.int h_] (([] : va_W)) (([] : va_W)) (ntI h_) := by
  intro sz
  refine Met.ofW (cc := cX5_isNightAt) (maxL := 2) (ret := (some .boolean)) (by decide) rfl ?_
  intro p e s m args below meth c s₁ B9 hml hv
  obtain ⟨rfl, hsz, hP, hKK, hD0⟩ := hv
  have hx := B9.exec
  have hb := B9.bytes
  have hrt := B9.returns
  have hts := atoms_spec (ws := wsX5_isNightAt) B9.pre
  have hown : s.vm.findClass RX5 = some m.cls := findClass_of_methodNamed B9.named
  have hlocks := B9.notSynchronized
  have nw := fun {w : Cond} (h : w ∈ nw_all) => NW.use (args := ([.int h_] : List Value).toArray) hKK.2 h
  subst hsz
  have hD := hD0.self (sz := s.heap.size)
  generalize hAe : va_A (([] : va_W)) s.heap.size = A at hD ⊢
  have hA : ∀ q : Nat, s.heap.size ≤ q → A q := fun q h => by rw [← hAe]; exact Or.inr h
  have hS : va_S A s.heap s.heap [] := va_S.rf
  have hl := lv_entry ([.int h_]) (n := 2) (Nat.le_of_ble_eq_true rfl)
  rw [lg_entry_eq]
  generalize (lg_sl ([.int h_]) ++ List.replicate (2 - (lg_sl ([.int h_])).length) Slot.unset).toArray = ls at hl ⊢
  have hl : lv_has ls 2 [(0, .int h_)] := hl
  refine lv_iload_n hx hb dX5_isNightAt_0 rfl (lv_at hl 0 rfl) ?_
  refine lv_bipush (v := 24) hx hb dX5_isNightAt_1 (by decide) ?_
  have hPc := hP.sub (ws' := ([] : va_W)) [] rfl
  have hDc := hD.sub (ws' := ([] : va_W)) [] (by decide) rfl
  refine ret_i (W1 := ([] : va_W)) (W2 := ([] : va_W)) (ws1 := (([] : va_W))) (r := ir h_ 24) (run_S (n := 2) (As := [.int h_, .int 24]) (rest := []) ⟨hx, hb, hml, hown, hts⟩ (c_J9_floorMod_7cf53 l D cyI cyO cyL h_ 24 (by decide) (fmod_h24 hh) _) ggX5_isNightAt_J9_floorMod_7cf53 rfl rfl rfl (hts (.methodLink RX5 234 yJ9_floorMod_7cf53) (List.mem_of_getElem? (i := 1) rfl)) (hts (.initialized RJ9) (List.mem_of_getElem? (i := 3) rfl)) (hts (.static yJ9_floorMod_7cf53) (List.mem_of_getElem? (i := 2) rfl)) (by decide +kernel) ⟨Nat.le_of_ble_eq_true rfl, Nat.le_of_ble_eq_true rfl⟩ hKK hPc hDc rfl hl.1 rfl (Nat.le_of_ble_eq_true rfl) dX5_isNightAt_3 ⟨Nat.zero_le _, Nat.zero_le _⟩) hP hD hS hA [] rfl rfl [] (by decide +kernel) rfl (fun H locs hP hD hS => ?_)
  refine lv_istore_n (lv' := [(1, .int (ir h_ 24)), (0, .int h_)]) hx hb dX5_isNightAt_6 rfl hl (by decide) rfl (fun ls hl => ?_)
  refine lv_iload_n hx hb dX5_isNightAt_7 rfl (lv_at hl 0 rfl) ?_
  refine lv_iconst (v := 5) hx hb dX5_isNightAt_8 (by decide) ?_
  refine lv_icmp_le (tgt := 18) hx hb dX5_isNightAt_9 (by decide) (fun h_1 => ?_) (fun h_1 => ?_)
  · skip
    refine lv_iconst (v := 1) hx hb dX5_isNightAt_18 (by decide) ?_
    refine lv_goto (tgt := 23) hx hb dX5_isNightAt_19 (by decide) ?_
    have e9 : ntI h_ = 1 := (by first | with_reducible rfl | (simp only [ntI, h_1, if_true, if_false, reduceIte, not_true_eq_false, not_false_eq_true]; done) | (simp [ntI, h_1]; done))
    exact end_z hx hb hrt hlocks (by decide) (by rw [e9]) hP hS dX5_isNightAt_23
  · skip
    refine lv_iload_n hx hb dX5_isNightAt_12 rfl (lv_at hl 0 rfl) ?_
    refine lv_bipush (v := 20) hx hb dX5_isNightAt_13 (by decide) ?_
    refine lv_icmp_lt (tgt := 22) hx hb dX5_isNightAt_15 (by decide) (fun h_2 => ?_) (fun h_2 => ?_)
    · skip
      refine lv_iconst (v := 0) hx hb dX5_isNightAt_22 (by decide) ?_
      have e9 : ntI h_ = 0 := (by first | with_reducible rfl | (simp only [ntI, h_1, h_2, if_true, if_false, reduceIte, not_true_eq_false, not_false_eq_true]; done) | (simp [ntI, h_1, h_2]; done))
      exact end_z hx hb hrt hlocks (by decide) (by rw [e9]) hP hS dX5_isNightAt_23
    · skip
      refine lv_iconst (v := 1) hx hb dX5_isNightAt_18 (by decide) ?_
      refine lv_goto (tgt := 23) hx hb dX5_isNightAt_19 (by decide) ?_
      have e9 : ntI h_ = 1 := (by first | with_reducible rfl | (simp only [ntI, h_1, h_2, if_true, if_false, reduceIte, not_true_eq_false, not_false_eq_true]; done) | (simp [ntI, h_1, h_2]; done))
      exact end_z hx hb hrt hlocks (by decide) (by rw [e9]) hP hS dX5_isNightAt_23
