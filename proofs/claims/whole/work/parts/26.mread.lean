set_option maxHeartbeats 4000000 in
set_option maxRecDepth 100000 in
theorem c_X6_passAll (l : Launch) (D : va_G) (cyI cyO cyL : ClassId) (aM : Nat) (ac : Nat) (as_ : Nat) (an : Nat) (ah : Nat) (ar : Nat) (th : Int32) (bu : Int32) (fd : Int32) (fn : Int32) (cd : Nat → Int32) (sw : Nat → Int32) (rw : Nat → Int32) (h_ : Nat) (n : Nat) (M_ : Nat) (hn : n ≤ 6) (hbu : bu = nI n) (hok : OkN M_ rw) (hM : M_ + 300 < 2 ^ 30) (hh : h_ ≤ 96) (hsw : ∀ k, sw k = -1 ∨ vp_in (sw k) 24) : cV l yX6_passAll wsX6_passAll ({ frames := 4, cells := 0, slots := 0, locals := 86 }) D cyI cyO cyL [.ref aM, .ref ar, .int (nI h_)] (cM aM ac as_ an ah th bu fd fn ++ cA cyI ac 8 cd ++ cA cyI as_ 12 sw ++ cA cyI ar 121 rw) (cM aM ac as_ an ah th bu fd fn ++ cA cyI ac 8 cd ++ cA cyI as_ 12 sw ++ cA cyI ar 121 (mpaL cd sw fd fn n h_ rw)) := by
  intro sz
  refine Met.ofW (cc := cX6_passAll) (maxL := 4) (ret := none) (by decide) rfl ?_
  intro p e s m args below meth c s₁ B9 hml hv
  obtain ⟨rfl, hsz, hP, hKK, hD0⟩ := hv
  have hx := B9.exec
  have hb := B9.bytes
  have hrt := B9.returns
  have hts := atoms_spec (ws := wsX6_passAll) B9.pre
  have hown : s.vm.findClass RX6 = some m.cls := findClass_of_methodNamed B9.named
  have hlocks := B9.notSynchronized
  have nw := fun {w : Cond} (h : w ∈ nw_all) => NW.use (args := ([.ref aM, .ref ar, .int (nI h_)] : List Value).toArray) hKK.2 h
  subst hsz
  have hD := hD0.self (sz := s.heap.size)
  generalize hAe : va_A (cM aM ac as_ an ah th bu fd fn ++ cA cyI ac 8 cd ++ cA cyI as_ 12 sw ++ cA cyI ar 121 rw) s.heap.size = A at hD ⊢
  have hA : ∀ q : Nat, s.heap.size ≤ q → A q := fun q h => by rw [← hAe]; exact Or.inr h
  have hS : va_S A s.heap s.heap [] := va_S.rf
  have hl := lv_entry ([.ref aM, .ref ar, .int (nI h_)]) (n := 4) (Nat.le_of_ble_eq_true rfl)
  rw [lg_entry_eq]
  generalize (lg_sl ([.ref aM, .ref ar, .int (nI h_)]) ++ List.replicate (4 - (lg_sl ([.ref aM, .ref ar, .int (nI h_)])).length) Slot.unset).toArray = ls at hl ⊢
  have hl : lv_has ls 4 [(0, .ref aM), (1, .ref ar), (2, .int (nI h_))] := hl
  refine lv_iconst (v := 0) hx hb dX6_passAll_0 (by decide) ?_
  refine lv_istore_n (lv' := [(3, .int 0), (0, .ref aM), (1, .ref ar), (2, .int (nI h_))]) hx hb dX6_passAll_1 rfl hl (by decide) rfl (fun ls hl => ?_)
  refine wloop (σ := (Nat) × (Nat → Int32)) (fun d9 x9 H9 L9 s9 => ((x9.1) + d9 = h_) ∧ (mpaL cd sw fd fn n h_ rw = mpaL cd sw fd fn n d9 (x9.2)) ∧ (OkN (M_ + (x9.1)) (x9.2)) ∧ (va_P D vwCl (cM aM ac as_ an ah th bu fd fn ++ cA cyI ac 8 cd ++ cA cyI as_ 12 sw ++ cA cyI ar 121 (x9.2)) H9) ∧ (va_D A (cM aM ac as_ an ah th bu fd fn ++ cA cyI ac 8 cd ++ cA cyI as_ 12 sw ++ cA cyI ar 121 (x9.2))) ∧ (va_S A s.heap H9 L9) ∧ (lv_has s9 4 [(3, .int (nI (x9.1))), (0, .ref aM), (1, .ref ar), (2, .int (nI h_))])) (fun d9 x9 H locs ls g9 ih => ?_) h_ (0, rw) _ _ _ ⟨(by omega), rfl, hok, hP, hD, hS, lv_sub hl [0, 1, 2, 3] rfl⟩
  obtain ⟨i, rw1⟩ := x9
  obtain ⟨hid, hsp, hq, hP, hD, hS, hl⟩ := g9
  obtain ⟨d, rfl⟩ : ∃ z, z = d9 := ⟨_, rfl⟩
  have hid : i + d = h_ := hid
  have hsp : mpaL cd sw fd fn n h_ rw = mpaL cd sw fd fn n d rw1 := hsp
  have hq : OkN (M_ + i) rw1 := hq
  have hP : va_P D vwCl (cM aM ac as_ an ah th bu fd fn ++ cA cyI ac 8 cd ++ cA cyI as_ 12 sw ++ cA cyI ar 121 rw1) H := hP
  have hD : va_D A (cM aM ac as_ an ah th bu fd fn ++ cA cyI ac 8 cd ++ cA cyI as_ 12 sw ++ cA cyI ar 121 rw1) := hD
  have hl : lv_has ls 4 [(3, .int (nI i)), (0, .ref aM), (1, .ref ar), (2, .int (nI h_))] := hl
  refine lv_iload_n hx hb dX6_passAll_2 rfl (lv_at hl 0 rfl) ?_
  refine lv_iload_n hx hb dX6_passAll_3 rfl (lv_at hl 3 rfl) ?_
  refine lv_icmp_ge (tgt := 18) hx hb dX6_passAll_4 (by decide) (fun h_1 => ?_) (fun h_1 => ?_)
  · skip
    obtain rfl : d = 0 := by have h9 := (nI_leI (a := h_) (b := i) (by omega) (by omega)).mp h_1; omega
    have hiN : i = h_ := by omega
    have e9 : mpaL cd sw fd fn n h_ rw = rw1 := (hsp.trans rfl)
    exact end_v hx hb hrt hlocks (by rw [e9]; exact hP) hS dX6_passAll_18
  · skip
    have hlt : i < h_ := by have h9 := mt (nI_leI (a := h_) (b := i) (by omega) (by omega)).mpr h_1; omega
    obtain ⟨d, rfl⟩ : ∃ k, d = k + 1 := ⟨d - 1, by omega⟩
    refine lv_aload_n hx hb dX6_passAll_7 rfl (lv_at hl 1 rfl) ?_
    refine lv_aload_n hx hb dX6_passAll_8 rfl (lv_at hl 2 rfl) ?_
    have hPc := hP.sub (ws' := (cM aM ac as_ an ah th bu fd fn ++ cA cyI ac 8 cd ++ cA cyI as_ 12 sw ++ cA cyI ar 121 rw1)) [0, 1, 2, 3] rfl
    have hDc := hD.sub (ws' := (cM aM ac as_ an ah th bu fd fn ++ cA cyI ac 8 cd ++ cA cyI as_ 12 sw ++ cA cyI ar 121 rw1)) [0, 1, 2, 3] (by decide) rfl
    refine ret_v (W1 := (cM aM ac as_ an ah th bu fd fn ++ cA cyI ac 8 cd ++ cA cyI as_ 12 sw ++ cA cyI ar 121 rw1)) (W2 := (cM aM ac as_ an ah th bu fd fn ++ cA cyI ac 8 cd ++ cA cyI as_ 12 sw ++ cA cyI ar 121 (mpass cd sw fd fn n rw1))) (ws1 := (cM aM ac as_ an ah th bu fd fn ++ cA cyI ac 8 cd ++ cA cyI as_ 12 sw ++ cA cyI ar 121 (mpass cd sw fd fn n rw1))) (run_V (q := (RX6, TX6, 8)) (n := 1) (As := [.ref ar]) (rest := []) ⟨hx, hb, hml, hown, hts⟩ (c_X6_pass l D cyI cyO cyL aM ac as_ an ah ar th bu fd fn cd sw rw1 n (by first | assumption | omega) (by first | assumption | omega) hq.1 (by first | assumption | omega) _) ggX6_passAll_X6_pass rfl rfl rfl (hts (.methodLink RX6 121 yX6_pass) (List.mem_of_getElem? (i := 1) rfl)) (hts (.initialized RX6) (List.mem_of_getElem? (i := 4) rfl)) (hts (.instanceMethod yX6_pass) (List.mem_of_getElem? (i := 2) rfl)) (hts (.selects RX6 yX6_pass yX6_pass) (List.mem_of_getElem? (i := 3) rfl)) (by decide +kernel) ⟨Nat.le_of_ble_eq_true rfl, Nat.le_of_ble_eq_true rfl⟩ hKK hPc hDc (ci := 6) (q0 := 0) rfl rfl rfl hl.1 rfl (Nat.le_of_ble_eq_true rfl) dX6_passAll_9 ⟨Nat.zero_le _, Nat.zero_le _⟩) hP hD hS hA [0, 1, 2, 3] rfl rfl [(true, 0), (true, 1), (true, 2), (true, 3)] (by decide +kernel) rfl (fun H locs hP hD hS => ?_)
    refine lv_iinc (v := nI (i + 1)) (lv' := [(3, .int (nI (i + 1))), (0, .ref aM), (1, .ref ar), (2, .int (nI h_))]) hx hb dX6_passAll_12 hl (k := 0) rfl (nI_1 i) (by decide) rfl (fun ls hl => ?_)
    refine lv_goto (tgt := 2) hx hb dX6_passAll_15 (by decide) ?_
    exact ih d ((i + 1), (mpass cd sw fd fn n rw1)) _ _ _ (by omega) ⟨(by omega), (hsp.trans rfl), (OkN.pass (M := M_ + i) hn hsw (by omega) hq), hP, hD, hS, lv_sub hl [0, 1, 2, 3] rfl⟩
set_option maxHeartbeats 4000000 in
set_option maxRecDepth 100000 in
theorem c_X6_lookAhead (l : Launch) (D : va_G) (cyI cyO cyL : ClassId) (aM : Nat) (ac : Nat) (as_ : Nat) (an : Nat) (ah : Nat) (th : Int32) (bu : Int32) (fd : Int32) (fn : Int32) (rn : Nat → Int32) (ra : Nat → Int32) : cV l yX6_lookAhead wsX6_lookAhead ({ frames := 1, cells := 0, slots := 0, locals := 40 }) D cyI cyO cyL [.ref aM] (cM aM ac as_ an ah th bu fd fn ++ cA cyI an 121 rn ++ cA cyI ah 121 ra) (cM aM ac as_ an ah th bu fd fn ++ cA cyI an 121 rn ++ cA cyI ah 121 (va_cpy rn ra 0 0 121)) := by
  intro sz
  refine Met.ofW (cc := cX6_lookAhead) (maxL := 1) (ret := none) (by decide) rfl ?_
  intro p e s m args below meth c s₁ B9 hml hv
  obtain ⟨rfl, hsz, hP, hKK, hD0⟩ := hv
  have hx := B9.exec
  have hb := B9.bytes
  have hrt := B9.returns
  have hts := atoms_spec (ws := wsX6_lookAhead) B9.pre
  have hown : s.vm.findClass RX6 = some m.cls := findClass_of_methodNamed B9.named
  have hlocks := B9.notSynchronized
  have nw := fun {w : Cond} (h : w ∈ nw_all) => NW.use (args := ([.ref aM] : List Value).toArray) hKK.2 h
  have iX6 : ∀ w ∈ wsX60, w ∈ wsX6_lookAhead := fun _ h => List.mem_cons_of_mem _ (List.mem_append_right _ h)
  subst hsz
  have hD := hD0.self (sz := s.heap.size)
  generalize hAe : va_A (cM aM ac as_ an ah th bu fd fn ++ cA cyI an 121 rn ++ cA cyI ah 121 ra) s.heap.size = A at hD ⊢
  have hA : ∀ q : Nat, s.heap.size ≤ q → A q := fun q h => by rw [← hAe]; exact Or.inr h
  have hS : va_S A s.heap s.heap [] := va_S.rf
  have hl := lv_entry ([.ref aM]) (n := 1) (Nat.le_of_ble_eq_true rfl)
  rw [lg_entry_eq]
  generalize (lg_sl ([.ref aM]) ++ List.replicate (1 - (lg_sl ([.ref aM])).length) Slot.unset).toArray = ls at hl ⊢
  have hl : lv_has ls 1 [(0, .ref aM)] := hl
  refine lv_aload_n hx hb dX6_lookAhead_0 rfl (lv_at hl 0 rfl) ?_
  refine va_get (D := D) (ci := 6) (v := .ref an) (C := RX6) (T := TX6) (N := 8) hx hb hts iX6 hown hKK.1 hP 0 rfl rfl 6 (by decide) (hts (.fieldLink RX6 26 "TrolleyGangModel" "now" "[I") (List.mem_of_getElem? (i := 1) rfl)) (fun _ h9 => h9) rfl dX6_lookAhead_1 ?_
  refine lv_iconst (v := 0) hx hb dX6_lookAhead_4 (by decide) ?_
  refine lv_aload_n hx hb dX6_lookAhead_5 rfl (lv_at hl 0 rfl) ?_
  refine va_get (D := D) (ci := 6) (v := .ref ah) (C := RX6) (T := TX6) (N := 8) hx hb hts iX6 hown hKK.1 hP 0 rfl rfl 7 (by decide) (hts (.fieldLink RX6 29 "TrolleyGangModel" "ahead" "[I") (List.mem_of_getElem? (i := 2) rfl)) (fun _ h9 => h9) rfl dX6_lookAhead_6 ?_
  refine lv_iconst (v := 0) hx hb dX6_lookAhead_9 (by decide) ?_
  refine lv_aload_n hx hb dX6_lookAhead_10 rfl (lv_at hl 0 rfl) ?_
  refine va_get (D := D) (ci := 6) (v := .ref an) (C := RX6) (T := TX6) (N := 8) hx hb hts iX6 hown hKK.1 hP 0 rfl rfl 6 (by decide) (hts (.fieldLink RX6 26 "TrolleyGangModel" "now" "[I") (List.mem_of_getElem? (i := 1) rfl)) (fun _ h9 => h9) rfl dX6_lookAhead_11 ?_
  refine va_alen hx hb hKK.1 hP 1 0 rfl (v := 121) rfl rfl dX6_lookAhead_14 ?_
  refine va_copyi hx hb (by rw [hml]; exact hl.1.symm) hown (hts (.methodLink RX6 124 arraycopyName) (List.mem_of_getElem? (i := 3) rfl)) (hts (.native arraycopyName) (List.mem_of_getElem? (i := 4) rfl)) (hts (.static arraycopyName) (List.mem_of_getElem? (i := 5) rfl)) (hts (.initialized "java/lang/System") (List.mem_of_getElem? (i := 6) rfl)) hKK.1 hP hD hS 1 2 0 0 rfl rfl rfl rfl rfl (by decide) (by decide) (by decide) (by decide) (by decide) (fun _ _ => rfl) (Nat.le_of_ble_eq_true rfl) (by decide +kernel) dX6_lookAhead_15 (fun H locs hP hD hS => ?_)
  have hP : va_P D vwCl (cM aM ac as_ an ah th bu fd fn ++ cA cyI an 121 rn ++ cA cyI ah 121 (va_cpy rn ra 0 0 121)) H := hP
  have hD : va_D A (cM aM ac as_ an ah th bu fd fn ++ cA cyI an 121 rn ++ cA cyI ah 121 (va_cpy rn ra 0 0 121)) := hD
  have e9 : va_cpy rn ra 0 0 121 = va_cpy rn ra 0 0 121 := (by rfl)
  exact end_v hx hb hrt hlocks (by rw [e9]; exact hP) hS dX6_lookAhead_18
set_option maxHeartbeats 4000000 in
set_option maxRecDepth 100000 in
theorem c_X6_free (l : Launch) (D : va_G) (cyI cyO cyL : ClassId) (aM : Nat) (ac : Nat) (as_ : Nat) (an : Nat) (ah : Nat) (th : Int32) (bu : Int32) (fd : Int32) (fn : Int32) (rn : Nat → Int32) (s_ : Int32) (hs : vp_in s_ 24) : cI l yX6_free wsX6_free ({ frames := 0, cells := 0, slots := 0, locals := 0 }) D cyI cyO cyL [.ref aM, .int s_] (cM aM ac as_ an ah th bu fd fn ++ cA cyI an 121 rn) (cM aM ac as_ an ah th bu fd fn ++ cA cyI an 121 rn) (mfree rn s_ 24 1) := by
  intro sz
  refine Met.ofW (cc := cX6_free) (maxL := 3) (ret := (some .int)) (by decide) rfl ?_
  intro p e s m args below meth c s₁ B9 hml hv
  obtain ⟨rfl, hsz, hP, hKK, hD0⟩ := hv
  have hx := B9.exec
  have hb := B9.bytes
  have hrt := B9.returns
  have hts := atoms_spec (ws := wsX6_free) B9.pre
  have hown : s.vm.findClass RX6 = some m.cls := findClass_of_methodNamed B9.named
  have hlocks := B9.notSynchronized
  have nw := fun {w : Cond} (h : w ∈ nw_all) => NW.use (args := ([.ref aM, .int s_] : List Value).toArray) hKK.2 h
  have iX6 : ∀ w ∈ wsX60, w ∈ wsX6_free := fun _ h => List.mem_cons_of_mem _ (List.mem_append_right _ h)
  subst hsz
  have hD := hD0.self (sz := s.heap.size)
  generalize hAe : va_A (cM aM ac as_ an ah th bu fd fn ++ cA cyI an 121 rn) s.heap.size = A at hD ⊢
  have hA : ∀ q : Nat, s.heap.size ≤ q → A q := fun q h => by rw [← hAe]; exact Or.inr h
  have hS : va_S A s.heap s.heap [] := va_S.rf
  have hl := lv_entry ([.ref aM, .int s_]) (n := 3) (Nat.le_of_ble_eq_true rfl)
  rw [lg_entry_eq]
  generalize (lg_sl ([.ref aM, .int s_]) ++ List.replicate (3 - (lg_sl ([.ref aM, .int s_])).length) Slot.unset).toArray = ls at hl ⊢
  have hl : lv_has ls 3 [(0, .ref aM), (1, .int s_)] := hl
  refine lv_iconst (v := 1) hx hb dX6_free_0 (by decide) ?_
  refine lv_istore_n (lv' := [(2, .int 1), (0, .ref aM), (1, .int s_)]) hx hb dX6_free_1 rfl hl (by decide) rfl (fun ls hl => ?_)
  refine wloop (σ := (Nat)) (fun d9 x9 H9 L9 s9 => (x9 + d9 = 25) ∧ (mfree rn s_ 24 1 = mfree rn s_ d9 x9) ∧ (va_P D vwCl (cM aM ac as_ an ah th bu fd fn ++ cA cyI an 121 rn) H9) ∧ (va_D A (cM aM ac as_ an ah th bu fd fn ++ cA cyI an 121 rn)) ∧ (va_S A s.heap H9 L9) ∧ (lv_has s9 3 [(2, .int (nI x9)), (0, .ref aM), (1, .int s_)])) (fun d9 x9 H locs ls g9 ih => ?_) 24 1 _ _ _ ⟨(by omega), rfl, hP, hD, hS, lv_sub hl [0, 1, 2] rfl⟩
  obtain ⟨i, rfl⟩ : ∃ z, z = x9 := ⟨_, rfl⟩
  obtain ⟨hid, hsp, hP, hD, hS, hl⟩ := g9
  obtain ⟨d, rfl⟩ : ∃ z, z = d9 := ⟨_, rfl⟩
  have hid : i + d = 25 := hid
  have hsp : mfree rn s_ 24 1 = mfree rn s_ d i := hsp
  have hP : va_P D vwCl (cM aM ac as_ an ah th bu fd fn ++ cA cyI an 121 rn) H := hP
  have hD : va_D A (cM aM ac as_ an ah th bu fd fn ++ cA cyI an 121 rn) := hD
  have hl : lv_has ls 3 [(2, .int (nI i)), (0, .ref aM), (1, .int s_)] := hl
  refine lv_iload_n hx hb dX6_free_2 rfl (lv_at hl 0 rfl) ?_
  refine lv_bipush (v := 24) hx hb dX6_free_3 (by decide) ?_
  refine lv_icmp_gt (tgt := 36) hx hb dX6_free_5 (by decide) (fun h_1 => ?_) (fun h_1 => ?_)
  · skip
    obtain rfl : d = 0 := by have h9 := mt (nI_leI (a := i) (b := 24) (by omega) (by omega)).mpr (fun h8 => absurd h_1 (Int32.not_lt.mpr h8)); omega
    refine lv_bipush (v := 24) hx hb dX6_free_36 (by decide) ?_
    have e9 : mfree rn s_ 24 1 = 24 := (hsp.trans (by first | with_reducible rfl | (simp only [mfree, h_1, if_true, if_false, reduceIte, not_true_eq_false, not_false_eq_true]; done) | (simp [mfree, h_1]; done)))
    exact end_i hx hb hrt hlocks (by rw [e9]) hP hS dX6_free_38
  · skip
    have hlt : i < 25 := by have h9 := (nI_leI (a := i) (b := 24) (by omega) (by omega)).mp (Int32.not_lt.mp h_1); omega
    obtain ⟨d, rfl⟩ : ∃ k, d = k + 1 := ⟨d - 1, by omega⟩
    refine lv_aload_n hx hb dX6_free_8 rfl (lv_at hl 1 rfl) ?_
    refine va_get (D := D) (ci := 6) (v := .ref an) (C := RX6) (T := TX6) (N := 8) hx hb hts iX6 hown hKK.1 hP 0 rfl rfl 6 (by decide) (hts (.fieldLink RX6 26 "TrolleyGangModel" "now" "[I") (List.mem_of_getElem? (i := 1) rfl)) (fun _ h9 => h9) rfl dX6_free_9 ?_
    refine lv_bipush (v := 48) hx hb dX6_free_12 (by decide) ?_
    refine lv_iload_n hx hb dX6_free_14 rfl (lv_at hl 2 rfl) ?_
    refine lv_iload_n hx hb dX6_free_15 rfl (lv_at hl 0 rfl) ?_
    refine lv_iadd hx hb dX6_free_16 ?_
    refine lv_bipush (v := 24) hx hb dX6_free_17 (by decide) ?_
    refine lv_irem hx hb dX6_free_19 (by decide) ?_
    refine lv_tope (y := ir (s_ + (nI i)) 24) rfl ?_
    refine lv_iadd hx hb dX6_free_20 ?_
    refine va_iald hx hb hKK.1 hP 1 0 rfl rfl (hin := (in48 (fre_in hs (by omega)))) dX6_free_21 ?_
    refine lv_tope (y := rn (48 + (ir (s_ + nI i) 24).toNatClampNeg)) (by rw [tn48 (fre_in hs (by omega))]) ?_
    refine lv_iconst (v := 1) hx hb dX6_free_22 (by decide) ?_
    refine lv_icmp_ne (tgt := 30) hx hb dX6_free_23 (by decide) (fun h_2 => ?_) (fun h_2 => ?_)
    · skip
      refine lv_iinc (v := nI (i + 1)) (lv' := [(2, .int (nI (i + 1))), (0, .ref aM), (1, .int s_)]) hx hb dX6_free_30 hl (k := 0) rfl (nI_1 i) (by decide) rfl (fun ls hl => ?_)
      refine lv_goto (tgt := 2) hx hb dX6_free_33 (by decide) ?_
      exact ih d (i + 1) _ _ _ (by omega) ⟨(by omega), (hsp.trans (by first | with_reducible rfl | (simp only [mfree, h_1, h_2, if_true, if_false, reduceIte, not_true_eq_false, not_false_eq_true]; done) | (simp [mfree, h_1, h_2]; done))), hP, hD, hS, lv_sub hl [0, 1, 2] rfl⟩
    · skip
      refine lv_iload_n hx hb dX6_free_26 rfl (lv_at hl 0 rfl) ?_
      refine lv_iconst (v := 1) hx hb dX6_free_27 (by decide) ?_
      refine lv_isub hx hb dX6_free_28 ?_
      have e9 : mfree rn s_ 24 1 = (nI i) - 1 := (hsp.trans (by first | with_reducible rfl | (simp only [mfree, h_1, h_2, if_true, if_false, reduceIte, not_true_eq_false, not_false_eq_true]; done) | (simp [mfree, h_1, h_2]; done)))
      exact end_i hx hb hrt hlocks (by rw [e9]) hP hS dX6_free_29
set_option maxHeartbeats 4000000 in
set_option maxRecDepth 100000 in
theorem c_X6_busTold (l : Launch) (D : va_G) (cyI cyO cyL : ClassId) (aM : Nat) (ac : Nat) (as_ : Nat) (an : Nat) (ah : Nat) (th : Int32) (bu : Int32) (fd : Int32) (fn : Int32) (rn : Nat → Int32) (b_ : Int32) (x_ : Int32) (hb_ : vp_in b_ 6) (hxx : vp_in x_ 7) (hat : vp_in (rn (72 + 6 * b_.toNatClampNeg)) 24) : cI l yX6_busTold wsX6_busTold ({ frames := 1, cells := 0, slots := 0, locals := 22 }) D cyI cyO cyL [.ref aM, .int b_, .int x_] (cM aM ac as_ an ah th bu fd fn ++ cA cyI an 121 rn) (cM aM ac as_ an ah th bu fd fn ++ cA cyI an 121 rn) (mbtold rn b_ x_) := by
  intro sz
  refine Met.ofW (cc := cX6_busTold) (maxL := 3) (ret := (some .int)) (by decide) rfl ?_
  intro p e s m args below meth c s₁ B9 hml hv
  obtain ⟨rfl, hsz, hP, hKK, hD0⟩ := hv
  have hx := B9.exec
  have hb := B9.bytes
  have hrt := B9.returns
  have hts := atoms_spec (ws := wsX6_busTold) B9.pre
  have hown : s.vm.findClass RX6 = some m.cls := findClass_of_methodNamed B9.named
  have hlocks := B9.notSynchronized
  have nw := fun {w : Cond} (h : w ∈ nw_all) => NW.use (args := ([.ref aM, .int b_, .int x_] : List Value).toArray) hKK.2 h
  have iX6 : ∀ w ∈ wsX60, w ∈ wsX6_busTold := fun _ h => List.mem_cons_of_mem _ (List.mem_append_right _ h)
  subst hsz
  have hD := hD0.self (sz := s.heap.size)
  generalize hAe : va_A (cM aM ac as_ an ah th bu fd fn ++ cA cyI an 121 rn) s.heap.size = A at hD ⊢
  have hA : ∀ q : Nat, s.heap.size ≤ q → A q := fun q h => by rw [← hAe]; exact Or.inr h
  have hS : va_S A s.heap s.heap [] := va_S.rf
  have hl := lv_entry ([.ref aM, .int b_, .int x_]) (n := 3) (Nat.le_of_ble_eq_true rfl)
  rw [lg_entry_eq]
  generalize (lg_sl ([.ref aM, .int b_, .int x_]) ++ List.replicate (3 - (lg_sl ([.ref aM, .int b_, .int x_])).length) Slot.unset).toArray = ls at hl ⊢
  have hl : lv_has ls 3 [(0, .ref aM), (1, .int b_), (2, .int x_)] := hl
  refine lv_iload_n hx hb dX6_busTold_0 rfl (lv_at hl 2 rfl) ?_
  refine lv_bipush (v := 6) hx hb dX6_busTold_1 (by decide) ?_
  refine lv_icmp_ne (tgt := 25) hx hb dX6_busTold_3 (by decide) (fun h_1 => ?_) (fun h_1 => ?_)
  · skip
    have hx6 := h_1
    refine lv_aload_n hx hb dX6_busTold_25 rfl (lv_at hl 0 rfl) ?_
    refine va_get (D := D) (ci := 6) (v := .ref an) (C := RX6) (T := TX6) (N := 8) hx hb hts iX6 hown hKK.1 hP 0 rfl rfl 6 (by decide) (hts (.fieldLink RX6 26 "TrolleyGangModel" "now" "[I") (List.mem_of_getElem? (i := 1) rfl)) (fun _ h9 => h9) rfl dX6_busTold_26 ?_
    refine lv_bipush (v := 72) hx hb dX6_busTold_29 (by decide) ?_
    refine lv_bipush (v := 6) hx hb dX6_busTold_31 (by decide) ?_
    refine lv_iload_n hx hb dX6_busTold_33 rfl (lv_at hl 1 rfl) ?_
    refine lv_imul hx hb dX6_busTold_34 ?_
    refine lv_iadd hx hb dX6_busTold_35 ?_
    refine lv_iload_n hx hb dX6_busTold_36 rfl (lv_at hl 2 rfl) ?_
    refine lv_iadd hx hb dX6_busTold_37 ?_
    refine va_iald hx hb hKK.1 hP 1 0 rfl rfl (hin := (inBx hb_ hxx hx6)) dX6_busTold_38 ?_
    refine lv_tope (y := rn (72 + 6 * b_.toNatClampNeg + x_.toNatClampNeg)) (by rw [tnBx hb_ hxx hx6]) ?_
    have e9 : mbtold rn b_ x_ = rn (72 + 6 * b_.toNatClampNeg + x_.toNatClampNeg) := (by first | with_reducible rfl | (simp only [mbtold, h_1, if_true, if_false, reduceIte, not_true_eq_false, not_false_eq_true]; done) | (simp [mbtold, h_1]; done))
    exact end_i hx hb hrt hlocks (by rw [e9]) hP hS dX6_busTold_39
  · skip
    refine lv_aload_n hx hb dX6_busTold_6 rfl (lv_at hl 0 rfl) ?_
    refine lv_aload_n hx hb dX6_busTold_7 rfl (lv_at hl 0 rfl) ?_
    refine va_get (D := D) (ci := 6) (v := .ref an) (C := RX6) (T := TX6) (N := 8) hx hb hts iX6 hown hKK.1 hP 0 rfl rfl 6 (by decide) (hts (.fieldLink RX6 26 "TrolleyGangModel" "now" "[I") (List.mem_of_getElem? (i := 1) rfl)) (fun _ h9 => h9) rfl dX6_busTold_8 ?_
    refine lv_bipush (v := 72) hx hb dX6_busTold_11 (by decide) ?_
    refine lv_bipush (v := 6) hx hb dX6_busTold_13 (by decide) ?_
    refine lv_iload_n hx hb dX6_busTold_15 rfl (lv_at hl 1 rfl) ?_
    refine lv_imul hx hb dX6_busTold_16 ?_
    refine lv_iadd hx hb dX6_busTold_17 ?_
    refine va_iald hx hb hKK.1 hP 1 0 rfl rfl (hin := (inB0 hb_)) dX6_busTold_18 ?_
    refine lv_tope (y := rn (72 + 6 * b_.toNatClampNeg)) (by rw [tnB0 hb_]) ?_
    have hPc := hP.sub (ws' := (cM aM ac as_ an ah th bu fd fn ++ cA cyI an 121 rn)) [0, 1] rfl
    have hDc := hD.sub (ws' := (cM aM ac as_ an ah th bu fd fn ++ cA cyI an 121 rn)) [0, 1] (by decide) rfl
    refine ret_i (W1 := (cM aM ac as_ an ah th bu fd fn ++ cA cyI an 121 rn)) (W2 := (cM aM ac as_ an ah th bu fd fn ++ cA cyI an 121 rn)) (ws1 := (cM aM ac as_ an ah th bu fd fn ++ cA cyI an 121 rn)) (r := mfree rn (rn (72 + 6 * b_.toNatClampNeg)) 24 1) (run_V (q := (RX6, TX6, 8)) (n := 1) (As := [.int (rn (72 + 6 * b_.toNatClampNeg))]) (rest := []) ⟨hx, hb, hml, hown, hts⟩ (c_X6_free l D cyI cyO cyL aM ac as_ an ah th bu fd fn rn (rn (72 + 6 * b_.toNatClampNeg)) hat _) ggX6_busTold_X6_free rfl rfl rfl (hts (.methodLink RX6 54 yX6_free) (List.mem_of_getElem? (i := 2) rfl)) (hts (.initialized RX6) (List.mem_of_getElem? (i := 5) rfl)) (hts (.instanceMethod yX6_free) (List.mem_of_getElem? (i := 3) rfl)) (hts (.selects RX6 yX6_free yX6_free) (List.mem_of_getElem? (i := 4) rfl)) (by decide +kernel) ⟨Nat.le_of_ble_eq_true rfl, Nat.le_of_ble_eq_true rfl⟩ hKK hPc hDc (ci := 6) (q0 := 0) rfl rfl rfl hl.1 rfl (Nat.le_of_ble_eq_true rfl) dX6_busTold_19 ⟨Nat.zero_le _, Nat.zero_le _⟩) hP hD hS hA [0, 1] rfl rfl [(true, 0), (true, 1)] (by decide +kernel) rfl (fun H locs hP hD hS => ?_)
    refine lv_goto (tgt := 39) hx hb dX6_busTold_22 (by decide) ?_
    have e9 : mbtold rn b_ x_ = mfree rn (rn (72 + 6 * b_.toNatClampNeg)) 24 1 := (by first | with_reducible rfl | (simp only [mbtold, h_1, if_true, if_false, reduceIte, not_true_eq_false, not_false_eq_true]; done) | (simp [mbtold, h_1]; done))
    exact end_i hx hb hrt hlocks (by rw [e9]) hP hS dX6_busTold_39
set_option maxHeartbeats 4000000 in
set_option maxRecDepth 100000 in
theorem c_X6_busesAt (l : Launch) (D : va_G) (cyI cyO cyL : ClassId) (aM : Nat) (ac : Nat) (as_ : Nat) (an : Nat) (ah : Nat) (th : Int32) (bu : Int32) (fd : Int32) (fn : Int32) (rn : Nat → Int32) (s_ : Int32) (n : Nat) (hn : n ≤ 6) (hbu : bu = nI n) : cI l yX6_busesAt wsX6_busesAt ({ frames := 0, cells := 0, slots := 0, locals := 0 }) D cyI cyO cyL [.ref aM, .int s_] (cM aM ac as_ an ah th bu fd fn ++ cA cyI an 121 rn) (cM aM ac as_ an ah th bu fd fn ++ cA cyI an 121 rn) (mbat rn s_ n 0 0) := by
  intro sz
  refine Met.ofW (cc := cX6_busesAt) (maxL := 4) (ret := (some .int)) (by decide) rfl ?_
  intro p e s m args below meth c s₁ B9 hml hv
  obtain ⟨rfl, hsz, hP, hKK, hD0⟩ := hv
  have hx := B9.exec
  have hb := B9.bytes
  have hrt := B9.returns
  have hts := atoms_spec (ws := wsX6_busesAt) B9.pre
  have hown : s.vm.findClass RX6 = some m.cls := findClass_of_methodNamed B9.named
  have hlocks := B9.notSynchronized
  have nw := fun {w : Cond} (h : w ∈ nw_all) => NW.use (args := ([.ref aM, .int s_] : List Value).toArray) hKK.2 h
  have iX6 : ∀ w ∈ wsX60, w ∈ wsX6_busesAt := fun _ h => List.mem_cons_of_mem _ (List.mem_append_right _ h)
  subst hsz
  have hD := hD0.self (sz := s.heap.size)
  generalize hAe : va_A (cM aM ac as_ an ah th bu fd fn ++ cA cyI an 121 rn) s.heap.size = A at hD ⊢
  have hA : ∀ q : Nat, s.heap.size ≤ q → A q := fun q h => by rw [← hAe]; exact Or.inr h
  have hS : va_S A s.heap s.heap [] := va_S.rf
  have hl := lv_entry ([.ref aM, .int s_]) (n := 4) (Nat.le_of_ble_eq_true rfl)
  rw [lg_entry_eq]
  generalize (lg_sl ([.ref aM, .int s_]) ++ List.replicate (4 - (lg_sl ([.ref aM, .int s_])).length) Slot.unset).toArray = ls at hl ⊢
  have hl : lv_has ls 4 [(0, .ref aM), (1, .int s_)] := hl
  refine lv_iconst (v := 0) hx hb dX6_busesAt_0 (by decide) ?_
  refine lv_istore_n (lv' := [(2, .int 0), (0, .ref aM), (1, .int s_)]) hx hb dX6_busesAt_1 rfl hl (by decide) rfl (fun ls hl => ?_)
  refine lv_iconst (v := 0) hx hb dX6_busesAt_2 (by decide) ?_
  refine lv_istore_n (lv' := [(3, .int 0), (2, .int 0), (0, .ref aM), (1, .int s_)]) hx hb dX6_busesAt_3 rfl hl (by decide) rfl (fun ls hl => ?_)
  refine wloop (σ := (Nat) × (Int32)) (fun d9 x9 H9 L9 s9 => ((x9.1) + d9 = n) ∧ (mbat rn s_ n 0 0 = mbat rn s_ d9 (x9.1) (x9.2)) ∧ (va_P D vwCl (cM aM ac as_ an ah th bu fd fn ++ cA cyI an 121 rn) H9) ∧ (va_D A (cM aM ac as_ an ah th bu fd fn ++ cA cyI an 121 rn)) ∧ (va_S A s.heap H9 L9) ∧ (lv_has s9 4 [(3, .int (nI (x9.1))), (2, .int (x9.2)), (0, .ref aM), (1, .int s_)])) (fun d9 x9 H locs ls g9 ih => ?_) n (0, 0) _ _ _ ⟨(by omega), rfl, hP, hD, hS, lv_sub hl [0, 1, 2, 3] rfl⟩
  obtain ⟨i, a1⟩ := x9
  obtain ⟨hid, hsp, hP, hD, hS, hl⟩ := g9
  obtain ⟨d, rfl⟩ : ∃ z, z = d9 := ⟨_, rfl⟩
  have hid : i + d = n := hid
  have hsp : mbat rn s_ n 0 0 = mbat rn s_ d i a1 := hsp
  have hP : va_P D vwCl (cM aM ac as_ an ah th bu fd fn ++ cA cyI an 121 rn) H := hP
  have hD : va_D A (cM aM ac as_ an ah th bu fd fn ++ cA cyI an 121 rn) := hD
  have hl : lv_has ls 4 [(3, .int (nI i)), (2, .int a1), (0, .ref aM), (1, .int s_)] := hl
  refine lv_iload_n hx hb dX6_busesAt_4 rfl (lv_at hl 0 rfl) ?_
  refine lv_aload_n hx hb dX6_busesAt_5 rfl (lv_at hl 2 rfl) ?_
  refine va_get (D := D) (ci := 6) (v := .int bu) (C := RX6) (T := TX6) (N := 8) hx hb hts iX6 hown hKK.1 hP 0 rfl rfl 1 (by decide) (hts (.fieldLink RX6 36 "TrolleyGangModel" "buses" "I") (List.mem_of_getElem? (i := 1) rfl)) (fun _ h9 => h9) rfl dX6_busesAt_6 ?_
  refine lv_tope (y := nI n) hbu ?_
  refine lv_icmp_ge (tgt := 42) hx hb dX6_busesAt_9 (by decide) (fun h_1 => ?_) (fun h_1 => ?_)
  · skip
    obtain rfl : d = 0 := by have h9 := (nI_leI (a := n) (b := i) (by omega) (by omega)).mp h_1; omega
    have hiN : i = n := by omega
    refine lv_iload_n hx hb dX6_busesAt_42 rfl (lv_at hl 1 rfl) ?_
    have e9 : mbat rn s_ n 0 0 = a1 := (hsp.trans (by first | with_reducible rfl | (simp only [mbat, h_1, if_true, if_false, reduceIte, not_true_eq_false, not_false_eq_true]; done) | (simp [mbat, h_1]; done)))
    exact end_i hx hb hrt hlocks (by rw [e9]) hP hS dX6_busesAt_43
  · skip
    have hlt : i < n := by have h9 := mt (nI_leI (a := n) (b := i) (by omega) (by omega)).mpr h_1; omega
    obtain ⟨d, rfl⟩ : ∃ k, d = k + 1 := ⟨d - 1, by omega⟩
    refine lv_iload_n hx hb dX6_busesAt_12 rfl (lv_at hl 1 rfl) ?_
    refine lv_aload_n hx hb dX6_busesAt_13 rfl (lv_at hl 2 rfl) ?_
    refine va_get (D := D) (ci := 6) (v := .ref an) (C := RX6) (T := TX6) (N := 8) hx hb hts iX6 hown hKK.1 hP 0 rfl rfl 6 (by decide) (hts (.fieldLink RX6 26 "TrolleyGangModel" "now" "[I") (List.mem_of_getElem? (i := 2) rfl)) (fun _ h9 => h9) rfl dX6_busesAt_14 ?_
    refine lv_bipush (v := 72) hx hb dX6_busesAt_17 (by decide) ?_
    refine lv_bipush (v := 6) hx hb dX6_busesAt_19 (by decide) ?_
    refine lv_iload_n hx hb dX6_busesAt_21 rfl (lv_at hl 0 rfl) ?_
    refine lv_imul hx hb dX6_busesAt_22 ?_
    refine lv_tope (y := nI (6 * i)) (pk_mul 6 i) ?_
    refine lv_iadd hx hb dX6_busesAt_23 ?_
    refine lv_tope (y := nI (72 + (6 * i))) (nI_add 72 (6 * i)) ?_
    refine va_iald hx hb hKK.1 hP 1 0 rfl rfl (hin := (vp_in_nI (show (72 + (6 * i)) < 121 by omega) (by omega))) dX6_busesAt_24 ?_
    refine lv_tope (y := rn (72 + (6 * i))) (by rw [nI_clamp (by omega)]) ?_
    refine lv_iload_n hx hb dX6_busesAt_25 rfl (lv_at hl 3 rfl) ?_
    refine lv_icmp_ne (tgt := 33) hx hb dX6_busesAt_26 (by decide) (fun h_2 => ?_) (fun h_2 => ?_)
    · skip
      refine lv_iconst (v := 0) hx hb dX6_busesAt_33 (by decide) ?_
      refine lv_iadd hx hb dX6_busesAt_34 ?_
      refine lv_istore_n (lv' := [(2, .int (a1 + 0)), (3, .int (nI i)), (0, .ref aM), (1, .int s_)]) hx hb dX6_busesAt_35 rfl hl (by decide) rfl (fun ls hl => ?_)
      refine lv_iinc (v := nI (i + 1)) (lv' := [(3, .int (nI (i + 1))), (2, .int (a1 + 0)), (0, .ref aM), (1, .int s_)]) hx hb dX6_busesAt_36 hl (k := 1) rfl (nI_1 i) (by decide) rfl (fun ls hl => ?_)
      refine lv_goto (tgt := 4) hx hb dX6_busesAt_39 (by decide) ?_
      exact ih d ((i + 1), (a1 + 0)) _ _ _ (by omega) ⟨(by omega), (hsp.trans (by first | with_reducible rfl | (simp only [mbat, h_1, h_2, if_true, if_false, reduceIte, not_true_eq_false, not_false_eq_true]; done) | (simp [mbat, h_1, h_2]; done))), hP, hD, hS, lv_sub hl [0, 1, 2, 3] rfl⟩
    · skip
      refine lv_iconst (v := 1) hx hb dX6_busesAt_29 (by decide) ?_
      refine lv_goto (tgt := 34) hx hb dX6_busesAt_30 (by decide) ?_
      refine lv_iadd hx hb dX6_busesAt_34 ?_
      refine lv_istore_n (lv' := [(2, .int (a1 + 1)), (3, .int (nI i)), (0, .ref aM), (1, .int s_)]) hx hb dX6_busesAt_35 rfl hl (by decide) rfl (fun ls hl => ?_)
      refine lv_iinc (v := nI (i + 1)) (lv' := [(3, .int (nI (i + 1))), (2, .int (a1 + 1)), (0, .ref aM), (1, .int s_)]) hx hb dX6_busesAt_36 hl (k := 1) rfl (nI_1 i) (by decide) rfl (fun ls hl => ?_)
      refine lv_goto (tgt := 4) hx hb dX6_busesAt_39 (by decide) ?_
      exact ih d ((i + 1), (a1 + 1)) _ _ _ (by omega) ⟨(by omega), (hsp.trans (by first | with_reducible rfl | (simp only [mbat, h_1, h_2, if_true, if_false, reduceIte, not_true_eq_false, not_false_eq_true]; done) | (simp [mbat, h_1, h_2]; done))), hP, hD, hS, lv_sub hl [0, 1, 2, 3] rfl⟩
set_option maxHeartbeats 4000000 in
set_option maxRecDepth 100000 in
theorem c_X6_placeOf (l : Launch) (D : va_G) (cyI cyO cyL : ClassId) (aM : Nat) (ac : Nat) (as_ : Nat) (an : Nat) (ah : Nat) (th : Int32) (bu : Int32) (fd : Int32) (fn : Int32) (rn : Nat → Int32) (s_ : Int32) (k_ : Nat) (hm : k_ ≤ 6) (hoc : rn 109 = nI k_) : cI l yX6_placeOf wsX6_placeOf ({ frames := 0, cells := 0, slots := 0, locals := 0 }) D cyI cyO cyL [.ref aM, .int s_] (cM aM ac as_ an ah th bu fd fn ++ cA cyI an 121 rn) (cM aM ac as_ an ah th bu fd fn ++ cA cyI an 121 rn) (mplace rn s_ k_ 0) := by
  intro sz
  refine Met.ofW (cc := cX6_placeOf) (maxL := 3) (ret := (some .int)) (by decide) rfl ?_
  intro p e s m args below meth c s₁ B9 hml hv
  obtain ⟨rfl, hsz, hP, hKK, hD0⟩ := hv
  have hx := B9.exec
  have hb := B9.bytes
  have hrt := B9.returns
  have hts := atoms_spec (ws := wsX6_placeOf) B9.pre
  have hown : s.vm.findClass RX6 = some m.cls := findClass_of_methodNamed B9.named
  have hlocks := B9.notSynchronized
  have nw := fun {w : Cond} (h : w ∈ nw_all) => NW.use (args := ([.ref aM, .int s_] : List Value).toArray) hKK.2 h
  have iX6 : ∀ w ∈ wsX60, w ∈ wsX6_placeOf := fun _ h => List.mem_cons_of_mem _ (List.mem_append_right _ h)
  subst hsz
  have hD := hD0.self (sz := s.heap.size)
  generalize hAe : va_A (cM aM ac as_ an ah th bu fd fn ++ cA cyI an 121 rn) s.heap.size = A at hD ⊢
  have hA : ∀ q : Nat, s.heap.size ≤ q → A q := fun q h => by rw [← hAe]; exact Or.inr h
  have hS : va_S A s.heap s.heap [] := va_S.rf
  have hl := lv_entry ([.ref aM, .int s_]) (n := 3) (Nat.le_of_ble_eq_true rfl)
  rw [lg_entry_eq]
  generalize (lg_sl ([.ref aM, .int s_]) ++ List.replicate (3 - (lg_sl ([.ref aM, .int s_])).length) Slot.unset).toArray = ls at hl ⊢
  have hl : lv_has ls 3 [(0, .ref aM), (1, .int s_)] := hl
  refine lv_iconst (v := 0) hx hb dX6_placeOf_0 (by decide) ?_
  refine lv_istore_n (lv' := [(2, .int 0), (0, .ref aM), (1, .int s_)]) hx hb dX6_placeOf_1 rfl hl (by decide) rfl (fun ls hl => ?_)
  refine wloop (σ := (Nat)) (fun d9 x9 H9 L9 s9 => (x9 + d9 = k_) ∧ (mplace rn s_ k_ 0 = mplace rn s_ d9 x9) ∧ (va_P D vwCl (cM aM ac as_ an ah th bu fd fn ++ cA cyI an 121 rn) H9) ∧ (va_D A (cM aM ac as_ an ah th bu fd fn ++ cA cyI an 121 rn)) ∧ (va_S A s.heap H9 L9) ∧ (lv_has s9 3 [(2, .int (nI x9)), (0, .ref aM), (1, .int s_)])) (fun d9 x9 H locs ls g9 ih => ?_) k_ 0 _ _ _ ⟨(by omega), rfl, hP, hD, hS, lv_sub hl [0, 1, 2] rfl⟩
  obtain ⟨i, rfl⟩ : ∃ z, z = x9 := ⟨_, rfl⟩
  obtain ⟨hid, hsp, hP, hD, hS, hl⟩ := g9
  obtain ⟨d, rfl⟩ : ∃ z, z = d9 := ⟨_, rfl⟩
  have hid : i + d = k_ := hid
  have hsp : mplace rn s_ k_ 0 = mplace rn s_ d i := hsp
  have hP : va_P D vwCl (cM aM ac as_ an ah th bu fd fn ++ cA cyI an 121 rn) H := hP
  have hD : va_D A (cM aM ac as_ an ah th bu fd fn ++ cA cyI an 121 rn) := hD
  have hl : lv_has ls 3 [(2, .int (nI i)), (0, .ref aM), (1, .int s_)] := hl
  refine lv_iload_n hx hb dX6_placeOf_2 rfl (lv_at hl 0 rfl) ?_
  refine lv_aload_n hx hb dX6_placeOf_3 rfl (lv_at hl 1 rfl) ?_
  refine va_get (D := D) (ci := 6) (v := .ref an) (C := RX6) (T := TX6) (N := 8) hx hb hts iX6 hown hKK.1 hP 0 rfl rfl 6 (by decide) (hts (.fieldLink RX6 26 "TrolleyGangModel" "now" "[I") (List.mem_of_getElem? (i := 1) rfl)) (fun _ h9 => h9) rfl dX6_placeOf_4 ?_
  refine lv_bipush (v := 109) hx hb dX6_placeOf_7 (by decide) ?_
  refine va_iald hx hb hKK.1 hP 1 0 rfl rfl (hin := (vp_in_nI (n := 109) (by decide) (by decide))) dX6_placeOf_9 ?_
  refine lv_tope (y := rn 109) rfl ?_
  refine lv_tope (y := nI k_) hoc ?_
  refine lv_icmp_ge (tgt := 34) hx hb dX6_placeOf_10 (by decide) (fun h_1 => ?_) (fun h_1 => ?_)
  · skip
    obtain rfl : d = 0 := by have h9 := (nI_leI (a := k_) (b := i) (by omega) (by omega)).mp h_1; omega
    have hiN : i = k_ := by omega
    refine lv_iconst (v := (-1)) hx hb dX6_placeOf_34 (by decide) ?_
    have e9 : mplace rn s_ k_ 0 = (-1) := (hsp.trans (by first | with_reducible rfl | (simp only [mplace, h_1, if_true, if_false, reduceIte, not_true_eq_false, not_false_eq_true]; done) | (simp [mplace, h_1]; done)))
    exact end_i hx hb hrt hlocks (by rw [e9]) hP hS dX6_placeOf_35
  · skip
    have hlt : i < k_ := by have h9 := mt (nI_leI (a := k_) (b := i) (by omega) (by omega)).mpr h_1; omega
    obtain ⟨d, rfl⟩ : ∃ k, d = k + 1 := ⟨d - 1, by omega⟩
    refine lv_aload_n hx hb dX6_placeOf_13 rfl (lv_at hl 1 rfl) ?_
    refine va_get (D := D) (ci := 6) (v := .ref an) (C := RX6) (T := TX6) (N := 8) hx hb hts iX6 hown hKK.1 hP 0 rfl rfl 6 (by decide) (hts (.fieldLink RX6 26 "TrolleyGangModel" "now" "[I") (List.mem_of_getElem? (i := 1) rfl)) (fun _ h9 => h9) rfl dX6_placeOf_14 ?_
    refine lv_bipush (v := 113) hx hb dX6_placeOf_17 (by decide) ?_
    refine lv_iload_n hx hb dX6_placeOf_19 rfl (lv_at hl 0 rfl) ?_
    refine lv_iadd hx hb dX6_placeOf_20 ?_
    refine lv_tope (y := nI (113 + i)) (nI_add 113 i) ?_
    refine va_iald hx hb hKK.1 hP 1 0 rfl rfl (hin := (vp_in_nI (show (113 + i) < 121 by omega) (by omega))) dX6_placeOf_21 ?_
    refine lv_tope (y := rn (113 + i)) (by rw [nI_clamp (by omega)]) ?_
    refine lv_iload_n hx hb dX6_placeOf_22 rfl (lv_at hl 2 rfl) ?_
    refine lv_icmp_ne (tgt := 28) hx hb dX6_placeOf_23 (by decide) (fun h_2 => ?_) (fun h_2 => ?_)
    · skip
      refine lv_iinc (v := nI (i + 1)) (lv' := [(2, .int (nI (i + 1))), (0, .ref aM), (1, .int s_)]) hx hb dX6_placeOf_28 hl (k := 0) rfl (nI_1 i) (by decide) rfl (fun ls hl => ?_)
      refine lv_goto (tgt := 2) hx hb dX6_placeOf_31 (by decide) ?_
      exact ih d (i + 1) _ _ _ (by omega) ⟨(by omega), (hsp.trans (by first | with_reducible rfl | (simp only [mplace, h_1, h_2, if_true, if_false, reduceIte, not_true_eq_false, not_false_eq_true]; done) | (simp [mplace, h_1, h_2]; done))), hP, hD, hS, lv_sub hl [0, 1, 2] rfl⟩
    · skip
      refine lv_iload_n hx hb dX6_placeOf_26 rfl (lv_at hl 0 rfl) ?_
      have e9 : mplace rn s_ k_ 0 = nI i := (hsp.trans (by first | with_reducible rfl | (simp only [mplace, h_1, h_2, if_true, if_false, reduceIte, not_true_eq_false, not_false_eq_true]; done) | (simp [mplace, h_1, h_2]; done)))
      exact end_i hx hb hrt hlocks (by rw [e9]) hP hS dX6_placeOf_27
set_option maxHeartbeats 4000000 in
set_option maxRecDepth 100000 in
theorem c_X6_spanTold (l : Launch) (D : va_G) (cyI cyO cyL : ClassId) (aM : Nat) (ac : Nat) (as_ : Nat) (an : Nat) (ah : Nat) (th : Int32) (bu : Int32) (fd : Int32) (fn : Int32) (rn : Nat → Int32) (s_ : Int32) (x_ : Int32) (n : Nat) (k_ : Nat) (hs : vp_in s_ 24) (hx0 : ¬ x_ < 0) (hn : n ≤ 6) (hbu : bu = nI n) (hm : k_ ≤ 6) (hoc : rn 109 = nI k_) : cI l yX6_spanTold wsX6_spanTold ({ frames := 1, cells := 0, slots := 0, locals := 23 }) D cyI cyO cyL [.ref aM, .int s_, .int x_] (cM aM ac as_ an ah th bu fd fn ++ cA cyI an 121 rn) (cM aM ac as_ an ah th bu fd fn ++ cA cyI an 121 rn) (mstold rn n k_ s_ x_) := by
  intro sz
  refine Met.ofW (cc := cX6_spanTold) (maxL := 3) (ret := (some .int)) (by decide) rfl ?_
  intro p e s m args below meth c s₁ B9 hml hv
  obtain ⟨rfl, hsz, hP, hKK, hD0⟩ := hv
  have hx := B9.exec
  have hb := B9.bytes
  have hrt := B9.returns
  have hts := atoms_spec (ws := wsX6_spanTold) B9.pre
  have hown : s.vm.findClass RX6 = some m.cls := findClass_of_methodNamed B9.named
  have hlocks := B9.notSynchronized
  have nw := fun {w : Cond} (h : w ∈ nw_all) => NW.use (args := ([.ref aM, .int s_, .int x_] : List Value).toArray) hKK.2 h
  have iX6 : ∀ w ∈ wsX60, w ∈ wsX6_spanTold := fun _ h => List.mem_cons_of_mem _ (List.mem_append_right _ h)
  subst hsz
  have hD := hD0.self (sz := s.heap.size)
  generalize hAe : va_A (cM aM ac as_ an ah th bu fd fn ++ cA cyI an 121 rn) s.heap.size = A at hD ⊢
  have hA : ∀ q : Nat, s.heap.size ≤ q → A q := fun q h => by rw [← hAe]; exact Or.inr h
  have hS : va_S A s.heap s.heap [] := va_S.rf
  have hl := lv_entry ([.ref aM, .int s_, .int x_]) (n := 3) (Nat.le_of_ble_eq_true rfl)
  rw [lg_entry_eq]
  generalize (lg_sl ([.ref aM, .int s_, .int x_]) ++ List.replicate (3 - (lg_sl ([.ref aM, .int s_, .int x_])).length) Slot.unset).toArray = ls at hl ⊢
  have hl : lv_has ls 3 [(0, .ref aM), (1, .int s_), (2, .int x_)] := hl
  refine lv_iload_n hx hb dX6_spanTold_0 rfl (lv_at hl 2 rfl) ?_
  refine lv_iconst (v := 3) hx hb dX6_spanTold_1 (by decide) ?_
  refine lv_icmp_ge (tgt := 19) hx hb dX6_spanTold_2 (by decide) (fun h_1 => ?_) (fun h_1 => ?_)
  · skip
    refine lv_iload_n hx hb dX6_spanTold_19 rfl (lv_at hl 2 rfl) ?_
    refine lv_iconst (v := 3) hx hb dX6_spanTold_20 (by decide) ?_
    refine lv_icmp_ne (tgt := 32) hx hb dX6_spanTold_21 (by decide) (fun h_2 => ?_) (fun h_2 => ?_)
    · skip
      refine lv_aload_n hx hb dX6_spanTold_32 rfl (lv_at hl 0 rfl) ?_
      refine lv_iload_n hx hb dX6_spanTold_33 rfl (lv_at hl 1 rfl) ?_
      have hPc := hP.sub (ws' := (cM aM ac as_ an ah th bu fd fn ++ cA cyI an 121 rn)) [0, 1] rfl
      have hDc := hD.sub (ws' := (cM aM ac as_ an ah th bu fd fn ++ cA cyI an 121 rn)) [0, 1] (by decide) rfl
      refine ret_i (W1 := (cM aM ac as_ an ah th bu fd fn ++ cA cyI an 121 rn)) (W2 := (cM aM ac as_ an ah th bu fd fn ++ cA cyI an 121 rn)) (ws1 := (cM aM ac as_ an ah th bu fd fn ++ cA cyI an 121 rn)) (r := mplace rn s_ k_ 0) (run_V (q := (RX6, TX6, 8)) (n := 1) (As := [.int s_]) (rest := []) ⟨hx, hb, hml, hown, hts⟩ (c_X6_placeOf l D cyI cyO cyL aM ac as_ an ah th bu fd fn rn s_ k_ (by first | assumption | omega) (by first | assumption | omega) _) ggX6_spanTold_X6_placeOf rfl rfl rfl (hts (.methodLink RX6 64 yX6_placeOf) (List.mem_of_getElem? (i := 8) rfl)) (hts (.initialized RX6) (List.mem_of_getElem? (i := 5) rfl)) (hts (.instanceMethod yX6_placeOf) (List.mem_of_getElem? (i := 9) rfl)) (hts (.selects RX6 yX6_placeOf yX6_placeOf) (List.mem_of_getElem? (i := 10) rfl)) (by decide +kernel) ⟨Nat.le_of_ble_eq_true rfl, Nat.le_of_ble_eq_true rfl⟩ hKK hPc hDc (ci := 6) (q0 := 0) rfl rfl rfl hl.1 rfl (Nat.le_of_ble_eq_true rfl) dX6_spanTold_34 ⟨Nat.zero_le _, Nat.zero_le _⟩) hP hD hS hA [0, 1] rfl rfl [(true, 0), (true, 1)] (by decide +kernel) rfl (fun H locs hP hD hS => ?_)
      have e9 : mstold rn n k_ s_ x_ = mplace rn s_ k_ 0 := (by first | with_reducible rfl | (simp only [mstold, h_1, h_2, if_true, if_false, reduceIte, not_true_eq_false, not_false_eq_true]; done) | (simp [mstold, h_1, h_2]; done))
      exact end_i hx hb hrt hlocks (by rw [e9]) hP hS dX6_spanTold_37
    · skip
      refine lv_aload_n hx hb dX6_spanTold_24 rfl (lv_at hl 0 rfl) ?_
      refine lv_iload_n hx hb dX6_spanTold_25 rfl (lv_at hl 1 rfl) ?_
      have hPc := hP.sub (ws' := (cM aM ac as_ an ah th bu fd fn ++ cA cyI an 121 rn)) [0, 1] rfl
      have hDc := hD.sub (ws' := (cM aM ac as_ an ah th bu fd fn ++ cA cyI an 121 rn)) [0, 1] (by decide) rfl
      refine ret_i (W1 := (cM aM ac as_ an ah th bu fd fn ++ cA cyI an 121 rn)) (W2 := (cM aM ac as_ an ah th bu fd fn ++ cA cyI an 121 rn)) (ws1 := (cM aM ac as_ an ah th bu fd fn ++ cA cyI an 121 rn)) (r := mbat rn s_ n 0 0) (run_V (q := (RX6, TX6, 8)) (n := 1) (As := [.int s_]) (rest := []) ⟨hx, hb, hml, hown, hts⟩ (c_X6_busesAt l D cyI cyO cyL aM ac as_ an ah th bu fd fn rn s_ n (by first | assumption | omega) (by first | assumption | omega) _) ggX6_spanTold_X6_busesAt rfl rfl rfl (hts (.methodLink RX6 61 yX6_busesAt) (List.mem_of_getElem? (i := 2) rfl)) (hts (.initialized RX6) (List.mem_of_getElem? (i := 5) rfl)) (hts (.instanceMethod yX6_busesAt) (List.mem_of_getElem? (i := 3) rfl)) (hts (.selects RX6 yX6_busesAt yX6_busesAt) (List.mem_of_getElem? (i := 4) rfl)) (by decide +kernel) ⟨Nat.le_of_ble_eq_true rfl, Nat.le_of_ble_eq_true rfl⟩ hKK hPc hDc (ci := 6) (q0 := 0) rfl rfl rfl hl.1 rfl (Nat.le_of_ble_eq_true rfl) dX6_spanTold_26 ⟨Nat.zero_le _, Nat.zero_le _⟩) hP hD hS hA [0, 1] rfl rfl [(true, 0), (true, 1)] (by decide +kernel) rfl (fun H locs hP hD hS => ?_)
      refine lv_goto (tgt := 37) hx hb dX6_spanTold_29 (by decide) ?_
      have e9 : mstold rn n k_ s_ x_ = mbat rn s_ n 0 0 := (by first | with_reducible rfl | (simp only [mstold, h_1, h_2, if_true, if_false, reduceIte, not_true_eq_false, not_false_eq_true]; done) | (simp [mstold, h_1, h_2]; done))
      exact end_i hx hb hrt hlocks (by rw [e9]) hP hS dX6_spanTold_37
  · skip
    have hx3 := h_1
    refine lv_aload_n hx hb dX6_spanTold_5 rfl (lv_at hl 0 rfl) ?_
    refine va_get (D := D) (ci := 6) (v := .ref an) (C := RX6) (T := TX6) (N := 8) hx hb hts iX6 hown hKK.1 hP 0 rfl rfl 6 (by decide) (hts (.fieldLink RX6 26 "TrolleyGangModel" "now" "[I") (List.mem_of_getElem? (i := 1) rfl)) (fun _ h9 => h9) rfl dX6_spanTold_6 ?_
    refine lv_bipush (v := 24) hx hb dX6_spanTold_9 (by decide) ?_
    refine lv_iload_n hx hb dX6_spanTold_11 rfl (lv_at hl 2 rfl) ?_
    refine lv_imul hx hb dX6_spanTold_12 ?_
    refine lv_iload_n hx hb dX6_spanTold_13 rfl (lv_at hl 1 rfl) ?_
    refine lv_iadd hx hb dX6_spanTold_14 ?_
    refine va_iald hx hb hKK.1 hP 1 0 rfl rfl (hin := (in24x hs hx0 hx3)) dX6_spanTold_15 ?_
    refine lv_tope (y := rn (24 * x_.toNatClampNeg + s_.toNatClampNeg)) (by rw [tn24x hs hx0 hx3]) ?_
    refine lv_goto (tgt := 37) hx hb dX6_spanTold_16 (by decide) ?_
    have e9 : mstold rn n k_ s_ x_ = rn (24 * x_.toNatClampNeg + s_.toNatClampNeg) := (by first | with_reducible rfl | (simp only [mstold, h_1, if_true, if_false, reduceIte, not_true_eq_false, not_false_eq_true]; done) | (simp [mstold, h_1]; done))
    exact end_i hx hb hrt hlocks (by rw [e9]) hP hS dX6_spanTold_37
set_option maxHeartbeats 4000000 in
set_option maxRecDepth 100000 in
theorem c_X6_hoursTill (l : Launch) (D : va_G) (cyI cyO cyL : ClassId) (aM : Nat) (ac : Nat) (as_ : Nat) (an : Nat) (ah : Nat) (th : Int32) (bu : Int32) (fd : Int32) (fn : Int32) (rn : Nat → Int32) (s_ : Int32) : cI l yX6_hoursTill wsX6_hoursTill ({ frames := 1, cells := 0, slots := 0, locals := 21 }) D cyI cyO cyL [.ref aM, .int s_] (cM aM ac as_ an ah th bu fd fn ++ cA cyI an 121 rn) (cM aM ac as_ an ah th bu fd fn ++ cA cyI an 121 rn) (mhrs rn s_) := by
  intro sz
  refine Met.ofW (cc := cX6_hoursTill) (maxL := 3) (ret := (some .int)) (by decide) rfl ?_
  intro p e s m args below meth c s₁ B9 hml hv
  obtain ⟨rfl, hsz, hP, hKK, hD0⟩ := hv
  have hx := B9.exec
  have hb := B9.bytes
  have hrt := B9.returns
  have hts := atoms_spec (ws := wsX6_hoursTill) B9.pre
  have hown : s.vm.findClass RX6 = some m.cls := findClass_of_methodNamed B9.named
  have hlocks := B9.notSynchronized
  have nw := fun {w : Cond} (h : w ∈ nw_all) => NW.use (args := ([.ref aM, .int s_] : List Value).toArray) hKK.2 h
  have iX6 : ∀ w ∈ wsX60, w ∈ wsX6_hoursTill := fun _ h => List.mem_cons_of_mem _ (List.mem_append_right _ h)
  subst hsz
  have hD := hD0.self (sz := s.heap.size)
  generalize hAe : va_A (cM aM ac as_ an ah th bu fd fn ++ cA cyI an 121 rn) s.heap.size = A at hD ⊢
  have hA : ∀ q : Nat, s.heap.size ≤ q → A q := fun q h => by rw [← hAe]; exact Or.inr h
  have hS : va_S A s.heap s.heap [] := va_S.rf
  have hl := lv_entry ([.ref aM, .int s_]) (n := 3) (Nat.le_of_ble_eq_true rfl)
  rw [lg_entry_eq]
  generalize (lg_sl ([.ref aM, .int s_]) ++ List.replicate (3 - (lg_sl ([.ref aM, .int s_])).length) Slot.unset).toArray = ls at hl ⊢
  have hl : lv_has ls 3 [(0, .ref aM), (1, .int s_)] := hl
  refine lv_aload_n hx hb dX6_hoursTill_0 rfl (lv_at hl 0 rfl) ?_
  refine va_get (D := D) (ci := 6) (v := .ref an) (C := RX6) (T := TX6) (N := 8) hx hb hts iX6 hown hKK.1 hP 0 rfl rfl 6 (by decide) (hts (.fieldLink RX6 26 "TrolleyGangModel" "now" "[I") (List.mem_of_getElem? (i := 1) rfl)) (fun _ h9 => h9) rfl dX6_hoursTill_1 ?_
  refine lv_bipush (v := 108) hx hb dX6_hoursTill_4 (by decide) ?_
  refine va_iald hx hb hKK.1 hP 1 0 rfl rfl (hin := (vp_in_nI (n := 108) (by decide) (by decide))) dX6_hoursTill_6 ?_
  refine lv_tope (y := rn 108) rfl ?_
  refine lv_iload_n hx hb dX6_hoursTill_7 rfl (lv_at hl 1 rfl) ?_
  have hPc := hP.sub (ws' := ([] : va_W)) [] rfl
  have hDc := hD.sub (ws' := ([] : va_W)) [] (by decide) rfl
  refine ret_i (W1 := ([] : va_W)) (W2 := ([] : va_W)) (ws1 := (cM aM ac as_ an ah th bu fd fn ++ cA cyI an 121 rn)) (r := mup (rn 108) s_) (run_S (n := 2) (As := [.int (rn 108), .int s_]) (rest := []) ⟨hx, hb, hml, hown, hts⟩ (c_X6_upwards l D cyI cyO cyL (rn 108) s_ _) ggX6_hoursTill_X6_upwards rfl rfl rfl (hts (.methodLink RX6 74 yX6_upwards) (List.mem_of_getElem? (i := 6) rfl)) (hts (.initialized RX6) (List.mem_of_getElem? (i := 8) rfl)) (hts (.static yX6_upwards) (List.mem_of_getElem? (i := 7) rfl)) (by decide +kernel) ⟨Nat.le_of_ble_eq_true rfl, Nat.le_of_ble_eq_true rfl⟩ hKK hPc hDc rfl hl.1 rfl (Nat.le_of_ble_eq_true rfl) dX6_hoursTill_8 ⟨Nat.zero_le _, Nat.zero_le _⟩) hP hD hS hA [] rfl rfl [(false, 0), (false, 1)] (by decide +kernel) rfl (fun H locs hP hD hS => ?_)
  refine lv_istore_n (lv' := [(2, .int (mup (rn 108) s_)), (0, .ref aM), (1, .int s_)]) hx hb dX6_hoursTill_11 rfl hl (by decide) rfl (fun ls hl => ?_)
  refine lv_iload_n hx hb dX6_hoursTill_12 rfl (lv_at hl 0 rfl) ?_
  refine lv_bipush (v := 24) hx hb dX6_hoursTill_13 (by decide) ?_
  refine lv_iload_n hx hb dX6_hoursTill_15 rfl (lv_at hl 0 rfl) ?_
  refine lv_isub hx hb dX6_hoursTill_16 ?_
  refine va_mmin hx hb (by rw [hml]; exact hl.1.symm) hown (hts (.methodLink RX6 77 Lib.Math.min.name) (List.mem_of_getElem? (i := 2) rfl)) (hts (.static Lib.Math.min.name) (List.mem_of_getElem? (i := 3) rfl)) (hts (.initialized "java/lang/Math") (List.mem_of_getElem? (i := 4) rfl)) (hts (.code Lib.Math.min.name Lib.Math.min.code 2 (some .int)) (List.mem_of_getElem? (i := 5) rfl)) (Nat.le_of_ble_eq_true rfl) (Nat.le_of_ble_eq_true rfl) (Nat.zero_le _) (Nat.zero_le _) dX6_hoursTill_17 ?_
  refine lv_tope (y := mmin (mup (rn 108) s_) (24 - (mup (rn 108) s_))) rfl ?_
  refine lv_iconst (v := 3) hx hb dX6_hoursTill_20 (by decide) ?_
  refine lv_iadd hx hb dX6_hoursTill_21 ?_
  refine lv_iconst (v := 4) hx hb dX6_hoursTill_22 (by decide) ?_
  refine lv_idiv hx hb dX6_hoursTill_23 (by decide) ?_
  have e9 : mhrs rn s_ = ((mmin (mup (rn 108) s_) (24 - (mup (rn 108) s_))) + 3) / 4 := (by rfl)
  exact end_i hx hb hrt hlocks (by rw [e9]) hP hS dX6_hoursTill_24
set_option maxHeartbeats 4000000 in
set_option maxRecDepth 100000 in
theorem c_X6_gangTold (l : Launch) (D : va_G) (cyI cyO cyL : ClassId) (aM : Nat) (ac : Nat) (as_ : Nat) (an : Nat) (ah : Nat) (th : Int32) (bu : Int32) (fd : Int32) (fn : Int32) (rn : Nat → Int32) (x_ : Int32) (hxx : vp_in x_ 7) : cI l yX6_gangTold wsX6_gangTold ({ frames := 2, cells := 0, slots := 0, locals := 43 }) D cyI cyO cyL [.ref aM, .int x_] (cM aM ac as_ an ah th bu fd fn ++ cA cyI an 121 rn) (cM aM ac as_ an ah th bu fd fn ++ cA cyI an 121 rn) (mgtold rn x_) := by
  intro sz
  refine Met.ofW (cc := cX6_gangTold) (maxL := 3) (ret := (some .int)) (by decide) rfl ?_
  intro p e s m args below meth c s₁ B9 hml hv
  obtain ⟨rfl, hsz, hP, hKK, hD0⟩ := hv
  have hx := B9.exec
  have hb := B9.bytes
  have hrt := B9.returns
  have hts := atoms_spec (ws := wsX6_gangTold) B9.pre
  have hown : s.vm.findClass RX6 = some m.cls := findClass_of_methodNamed B9.named
  have hlocks := B9.notSynchronized
  have nw := fun {w : Cond} (h : w ∈ nw_all) => NW.use (args := ([.ref aM, .int x_] : List Value).toArray) hKK.2 h
  have iX6 : ∀ w ∈ wsX60, w ∈ wsX6_gangTold := fun _ h => List.mem_cons_of_mem _ (List.mem_append_right _ h)
  subst hsz
  have hD := hD0.self (sz := s.heap.size)
  generalize hAe : va_A (cM aM ac as_ an ah th bu fd fn ++ cA cyI an 121 rn) s.heap.size = A at hD ⊢
  have hA : ∀ q : Nat, s.heap.size ≤ q → A q := fun q h => by rw [← hAe]; exact Or.inr h
  have hS : va_S A s.heap s.heap [] := va_S.rf
  have hl := lv_entry ([.ref aM, .int x_]) (n := 3) (Nat.le_of_ble_eq_true rfl)
  rw [lg_entry_eq]
  generalize (lg_sl ([.ref aM, .int x_]) ++ List.replicate (3 - (lg_sl ([.ref aM, .int x_])).length) Slot.unset).toArray = ls at hl ⊢
  have hl : lv_has ls 3 [(0, .ref aM), (1, .int x_)] := hl
  refine lv_aload_n hx hb dX6_gangTold_0 rfl (lv_at hl 0 rfl) ?_
  refine va_get (D := D) (ci := 6) (v := .ref an) (C := RX6) (T := TX6) (N := 8) hx hb hts iX6 hown hKK.1 hP 0 rfl rfl 6 (by decide) (hts (.fieldLink RX6 26 "TrolleyGangModel" "now" "[I") (List.mem_of_getElem? (i := 1) rfl)) (fun _ h9 => h9) rfl dX6_gangTold_1 ?_
  refine lv_bipush (v := 109) hx hb dX6_gangTold_4 (by decide) ?_
  refine va_iald hx hb hKK.1 hP 1 0 rfl rfl (hin := (vp_in_nI (n := 109) (by decide) (by decide))) dX6_gangTold_6 ?_
  refine lv_tope (y := rn 109) rfl ?_
  refine lv_if_le (tgt := 14) hx hb dX6_gangTold_7 (by decide) (fun h_1 => ?_) (fun h_1 => ?_)
  · skip
    refine lv_iconst (v := 0) hx hb dX6_gangTold_14 (by decide) ?_
    refine lv_istore_n (lv' := [(2, .int 0), (0, .ref aM), (1, .int x_)]) hx hb dX6_gangTold_15 rfl hl (by decide) rfl (fun ls hl => ?_)
    refine lv_iload_n hx hb dX6_gangTold_16 rfl (lv_at hl 2 rfl) ?_
    rcases sw7 x_ with rfl | rfl | rfl | rfl | rfl | rfl | rfl | hs_2
    · skip
      refine lv_tableIn (off := 43) (tgt := 60) hx hb dX6_gangTold_17 (by decide) (by decide) (by decide) (by decide) ?_
      refine lv_aload_n hx hb dX6_gangTold_60 rfl (lv_at hl 1 rfl) ?_
      refine va_get (D := D) (ci := 6) (v := .ref an) (C := RX6) (T := TX6) (N := 8) hx hb hts iX6 hown hKK.1 hP 0 rfl rfl 6 (by decide) (hts (.fieldLink RX6 26 "TrolleyGangModel" "now" "[I") (List.mem_of_getElem? (i := 1) rfl)) (fun _ h9 => h9) rfl dX6_gangTold_61 ?_
      refine lv_bipush (v := 108) hx hb dX6_gangTold_64 (by decide) ?_
      refine va_iald hx hb hKK.1 hP 1 0 rfl rfl (hin := (vp_in_nI (n := 108) (by decide) (by decide))) dX6_gangTold_66 ?_
      refine lv_tope (y := rn 108) rfl ?_
      have e9 : mgtold rn 0 = rn 108 := (by first | with_reducible rfl | (simp only [mgtold, h_1, if_true, if_false, reduceIte, not_true_eq_false, not_false_eq_true]; done) | (simp [mgtold, h_1]; done))
      exact end_i hx hb hrt hlocks (by rw [e9]) hP hS dX6_gangTold_67
    · skip
      refine lv_tableIn (off := 51) (tgt := 68) hx hb dX6_gangTold_17 (by decide) (by decide) (by decide) (by decide) ?_
      refine lv_iload_n hx hb dX6_gangTold_68 rfl (lv_at hl 0 rfl) ?_
      refine lv_if_eq (tgt := 82) hx hb dX6_gangTold_69 (by decide) (fun _ => ?_) (fun h9 => absurd (by decide) h9)
      refine lv_iconst (v := (-1)) hx hb dX6_gangTold_82 (by decide) ?_
      have e9 : mgtold rn 1 = (-1) := (by first | with_reducible rfl | (simp only [mgtold, h_1, if_true, if_false, reduceIte, not_true_eq_false, not_false_eq_true]; done) | (simp [mgtold, h_1]; done))
      exact end_i hx hb hrt hlocks (by rw [e9]) hP hS dX6_gangTold_83
    · skip
      refine lv_tableIn (off := 67) (tgt := 84) hx hb dX6_gangTold_17 (by decide) (by decide) (by decide) (by decide) ?_
      refine lv_aload_n hx hb dX6_gangTold_84 rfl (lv_at hl 1 rfl) ?_
      refine va_get (D := D) (ci := 6) (v := .ref an) (C := RX6) (T := TX6) (N := 8) hx hb hts iX6 hown hKK.1 hP 0 rfl rfl 6 (by decide) (hts (.fieldLink RX6 26 "TrolleyGangModel" "now" "[I") (List.mem_of_getElem? (i := 1) rfl)) (fun _ h9 => h9) rfl dX6_gangTold_85 ?_
      refine lv_bipush (v := 109) hx hb dX6_gangTold_88 (by decide) ?_
      refine va_iald hx hb hKK.1 hP 1 0 rfl rfl (hin := (vp_in_nI (n := 109) (by decide) (by decide))) dX6_gangTold_90 ?_
      refine lv_tope (y := rn 109) rfl ?_
      have e9 : mgtold rn 2 = rn 109 := (by first | with_reducible rfl | (simp only [mgtold, h_1, if_true, if_false, reduceIte, not_true_eq_false, not_false_eq_true]; done) | (simp [mgtold, h_1]; done))
      exact end_i hx hb hrt hlocks (by rw [e9]) hP hS dX6_gangTold_91
    · skip
      refine lv_tableIn (off := 95) (tgt := 112) hx hb dX6_gangTold_17 (by decide) (by decide) (by decide) (by decide) ?_
      refine lv_aload_n hx hb dX6_gangTold_112 rfl (lv_at hl 1 rfl) ?_
      refine va_get (D := D) (ci := 6) (v := .ref an) (C := RX6) (T := TX6) (N := 8) hx hb hts iX6 hown hKK.1 hP 0 rfl rfl 6 (by decide) (hts (.fieldLink RX6 26 "TrolleyGangModel" "now" "[I") (List.mem_of_getElem? (i := 1) rfl)) (fun _ h9 => h9) rfl dX6_gangTold_113 ?_
      refine lv_bipush (v := 108) hx hb dX6_gangTold_116 (by decide) ?_
      refine lv_iload_n hx hb dX6_gangTold_118 rfl (lv_at hl 2 rfl) ?_
      refine lv_iadd hx hb dX6_gangTold_119 ?_
      refine lv_tope (y := 111) (by decide) ?_
      refine lv_iconst (v := 1) hx hb dX6_gangTold_120 (by decide) ?_
      refine lv_isub hx hb dX6_gangTold_121 ?_
      refine lv_tope (y := 110) (by decide) ?_
      refine va_iald hx hb hKK.1 hP 1 0 rfl rfl (hin := (vp_in_nI (n := 110) (by decide) (by decide))) dX6_gangTold_122 ?_
      refine lv_tope (y := rn 110) rfl ?_
      have e9 : mgtold rn 3 = rn 110 := (by first | with_reducible rfl | (simp only [mgtold, h_1, if_true, if_false, reduceIte, not_true_eq_false, not_false_eq_true]; done) | (simp [mgtold, h_1]; done))
      exact end_i hx hb hrt hlocks (by rw [e9]) hP hS dX6_gangTold_123
    · skip
      refine lv_tableIn (off := 95) (tgt := 112) hx hb dX6_gangTold_17 (by decide) (by decide) (by decide) (by decide) ?_
      refine lv_aload_n hx hb dX6_gangTold_112 rfl (lv_at hl 1 rfl) ?_
      refine va_get (D := D) (ci := 6) (v := .ref an) (C := RX6) (T := TX6) (N := 8) hx hb hts iX6 hown hKK.1 hP 0 rfl rfl 6 (by decide) (hts (.fieldLink RX6 26 "TrolleyGangModel" "now" "[I") (List.mem_of_getElem? (i := 1) rfl)) (fun _ h9 => h9) rfl dX6_gangTold_113 ?_
      refine lv_bipush (v := 108) hx hb dX6_gangTold_116 (by decide) ?_
      refine lv_iload_n hx hb dX6_gangTold_118 rfl (lv_at hl 2 rfl) ?_
      refine lv_iadd hx hb dX6_gangTold_119 ?_
      refine lv_tope (y := 112) (by decide) ?_
      refine lv_iconst (v := 1) hx hb dX6_gangTold_120 (by decide) ?_
      refine lv_isub hx hb dX6_gangTold_121 ?_
      refine lv_tope (y := 111) (by decide) ?_
      refine va_iald hx hb hKK.1 hP 1 0 rfl rfl (hin := (vp_in_nI (n := 111) (by decide) (by decide))) dX6_gangTold_122 ?_
      refine lv_tope (y := rn 111) rfl ?_
      have e9 : mgtold rn 4 = rn 111 := (by first | with_reducible rfl | (simp only [mgtold, h_1, if_true, if_false, reduceIte, not_true_eq_false, not_false_eq_true]; done) | (simp [mgtold, h_1]; done))
      exact end_i hx hb hrt hlocks (by rw [e9]) hP hS dX6_gangTold_123
    · skip
      refine lv_tableIn (off := 95) (tgt := 112) hx hb dX6_gangTold_17 (by decide) (by decide) (by decide) (by decide) ?_
      refine lv_aload_n hx hb dX6_gangTold_112 rfl (lv_at hl 1 rfl) ?_
      refine va_get (D := D) (ci := 6) (v := .ref an) (C := RX6) (T := TX6) (N := 8) hx hb hts iX6 hown hKK.1 hP 0 rfl rfl 6 (by decide) (hts (.fieldLink RX6 26 "TrolleyGangModel" "now" "[I") (List.mem_of_getElem? (i := 1) rfl)) (fun _ h9 => h9) rfl dX6_gangTold_113 ?_
      refine lv_bipush (v := 108) hx hb dX6_gangTold_116 (by decide) ?_
      refine lv_iload_n hx hb dX6_gangTold_118 rfl (lv_at hl 2 rfl) ?_
      refine lv_iadd hx hb dX6_gangTold_119 ?_
      refine lv_tope (y := 113) (by decide) ?_
      refine lv_iconst (v := 1) hx hb dX6_gangTold_120 (by decide) ?_
      refine lv_isub hx hb dX6_gangTold_121 ?_
      refine lv_tope (y := 112) (by decide) ?_
      refine va_iald hx hb hKK.1 hP 1 0 rfl rfl (hin := (vp_in_nI (n := 112) (by decide) (by decide))) dX6_gangTold_122 ?_
      refine lv_tope (y := rn 112) rfl ?_
      have e9 : mgtold rn 5 = rn 112 := (by first | with_reducible rfl | (simp only [mgtold, h_1, if_true, if_false, reduceIte, not_true_eq_false, not_false_eq_true]; done) | (simp [mgtold, h_1]; done))
      exact end_i hx hb hrt hlocks (by rw [e9]) hP hS dX6_gangTold_123
    · skip
      refine lv_tableIn (off := 75) (tgt := 92) hx hb dX6_gangTold_17 (by decide) (by decide) (by decide) (by decide) ?_
      refine lv_iload_n hx hb dX6_gangTold_92 rfl (lv_at hl 0 rfl) ?_
      refine lv_if_eq (tgt := 110) hx hb dX6_gangTold_93 (by decide) (fun _ => ?_) (fun h9 => absurd (by decide) h9)
      refine lv_iconst (v := (-1)) hx hb dX6_gangTold_110 (by decide) ?_
      have e9 : mgtold rn 6 = (-1) := (by first | with_reducible rfl | (simp only [mgtold, h_1, if_true, if_false, reduceIte, not_true_eq_false, not_false_eq_true]; done) | (simp [mgtold, h_1]; done))
      exact end_i hx hb hrt hlocks (by rw [e9]) hP hS dX6_gangTold_111
    · skip
      refine lv_tableOut (tgt := 112) hx hb dX6_gangTold_17 hs_2 (by decide) ?_
      exact absurd (vp_in_iff.mp hxx) (by omega)
  · skip
    refine lv_iconst (v := 1) hx hb dX6_gangTold_10 (by decide) ?_
    refine lv_goto (tgt := 15) hx hb dX6_gangTold_11 (by decide) ?_
    refine lv_istore_n (lv' := [(2, .int 1), (0, .ref aM), (1, .int x_)]) hx hb dX6_gangTold_15 rfl hl (by decide) rfl (fun ls hl => ?_)
    refine lv_iload_n hx hb dX6_gangTold_16 rfl (lv_at hl 2 rfl) ?_
    rcases sw7 x_ with rfl | rfl | rfl | rfl | rfl | rfl | rfl | hs_3
    · skip
      refine lv_tableIn (off := 43) (tgt := 60) hx hb dX6_gangTold_17 (by decide) (by decide) (by decide) (by decide) ?_
      refine lv_aload_n hx hb dX6_gangTold_60 rfl (lv_at hl 1 rfl) ?_
      refine va_get (D := D) (ci := 6) (v := .ref an) (C := RX6) (T := TX6) (N := 8) hx hb hts iX6 hown hKK.1 hP 0 rfl rfl 6 (by decide) (hts (.fieldLink RX6 26 "TrolleyGangModel" "now" "[I") (List.mem_of_getElem? (i := 1) rfl)) (fun _ h9 => h9) rfl dX6_gangTold_61 ?_
      refine lv_bipush (v := 108) hx hb dX6_gangTold_64 (by decide) ?_
      refine va_iald hx hb hKK.1 hP 1 0 rfl rfl (hin := (vp_in_nI (n := 108) (by decide) (by decide))) dX6_gangTold_66 ?_
      refine lv_tope (y := rn 108) rfl ?_
      have e9 : mgtold rn 0 = rn 108 := (by first | with_reducible rfl | (simp only [mgtold, h_1, if_true, if_false, reduceIte, not_true_eq_false, not_false_eq_true]; done) | (simp [mgtold, h_1]; done))
      exact end_i hx hb hrt hlocks (by rw [e9]) hP hS dX6_gangTold_67
    · skip
      refine lv_tableIn (off := 51) (tgt := 68) hx hb dX6_gangTold_17 (by decide) (by decide) (by decide) (by decide) ?_
      refine lv_iload_n hx hb dX6_gangTold_68 rfl (lv_at hl 0 rfl) ?_
      refine lv_if_eq (tgt := 82) hx hb dX6_gangTold_69 (by decide) (fun h9 => absurd h9 (by decide)) (fun _ => ?_)
      refine lv_aload_n hx hb dX6_gangTold_72 rfl (lv_at hl 1 rfl) ?_
      refine va_get (D := D) (ci := 6) (v := .ref an) (C := RX6) (T := TX6) (N := 8) hx hb hts iX6 hown hKK.1 hP 0 rfl rfl 6 (by decide) (hts (.fieldLink RX6 26 "TrolleyGangModel" "now" "[I") (List.mem_of_getElem? (i := 1) rfl)) (fun _ h9 => h9) rfl dX6_gangTold_73 ?_
      refine lv_bipush (v := 113) hx hb dX6_gangTold_76 (by decide) ?_
      refine va_iald hx hb hKK.1 hP 1 0 rfl rfl (hin := (vp_in_nI (n := 113) (by decide) (by decide))) dX6_gangTold_78 ?_
      refine lv_tope (y := rn 113) rfl ?_
      refine lv_goto (tgt := 83) hx hb dX6_gangTold_79 (by decide) ?_
      have e9 : mgtold rn 1 = rn 113 := (by first | with_reducible rfl | (simp only [mgtold, h_1, if_true, if_false, reduceIte, not_true_eq_false, not_false_eq_true]; done) | (simp [mgtold, h_1]; done))
      exact end_i hx hb hrt hlocks (by rw [e9]) hP hS dX6_gangTold_83
    · skip
      refine lv_tableIn (off := 67) (tgt := 84) hx hb dX6_gangTold_17 (by decide) (by decide) (by decide) (by decide) ?_
      refine lv_aload_n hx hb dX6_gangTold_84 rfl (lv_at hl 1 rfl) ?_
      refine va_get (D := D) (ci := 6) (v := .ref an) (C := RX6) (T := TX6) (N := 8) hx hb hts iX6 hown hKK.1 hP 0 rfl rfl 6 (by decide) (hts (.fieldLink RX6 26 "TrolleyGangModel" "now" "[I") (List.mem_of_getElem? (i := 1) rfl)) (fun _ h9 => h9) rfl dX6_gangTold_85 ?_
      refine lv_bipush (v := 109) hx hb dX6_gangTold_88 (by decide) ?_
      refine va_iald hx hb hKK.1 hP 1 0 rfl rfl (hin := (vp_in_nI (n := 109) (by decide) (by decide))) dX6_gangTold_90 ?_
      refine lv_tope (y := rn 109) rfl ?_
      have e9 : mgtold rn 2 = rn 109 := (by first | with_reducible rfl | (simp only [mgtold, h_1, if_true, if_false, reduceIte, not_true_eq_false, not_false_eq_true]; done) | (simp [mgtold, h_1]; done))
      exact end_i hx hb hrt hlocks (by rw [e9]) hP hS dX6_gangTold_91
    · skip
      refine lv_tableIn (off := 95) (tgt := 112) hx hb dX6_gangTold_17 (by decide) (by decide) (by decide) (by decide) ?_
      refine lv_aload_n hx hb dX6_gangTold_112 rfl (lv_at hl 1 rfl) ?_
      refine va_get (D := D) (ci := 6) (v := .ref an) (C := RX6) (T := TX6) (N := 8) hx hb hts iX6 hown hKK.1 hP 0 rfl rfl 6 (by decide) (hts (.fieldLink RX6 26 "TrolleyGangModel" "now" "[I") (List.mem_of_getElem? (i := 1) rfl)) (fun _ h9 => h9) rfl dX6_gangTold_113 ?_
      refine lv_bipush (v := 108) hx hb dX6_gangTold_116 (by decide) ?_
      refine lv_iload_n hx hb dX6_gangTold_118 rfl (lv_at hl 2 rfl) ?_
      refine lv_iadd hx hb dX6_gangTold_119 ?_
      refine lv_tope (y := 111) (by decide) ?_
      refine lv_iconst (v := 1) hx hb dX6_gangTold_120 (by decide) ?_
      refine lv_isub hx hb dX6_gangTold_121 ?_
      refine lv_tope (y := 110) (by decide) ?_
      refine va_iald hx hb hKK.1 hP 1 0 rfl rfl (hin := (vp_in_nI (n := 110) (by decide) (by decide))) dX6_gangTold_122 ?_
      refine lv_tope (y := rn 110) rfl ?_
      have e9 : mgtold rn 3 = rn 110 := (by first | with_reducible rfl | (simp only [mgtold, h_1, if_true, if_false, reduceIte, not_true_eq_false, not_false_eq_true]; done) | (simp [mgtold, h_1]; done))
      exact end_i hx hb hrt hlocks (by rw [e9]) hP hS dX6_gangTold_123
    · skip
      refine lv_tableIn (off := 95) (tgt := 112) hx hb dX6_gangTold_17 (by decide) (by decide) (by decide) (by decide) ?_
      refine lv_aload_n hx hb dX6_gangTold_112 rfl (lv_at hl 1 rfl) ?_
      refine va_get (D := D) (ci := 6) (v := .ref an) (C := RX6) (T := TX6) (N := 8) hx hb hts iX6 hown hKK.1 hP 0 rfl rfl 6 (by decide) (hts (.fieldLink RX6 26 "TrolleyGangModel" "now" "[I") (List.mem_of_getElem? (i := 1) rfl)) (fun _ h9 => h9) rfl dX6_gangTold_113 ?_
      refine lv_bipush (v := 108) hx hb dX6_gangTold_116 (by decide) ?_
      refine lv_iload_n hx hb dX6_gangTold_118 rfl (lv_at hl 2 rfl) ?_
      refine lv_iadd hx hb dX6_gangTold_119 ?_
      refine lv_tope (y := 112) (by decide) ?_
      refine lv_iconst (v := 1) hx hb dX6_gangTold_120 (by decide) ?_
      refine lv_isub hx hb dX6_gangTold_121 ?_
      refine lv_tope (y := 111) (by decide) ?_
      refine va_iald hx hb hKK.1 hP 1 0 rfl rfl (hin := (vp_in_nI (n := 111) (by decide) (by decide))) dX6_gangTold_122 ?_
      refine lv_tope (y := rn 111) rfl ?_
      have e9 : mgtold rn 4 = rn 111 := (by first | with_reducible rfl | (simp only [mgtold, h_1, if_true, if_false, reduceIte, not_true_eq_false, not_false_eq_true]; done) | (simp [mgtold, h_1]; done))
      exact end_i hx hb hrt hlocks (by rw [e9]) hP hS dX6_gangTold_123
    · skip
      refine lv_tableIn (off := 95) (tgt := 112) hx hb dX6_gangTold_17 (by decide) (by decide) (by decide) (by decide) ?_
      refine lv_aload_n hx hb dX6_gangTold_112 rfl (lv_at hl 1 rfl) ?_
      refine va_get (D := D) (ci := 6) (v := .ref an) (C := RX6) (T := TX6) (N := 8) hx hb hts iX6 hown hKK.1 hP 0 rfl rfl 6 (by decide) (hts (.fieldLink RX6 26 "TrolleyGangModel" "now" "[I") (List.mem_of_getElem? (i := 1) rfl)) (fun _ h9 => h9) rfl dX6_gangTold_113 ?_
      refine lv_bipush (v := 108) hx hb dX6_gangTold_116 (by decide) ?_
      refine lv_iload_n hx hb dX6_gangTold_118 rfl (lv_at hl 2 rfl) ?_
      refine lv_iadd hx hb dX6_gangTold_119 ?_
      refine lv_tope (y := 113) (by decide) ?_
      refine lv_iconst (v := 1) hx hb dX6_gangTold_120 (by decide) ?_
      refine lv_isub hx hb dX6_gangTold_121 ?_
      refine lv_tope (y := 112) (by decide) ?_
      refine va_iald hx hb hKK.1 hP 1 0 rfl rfl (hin := (vp_in_nI (n := 112) (by decide) (by decide))) dX6_gangTold_122 ?_
      refine lv_tope (y := rn 112) rfl ?_
      have e9 : mgtold rn 5 = rn 112 := (by first | with_reducible rfl | (simp only [mgtold, h_1, if_true, if_false, reduceIte, not_true_eq_false, not_false_eq_true]; done) | (simp [mgtold, h_1]; done))
      exact end_i hx hb hrt hlocks (by rw [e9]) hP hS dX6_gangTold_123
    · skip
      refine lv_tableIn (off := 75) (tgt := 92) hx hb dX6_gangTold_17 (by decide) (by decide) (by decide) (by decide) ?_
      refine lv_iload_n hx hb dX6_gangTold_92 rfl (lv_at hl 0 rfl) ?_
      refine lv_if_eq (tgt := 110) hx hb dX6_gangTold_93 (by decide) (fun h9 => absurd h9 (by decide)) (fun _ => ?_)
      refine lv_aload_n hx hb dX6_gangTold_96 rfl (lv_at hl 1 rfl) ?_
      refine lv_aload_n hx hb dX6_gangTold_97 rfl (lv_at hl 1 rfl) ?_
      refine va_get (D := D) (ci := 6) (v := .ref an) (C := RX6) (T := TX6) (N := 8) hx hb hts iX6 hown hKK.1 hP 0 rfl rfl 6 (by decide) (hts (.fieldLink RX6 26 "TrolleyGangModel" "now" "[I") (List.mem_of_getElem? (i := 1) rfl)) (fun _ h9 => h9) rfl dX6_gangTold_98 ?_
      refine lv_bipush (v := 113) hx hb dX6_gangTold_101 (by decide) ?_
      refine va_iald hx hb hKK.1 hP 1 0 rfl rfl (hin := (vp_in_nI (n := 113) (by decide) (by decide))) dX6_gangTold_103 ?_
      refine lv_tope (y := rn 113) rfl ?_
      have hPc := hP.sub (ws' := (cM aM ac as_ an ah th bu fd fn ++ cA cyI an 121 rn)) [0, 1] rfl
      have hDc := hD.sub (ws' := (cM aM ac as_ an ah th bu fd fn ++ cA cyI an 121 rn)) [0, 1] (by decide) rfl
      refine ret_i (W1 := (cM aM ac as_ an ah th bu fd fn ++ cA cyI an 121 rn)) (W2 := (cM aM ac as_ an ah th bu fd fn ++ cA cyI an 121 rn)) (ws1 := (cM aM ac as_ an ah th bu fd fn ++ cA cyI an 121 rn)) (r := mhrs rn (rn 113)) (run_V (q := (RX6, TX6, 8)) (n := 1) (As := [.int (rn 113)]) (rest := []) ⟨hx, hb, hml, hown, hts⟩ (c_X6_hoursTill l D cyI cyO cyL aM ac as_ an ah th bu fd fn rn (rn 113) _) ggX6_gangTold_X6_hoursTill rfl rfl rfl (hts (.methodLink RX6 82 yX6_hoursTill) (List.mem_of_getElem? (i := 2) rfl)) (hts (.initialized RX6) (List.mem_of_getElem? (i := 5) rfl)) (hts (.instanceMethod yX6_hoursTill) (List.mem_of_getElem? (i := 3) rfl)) (hts (.selects RX6 yX6_hoursTill yX6_hoursTill) (List.mem_of_getElem? (i := 4) rfl)) (by decide +kernel) ⟨Nat.le_of_ble_eq_true rfl, Nat.le_of_ble_eq_true rfl⟩ hKK hPc hDc (ci := 6) (q0 := 0) rfl rfl rfl hl.1 rfl (Nat.le_of_ble_eq_true rfl) dX6_gangTold_104 ⟨Nat.zero_le _, Nat.zero_le _⟩) hP hD hS hA [0, 1] rfl rfl [(true, 0), (true, 1)] (by decide +kernel) rfl (fun H locs hP hD hS => ?_)
      refine lv_goto (tgt := 111) hx hb dX6_gangTold_107 (by decide) ?_
      have e9 : mgtold rn 6 = mhrs rn (rn 113) := (by first | with_reducible rfl | (simp only [mgtold, h_1, if_true, if_false, reduceIte, not_true_eq_false, not_false_eq_true]; done) | (simp [mgtold, h_1]; done))
      exact end_i hx hb hrt hlocks (by rw [e9]) hP hS dX6_gangTold_111
    · skip
      refine lv_tableOut (tgt := 112) hx hb dX6_gangTold_17 hs_3 (by decide) ?_
      exact absurd (vp_in_iff.mp hxx) (by omega)
set_option maxHeartbeats 4000000 in
set_option maxRecDepth 100000 in
theorem c_X6_summed (l : Launch) (D : va_G) (cyI cyO cyL : ClassId) (aM : Nat) (ac : Nat) (as_ : Nat) (an : Nat) (ah : Nat) (ar : Nat) (th : Int32) (bu : Int32) (fd : Int32) (fn : Int32) (rw : Nat → Int32) (x_ : Int32) (n : Nat) (hn : n ≤ 6) (hbu : bu = nI n) : cI l yX6_summed wsX6_summed ({ frames := 1, cells := 0, slots := 0, locals := 24 }) D cyI cyO cyL [.ref aM, .ref ar, .int x_] (cM aM ac as_ an ah th bu fd fn ++ cA cyI ar 121 rw) (cM aM ac as_ an ah th bu fd fn ++ cA cyI ar 121 rw) (msummed rw n x_) := by
  intro sz
  refine Met.ofW (cc := cX6_summed) (maxL := 3) (ret := (some .int)) (by decide) rfl ?_
  intro p e s m args below meth c s₁ B9 hml hv
  obtain ⟨rfl, hsz, hP, hKK, hD0⟩ := hv
  have hx := B9.exec
  have hb := B9.bytes
  have hrt := B9.returns
  have hts := atoms_spec (ws := wsX6_summed) B9.pre
  have hown : s.vm.findClass RX6 = some m.cls := findClass_of_methodNamed B9.named
  have hlocks := B9.notSynchronized
  have nw := fun {w : Cond} (h : w ∈ nw_all) => NW.use (args := ([.ref aM, .ref ar, .int x_] : List Value).toArray) hKK.2 h
  subst hsz
  have hD := hD0.self (sz := s.heap.size)
  generalize hAe : va_A (cM aM ac as_ an ah th bu fd fn ++ cA cyI ar 121 rw) s.heap.size = A at hD ⊢
  have hA : ∀ q : Nat, s.heap.size ≤ q → A q := fun q h => by rw [← hAe]; exact Or.inr h
  have hS : va_S A s.heap s.heap [] := va_S.rf
  have hl := lv_entry ([.ref aM, .ref ar, .int x_]) (n := 3) (Nat.le_of_ble_eq_true rfl)
  rw [lg_entry_eq]
  generalize (lg_sl ([.ref aM, .ref ar, .int x_]) ++ List.replicate (3 - (lg_sl ([.ref aM, .ref ar, .int x_])).length) Slot.unset).toArray = ls at hl ⊢
  have hl : lv_has ls 3 [(0, .ref aM), (1, .ref ar), (2, .int x_)] := hl
  refine lv_iload_n hx hb dX6_summed_0 rfl (lv_at hl 2 rfl) ?_
  rcases sw27 x_ with rfl | rfl | rfl | rfl | rfl | rfl | hs_1
  · skip
    refine lv_tableIn (off := 39) (tgt := 40) hx hb dX6_summed_1 (by decide) (by decide) (by decide) (by decide) ?_
    refine lv_aload_n hx hb dX6_summed_40 rfl (lv_at hl 1 rfl) ?_
    refine lv_bipush (v := 119) hx hb dX6_summed_41 (by decide) ?_
    refine va_iald hx hb hKK.1 hP 1 0 rfl rfl (hin := (vp_in_nI (n := 119) (by decide) (by decide))) dX6_summed_43 ?_
    refine lv_tope (y := rw 119) rfl ?_
    have e9 : msummed rw n 2 = rw 119 := (by first | with_reducible rfl | (simp only [msummed, if_true, if_false, reduceIte, not_true_eq_false, not_false_eq_true]; done) | (simp [msummed]; done))
    exact end_i hx hb hrt hlocks (by rw [e9]) hP hS dX6_summed_44
  · skip
    refine lv_tableIn (off := 64) (tgt := 65) hx hb dX6_summed_1 (by decide) (by decide) (by decide) (by decide) ?_
    refine lv_aload_n hx hb dX6_summed_65 rfl (lv_at hl 0 rfl) ?_
    refine lv_aload_n hx hb dX6_summed_66 rfl (lv_at hl 1 rfl) ?_
    refine lv_iconst (v := 5) hx hb dX6_summed_67 (by decide) ?_
    have hPc := hP.sub (ws' := (cM aM ac as_ an ah th bu fd fn ++ cA cyI ar 121 rw)) [0, 1] rfl
    have hDc := hD.sub (ws' := (cM aM ac as_ an ah th bu fd fn ++ cA cyI ar 121 rw)) [0, 1] (by decide) rfl
    refine ret_i (W1 := (cM aM ac as_ an ah th bu fd fn ++ cA cyI ar 121 rw)) (W2 := (cM aM ac as_ an ah th bu fd fn ++ cA cyI ar 121 rw)) (ws1 := (cM aM ac as_ an ah th bu fd fn ++ cA cyI ar 121 rw)) (r := mob rw 5 n 0 0) (run_V (q := (RX6, TX6, 8)) (n := 2) (As := [.ref ar, .int 5]) (rest := []) ⟨hx, hb, hml, hown, hts⟩ (c_X6_ofBuses l D cyI cyO cyL aM ac as_ an ah ar th bu fd fn rw n 5 (by first | assumption | omega) (by first | assumption | omega) (by first | assumption | omega) _) ggX6_summed_X6_ofBuses rfl rfl rfl (hts (.methodLink RX6 92 yX6_ofBuses) (List.mem_of_getElem? (i := 5) rfl)) (hts (.initialized RX6) (List.mem_of_getElem? (i := 3) rfl)) (hts (.instanceMethod yX6_ofBuses) (List.mem_of_getElem? (i := 6) rfl)) (hts (.selects RX6 yX6_ofBuses yX6_ofBuses) (List.mem_of_getElem? (i := 7) rfl)) (by decide +kernel) ⟨Nat.le_of_ble_eq_true rfl, Nat.le_of_ble_eq_true rfl⟩ hKK hPc hDc (ci := 6) (q0 := 0) rfl rfl rfl hl.1 rfl (Nat.le_of_ble_eq_true rfl) dX6_summed_68 ⟨Nat.zero_le _, Nat.zero_le _⟩) hP hD hS hA [0, 1] rfl rfl [(true, 0), (true, 1)] (by decide +kernel) rfl (fun H locs hP hD hS => ?_)
    have e9 : msummed rw n 3 = mob rw 5 n 0 0 := (by first | with_reducible rfl | (simp only [msummed, if_true, if_false, reduceIte, not_true_eq_false, not_false_eq_true]; done) | (simp [msummed]; done))
    exact end_i hx hb hrt hlocks (by rw [e9]) hP hS dX6_summed_71
  · skip
    refine lv_tableIn (off := 64) (tgt := 65) hx hb dX6_summed_1 (by decide) (by decide) (by decide) (by decide) ?_
    refine lv_aload_n hx hb dX6_summed_65 rfl (lv_at hl 0 rfl) ?_
    refine lv_aload_n hx hb dX6_summed_66 rfl (lv_at hl 1 rfl) ?_
    refine lv_iconst (v := 5) hx hb dX6_summed_67 (by decide) ?_
    have hPc := hP.sub (ws' := (cM aM ac as_ an ah th bu fd fn ++ cA cyI ar 121 rw)) [0, 1] rfl
    have hDc := hD.sub (ws' := (cM aM ac as_ an ah th bu fd fn ++ cA cyI ar 121 rw)) [0, 1] (by decide) rfl
    refine ret_i (W1 := (cM aM ac as_ an ah th bu fd fn ++ cA cyI ar 121 rw)) (W2 := (cM aM ac as_ an ah th bu fd fn ++ cA cyI ar 121 rw)) (ws1 := (cM aM ac as_ an ah th bu fd fn ++ cA cyI ar 121 rw)) (r := mob rw 5 n 0 0) (run_V (q := (RX6, TX6, 8)) (n := 2) (As := [.ref ar, .int 5]) (rest := []) ⟨hx, hb, hml, hown, hts⟩ (c_X6_ofBuses l D cyI cyO cyL aM ac as_ an ah ar th bu fd fn rw n 5 (by first | assumption | omega) (by first | assumption | omega) (by first | assumption | omega) _) ggX6_summed_X6_ofBuses rfl rfl rfl (hts (.methodLink RX6 92 yX6_ofBuses) (List.mem_of_getElem? (i := 5) rfl)) (hts (.initialized RX6) (List.mem_of_getElem? (i := 3) rfl)) (hts (.instanceMethod yX6_ofBuses) (List.mem_of_getElem? (i := 6) rfl)) (hts (.selects RX6 yX6_ofBuses yX6_ofBuses) (List.mem_of_getElem? (i := 7) rfl)) (by decide +kernel) ⟨Nat.le_of_ble_eq_true rfl, Nat.le_of_ble_eq_true rfl⟩ hKK hPc hDc (ci := 6) (q0 := 0) rfl rfl rfl hl.1 rfl (Nat.le_of_ble_eq_true rfl) dX6_summed_68 ⟨Nat.zero_le _, Nat.zero_le _⟩) hP hD hS hA [0, 1] rfl rfl [(true, 0), (true, 1)] (by decide +kernel) rfl (fun H locs hP hD hS => ?_)
    have e9 : msummed rw n 4 = mob rw 5 n 0 0 := (by first | with_reducible rfl | (simp only [msummed, if_true, if_false, reduceIte, not_true_eq_false, not_false_eq_true]; done) | (simp [msummed]; done))
    exact end_i hx hb hrt hlocks (by rw [e9]) hP hS dX6_summed_71
  · skip
    refine lv_tableIn (off := 44) (tgt := 45) hx hb dX6_summed_1 (by decide) (by decide) (by decide) (by decide) ?_
    refine lv_aload_n hx hb dX6_summed_45 rfl (lv_at hl 1 rfl) ?_
    refine lv_bipush (v := 48) hx hb dX6_summed_46 (by decide) ?_
    have hPc := hP.sub (ws' := (cA cyI ar 121 rw)) [1] rfl
    have hDc := hD.sub (ws' := (cA cyI ar 121 rw)) [1] (by decide) rfl
    refine ret_i (W1 := (cA cyI ar 121 rw)) (W2 := (cA cyI ar 121 rw)) (ws1 := (cM aM ac as_ an ah th bu fd fn ++ cA cyI ar 121 rw)) (r := msum rw 48 24 0 0) (run_S (n := 2) (As := [.ref ar, .int 48]) (rest := []) ⟨hx, hb, hml, hown, hts⟩ (c_X6_sum l D cyI cyO cyL ar rw 48 (by first | assumption | omega) _) ggX6_summed_X6_sum rfl rfl rfl (hts (.methodLink RX6 88 yX6_sum) (List.mem_of_getElem? (i := 1) rfl)) (hts (.initialized RX6) (List.mem_of_getElem? (i := 3) rfl)) (hts (.static yX6_sum) (List.mem_of_getElem? (i := 2) rfl)) (by decide +kernel) ⟨Nat.le_of_ble_eq_true rfl, Nat.le_of_ble_eq_true rfl⟩ hKK hPc hDc rfl hl.1 rfl (Nat.le_of_ble_eq_true rfl) dX6_summed_48 ⟨Nat.zero_le _, Nat.zero_le _⟩) hP hD hS hA [1] rfl rfl [(false, 0), (true, 0)] (by decide +kernel) rfl (fun H locs hP hD hS => ?_)
    have e9 : msummed rw n 5 = msum rw 48 24 0 0 := (by first | with_reducible rfl | (simp only [msummed, if_true, if_false, reduceIte, not_true_eq_false, not_false_eq_true]; done) | (simp [msummed]; done))
    exact end_i hx hb hrt hlocks (by rw [e9]) hP hS dX6_summed_51
  · skip
    refine lv_tableIn (off := 51) (tgt := 52) hx hb dX6_summed_1 (by decide) (by decide) (by decide) (by decide) ?_
    refine lv_aload_n hx hb dX6_summed_52 rfl (lv_at hl 1 rfl) ?_
    refine lv_iconst (v := 0) hx hb dX6_summed_53 (by decide) ?_
    have hPc := hP.sub (ws' := (cA cyI ar 121 rw)) [1] rfl
    have hDc := hD.sub (ws' := (cA cyI ar 121 rw)) [1] (by decide) rfl
    refine ret_i (W1 := (cA cyI ar 121 rw)) (W2 := (cA cyI ar 121 rw)) (ws1 := (cM aM ac as_ an ah th bu fd fn ++ cA cyI ar 121 rw)) (r := msum rw 0 24 0 0) (run_S (n := 2) (As := [.ref ar, .int 0]) (rest := []) ⟨hx, hb, hml, hown, hts⟩ (c_X6_sum l D cyI cyO cyL ar rw 0 (by first | assumption | omega) _) ggX6_summed_X6_sum rfl rfl rfl (hts (.methodLink RX6 88 yX6_sum) (List.mem_of_getElem? (i := 1) rfl)) (hts (.initialized RX6) (List.mem_of_getElem? (i := 3) rfl)) (hts (.static yX6_sum) (List.mem_of_getElem? (i := 2) rfl)) (by decide +kernel) ⟨Nat.le_of_ble_eq_true rfl, Nat.le_of_ble_eq_true rfl⟩ hKK hPc hDc rfl hl.1 rfl (Nat.le_of_ble_eq_true rfl) dX6_summed_54 ⟨Nat.zero_le _, Nat.zero_le _⟩) hP hD hS hA [1] rfl rfl [(false, 0), (true, 0)] (by decide +kernel) rfl (fun H locs hP hD hS => ?_)
    have e9 : msummed rw n 6 = msum rw 0 24 0 0 := (by first | with_reducible rfl | (simp only [msummed, if_true, if_false, reduceIte, not_true_eq_false, not_false_eq_true]; done) | (simp [msummed]; done))
    exact end_i hx hb hrt hlocks (by rw [e9]) hP hS dX6_summed_57
  · skip
    refine lv_tableIn (off := 57) (tgt := 58) hx hb dX6_summed_1 (by decide) (by decide) (by decide) (by decide) ?_
    refine lv_aload_n hx hb dX6_summed_58 rfl (lv_at hl 1 rfl) ?_
    refine lv_bipush (v := 24) hx hb dX6_summed_59 (by decide) ?_
    have hPc := hP.sub (ws' := (cA cyI ar 121 rw)) [1] rfl
    have hDc := hD.sub (ws' := (cA cyI ar 121 rw)) [1] (by decide) rfl
    refine ret_i (W1 := (cA cyI ar 121 rw)) (W2 := (cA cyI ar 121 rw)) (ws1 := (cM aM ac as_ an ah th bu fd fn ++ cA cyI ar 121 rw)) (r := msum rw 24 24 0 0) (run_S (n := 2) (As := [.ref ar, .int 24]) (rest := []) ⟨hx, hb, hml, hown, hts⟩ (c_X6_sum l D cyI cyO cyL ar rw 24 (by first | assumption | omega) _) ggX6_summed_X6_sum rfl rfl rfl (hts (.methodLink RX6 88 yX6_sum) (List.mem_of_getElem? (i := 1) rfl)) (hts (.initialized RX6) (List.mem_of_getElem? (i := 3) rfl)) (hts (.static yX6_sum) (List.mem_of_getElem? (i := 2) rfl)) (by decide +kernel) ⟨Nat.le_of_ble_eq_true rfl, Nat.le_of_ble_eq_true rfl⟩ hKK hPc hDc rfl hl.1 rfl (Nat.le_of_ble_eq_true rfl) dX6_summed_61 ⟨Nat.zero_le _, Nat.zero_le _⟩) hP hD hS hA [1] rfl rfl [(false, 0), (true, 0)] (by decide +kernel) rfl (fun H locs hP hD hS => ?_)
    have e9 : msummed rw n 7 = msum rw 24 24 0 0 := (by first | with_reducible rfl | (simp only [msummed, if_true, if_false, reduceIte, not_true_eq_false, not_false_eq_true]; done) | (simp [msummed]; done))
    exact end_i hx hb hrt hlocks (by rw [e9]) hP hS dX6_summed_64
  · skip
    refine lv_tableOut (tgt := 65) hx hb dX6_summed_1 hs_1 (by decide) ?_
    refine lv_aload_n hx hb dX6_summed_65 rfl (lv_at hl 0 rfl) ?_
    refine lv_aload_n hx hb dX6_summed_66 rfl (lv_at hl 1 rfl) ?_
    refine lv_iconst (v := 5) hx hb dX6_summed_67 (by decide) ?_
    have hPc := hP.sub (ws' := (cM aM ac as_ an ah th bu fd fn ++ cA cyI ar 121 rw)) [0, 1] rfl
    have hDc := hD.sub (ws' := (cM aM ac as_ an ah th bu fd fn ++ cA cyI ar 121 rw)) [0, 1] (by decide) rfl
    refine ret_i (W1 := (cM aM ac as_ an ah th bu fd fn ++ cA cyI ar 121 rw)) (W2 := (cM aM ac as_ an ah th bu fd fn ++ cA cyI ar 121 rw)) (ws1 := (cM aM ac as_ an ah th bu fd fn ++ cA cyI ar 121 rw)) (r := mob rw 5 n 0 0) (run_V (q := (RX6, TX6, 8)) (n := 2) (As := [.ref ar, .int 5]) (rest := []) ⟨hx, hb, hml, hown, hts⟩ (c_X6_ofBuses l D cyI cyO cyL aM ac as_ an ah ar th bu fd fn rw n 5 (by first | assumption | omega) (by first | assumption | omega) (by first | assumption | omega) _) ggX6_summed_X6_ofBuses rfl rfl rfl (hts (.methodLink RX6 92 yX6_ofBuses) (List.mem_of_getElem? (i := 5) rfl)) (hts (.initialized RX6) (List.mem_of_getElem? (i := 3) rfl)) (hts (.instanceMethod yX6_ofBuses) (List.mem_of_getElem? (i := 6) rfl)) (hts (.selects RX6 yX6_ofBuses yX6_ofBuses) (List.mem_of_getElem? (i := 7) rfl)) (by decide +kernel) ⟨Nat.le_of_ble_eq_true rfl, Nat.le_of_ble_eq_true rfl⟩ hKK hPc hDc (ci := 6) (q0 := 0) rfl rfl rfl hl.1 rfl (Nat.le_of_ble_eq_true rfl) dX6_summed_68 ⟨Nat.zero_le _, Nat.zero_le _⟩) hP hD hS hA [0, 1] rfl rfl [(true, 0), (true, 1)] (by decide +kernel) rfl (fun H locs hP hD hS => ?_)
    have e9 : msummed rw n x_ = mob rw 5 n 0 0 := (by first | with_reducible rfl | (simp only [msummed, (nt27 hs_1), if_true, if_false, reduceIte, not_true_eq_false, not_false_eq_true]; done) | (simp [msummed, (nt27 hs_1)]; done))
    exact end_i hx hb hrt hlocks (by rw [e9]) hP hS dX6_summed_71
set_option maxHeartbeats 4000000 in
set_option maxRecDepth 100000 in
theorem c_X6_counted (l : Launch) (D : va_G) (cyI cyO cyL : ClassId) (aM : Nat) (ac : Nat) (as_ : Nat) (an : Nat) (ah : Nat) (th : Int32) (bu : Int32) (fd : Int32) (fn : Int32) (rn : Nat → Int32) (x_ : Int32) (n : Nat) (hn : n ≤ 6) (hbu : bu = nI n) : cI l yX6_counted wsX6_counted ({ frames := 2, cells := 0, slots := 0, locals := 46 }) D cyI cyO cyL [.ref aM, .int x_] (cM aM ac as_ an ah th bu fd fn ++ cA cyI an 121 rn) (cM aM ac as_ an ah th bu fd fn ++ cA cyI an 121 rn) (mcounted rn n bu x_) := by
  intro sz
  refine Met.ofW (cc := cX6_counted) (maxL := 2) (ret := (some .int)) (by decide) rfl ?_
  intro p e s m args below meth c s₁ B9 hml hv
  obtain ⟨rfl, hsz, hP, hKK, hD0⟩ := hv
  have hx := B9.exec
  have hb := B9.bytes
  have hrt := B9.returns
  have hts := atoms_spec (ws := wsX6_counted) B9.pre
  have hown : s.vm.findClass RX6 = some m.cls := findClass_of_methodNamed B9.named
  have hlocks := B9.notSynchronized
  have nw := fun {w : Cond} (h : w ∈ nw_all) => NW.use (args := ([.ref aM, .int x_] : List Value).toArray) hKK.2 h
  have iX6 : ∀ w ∈ wsX60, w ∈ wsX6_counted := fun _ h => List.mem_cons_of_mem _ (List.mem_append_right _ h)
  subst hsz
  have hD := hD0.self (sz := s.heap.size)
  generalize hAe : va_A (cM aM ac as_ an ah th bu fd fn ++ cA cyI an 121 rn) s.heap.size = A at hD ⊢
  have hA : ∀ q : Nat, s.heap.size ≤ q → A q := fun q h => by rw [← hAe]; exact Or.inr h
  have hS : va_S A s.heap s.heap [] := va_S.rf
  have hl := lv_entry ([.ref aM, .int x_]) (n := 2) (Nat.le_of_ble_eq_true rfl)
  rw [lg_entry_eq]
  generalize (lg_sl ([.ref aM, .int x_]) ++ List.replicate (2 - (lg_sl ([.ref aM, .int x_])).length) Slot.unset).toArray = ls at hl ⊢
  have hl : lv_has ls 2 [(0, .ref aM), (1, .int x_)] := hl
  refine lv_iload_n hx hb dX6_counted_0 rfl (lv_at hl 1 rfl) ?_
  refine lv_if_ne (tgt := 14) hx hb dX6_counted_1 (by decide) (fun h_1 => ?_) (fun h_1 => ?_)
  · skip
    refine lv_iload_n hx hb dX6_counted_14 rfl (lv_at hl 1 rfl) ?_
    refine lv_iconst (v := 1) hx hb dX6_counted_15 (by decide) ?_
    refine lv_icmp_ne (tgt := 40) hx hb dX6_counted_16 (by decide) (fun h_2 => ?_) (fun h_2 => ?_)
    · skip
      refine lv_iload_n hx hb dX6_counted_40 rfl (lv_at hl 1 rfl) ?_
      refine lv_iconst (v := 3) hx hb dX6_counted_41 (by decide) ?_
      refine lv_icmp_ne (tgt := 52) hx hb dX6_counted_42 (by decide) (fun h_3 => ?_) (fun h_3 => ?_)
      · skip
        refine lv_iload_n hx hb dX6_counted_52 rfl (lv_at hl 1 rfl) ?_
        refine lv_iconst (v := 4) hx hb dX6_counted_53 (by decide) ?_
        refine lv_icmp_ne (tgt := 69) hx hb dX6_counted_54 (by decide) (fun h_4 => ?_) (fun h_4 => ?_)
        · skip
          refine lv_aload_n hx hb dX6_counted_69 rfl (lv_at hl 0 rfl) ?_
          refine lv_aload_n hx hb dX6_counted_70 rfl (lv_at hl 0 rfl) ?_
          refine va_get (D := D) (ci := 6) (v := .ref an) (C := RX6) (T := TX6) (N := 8) hx hb hts iX6 hown hKK.1 hP 0 rfl rfl 6 (by decide) (hts (.fieldLink RX6 26 "TrolleyGangModel" "now" "[I") (List.mem_of_getElem? (i := 1) rfl)) (fun _ h9 => h9) rfl dX6_counted_71 ?_
          refine lv_iload_n hx hb dX6_counted_74 rfl (lv_at hl 1 rfl) ?_
          have hPc := hP.sub (ws' := (cM aM ac as_ an ah th bu fd fn ++ cA cyI an 121 rn)) [0, 1] rfl
          have hDc := hD.sub (ws' := (cM aM ac as_ an ah th bu fd fn ++ cA cyI an 121 rn)) [0, 1] (by decide) rfl
          refine ret_i (W1 := (cM aM ac as_ an ah th bu fd fn ++ cA cyI an 121 rn)) (W2 := (cM aM ac as_ an ah th bu fd fn ++ cA cyI an 121 rn)) (ws1 := (cM aM ac as_ an ah th bu fd fn ++ cA cyI an 121 rn)) (r := msummed rn n x_) (run_V (q := (RX6, TX6, 8)) (n := 2) (As := [.ref an, .int x_]) (rest := []) ⟨hx, hb, hml, hown, hts⟩ (c_X6_summed l D cyI cyO cyL aM ac as_ an ah an th bu fd fn rn x_ n (by first | assumption | omega) (by first | assumption | omega) _) ggX6_counted_X6_summed rfl rfl rfl (hts (.methodLink RX6 98 yX6_summed) (List.mem_of_getElem? (i := 11) rfl)) (hts (.initialized RX6) (List.mem_of_getElem? (i := 5) rfl)) (hts (.instanceMethod yX6_summed) (List.mem_of_getElem? (i := 12) rfl)) (hts (.selects RX6 yX6_summed yX6_summed) (List.mem_of_getElem? (i := 13) rfl)) (by decide +kernel) ⟨Nat.le_of_ble_eq_true rfl, Nat.le_of_ble_eq_true rfl⟩ hKK hPc hDc (ci := 6) (q0 := 0) rfl rfl rfl hl.1 rfl (Nat.le_of_ble_eq_true rfl) dX6_counted_75 ⟨Nat.zero_le _, Nat.zero_le _⟩) hP hD hS hA [0, 1] rfl rfl [(true, 0), (true, 1)] (by decide +kernel) rfl (fun H locs hP hD hS => ?_)
          have e9 : mcounted rn n bu x_ = msummed rn n x_ := (by first | with_reducible rfl | (simp only [mcounted, h_1, h_2, h_3, h_4, if_true, if_false, reduceIte, not_true_eq_false, not_false_eq_true]; done) | (simp [mcounted, h_1, h_2, h_3, h_4]; done))
          exact end_i hx hb hrt hlocks (by rw [e9]) hP hS dX6_counted_78
        · skip
          refine lv_aload_n hx hb dX6_counted_57 rfl (lv_at hl 0 rfl) ?_
          refine lv_aload_n hx hb dX6_counted_58 rfl (lv_at hl 0 rfl) ?_
          refine va_get (D := D) (ci := 6) (v := .ref an) (C := RX6) (T := TX6) (N := 8) hx hb hts iX6 hown hKK.1 hP 0 rfl rfl 6 (by decide) (hts (.fieldLink RX6 26 "TrolleyGangModel" "now" "[I") (List.mem_of_getElem? (i := 1) rfl)) (fun _ h9 => h9) rfl dX6_counted_59 ?_
          refine lv_iconst (v := 2) hx hb dX6_counted_62 (by decide) ?_
          have hPc := hP.sub (ws' := (cM aM ac as_ an ah th bu fd fn ++ cA cyI an 121 rn)) [0, 1] rfl
          have hDc := hD.sub (ws' := (cM aM ac as_ an ah th bu fd fn ++ cA cyI an 121 rn)) [0, 1] (by decide) rfl
          refine ret_i (W1 := (cM aM ac as_ an ah th bu fd fn ++ cA cyI an 121 rn)) (W2 := (cM aM ac as_ an ah th bu fd fn ++ cA cyI an 121 rn)) (ws1 := (cM aM ac as_ an ah th bu fd fn ++ cA cyI an 121 rn)) (r := mob rn 2 n 0 0) (run_V (q := (RX6, TX6, 8)) (n := 2) (As := [.ref an, .int 2]) (rest := []) ⟨hx, hb, hml, hown, hts⟩ (c_X6_ofBuses l D cyI cyO cyL aM ac as_ an ah an th bu fd fn rn n 2 (by first | assumption | omega) (by first | assumption | omega) (by first | assumption | omega) _) ggX6_counted_X6_ofBuses rfl rfl rfl (hts (.methodLink RX6 92 yX6_ofBuses) (List.mem_of_getElem? (i := 7) rfl)) (hts (.initialized RX6) (List.mem_of_getElem? (i := 5) rfl)) (hts (.instanceMethod yX6_ofBuses) (List.mem_of_getElem? (i := 8) rfl)) (hts (.selects RX6 yX6_ofBuses yX6_ofBuses) (List.mem_of_getElem? (i := 9) rfl)) (by decide +kernel) ⟨Nat.le_of_ble_eq_true rfl, Nat.le_of_ble_eq_true rfl⟩ hKK hPc hDc (ci := 6) (q0 := 0) rfl rfl rfl hl.1 rfl (Nat.le_of_ble_eq_true rfl) dX6_counted_63 ⟨Nat.zero_le _, Nat.zero_le _⟩) hP hD hS hA [0, 1] rfl rfl [(true, 0), (true, 1)] (by decide +kernel) rfl (fun H locs hP hD hS => ?_)
          refine lv_goto (tgt := 78) hx hb dX6_counted_66 (by decide) ?_
          have e9 : mcounted rn n bu x_ = mob rn 2 n 0 0 := (by first | with_reducible rfl | (simp only [mcounted, h_1, h_2, h_3, h_4, if_true, if_false, reduceIte, not_true_eq_false, not_false_eq_true]; done) | (simp [mcounted, h_1, h_2, h_3, h_4]; done))
          exact end_i hx hb hrt hlocks (by rw [e9]) hP hS dX6_counted_78
      · skip
        refine lv_aload_n hx hb dX6_counted_45 rfl (lv_at hl 0 rfl) ?_
        refine va_get (D := D) (ci := 6) (v := .int bu) (C := RX6) (T := TX6) (N := 8) hx hb hts iX6 hown hKK.1 hP 0 rfl rfl 1 (by decide) (hts (.fieldLink RX6 36 "TrolleyGangModel" "buses" "I") (List.mem_of_getElem? (i := 2) rfl)) (fun _ h9 => h9) rfl dX6_counted_46 ?_
        refine lv_goto (tgt := 78) hx hb dX6_counted_49 (by decide) ?_
        have e9 : mcounted rn n bu x_ = bu := (by first | with_reducible rfl | (simp only [mcounted, h_1, h_2, h_3, if_true, if_false, reduceIte, not_true_eq_false, not_false_eq_true]; done) | (simp [mcounted, h_1, h_2, h_3]; done))
        exact end_i hx hb hrt hlocks (by rw [e9]) hP hS dX6_counted_78
    · skip
      refine lv_aload_n hx hb dX6_counted_19 rfl (lv_at hl 0 rfl) ?_
      refine va_get (D := D) (ci := 6) (v := .ref an) (C := RX6) (T := TX6) (N := 8) hx hb hts iX6 hown hKK.1 hP 0 rfl rfl 6 (by decide) (hts (.fieldLink RX6 26 "TrolleyGangModel" "now" "[I") (List.mem_of_getElem? (i := 1) rfl)) (fun _ h9 => h9) rfl dX6_counted_20 ?_
      refine lv_bipush (v := 120) hx hb dX6_counted_23 (by decide) ?_
      refine va_iald hx hb hKK.1 hP 1 0 rfl rfl (hin := (vp_in_nI (n := 120) (by decide) (by decide))) dX6_counted_25 ?_
      refine lv_tope (y := rn 120) rfl ?_
      have hPc := hP.sub (ws' := ([] : va_W)) [] rfl
      have hDc := hD.sub (ws' := ([] : va_W)) [] (by decide) rfl
      refine ret_i (W1 := ([] : va_W)) (W2 := ([] : va_W)) (ws1 := (cM aM ac as_ an ah th bu fd fn ++ cA cyI an 121 rn)) (r := ntM (rn 120)) (run_S (n := 1) (As := [.int (rn 120)]) (rest := []) ⟨hx, hb, hml, hown, hts⟩ (c_X6_isNight l D cyI cyO cyL (rn 120) _) ggX6_counted_X6_isNight rfl rfl rfl (hts (.methodLink RX6 95 yX6_isNight) (List.mem_of_getElem? (i := 3) rfl)) (hts (.initialized RX6) (List.mem_of_getElem? (i := 5) rfl)) (hts (.static yX6_isNight) (List.mem_of_getElem? (i := 4) rfl)) (by decide +kernel) ⟨Nat.le_of_ble_eq_true rfl, Nat.le_of_ble_eq_true rfl⟩ hKK hPc hDc rfl hl.1 rfl (Nat.le_of_ble_eq_true rfl) dX6_counted_26 ⟨Nat.zero_le _, Nat.zero_le _⟩) hP hD hS hA [] rfl rfl [(false, 0), (false, 1)] (by decide +kernel) rfl (fun H locs hP hD hS => ?_)
      refine lv_if_eq (tgt := 36) hx hb dX6_counted_29 (by decide) (fun h_5 => ?_) (fun h_5 => ?_)
      · skip
        refine lv_iconst (v := 0) hx hb dX6_counted_36 (by decide) ?_
        refine lv_goto (tgt := 78) hx hb dX6_counted_37 (by decide) ?_
        have e9 : mcounted rn n bu x_ = 0 := (by first | with_reducible rfl | (simp only [mcounted, h_1, h_2, h_5, if_true, if_false, reduceIte, not_true_eq_false, not_false_eq_true]; done) | (simp [mcounted, h_1, h_2, h_5]; done))
        exact end_i hx hb hrt hlocks (by rw [e9]) hP hS dX6_counted_78
      · skip
        refine lv_iconst (v := 1) hx hb dX6_counted_32 (by decide) ?_
        refine lv_goto (tgt := 78) hx hb dX6_counted_33 (by decide) ?_
        have e9 : mcounted rn n bu x_ = 1 := (by first | with_reducible rfl | (simp only [mcounted, h_1, h_2, h_5, if_true, if_false, reduceIte, not_true_eq_false, not_false_eq_true]; done) | (simp [mcounted, h_1, h_2, h_5]; done))
        exact end_i hx hb hrt hlocks (by rw [e9]) hP hS dX6_counted_78
  · skip
    refine lv_aload_n hx hb dX6_counted_4 rfl (lv_at hl 0 rfl) ?_
    refine va_get (D := D) (ci := 6) (v := .ref an) (C := RX6) (T := TX6) (N := 8) hx hb hts iX6 hown hKK.1 hP 0 rfl rfl 6 (by decide) (hts (.fieldLink RX6 26 "TrolleyGangModel" "now" "[I") (List.mem_of_getElem? (i := 1) rfl)) (fun _ h9 => h9) rfl dX6_counted_5 ?_
    refine lv_bipush (v := 120) hx hb dX6_counted_8 (by decide) ?_
    refine va_iald hx hb hKK.1 hP 1 0 rfl rfl (hin := (vp_in_nI (n := 120) (by decide) (by decide))) dX6_counted_10 ?_
    refine lv_tope (y := rn 120) rfl ?_
    refine lv_goto (tgt := 78) hx hb dX6_counted_11 (by decide) ?_
    have e9 : mcounted rn n bu x_ = rn 120 := (by first | with_reducible rfl | (simp only [mcounted, h_1, if_true, if_false, reduceIte, not_true_eq_false, not_false_eq_true]; done) | (simp [mcounted, h_1]; done))
    exact end_i hx hb hrt hlocks (by rw [e9]) hP hS dX6_counted_78
