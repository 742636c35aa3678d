set_option maxHeartbeats 4000000 in
set_option maxRecDepth 100000 in
theorem c_X6_setCold (l : Launch) (D : va_G) (cyI cyO cyL : ClassId) (aM : Nat) (ac : Nat) (as_ : Nat) (an : Nat) (ah : Nat) (th : Int32) (bu : Int32) (fd : Int32) (fn : Int32) (cd : Nat → Int32) (sw : Nat → Int32) (rn : Nat → Int32) (ra : Nat → Int32) (h_ : Int32) (c_ : Int32) : cI l yX6_setCold wsX6_setCold ({ frames := 1, cells := 0, slots := 0, locals := 23 }) D cyI cyO cyL [.ref aM, .int h_, .int c_] (cM aM ac as_ an ah th bu fd fn ++ cA cyI ac 8 cd ++ cA cyI as_ 12 sw ++ cA cyI an 121 rn ++ cA cyI ah 121 ra) (cM aM ac as_ an ah ((mSetC cd h_ c_).2.1) bu fd fn ++ cA cyI ac 8 ((mSetC cd h_ c_).2.2) ++ cA cyI as_ 12 sw ++ cA cyI an 121 rn ++ cA cyI ah 121 ra) ((mSetC cd h_ c_).1) := by
  intro sz
  refine Met.ofW (cc := cX6_setCold) (maxL := 3) (ret := (some .int)) (by decide) rfl ?_
  intro p e s m args below meth c s₁ B9 hml hv
  obtain ⟨rfl, hsz, hP, hKK, hD0⟩ := hv
  have hx := B9.exec
  have hb := B9.bytes
  have hrt := B9.returns
  have hts := atoms_spec (ws := wsX6_setCold) B9.pre
  have hown : s.vm.findClass RX6 = some m.cls := findClass_of_methodNamed B9.named
  have hlocks := B9.notSynchronized
  have nw := fun {w : Cond} (h : w ∈ nw_all) => NW.use (args := ([.ref aM, .int h_, .int c_] : List Value).toArray) hKK.2 h
  have iX6 : ∀ w ∈ wsX60, w ∈ wsX6_setCold := fun _ h => List.mem_cons_of_mem _ (List.mem_append_right _ h)
  subst hsz
  have hD := hD0.self (sz := s.heap.size)
  generalize hAe : va_A (cM aM ac as_ an ah th bu fd fn ++ cA cyI ac 8 cd ++ cA cyI as_ 12 sw ++ cA cyI an 121 rn ++ cA cyI ah 121 ra) s.heap.size = A at hD ⊢
  have hA : ∀ q : Nat, s.heap.size ≤ q → A q := fun q h => by rw [← hAe]; exact Or.inr h
  have hS : va_S A s.heap s.heap [] := va_S.rf
  have hl := lv_entry ([.ref aM, .int h_, .int c_]) (n := 3) (Nat.le_of_ble_eq_true rfl)
  rw [lg_entry_eq]
  generalize (lg_sl ([.ref aM, .int h_, .int c_]) ++ List.replicate (3 - (lg_sl ([.ref aM, .int h_, .int c_])).length) Slot.unset).toArray = ls at hl ⊢
  have hl : lv_has ls 3 [(0, .ref aM), (1, .int h_), (2, .int c_)] := hl
  refine lv_aload_n hx hb dX6_setCold_0 rfl (lv_at hl 0 rfl) ?_
  refine lv_iconst (v := 0) hx hb dX6_setCold_1 (by decide) ?_
  refine va_put (D := D) (ci := 6) (v := .int 0) (ty := .int) (C := RX6) (T := TX6) (N := 8) hx hb hts iX6 tyX6 tyX6_ok nmX6 hown hKK.1 hP hD hS 0 rfl rfl 0 (by decide) (hts (.fieldLink RX6 1 "TrolleyGangModel" "thrown" "I") (List.mem_of_getElem? (i := 1) rfl)) (fun _ h9 => h9) rfl (by decide +kernel) rfl rfl (Nat.le_of_ble_eq_true rfl) dX6_setCold_2 (fun H locs hP hD hS => ?_)
  have hP : va_P D vwCl (cM aM ac as_ an ah 0 bu fd fn ++ cA cyI ac 8 cd ++ cA cyI as_ 12 sw ++ cA cyI an 121 rn ++ cA cyI ah 121 ra) H := hP
  have hD : va_D A (cM aM ac as_ an ah 0 bu fd fn ++ cA cyI ac 8 cd ++ cA cyI as_ 12 sw ++ cA cyI an 121 rn ++ cA cyI ah 121 ra) := hD
  refine lv_iload_n hx hb dX6_setCold_5 rfl (lv_at hl 1 rfl) ?_
  refine lv_iconst (v := 0) hx hb dX6_setCold_6 (by decide) ?_
  refine lv_bipush (v := 7) hx hb dX6_setCold_7 (by decide) ?_
  have hPc := hP.sub (ws' := ([] : va_W)) [] rfl
  have hDc := hD.sub (ws' := ([] : va_W)) [] (by decide) rfl
  refine ret_i (W1 := ([] : va_W)) (W2 := ([] : va_W)) (ws1 := (cM aM ac as_ an ah 0 bu fd fn ++ cA cyI ac 8 cd ++ cA cyI as_ 12 sw ++ cA cyI an 121 rn ++ cA cyI ah 121 ra)) (r := inI h_ 0 7) (run_S (n := 3) (As := [.int h_, .int 0, .int 7]) (rest := []) ⟨hx, hb, hml, hown, hts⟩ (c_X6_isIn l D cyI cyO cyL h_ 0 7 _) ggX6_setCold_X6_isIn rfl rfl rfl (hts (.methodLink RX6 32 yX6_isIn) (List.mem_of_getElem? (i := 3) rfl)) (hts (.initialized RX6) (List.mem_of_getElem? (i := 5) rfl)) (hts (.static yX6_isIn) (List.mem_of_getElem? (i := 4) rfl)) (by decide +kernel) ⟨Nat.le_of_ble_eq_true rfl, Nat.le_of_ble_eq_true rfl⟩ hKK hPc hDc rfl hl.1 rfl (Nat.le_of_ble_eq_true rfl) dX6_setCold_9 ⟨Nat.zero_le _, Nat.zero_le _⟩) hP hD hS hA [] rfl rfl [(false, 0), (false, 1), (false, 2), (false, 3), (false, 4)] (by decide +kernel) rfl (fun H locs hP hD hS => ?_)
  refine lv_if_ne (tgt := 21) hx hb dX6_setCold_12 (by decide) (fun h_1 => ?_) (fun h_1 => ?_)
  · skip
    have hh := inI_vp (N := 7) h_1 (by decide)
    refine lv_iload_n hx hb dX6_setCold_21 rfl (lv_at hl 2 rfl) ?_
    refine lv_iconst (v := 0) hx hb dX6_setCold_22 (by decide) ?_
    refine lv_iconst (v := 3) hx hb dX6_setCold_23 (by decide) ?_
    have hPc := hP.sub (ws' := ([] : va_W)) [] rfl
    have hDc := hD.sub (ws' := ([] : va_W)) [] (by decide) rfl
    refine ret_i (W1 := ([] : va_W)) (W2 := ([] : va_W)) (ws1 := (cM aM ac as_ an ah 0 bu fd fn ++ cA cyI ac 8 cd ++ cA cyI as_ 12 sw ++ cA cyI an 121 rn ++ cA cyI ah 121 ra)) (r := inI c_ 0 3) (run_S (n := 3) (As := [.int c_, .int 0, .int 3]) (rest := []) ⟨hx, hb, hml, hown, hts⟩ (c_X6_isIn l D cyI cyO cyL c_ 0 3 _) ggX6_setCold_X6_isIn rfl rfl rfl (hts (.methodLink RX6 32 yX6_isIn) (List.mem_of_getElem? (i := 3) rfl)) (hts (.initialized RX6) (List.mem_of_getElem? (i := 5) rfl)) (hts (.static yX6_isIn) (List.mem_of_getElem? (i := 4) rfl)) (by decide +kernel) ⟨Nat.le_of_ble_eq_true rfl, Nat.le_of_ble_eq_true rfl⟩ hKK hPc hDc rfl hl.1 rfl (Nat.le_of_ble_eq_true rfl) dX6_setCold_24 ⟨Nat.zero_le _, Nat.zero_le _⟩) hP hD hS hA [] rfl rfl [(false, 0), (false, 1), (false, 2), (false, 3), (false, 4)] (by decide +kernel) rfl (fun H locs hP hD hS => ?_)
    refine lv_if_eq (tgt := 42) hx hb dX6_setCold_27 (by decide) (fun h_2 => ?_) (fun h_2 => ?_)
    · skip
      refine lv_aload_n hx hb dX6_setCold_42 rfl (lv_at hl 0 rfl) ?_
      refine lv_iconst (v := 2) hx hb dX6_setCold_43 (by decide) ?_
      have hPc := hP.sub (ws' := (cM aM ac as_ an ah 0 bu fd fn)) [0] rfl
      have hDc := hD.sub (ws' := (cM aM ac as_ an ah 0 bu fd fn)) [0] (by decide) rfl
      refine ret_i (W1 := (cM aM ac as_ an ah 0 bu fd fn)) (W2 := (cM aM ac as_ an ah 2 bu fd fn)) (ws1 := (cM aM ac as_ an ah 2 bu fd fn ++ cA cyI ac 8 cd ++ cA cyI as_ 12 sw ++ cA cyI an 121 rn ++ cA cyI ah 121 ra)) (r := 0) (run_V (q := (RX6, TX6, 8)) (n := 1) (As := [.int 2]) (rest := []) ⟨hx, hb, hml, hown, hts⟩ (c_X6_no l D cyI cyO cyL aM ac as_ an ah 0 bu fd fn 2 _) ggX6_setCold_X6_no rfl rfl rfl (hts (.methodLink RX6 39 yX6_no) (List.mem_of_getElem? (i := 7) rfl)) (hts (.initialized RX6) (List.mem_of_getElem? (i := 5) rfl)) (hts (.instanceMethod yX6_no) (List.mem_of_getElem? (i := 8) rfl)) (hts (.selects RX6 yX6_no yX6_no) (List.mem_of_getElem? (i := 9) rfl)) (by decide +kernel) ⟨Nat.le_of_ble_eq_true rfl, Nat.le_of_ble_eq_true rfl⟩ hKK hPc hDc (ci := 6) (q0 := 0) rfl rfl rfl hl.1 rfl (Nat.le_of_ble_eq_true rfl) dX6_setCold_44 ⟨Nat.zero_le _, Nat.zero_le _⟩) hP hD hS hA [0] rfl rfl [(true, 0), (false, 1), (false, 2), (false, 3), (false, 4)] (by decide +kernel) rfl (fun H locs hP hD hS => ?_)
      have e9 : mSetC cd h_ c_ = (0, 2, cd) := (by first | with_reducible rfl | (simp only [mSetC, h_1, h_2, if_true, if_false, reduceIte, not_true_eq_false, not_false_eq_true]; done) | (simp [mSetC, h_1, h_2]; done))
      exact end_i hx hb hrt hlocks (by rw [e9]) (by rw [e9]; exact hP) hS dX6_setCold_47
    · skip
      refine lv_aload_n hx hb dX6_setCold_30 rfl (lv_at hl 0 rfl) ?_
      refine va_get (D := D) (ci := 6) (v := .ref ac) (C := RX6) (T := TX6) (N := 8) hx hb hts iX6 hown hKK.1 hP 0 rfl rfl 4 (by decide) (hts (.fieldLink RX6 19 "TrolleyGangModel" "cold" "[I") (List.mem_of_getElem? (i := 2) rfl)) (fun _ h9 => h9) rfl dX6_setCold_31 ?_
      refine lv_iload_n hx hb dX6_setCold_34 rfl (lv_at hl 1 rfl) ?_
      refine lv_iload_n hx hb dX6_setCold_35 rfl (lv_at hl 2 rfl) ?_
      have hPc := hP.sub (ws' := (cA cyI ac 8 cd)) [1] rfl
      have hDc := hD.sub (ws' := (cA cyI ac 8 cd)) [1] (by decide) rfl
      refine ret_i (W1 := (cA cyI ac 8 cd)) (W2 := (cA cyI ac 8 (upd cd h_.toNatClampNeg c_))) (ws1 := (cM aM ac as_ an ah 0 bu fd fn ++ cA cyI ac 8 (upd cd h_.toNatClampNeg c_) ++ cA cyI as_ 12 sw ++ cA cyI an 121 rn ++ cA cyI ah 121 ra)) (r := cd h_.toNatClampNeg) (run_S (n := 3) (As := [.ref ac, .int h_, .int c_]) (rest := []) ⟨hx, hb, hml, hown, hts⟩ (c_X6_put l D cyI cyO cyL ac cd h_ c_ 8 hh _) ggX6_setCold_X6_put rfl rfl rfl (hts (.methodLink RX6 43 yX6_put) (List.mem_of_getElem? (i := 11) rfl)) (hts (.initialized RX6) (List.mem_of_getElem? (i := 5) rfl)) (hts (.static yX6_put) (List.mem_of_getElem? (i := 12) rfl)) (by decide +kernel) ⟨Nat.le_of_ble_eq_true rfl, Nat.le_of_ble_eq_true rfl⟩ hKK hPc hDc rfl hl.1 rfl (Nat.le_of_ble_eq_true rfl) dX6_setCold_36 ⟨Nat.zero_le _, Nat.zero_le _⟩) hP hD hS hA [1] rfl rfl [(false, 0), (true, 0), (false, 2), (false, 3), (false, 4)] (by decide +kernel) rfl (fun H locs hP hD hS => ?_)
      refine lv_goto (tgt := 47) hx hb dX6_setCold_39 (by decide) ?_
      have e9 : mSetC cd h_ c_ = (cd h_.toNatClampNeg, 0, upd cd h_.toNatClampNeg c_) := (by first | with_reducible rfl | (simp only [mSetC, h_1, h_2, if_true, if_false, reduceIte, not_true_eq_false, not_false_eq_true]; done) | (simp [mSetC, h_1, h_2]; done))
      exact end_i hx hb hrt hlocks (by rw [e9]) (by rw [e9]; exact hP) hS dX6_setCold_47
  · skip
    refine lv_aload_n hx hb dX6_setCold_15 rfl (lv_at hl 0 rfl) ?_
    refine lv_iconst (v := 1) hx hb dX6_setCold_16 (by decide) ?_
    have hPc := hP.sub (ws' := (cM aM ac as_ an ah 0 bu fd fn)) [0] rfl
    have hDc := hD.sub (ws' := (cM aM ac as_ an ah 0 bu fd fn)) [0] (by decide) rfl
    refine ret_i (W1 := (cM aM ac as_ an ah 0 bu fd fn)) (W2 := (cM aM ac as_ an ah 1 bu fd fn)) (ws1 := (cM aM ac as_ an ah 1 bu fd fn ++ cA cyI ac 8 cd ++ cA cyI as_ 12 sw ++ cA cyI an 121 rn ++ cA cyI ah 121 ra)) (r := 0) (run_V (q := (RX6, TX6, 8)) (n := 1) (As := [.int 1]) (rest := []) ⟨hx, hb, hml, hown, hts⟩ (c_X6_no l D cyI cyO cyL aM ac as_ an ah 0 bu fd fn 1 _) ggX6_setCold_X6_no rfl rfl rfl (hts (.methodLink RX6 39 yX6_no) (List.mem_of_getElem? (i := 7) rfl)) (hts (.initialized RX6) (List.mem_of_getElem? (i := 5) rfl)) (hts (.instanceMethod yX6_no) (List.mem_of_getElem? (i := 8) rfl)) (hts (.selects RX6 yX6_no yX6_no) (List.mem_of_getElem? (i := 9) rfl)) (by decide +kernel) ⟨Nat.le_of_ble_eq_true rfl, Nat.le_of_ble_eq_true rfl⟩ hKK hPc hDc (ci := 6) (q0 := 0) rfl rfl rfl hl.1 rfl (Nat.le_of_ble_eq_true rfl) dX6_setCold_17 ⟨Nat.zero_le _, Nat.zero_le _⟩) hP hD hS hA [0] rfl rfl [(true, 0), (false, 1), (false, 2), (false, 3), (false, 4)] (by decide +kernel) rfl (fun H locs hP hD hS => ?_)
    have e9 : mSetC cd h_ c_ = (0, 1, cd) := (by first | with_reducible rfl | (simp only [mSetC, h_1, if_true, if_false, reduceIte, not_true_eq_false, not_false_eq_true]; done) | (simp [mSetC, h_1]; done))
    exact end_i hx hb hrt hlocks (by rw [e9]) (by rw [e9]; exact hP) hS dX6_setCold_20
set_option maxHeartbeats 4000000 in
set_option maxRecDepth 100000 in
theorem c_X6_setSwan (l : Launch) (D : va_G) (cyI cyO cyL : ClassId) (aM : Nat) (ac : Nat) (as_ : Nat) (an : Nat) (ah : Nat) (th : Int32) (bu : Int32) (fd : Int32) (fn : Int32) (cd : Nat → Int32) (sw : Nat → Int32) (rn : Nat → Int32) (ra : Nat → Int32) (h_ : Int32) (s_ : Int32) : cI l yX6_setSwan wsX6_setSwan ({ frames := 1, cells := 0, slots := 0, locals := 23 }) D cyI cyO cyL [.ref aM, .int h_, .int s_] (cM aM ac as_ an ah th bu fd fn ++ cA cyI ac 8 cd ++ cA cyI as_ 12 sw ++ cA cyI an 121 rn ++ cA cyI ah 121 ra) (cM aM ac as_ an ah ((mSetW sw h_ s_).2.1) bu fd fn ++ cA cyI ac 8 cd ++ cA cyI as_ 12 ((mSetW sw h_ s_).2.2) ++ cA cyI an 121 rn ++ cA cyI ah 121 ra) ((mSetW sw h_ s_).1) := by
  intro sz
  refine Met.ofW (cc := cX6_setSwan) (maxL := 3) (ret := (some .int)) (by decide) rfl ?_
  intro p e s m args below meth c s₁ B9 hml hv
  obtain ⟨rfl, hsz, hP, hKK, hD0⟩ := hv
  have hx := B9.exec
  have hb := B9.bytes
  have hrt := B9.returns
  have hts := atoms_spec (ws := wsX6_setSwan) B9.pre
  have hown : s.vm.findClass RX6 = some m.cls := findClass_of_methodNamed B9.named
  have hlocks := B9.notSynchronized
  have nw := fun {w : Cond} (h : w ∈ nw_all) => NW.use (args := ([.ref aM, .int h_, .int s_] : List Value).toArray) hKK.2 h
  have iX6 : ∀ w ∈ wsX60, w ∈ wsX6_setSwan := fun _ h => List.mem_cons_of_mem _ (List.mem_append_right _ h)
  subst hsz
  have hD := hD0.self (sz := s.heap.size)
  generalize hAe : va_A (cM aM ac as_ an ah th bu fd fn ++ cA cyI ac 8 cd ++ cA cyI as_ 12 sw ++ cA cyI an 121 rn ++ cA cyI ah 121 ra) s.heap.size = A at hD ⊢
  have hA : ∀ q : Nat, s.heap.size ≤ q → A q := fun q h => by rw [← hAe]; exact Or.inr h
  have hS : va_S A s.heap s.heap [] := va_S.rf
  have hl := lv_entry ([.ref aM, .int h_, .int s_]) (n := 3) (Nat.le_of_ble_eq_true rfl)
  rw [lg_entry_eq]
  generalize (lg_sl ([.ref aM, .int h_, .int s_]) ++ List.replicate (3 - (lg_sl ([.ref aM, .int h_, .int s_])).length) Slot.unset).toArray = ls at hl ⊢
  have hl : lv_has ls 3 [(0, .ref aM), (1, .int h_), (2, .int s_)] := hl
  refine lv_aload_n hx hb dX6_setSwan_0 rfl (lv_at hl 0 rfl) ?_
  refine lv_iconst (v := 0) hx hb dX6_setSwan_1 (by decide) ?_
  refine va_put (D := D) (ci := 6) (v := .int 0) (ty := .int) (C := RX6) (T := TX6) (N := 8) hx hb hts iX6 tyX6 tyX6_ok nmX6 hown hKK.1 hP hD hS 0 rfl rfl 0 (by decide) (hts (.fieldLink RX6 1 "TrolleyGangModel" "thrown" "I") (List.mem_of_getElem? (i := 1) rfl)) (fun _ h9 => h9) rfl (by decide +kernel) rfl rfl (Nat.le_of_ble_eq_true rfl) dX6_setSwan_2 (fun H locs hP hD hS => ?_)
  have hP : va_P D vwCl (cM aM ac as_ an ah 0 bu fd fn ++ cA cyI ac 8 cd ++ cA cyI as_ 12 sw ++ cA cyI an 121 rn ++ cA cyI ah 121 ra) H := hP
  have hD : va_D A (cM aM ac as_ an ah 0 bu fd fn ++ cA cyI ac 8 cd ++ cA cyI as_ 12 sw ++ cA cyI an 121 rn ++ cA cyI ah 121 ra) := hD
  refine lv_iload_n hx hb dX6_setSwan_5 rfl (lv_at hl 1 rfl) ?_
  refine lv_iconst (v := 0) hx hb dX6_setSwan_6 (by decide) ?_
  refine lv_bipush (v := 11) hx hb dX6_setSwan_7 (by decide) ?_
  have hPc := hP.sub (ws' := ([] : va_W)) [] rfl
  have hDc := hD.sub (ws' := ([] : va_W)) [] (by decide) rfl
  refine ret_i (W1 := ([] : va_W)) (W2 := ([] : va_W)) (ws1 := (cM aM ac as_ an ah 0 bu fd fn ++ cA cyI ac 8 cd ++ cA cyI as_ 12 sw ++ cA cyI an 121 rn ++ cA cyI ah 121 ra)) (r := inI h_ 0 11) (run_S (n := 3) (As := [.int h_, .int 0, .int 11]) (rest := []) ⟨hx, hb, hml, hown, hts⟩ (c_X6_isIn l D cyI cyO cyL h_ 0 11 _) ggX6_setSwan_X6_isIn rfl rfl rfl (hts (.methodLink RX6 32 yX6_isIn) (List.mem_of_getElem? (i := 3) rfl)) (hts (.initialized RX6) (List.mem_of_getElem? (i := 5) rfl)) (hts (.static yX6_isIn) (List.mem_of_getElem? (i := 4) rfl)) (by decide +kernel) ⟨Nat.le_of_ble_eq_true rfl, Nat.le_of_ble_eq_true rfl⟩ hKK hPc hDc rfl hl.1 rfl (Nat.le_of_ble_eq_true rfl) dX6_setSwan_9 ⟨Nat.zero_le _, Nat.zero_le _⟩) hP hD hS hA [] rfl rfl [(false, 0), (false, 1), (false, 2), (false, 3), (false, 4)] (by decide +kernel) rfl (fun H locs hP hD hS => ?_)
  refine lv_if_ne (tgt := 21) hx hb dX6_setSwan_12 (by decide) (fun h_1 => ?_) (fun h_1 => ?_)
  · skip
    have hh := inI_vp (N := 11) h_1 (by decide)
    refine lv_iload_n hx hb dX6_setSwan_21 rfl (lv_at hl 2 rfl) ?_
    refine lv_iconst (v := (-1)) hx hb dX6_setSwan_22 (by decide) ?_
    refine lv_bipush (v := 23) hx hb dX6_setSwan_23 (by decide) ?_
    have hPc := hP.sub (ws' := ([] : va_W)) [] rfl
    have hDc := hD.sub (ws' := ([] : va_W)) [] (by decide) rfl
    refine ret_i (W1 := ([] : va_W)) (W2 := ([] : va_W)) (ws1 := (cM aM ac as_ an ah 0 bu fd fn ++ cA cyI ac 8 cd ++ cA cyI as_ 12 sw ++ cA cyI an 121 rn ++ cA cyI ah 121 ra)) (r := inI s_ (-1) 23) (run_S (n := 3) (As := [.int s_, .int (-1), .int 23]) (rest := []) ⟨hx, hb, hml, hown, hts⟩ (c_X6_isIn l D cyI cyO cyL s_ (-1) 23 _) ggX6_setSwan_X6_isIn rfl rfl rfl (hts (.methodLink RX6 32 yX6_isIn) (List.mem_of_getElem? (i := 3) rfl)) (hts (.initialized RX6) (List.mem_of_getElem? (i := 5) rfl)) (hts (.static yX6_isIn) (List.mem_of_getElem? (i := 4) rfl)) (by decide +kernel) ⟨Nat.le_of_ble_eq_true rfl, Nat.le_of_ble_eq_true rfl⟩ hKK hPc hDc rfl hl.1 rfl (Nat.le_of_ble_eq_true rfl) dX6_setSwan_25 ⟨Nat.zero_le _, Nat.zero_le _⟩) hP hD hS hA [] rfl rfl [(false, 0), (false, 1), (false, 2), (false, 3), (false, 4)] (by decide +kernel) rfl (fun H locs hP hD hS => ?_)
    refine lv_if_eq (tgt := 43) hx hb dX6_setSwan_28 (by decide) (fun h_2 => ?_) (fun h_2 => ?_)
    · skip
      refine lv_aload_n hx hb dX6_setSwan_43 rfl (lv_at hl 0 rfl) ?_
      refine lv_iconst (v := 2) hx hb dX6_setSwan_44 (by decide) ?_
      have hPc := hP.sub (ws' := (cM aM ac as_ an ah 0 bu fd fn)) [0] rfl
      have hDc := hD.sub (ws' := (cM aM ac as_ an ah 0 bu fd fn)) [0] (by decide) rfl
      refine ret_i (W1 := (cM aM ac as_ an ah 0 bu fd fn)) (W2 := (cM aM ac as_ an ah 2 bu fd fn)) (ws1 := (cM aM ac as_ an ah 2 bu fd fn ++ cA cyI ac 8 cd ++ cA cyI as_ 12 sw ++ cA cyI an 121 rn ++ cA cyI ah 121 ra)) (r := 0) (run_V (q := (RX6, TX6, 8)) (n := 1) (As := [.int 2]) (rest := []) ⟨hx, hb, hml, hown, hts⟩ (c_X6_no l D cyI cyO cyL aM ac as_ an ah 0 bu fd fn 2 _) ggX6_setSwan_X6_no rfl rfl rfl (hts (.methodLink RX6 39 yX6_no) (List.mem_of_getElem? (i := 7) rfl)) (hts (.initialized RX6) (List.mem_of_getElem? (i := 5) rfl)) (hts (.instanceMethod yX6_no) (List.mem_of_getElem? (i := 8) rfl)) (hts (.selects RX6 yX6_no yX6_no) (List.mem_of_getElem? (i := 9) rfl)) (by decide +kernel) ⟨Nat.le_of_ble_eq_true rfl, Nat.le_of_ble_eq_true rfl⟩ hKK hPc hDc (ci := 6) (q0 := 0) rfl rfl rfl hl.1 rfl (Nat.le_of_ble_eq_true rfl) dX6_setSwan_45 ⟨Nat.zero_le _, Nat.zero_le _⟩) hP hD hS hA [0] rfl rfl [(true, 0), (false, 1), (false, 2), (false, 3), (false, 4)] (by decide +kernel) rfl (fun H locs hP hD hS => ?_)
      have e9 : mSetW sw h_ s_ = (0, 2, sw) := (by first | with_reducible rfl | (simp only [mSetW, h_1, h_2, if_true, if_false, reduceIte, not_true_eq_false, not_false_eq_true]; done) | (simp [mSetW, h_1, h_2]; done))
      exact end_i hx hb hrt hlocks (by rw [e9]) (by rw [e9]; exact hP) hS dX6_setSwan_48
    · skip
      refine lv_aload_n hx hb dX6_setSwan_31 rfl (lv_at hl 0 rfl) ?_
      refine va_get (D := D) (ci := 6) (v := .ref as_) (C := RX6) (T := TX6) (N := 8) hx hb hts iX6 hown hKK.1 hP 0 rfl rfl 5 (by decide) (hts (.fieldLink RX6 23 "TrolleyGangModel" "swan" "[I") (List.mem_of_getElem? (i := 2) rfl)) (fun _ h9 => h9) rfl dX6_setSwan_32 ?_
      refine lv_iload_n hx hb dX6_setSwan_35 rfl (lv_at hl 1 rfl) ?_
      refine lv_iload_n hx hb dX6_setSwan_36 rfl (lv_at hl 2 rfl) ?_
      have hPc := hP.sub (ws' := (cA cyI as_ 12 sw)) [2] rfl
      have hDc := hD.sub (ws' := (cA cyI as_ 12 sw)) [2] (by decide) rfl
      refine ret_i (W1 := (cA cyI as_ 12 sw)) (W2 := (cA cyI as_ 12 (upd sw h_.toNatClampNeg s_))) (ws1 := (cM aM ac as_ an ah 0 bu fd fn ++ cA cyI ac 8 cd ++ cA cyI as_ 12 (upd sw h_.toNatClampNeg s_) ++ cA cyI an 121 rn ++ cA cyI ah 121 ra)) (r := sw h_.toNatClampNeg) (run_S (n := 3) (As := [.ref as_, .int h_, .int s_]) (rest := []) ⟨hx, hb, hml, hown, hts⟩ (c_X6_put l D cyI cyO cyL as_ sw h_ s_ 12 hh _) ggX6_setSwan_X6_put rfl rfl rfl (hts (.methodLink RX6 43 yX6_put) (List.mem_of_getElem? (i := 11) rfl)) (hts (.initialized RX6) (List.mem_of_getElem? (i := 5) rfl)) (hts (.static yX6_put) (List.mem_of_getElem? (i := 12) rfl)) (by decide +kernel) ⟨Nat.le_of_ble_eq_true rfl, Nat.le_of_ble_eq_true rfl⟩ hKK hPc hDc rfl hl.1 rfl (Nat.le_of_ble_eq_true rfl) dX6_setSwan_37 ⟨Nat.zero_le _, Nat.zero_le _⟩) hP hD hS hA [2] rfl rfl [(false, 0), (false, 1), (true, 0), (false, 3), (false, 4)] (by decide +kernel) rfl (fun H locs hP hD hS => ?_)
      refine lv_goto (tgt := 48) hx hb dX6_setSwan_40 (by decide) ?_
      have e9 : mSetW sw h_ s_ = (sw h_.toNatClampNeg, 0, upd sw h_.toNatClampNeg s_) := (by first | with_reducible rfl | (simp only [mSetW, h_1, h_2, if_true, if_false, reduceIte, not_true_eq_false, not_false_eq_true]; done) | (simp [mSetW, h_1, h_2]; done))
      exact end_i hx hb hrt hlocks (by rw [e9]) (by rw [e9]; exact hP) hS dX6_setSwan_48
  · skip
    refine lv_aload_n hx hb dX6_setSwan_15 rfl (lv_at hl 0 rfl) ?_
    refine lv_iconst (v := 1) hx hb dX6_setSwan_16 (by decide) ?_
    have hPc := hP.sub (ws' := (cM aM ac as_ an ah 0 bu fd fn)) [0] rfl
    have hDc := hD.sub (ws' := (cM aM ac as_ an ah 0 bu fd fn)) [0] (by decide) rfl
    refine ret_i (W1 := (cM aM ac as_ an ah 0 bu fd fn)) (W2 := (cM aM ac as_ an ah 1 bu fd fn)) (ws1 := (cM aM ac as_ an ah 1 bu fd fn ++ cA cyI ac 8 cd ++ cA cyI as_ 12 sw ++ cA cyI an 121 rn ++ cA cyI ah 121 ra)) (r := 0) (run_V (q := (RX6, TX6, 8)) (n := 1) (As := [.int 1]) (rest := []) ⟨hx, hb, hml, hown, hts⟩ (c_X6_no l D cyI cyO cyL aM ac as_ an ah 0 bu fd fn 1 _) ggX6_setSwan_X6_no rfl rfl rfl (hts (.methodLink RX6 39 yX6_no) (List.mem_of_getElem? (i := 7) rfl)) (hts (.initialized RX6) (List.mem_of_getElem? (i := 5) rfl)) (hts (.instanceMethod yX6_no) (List.mem_of_getElem? (i := 8) rfl)) (hts (.selects RX6 yX6_no yX6_no) (List.mem_of_getElem? (i := 9) rfl)) (by decide +kernel) ⟨Nat.le_of_ble_eq_true rfl, Nat.le_of_ble_eq_true rfl⟩ hKK hPc hDc (ci := 6) (q0 := 0) rfl rfl rfl hl.1 rfl (Nat.le_of_ble_eq_true rfl) dX6_setSwan_17 ⟨Nat.zero_le _, Nat.zero_le _⟩) hP hD hS hA [0] rfl rfl [(true, 0), (false, 1), (false, 2), (false, 3), (false, 4)] (by decide +kernel) rfl (fun H locs hP hD hS => ?_)
    have e9 : mSetW sw h_ s_ = (0, 1, sw) := (by first | with_reducible rfl | (simp only [mSetW, h_1, if_true, if_false, reduceIte, not_true_eq_false, not_false_eq_true]; done) | (simp [mSetW, h_1]; done))
    exact end_i hx hb hrt hlocks (by rw [e9]) (by rw [e9]; exact hP) hS dX6_setSwan_20
set_option maxHeartbeats 4000000 in
set_option maxRecDepth 100000 in
theorem c_X6_setFare (l : Launch) (D : va_G) (cyI cyO cyL : ClassId) (aM : Nat) (ac : Nat) (as_ : Nat) (an : Nat) (ah : Nat) (th : Int32) (bu : Int32) (fd : Int32) (fn : Int32) (cd : Nat → Int32) (sw : Nat → Int32) (rn : Nat → Int32) (ra : Nat → Int32) (i_ : Int32) (c_ : Int32) : cI l yX6_setFare wsX6_setFare ({ frames := 1, cells := 0, slots := 0, locals := 22 }) D cyI cyO cyL [.ref aM, .int i_, .int c_] (cM aM ac as_ an ah th bu fd fn ++ cA cyI ac 8 cd ++ cA cyI as_ 12 sw ++ cA cyI an 121 rn ++ cA cyI ah 121 ra) (cM aM ac as_ an ah ((mSetF fd fn i_ c_).2.1) bu ((mSetF fd fn i_ c_).2.2.1) ((mSetF fd fn i_ c_).2.2.2) ++ cA cyI ac 8 cd ++ cA cyI as_ 12 sw ++ cA cyI an 121 rn ++ cA cyI ah 121 ra) ((mSetF fd fn i_ c_).1) := by
  intro sz
  refine Met.ofW (cc := cX6_setFare) (maxL := 4) (ret := (some .int)) (by decide) rfl ?_
  intro p e s m args below meth c s₁ B9 hml hv
  obtain ⟨rfl, hsz, hP, hKK, hD0⟩ := hv
  have hx := B9.exec
  have hb := B9.bytes
  have hrt := B9.returns
  have hts := atoms_spec (ws := wsX6_setFare) B9.pre
  have hown : s.vm.findClass RX6 = some m.cls := findClass_of_methodNamed B9.named
  have hlocks := B9.notSynchronized
  have nw := fun {w : Cond} (h : w ∈ nw_all) => NW.use (args := ([.ref aM, .int i_, .int c_] : List Value).toArray) hKK.2 h
  have iX6 : ∀ w ∈ wsX60, w ∈ wsX6_setFare := fun _ h => List.mem_cons_of_mem _ (List.mem_append_right _ h)
  subst hsz
  have hD := hD0.self (sz := s.heap.size)
  generalize hAe : va_A (cM aM ac as_ an ah th bu fd fn ++ cA cyI ac 8 cd ++ cA cyI as_ 12 sw ++ cA cyI an 121 rn ++ cA cyI ah 121 ra) s.heap.size = A at hD ⊢
  have hA : ∀ q : Nat, s.heap.size ≤ q → A q := fun q h => by rw [← hAe]; exact Or.inr h
  have hS : va_S A s.heap s.heap [] := va_S.rf
  have hl := lv_entry ([.ref aM, .int i_, .int c_]) (n := 4) (Nat.le_of_ble_eq_true rfl)
  rw [lg_entry_eq]
  generalize (lg_sl ([.ref aM, .int i_, .int c_]) ++ List.replicate (4 - (lg_sl ([.ref aM, .int i_, .int c_])).length) Slot.unset).toArray = ls at hl ⊢
  have hl : lv_has ls 4 [(0, .ref aM), (1, .int i_), (2, .int c_)] := hl
  refine lv_aload_n hx hb dX6_setFare_0 rfl (lv_at hl 0 rfl) ?_
  refine lv_iconst (v := 0) hx hb dX6_setFare_1 (by decide) ?_
  refine va_put (D := D) (ci := 6) (v := .int 0) (ty := .int) (C := RX6) (T := TX6) (N := 8) hx hb hts iX6 tyX6 tyX6_ok nmX6 hown hKK.1 hP hD hS 0 rfl rfl 0 (by decide) (hts (.fieldLink RX6 1 "TrolleyGangModel" "thrown" "I") (List.mem_of_getElem? (i := 1) rfl)) (fun _ h9 => h9) rfl (by decide +kernel) rfl rfl (Nat.le_of_ble_eq_true rfl) dX6_setFare_2 (fun H locs hP hD hS => ?_)
  have hP : va_P D vwCl (cM aM ac as_ an ah 0 bu fd fn ++ cA cyI ac 8 cd ++ cA cyI as_ 12 sw ++ cA cyI an 121 rn ++ cA cyI ah 121 ra) H := hP
  have hD : va_D A (cM aM ac as_ an ah 0 bu fd fn ++ cA cyI ac 8 cd ++ cA cyI as_ 12 sw ++ cA cyI an 121 rn ++ cA cyI ah 121 ra) := hD
  refine lv_iload_n hx hb dX6_setFare_5 rfl (lv_at hl 2 rfl) ?_
  refine lv_iconst (v := 0) hx hb dX6_setFare_6 (by decide) ?_
  refine lv_bipush (v := 9) hx hb dX6_setFare_7 (by decide) ?_
  have hPc := hP.sub (ws' := ([] : va_W)) [] rfl
  have hDc := hD.sub (ws' := ([] : va_W)) [] (by decide) rfl
  refine ret_i (W1 := ([] : va_W)) (W2 := ([] : va_W)) (ws1 := (cM aM ac as_ an ah 0 bu fd fn ++ cA cyI ac 8 cd ++ cA cyI as_ 12 sw ++ cA cyI an 121 rn ++ cA cyI ah 121 ra)) (r := inI c_ 0 9) (run_S (n := 3) (As := [.int c_, .int 0, .int 9]) (rest := []) ⟨hx, hb, hml, hown, hts⟩ (c_X6_isIn l D cyI cyO cyL c_ 0 9 _) ggX6_setFare_X6_isIn rfl rfl rfl (hts (.methodLink RX6 32 yX6_isIn) (List.mem_of_getElem? (i := 4) rfl)) (hts (.initialized RX6) (List.mem_of_getElem? (i := 6) rfl)) (hts (.static yX6_isIn) (List.mem_of_getElem? (i := 5) rfl)) (by decide +kernel) ⟨Nat.le_of_ble_eq_true rfl, Nat.le_of_ble_eq_true rfl⟩ hKK hPc hDc rfl hl.1 rfl (Nat.le_of_ble_eq_true rfl) dX6_setFare_9 ⟨Nat.zero_le _, Nat.zero_le _⟩) hP hD hS hA [] rfl rfl [(false, 0), (false, 1), (false, 2), (false, 3), (false, 4)] (by decide +kernel) rfl (fun H locs hP hD hS => ?_)
  refine lv_if_ne (tgt := 21) hx hb dX6_setFare_12 (by decide) (fun h_1 => ?_) (fun h_1 => ?_)
  · skip
    refine lv_iload_n hx hb dX6_setFare_21 rfl (lv_at hl 1 rfl) ?_
    refine lv_if_eq (tgt := 32) hx hb dX6_setFare_22 (by decide) (fun h_2 => ?_) (fun h_2 => ?_)
    · skip
      refine lv_aload_n hx hb dX6_setFare_32 rfl (lv_at hl 0 rfl) ?_
      refine va_get (D := D) (ci := 6) (v := .int fd) (C := RX6) (T := TX6) (N := 8) hx hb hts iX6 hown hKK.1 hP 0 rfl rfl 2 (by decide) (hts (.fieldLink RX6 13 "TrolleyGangModel" "fareByDay" "I") (List.mem_of_getElem? (i := 3) rfl)) (fun _ h9 => h9) rfl dX6_setFare_33 ?_
      refine lv_istore_n (lv' := [(3, .int fd), (0, .ref aM), (1, .int i_), (2, .int c_)]) hx hb dX6_setFare_36 rfl hl (by decide) rfl (fun ls hl => ?_)
      refine lv_iload_n hx hb dX6_setFare_37 rfl (lv_at hl 2 rfl) ?_
      refine lv_if_eq (tgt := 49) hx hb dX6_setFare_38 (by decide) (fun _ => ?_) (fun h9 => absurd h_2 h9)
      refine lv_aload_n hx hb dX6_setFare_49 rfl (lv_at hl 1 rfl) ?_
      refine lv_iload_n hx hb dX6_setFare_50 rfl (lv_at hl 3 rfl) ?_
      refine va_put (D := D) (ci := 6) (v := .int c_) (ty := .int) (C := RX6) (T := TX6) (N := 8) hx hb hts iX6 tyX6 tyX6_ok nmX6 hown hKK.1 hP hD hS 0 rfl rfl 2 (by decide) (hts (.fieldLink RX6 13 "TrolleyGangModel" "fareByDay" "I") (List.mem_of_getElem? (i := 3) rfl)) (fun _ h9 => h9) rfl (by decide +kernel) rfl rfl (Nat.le_of_ble_eq_true rfl) dX6_setFare_51 (fun H locs hP hD hS => ?_)
      have hP : va_P D vwCl (cM aM ac as_ an ah 0 bu c_ fn ++ cA cyI ac 8 cd ++ cA cyI as_ 12 sw ++ cA cyI an 121 rn ++ cA cyI ah 121 ra) H := hP
      have hD : va_D A (cM aM ac as_ an ah 0 bu c_ fn ++ cA cyI ac 8 cd ++ cA cyI as_ 12 sw ++ cA cyI an 121 rn ++ cA cyI ah 121 ra) := hD
      refine lv_iload_n hx hb dX6_setFare_54 rfl (lv_at hl 0 rfl) ?_
      have e9 : mSetF fd fn i_ c_ = (fd, 0, c_, fn) := (by first | with_reducible rfl | (simp only [mSetF, h_1, h_2, if_true, if_false, reduceIte, not_true_eq_false, not_false_eq_true]; done) | (simp [mSetF, h_1, h_2]; done))
      exact end_i hx hb hrt hlocks (by rw [e9]) (by rw [e9]; exact hP) hS dX6_setFare_55
    · skip
      refine lv_aload_n hx hb dX6_setFare_25 rfl (lv_at hl 0 rfl) ?_
      refine va_get (D := D) (ci := 6) (v := .int fn) (C := RX6) (T := TX6) (N := 8) hx hb hts iX6 hown hKK.1 hP 0 rfl rfl 3 (by decide) (hts (.fieldLink RX6 16 "TrolleyGangModel" "fareByNight" "I") (List.mem_of_getElem? (i := 2) rfl)) (fun _ h9 => h9) rfl dX6_setFare_26 ?_
      refine lv_goto (tgt := 36) hx hb dX6_setFare_29 (by decide) ?_
      refine lv_istore_n (lv' := [(3, .int fn), (0, .ref aM), (1, .int i_), (2, .int c_)]) hx hb dX6_setFare_36 rfl hl (by decide) rfl (fun ls hl => ?_)
      refine lv_iload_n hx hb dX6_setFare_37 rfl (lv_at hl 2 rfl) ?_
      refine lv_if_eq (tgt := 49) hx hb dX6_setFare_38 (by decide) (fun h9 => absurd h9 h_2) (fun _ => ?_)
      refine lv_aload_n hx hb dX6_setFare_41 rfl (lv_at hl 1 rfl) ?_
      refine lv_iload_n hx hb dX6_setFare_42 rfl (lv_at hl 3 rfl) ?_
      refine va_put (D := D) (ci := 6) (v := .int c_) (ty := .int) (C := RX6) (T := TX6) (N := 8) hx hb hts iX6 tyX6 tyX6_ok nmX6 hown hKK.1 hP hD hS 0 rfl rfl 3 (by decide) (hts (.fieldLink RX6 16 "TrolleyGangModel" "fareByNight" "I") (List.mem_of_getElem? (i := 2) rfl)) (fun _ h9 => h9) rfl (by decide +kernel) rfl rfl (Nat.le_of_ble_eq_true rfl) dX6_setFare_43 (fun H locs hP hD hS => ?_)
      have hP : va_P D vwCl (cM aM ac as_ an ah 0 bu fd c_ ++ cA cyI ac 8 cd ++ cA cyI as_ 12 sw ++ cA cyI an 121 rn ++ cA cyI ah 121 ra) H := hP
      have hD : va_D A (cM aM ac as_ an ah 0 bu fd c_ ++ cA cyI ac 8 cd ++ cA cyI as_ 12 sw ++ cA cyI an 121 rn ++ cA cyI ah 121 ra) := hD
      refine lv_goto (tgt := 54) hx hb dX6_setFare_46 (by decide) ?_
      refine lv_iload_n hx hb dX6_setFare_54 rfl (lv_at hl 0 rfl) ?_
      have e9 : mSetF fd fn i_ c_ = (fn, 0, fd, c_) := (by first | with_reducible rfl | (simp only [mSetF, h_1, h_2, if_true, if_false, reduceIte, not_true_eq_false, not_false_eq_true]; done) | (simp [mSetF, h_1, h_2]; done))
      exact end_i hx hb hrt hlocks (by rw [e9]) (by rw [e9]; exact hP) hS dX6_setFare_55
  · skip
    refine lv_aload_n hx hb dX6_setFare_15 rfl (lv_at hl 0 rfl) ?_
    refine lv_iconst (v := 1) hx hb dX6_setFare_16 (by decide) ?_
    have hPc := hP.sub (ws' := (cM aM ac as_ an ah 0 bu fd fn)) [0] rfl
    have hDc := hD.sub (ws' := (cM aM ac as_ an ah 0 bu fd fn)) [0] (by decide) rfl
    refine ret_i (W1 := (cM aM ac as_ an ah 0 bu fd fn)) (W2 := (cM aM ac as_ an ah 1 bu fd fn)) (ws1 := (cM aM ac as_ an ah 1 bu fd fn ++ cA cyI ac 8 cd ++ cA cyI as_ 12 sw ++ cA cyI an 121 rn ++ cA cyI ah 121 ra)) (r := 0) (run_V (q := (RX6, TX6, 8)) (n := 1) (As := [.int 1]) (rest := []) ⟨hx, hb, hml, hown, hts⟩ (c_X6_no l D cyI cyO cyL aM ac as_ an ah 0 bu fd fn 1 _) ggX6_setFare_X6_no rfl rfl rfl (hts (.methodLink RX6 39 yX6_no) (List.mem_of_getElem? (i := 8) rfl)) (hts (.initialized RX6) (List.mem_of_getElem? (i := 6) rfl)) (hts (.instanceMethod yX6_no) (List.mem_of_getElem? (i := 9) rfl)) (hts (.selects RX6 yX6_no yX6_no) (List.mem_of_getElem? (i := 10) rfl)) (by decide +kernel) ⟨Nat.le_of_ble_eq_true rfl, Nat.le_of_ble_eq_true rfl⟩ hKK hPc hDc (ci := 6) (q0 := 0) rfl rfl rfl hl.1 rfl (Nat.le_of_ble_eq_true rfl) dX6_setFare_17 ⟨Nat.zero_le _, Nat.zero_le _⟩) hP hD hS hA [0] rfl rfl [(true, 0), (false, 1), (false, 2), (false, 3), (false, 4)] (by decide +kernel) rfl (fun H locs hP hD hS => ?_)
    have e9 : mSetF fd fn i_ c_ = (0, 1, fd, fn) := (by first | with_reducible rfl | (simp only [mSetF, h_1, if_true, if_false, reduceIte, not_true_eq_false, not_false_eq_true]; done) | (simp [mSetF, h_1]; done))
    exact end_i hx hb hrt hlocks (by rw [e9]) (by rw [e9]; exact hP) hS dX6_setFare_20
set_option maxHeartbeats 4000000 in
set_option maxRecDepth 100000 in
theorem c_X6_bus (l : Launch) (D : va_G) (cyI cyO cyL : ClassId) (aM : Nat) (ac : Nat) (as_ : Nat) (an : Nat) (ah : Nat) (th : Int32) (bu : Int32) (fd : Int32) (fn : Int32) (cd : Nat → Int32) (sw : Nat → Int32) (rn : Nat → Int32) (ra : Nat → Int32) (s_ : Int32) (c_ : Int32) (n : Nat) (hn : n ≤ 6) (hbu : bu = nI n) : cI l yX6_bus wsX6_bus ({ frames := 2, cells := 0, slots := 0, locals := 42 }) D cyI cyO cyL [.ref aM, .int s_, .int c_] (cM aM ac as_ an ah th bu fd fn ++ cA cyI ac 8 cd ++ cA cyI as_ 12 sw ++ cA cyI an 121 rn ++ cA cyI ah 121 ra) (cM aM ac as_ an ah ((mBus rn n bu s_ c_).2.1) ((mBus rn n bu s_ c_).2.2.1) fd fn ++ cA cyI ac 8 cd ++ cA cyI as_ 12 sw ++ cA cyI an 121 ((mBus rn n bu s_ c_).2.2.2) ++ cA cyI ah 121 ra) ((mBus rn n bu s_ c_).1) := by
  intro sz
  refine Met.ofW (cc := cX6_bus) (maxL := 4) (ret := (some .int)) (by decide) rfl ?_
  intro p e s m args below meth c s₁ B9 hml hv
  obtain ⟨rfl, hsz, hP, hKK, hD0⟩ := hv
  have hx := B9.exec
  have hb := B9.bytes
  have hrt := B9.returns
  have hts := atoms_spec (ws := wsX6_bus) B9.pre
  have hown : s.vm.findClass RX6 = some m.cls := findClass_of_methodNamed B9.named
  have hlocks := B9.notSynchronized
  have nw := fun {w : Cond} (h : w ∈ nw_all) => NW.use (args := ([.ref aM, .int s_, .int c_] : List Value).toArray) hKK.2 h
  have iX6 : ∀ w ∈ wsX60, w ∈ wsX6_bus := fun _ h => List.mem_cons_of_mem _ (List.mem_append_right _ h)
  subst hsz
  have hD := hD0.self (sz := s.heap.size)
  generalize hAe : va_A (cM aM ac as_ an ah th bu fd fn ++ cA cyI ac 8 cd ++ cA cyI as_ 12 sw ++ cA cyI an 121 rn ++ cA cyI ah 121 ra) s.heap.size = A at hD ⊢
  have hA : ∀ q : Nat, s.heap.size ≤ q → A q := fun q h => by rw [← hAe]; exact Or.inr h
  have hS : va_S A s.heap s.heap [] := va_S.rf
  have hl := lv_entry ([.ref aM, .int s_, .int c_]) (n := 4) (Nat.le_of_ble_eq_true rfl)
  rw [lg_entry_eq]
  generalize (lg_sl ([.ref aM, .int s_, .int c_]) ++ List.replicate (4 - (lg_sl ([.ref aM, .int s_, .int c_])).length) Slot.unset).toArray = ls at hl ⊢
  have hl : lv_has ls 4 [(0, .ref aM), (1, .int s_), (2, .int c_)] := hl
  refine lv_aload_n hx hb dX6_bus_0 rfl (lv_at hl 0 rfl) ?_
  refine lv_iconst (v := 0) hx hb dX6_bus_1 (by decide) ?_
  refine va_put (D := D) (ci := 6) (v := .int 0) (ty := .int) (C := RX6) (T := TX6) (N := 8) hx hb hts iX6 tyX6 tyX6_ok nmX6 hown hKK.1 hP hD hS 0 rfl rfl 0 (by decide) (hts (.fieldLink RX6 1 "TrolleyGangModel" "thrown" "I") (List.mem_of_getElem? (i := 1) rfl)) (fun _ h9 => h9) rfl (by decide +kernel) rfl rfl (Nat.le_of_ble_eq_true rfl) dX6_bus_2 (fun H locs hP hD hS => ?_)
  have hP : va_P D vwCl (cM aM ac as_ an ah 0 bu fd fn ++ cA cyI ac 8 cd ++ cA cyI as_ 12 sw ++ cA cyI an 121 rn ++ cA cyI ah 121 ra) H := hP
  have hD : va_D A (cM aM ac as_ an ah 0 bu fd fn ++ cA cyI ac 8 cd ++ cA cyI as_ 12 sw ++ cA cyI an 121 rn ++ cA cyI ah 121 ra) := hD
  refine lv_iload_n hx hb dX6_bus_5 rfl (lv_at hl 1 rfl) ?_
  have hPc := hP.sub (ws' := ([] : va_W)) [] rfl
  have hDc := hD.sub (ws' := ([] : va_W)) [] (by decide) rfl
  refine ret_i (W1 := ([] : va_W)) (W2 := ([] : va_W)) (ws1 := (cM aM ac as_ an ah 0 bu fd fn ++ cA cyI ac 8 cd ++ cA cyI as_ 12 sw ++ cA cyI an 121 rn ++ cA cyI ah 121 ra)) (r := inI s_ 0 23) (run_S (n := 1) (As := [.int s_]) (rest := []) ⟨hx, hb, hml, hown, hts⟩ (c_X6_isSpan l D cyI cyO cyL s_ _) ggX6_bus_X6_isSpan rfl rfl rfl (hts (.methodLink RX6 47 yX6_isSpan) (List.mem_of_getElem? (i := 4) rfl)) (hts (.initialized RX6) (List.mem_of_getElem? (i := 6) rfl)) (hts (.static yX6_isSpan) (List.mem_of_getElem? (i := 5) rfl)) (by decide +kernel) ⟨Nat.le_of_ble_eq_true rfl, Nat.le_of_ble_eq_true rfl⟩ hKK hPc hDc rfl hl.1 rfl (Nat.le_of_ble_eq_true rfl) dX6_bus_6 ⟨Nat.zero_le _, Nat.zero_le _⟩) hP hD hS hA [] rfl rfl [(false, 0), (false, 1), (false, 2), (false, 3), (false, 4)] (by decide +kernel) rfl (fun H locs hP hD hS => ?_)
  refine lv_if_ne (tgt := 18) hx hb dX6_bus_9 (by decide) (fun h_1 => ?_) (fun h_1 => ?_)
  · skip
    refine lv_aload_n hx hb dX6_bus_18 rfl (lv_at hl 0 rfl) ?_
    refine va_get (D := D) (ci := 6) (v := .int bu) (C := RX6) (T := TX6) (N := 8) hx hb hts iX6 hown hKK.1 hP 0 rfl rfl 1 (by decide) (hts (.fieldLink RX6 36 "TrolleyGangModel" "buses" "I") (List.mem_of_getElem? (i := 2) rfl)) (fun _ h9 => h9) rfl dX6_bus_19 ?_
    refine lv_tope (y := nI n) hbu ?_
    refine lv_bipush (v := 6) hx hb dX6_bus_22 (by decide) ?_
    refine lv_icmp_ne (tgt := 33) hx hb dX6_bus_24 (by decide) (fun h_2 => ?_) (fun h_2 => ?_)
    · skip
      have hn6 : n < 6 := Nat.lt_of_le_of_ne hn fun e9 => h_2 (by rw [e9]; rfl)
      refine lv_bipush (v := 72) hx hb dX6_bus_33 (by decide) ?_
      refine lv_bipush (v := 6) hx hb dX6_bus_35 (by decide) ?_
      refine lv_aload_n hx hb dX6_bus_37 rfl (lv_at hl 0 rfl) ?_
      refine va_get (D := D) (ci := 6) (v := .int bu) (C := RX6) (T := TX6) (N := 8) hx hb hts iX6 hown hKK.1 hP 0 rfl rfl 1 (by decide) (hts (.fieldLink RX6 36 "TrolleyGangModel" "buses" "I") (List.mem_of_getElem? (i := 2) rfl)) (fun _ h9 => h9) rfl dX6_bus_38 ?_
      refine lv_tope (y := nI n) hbu ?_
      refine lv_imul hx hb dX6_bus_41 ?_
      refine lv_tope (y := nI (6 * n)) (pk_mul 6 n) ?_
      refine lv_iadd hx hb dX6_bus_42 ?_
      refine lv_tope (y := nI (72 + (6 * n))) (nI_add 72 (6 * n)) ?_
      refine lv_istore_n (lv' := [(3, .int (nI (72 + (6 * n)))), (0, .ref aM), (1, .int s_), (2, .int c_)]) hx hb dX6_bus_43 rfl hl (by decide) rfl (fun ls hl => ?_)
      refine lv_aload_n hx hb dX6_bus_44 rfl (lv_at hl 1 rfl) ?_
      refine va_get (D := D) (ci := 6) (v := .ref an) (C := RX6) (T := TX6) (N := 8) hx hb hts iX6 hown hKK.1 hP 0 rfl rfl 6 (by decide) (hts (.fieldLink RX6 26 "TrolleyGangModel" "now" "[I") (List.mem_of_getElem? (i := 3) rfl)) (fun _ h9 => h9) rfl dX6_bus_45 ?_
      refine lv_iload_n hx hb dX6_bus_48 rfl (lv_at hl 0 rfl) ?_
      refine lv_iload_n hx hb dX6_bus_49 rfl (lv_at hl 2 rfl) ?_
      refine va_iast hx hb hKK.1 hP hD hS 3 0 rfl rfl (hin := (vp_in_nI (show (72 + (6 * n)) < 121 by omega) (by omega))) dX6_bus_50 (fun H locs hP hD hS => ?_)
      rw [nI_clamp (by omega)] at hP hD
      have hP : va_P D vwCl (cM aM ac as_ an ah 0 bu fd fn ++ cA cyI ac 8 cd ++ cA cyI as_ 12 sw ++ cA cyI an 121 (upd rn (72 + (6 * n)) s_) ++ cA cyI ah 121 ra) H := hP
      have hD : va_D A (cM aM ac as_ an ah 0 bu fd fn ++ cA cyI ac 8 cd ++ cA cyI as_ 12 sw ++ cA cyI an 121 (upd rn (72 + (6 * n)) s_) ++ cA cyI ah 121 ra) := hD
      refine lv_aload_n hx hb dX6_bus_51 rfl (lv_at hl 1 rfl) ?_
      refine va_get (D := D) (ci := 6) (v := .ref an) (C := RX6) (T := TX6) (N := 8) hx hb hts iX6 hown hKK.1 hP 0 rfl rfl 6 (by decide) (hts (.fieldLink RX6 26 "TrolleyGangModel" "now" "[I") (List.mem_of_getElem? (i := 3) rfl)) (fun _ h9 => h9) rfl dX6_bus_52 ?_
      refine lv_iload_n hx hb dX6_bus_55 rfl (lv_at hl 0 rfl) ?_
      refine lv_iconst (v := 1) hx hb dX6_bus_56 (by decide) ?_
      refine lv_iadd hx hb dX6_bus_57 ?_
      refine lv_tope (y := nI ((72 + (6 * n)) + 1)) (nI_add (72 + (6 * n)) 1) ?_
      refine lv_iload_n hx hb dX6_bus_58 rfl (lv_at hl 3 rfl) ?_
      refine lv_if_eq (tgt := 66) hx hb dX6_bus_59 (by decide) (fun h_3 => ?_) (fun h_3 => ?_)
      · skip
        refine lv_iconst (v := 0) hx hb dX6_bus_66 (by decide) ?_
        refine va_iast hx hb hKK.1 hP hD hS 3 0 rfl rfl (hin := (vp_in_nI (show ((72 + (6 * n)) + 1) < 121 by omega) (by omega))) dX6_bus_67 (fun H locs hP hD hS => ?_)
        rw [nI_clamp (by omega)] at hP hD
        have hP : va_P D vwCl (cM aM ac as_ an ah 0 bu fd fn ++ cA cyI ac 8 cd ++ cA cyI as_ 12 sw ++ cA cyI an 121 (upd (upd rn (72 + (6 * n)) s_) ((72 + (6 * n)) + 1) 0) ++ cA cyI ah 121 ra) H := hP
        have hD : va_D A (cM aM ac as_ an ah 0 bu fd fn ++ cA cyI ac 8 cd ++ cA cyI as_ 12 sw ++ cA cyI an 121 (upd (upd rn (72 + (6 * n)) s_) ((72 + (6 * n)) + 1) 0) ++ cA cyI ah 121 ra) := hD
        refine lv_aload_n hx hb dX6_bus_68 rfl (lv_at hl 1 rfl) ?_
        refine va_get (D := D) (ci := 6) (v := .ref an) (C := RX6) (T := TX6) (N := 8) hx hb hts iX6 hown hKK.1 hP 0 rfl rfl 6 (by decide) (hts (.fieldLink RX6 26 "TrolleyGangModel" "now" "[I") (List.mem_of_getElem? (i := 3) rfl)) (fun _ h9 => h9) rfl dX6_bus_69 ?_
        refine lv_iload_n hx hb dX6_bus_72 rfl (lv_at hl 0 rfl) ?_
        refine lv_iconst (v := 2) hx hb dX6_bus_73 (by decide) ?_
        refine lv_iadd hx hb dX6_bus_74 ?_
        refine lv_tope (y := nI ((72 + (6 * n)) + 2)) (nI_add (72 + (6 * n)) 2) ?_
        refine lv_iconst (v := 1) hx hb dX6_bus_75 (by decide) ?_
        refine va_iast hx hb hKK.1 hP hD hS 3 0 rfl rfl (hin := (vp_in_nI (show ((72 + (6 * n)) + 2) < 121 by omega) (by omega))) dX6_bus_76 (fun H locs hP hD hS => ?_)
        rw [nI_clamp (by omega)] at hP hD
        have hP : va_P D vwCl (cM aM ac as_ an ah 0 bu fd fn ++ cA cyI ac 8 cd ++ cA cyI as_ 12 sw ++ cA cyI an 121 (upd (upd (upd rn (72 + (6 * n)) s_) ((72 + (6 * n)) + 1) 0) ((72 + (6 * n)) + 2) 1) ++ cA cyI ah 121 ra) H := hP
        have hD : va_D A (cM aM ac as_ an ah 0 bu fd fn ++ cA cyI ac 8 cd ++ cA cyI as_ 12 sw ++ cA cyI an 121 (upd (upd (upd rn (72 + (6 * n)) s_) ((72 + (6 * n)) + 1) 0) ((72 + (6 * n)) + 2) 1) ++ cA cyI ah 121 ra) := hD
        refine lv_aload_n hx hb dX6_bus_77 rfl (lv_at hl 1 rfl) ?_
        refine lv_dup hx hb dX6_bus_78 rfl ?_
        refine va_get (D := D) (ci := 6) (v := .int bu) (C := RX6) (T := TX6) (N := 8) hx hb hts iX6 hown hKK.1 hP 0 rfl rfl 1 (by decide) (hts (.fieldLink RX6 36 "TrolleyGangModel" "buses" "I") (List.mem_of_getElem? (i := 2) rfl)) (fun _ h9 => h9) rfl dX6_bus_79 ?_
        refine lv_tope (y := nI n) hbu ?_
        refine lv_iconst (v := 1) hx hb dX6_bus_82 (by decide) ?_
        refine lv_iadd hx hb dX6_bus_83 ?_
        refine lv_tope (y := nI (n + 1)) (nI_add n 1) ?_
        refine va_put (D := D) (ci := 6) (v := .int (nI (n + 1))) (ty := .int) (C := RX6) (T := TX6) (N := 8) hx hb hts iX6 tyX6 tyX6_ok nmX6 hown hKK.1 hP hD hS 0 rfl rfl 1 (by decide) (hts (.fieldLink RX6 36 "TrolleyGangModel" "buses" "I") (List.mem_of_getElem? (i := 2) rfl)) (fun _ h9 => h9) rfl (by decide +kernel) rfl rfl (Nat.le_of_ble_eq_true rfl) dX6_bus_84 (fun H locs hP hD hS => ?_)
        have hP : va_P D vwCl (cM aM ac as_ an ah 0 (nI (n + 1)) fd fn ++ cA cyI ac 8 cd ++ cA cyI as_ 12 sw ++ cA cyI an 121 (upd (upd (upd rn (72 + (6 * n)) s_) ((72 + (6 * n)) + 1) 0) ((72 + (6 * n)) + 2) 1) ++ cA cyI ah 121 ra) H := hP
        have hD : va_D A (cM aM ac as_ an ah 0 (nI (n + 1)) fd fn ++ cA cyI ac 8 cd ++ cA cyI as_ 12 sw ++ cA cyI an 121 (upd (upd (upd rn (72 + (6 * n)) s_) ((72 + (6 * n)) + 1) 0) ((72 + (6 * n)) + 2) 1) ++ cA cyI ah 121 ra) := hD
        refine lv_aload_n hx hb dX6_bus_87 rfl (lv_at hl 1 rfl) ?_
        refine va_get (D := D) (ci := 6) (v := .int (nI (n + 1))) (C := RX6) (T := TX6) (N := 8) hx hb hts iX6 hown hKK.1 hP 0 rfl rfl 1 (by decide) (hts (.fieldLink RX6 36 "TrolleyGangModel" "buses" "I") (List.mem_of_getElem? (i := 2) rfl)) (fun _ h9 => h9) rfl dX6_bus_88 ?_
        refine lv_iconst (v := 1) hx hb dX6_bus_91 (by decide) ?_
        refine lv_isub hx hb dX6_bus_92 ?_
        refine lv_tope (y := nI n) (nI_pred n) ?_
        have e9 : mBus rn n bu s_ c_ = (nI n, 0, nI (n + 1), upd (upd (upd rn (72 + (6 * n)) s_) ((72 + (6 * n)) + 1) 0) ((72 + (6 * n)) + 2) 1) := (by first | with_reducible rfl | (simp only [mBus, h_1, h_2, h_3, if_true, if_false, reduceIte, not_true_eq_false, not_false_eq_true]; done) | (simp [mBus, h_1, h_2, h_3]; done))
        exact end_i hx hb hrt hlocks (by rw [e9]) (by rw [e9]; exact hP) hS dX6_bus_93
      · skip
        refine lv_iconst (v := 1) hx hb dX6_bus_62 (by decide) ?_
        refine lv_goto (tgt := 67) hx hb dX6_bus_63 (by decide) ?_
        refine va_iast hx hb hKK.1 hP hD hS 3 0 rfl rfl (hin := (vp_in_nI (show ((72 + (6 * n)) + 1) < 121 by omega) (by omega))) dX6_bus_67 (fun H locs hP hD hS => ?_)
        rw [nI_clamp (by omega)] at hP hD
        have hP : va_P D vwCl (cM aM ac as_ an ah 0 bu fd fn ++ cA cyI ac 8 cd ++ cA cyI as_ 12 sw ++ cA cyI an 121 (upd (upd rn (72 + (6 * n)) s_) ((72 + (6 * n)) + 1) 1) ++ cA cyI ah 121 ra) H := hP
        have hD : va_D A (cM aM ac as_ an ah 0 bu fd fn ++ cA cyI ac 8 cd ++ cA cyI as_ 12 sw ++ cA cyI an 121 (upd (upd rn (72 + (6 * n)) s_) ((72 + (6 * n)) + 1) 1) ++ cA cyI ah 121 ra) := hD
        refine lv_aload_n hx hb dX6_bus_68 rfl (lv_at hl 1 rfl) ?_
        refine va_get (D := D) (ci := 6) (v := .ref an) (C := RX6) (T := TX6) (N := 8) hx hb hts iX6 hown hKK.1 hP 0 rfl rfl 6 (by decide) (hts (.fieldLink RX6 26 "TrolleyGangModel" "now" "[I") (List.mem_of_getElem? (i := 3) rfl)) (fun _ h9 => h9) rfl dX6_bus_69 ?_
        refine lv_iload_n hx hb dX6_bus_72 rfl (lv_at hl 0 rfl) ?_
        refine lv_iconst (v := 2) hx hb dX6_bus_73 (by decide) ?_
        refine lv_iadd hx hb dX6_bus_74 ?_
        refine lv_tope (y := nI ((72 + (6 * n)) + 2)) (nI_add (72 + (6 * n)) 2) ?_
        refine lv_iconst (v := 1) hx hb dX6_bus_75 (by decide) ?_
        refine va_iast hx hb hKK.1 hP hD hS 3 0 rfl rfl (hin := (vp_in_nI (show ((72 + (6 * n)) + 2) < 121 by omega) (by omega))) dX6_bus_76 (fun H locs hP hD hS => ?_)
        rw [nI_clamp (by omega)] at hP hD
        have hP : va_P D vwCl (cM aM ac as_ an ah 0 bu fd fn ++ cA cyI ac 8 cd ++ cA cyI as_ 12 sw ++ cA cyI an 121 (upd (upd (upd rn (72 + (6 * n)) s_) ((72 + (6 * n)) + 1) 1) ((72 + (6 * n)) + 2) 1) ++ cA cyI ah 121 ra) H := hP
        have hD : va_D A (cM aM ac as_ an ah 0 bu fd fn ++ cA cyI ac 8 cd ++ cA cyI as_ 12 sw ++ cA cyI an 121 (upd (upd (upd rn (72 + (6 * n)) s_) ((72 + (6 * n)) + 1) 1) ((72 + (6 * n)) + 2) 1) ++ cA cyI ah 121 ra) := hD
        refine lv_aload_n hx hb dX6_bus_77 rfl (lv_at hl 1 rfl) ?_
        refine lv_dup hx hb dX6_bus_78 rfl ?_
        refine va_get (D := D) (ci := 6) (v := .int bu) (C := RX6) (T := TX6) (N := 8) hx hb hts iX6 hown hKK.1 hP 0 rfl rfl 1 (by decide) (hts (.fieldLink RX6 36 "TrolleyGangModel" "buses" "I") (List.mem_of_getElem? (i := 2) rfl)) (fun _ h9 => h9) rfl dX6_bus_79 ?_
        refine lv_tope (y := nI n) hbu ?_
        refine lv_iconst (v := 1) hx hb dX6_bus_82 (by decide) ?_
        refine lv_iadd hx hb dX6_bus_83 ?_
        refine lv_tope (y := nI (n + 1)) (nI_add n 1) ?_
        refine va_put (D := D) (ci := 6) (v := .int (nI (n + 1))) (ty := .int) (C := RX6) (T := TX6) (N := 8) hx hb hts iX6 tyX6 tyX6_ok nmX6 hown hKK.1 hP hD hS 0 rfl rfl 1 (by decide) (hts (.fieldLink RX6 36 "TrolleyGangModel" "buses" "I") (List.mem_of_getElem? (i := 2) rfl)) (fun _ h9 => h9) rfl (by decide +kernel) rfl rfl (Nat.le_of_ble_eq_true rfl) dX6_bus_84 (fun H locs hP hD hS => ?_)
        have hP : va_P D vwCl (cM aM ac as_ an ah 0 (nI (n + 1)) fd fn ++ cA cyI ac 8 cd ++ cA cyI as_ 12 sw ++ cA cyI an 121 (upd (upd (upd rn (72 + (6 * n)) s_) ((72 + (6 * n)) + 1) 1) ((72 + (6 * n)) + 2) 1) ++ cA cyI ah 121 ra) H := hP
        have hD : va_D A (cM aM ac as_ an ah 0 (nI (n + 1)) fd fn ++ cA cyI ac 8 cd ++ cA cyI as_ 12 sw ++ cA cyI an 121 (upd (upd (upd rn (72 + (6 * n)) s_) ((72 + (6 * n)) + 1) 1) ((72 + (6 * n)) + 2) 1) ++ cA cyI ah 121 ra) := hD
        refine lv_aload_n hx hb dX6_bus_87 rfl (lv_at hl 1 rfl) ?_
        refine va_get (D := D) (ci := 6) (v := .int (nI (n + 1))) (C := RX6) (T := TX6) (N := 8) hx hb hts iX6 hown hKK.1 hP 0 rfl rfl 1 (by decide) (hts (.fieldLink RX6 36 "TrolleyGangModel" "buses" "I") (List.mem_of_getElem? (i := 2) rfl)) (fun _ h9 => h9) rfl dX6_bus_88 ?_
        refine lv_iconst (v := 1) hx hb dX6_bus_91 (by decide) ?_
        refine lv_isub hx hb dX6_bus_92 ?_
        refine lv_tope (y := nI n) (nI_pred n) ?_
        have e9 : mBus rn n bu s_ c_ = (nI n, 0, nI (n + 1), upd (upd (upd rn (72 + (6 * n)) s_) ((72 + (6 * n)) + 1) 1) ((72 + (6 * n)) + 2) 1) := (by first | with_reducible rfl | (simp only [mBus, h_1, h_2, h_3, if_true, if_false, reduceIte, not_true_eq_false, not_false_eq_true]; done) | (simp [mBus, h_1, h_2, h_3]; done))
        exact end_i hx hb hrt hlocks (by rw [e9]) (by rw [e9]; exact hP) hS dX6_bus_93
    · skip
      refine lv_aload_n hx hb dX6_bus_27 rfl (lv_at hl 0 rfl) ?_
      refine lv_iconst (v := 2) hx hb dX6_bus_28 (by decide) ?_
      have hPc := hP.sub (ws' := (cM aM ac as_ an ah 0 bu fd fn)) [0] rfl
      have hDc := hD.sub (ws' := (cM aM ac as_ an ah 0 bu fd fn)) [0] (by decide) rfl
      refine ret_i (W1 := (cM aM ac as_ an ah 0 bu fd fn)) (W2 := (cM aM ac as_ an ah 2 bu fd fn)) (ws1 := (cM aM ac as_ an ah 2 bu fd fn ++ cA cyI ac 8 cd ++ cA cyI as_ 12 sw ++ cA cyI an 121 rn ++ cA cyI ah 121 ra)) (r := 0) (run_V (q := (RX6, TX6, 8)) (n := 1) (As := [.int 2]) (rest := []) ⟨hx, hb, hml, hown, hts⟩ (c_X6_no l D cyI cyO cyL aM ac as_ an ah 0 bu fd fn 2 _) ggX6_bus_X6_no rfl rfl rfl (hts (.methodLink RX6 39 yX6_no) (List.mem_of_getElem? (i := 11) rfl)) (hts (.initialized RX6) (List.mem_of_getElem? (i := 6) rfl)) (hts (.instanceMethod yX6_no) (List.mem_of_getElem? (i := 12) rfl)) (hts (.selects RX6 yX6_no yX6_no) (List.mem_of_getElem? (i := 13) rfl)) (by decide +kernel) ⟨Nat.le_of_ble_eq_true rfl, Nat.le_of_ble_eq_true rfl⟩ hKK hPc hDc (ci := 6) (q0 := 0) rfl rfl rfl hl.1 rfl (Nat.le_of_ble_eq_true rfl) dX6_bus_29 ⟨Nat.zero_le _, Nat.zero_le _⟩) hP hD hS hA [0] rfl rfl [(true, 0), (false, 1), (false, 2), (false, 3), (false, 4)] (by decide +kernel) rfl (fun H locs hP hD hS => ?_)
      have e9 : mBus rn n bu s_ c_ = (0, 2, bu, rn) := (by first | with_reducible rfl | (simp only [mBus, h_1, h_2, if_true, if_false, reduceIte, not_true_eq_false, not_false_eq_true]; done) | (simp [mBus, h_1, h_2]; done))
      exact end_i hx hb hrt hlocks (by rw [e9]) (by rw [e9]; exact hP) hS dX6_bus_32
  · skip
    refine lv_aload_n hx hb dX6_bus_12 rfl (lv_at hl 0 rfl) ?_
    refine lv_iconst (v := 1) hx hb dX6_bus_13 (by decide) ?_
    have hPc := hP.sub (ws' := (cM aM ac as_ an ah 0 bu fd fn)) [0] rfl
    have hDc := hD.sub (ws' := (cM aM ac as_ an ah 0 bu fd fn)) [0] (by decide) rfl
    refine ret_i (W1 := (cM aM ac as_ an ah 0 bu fd fn)) (W2 := (cM aM ac as_ an ah 1 bu fd fn)) (ws1 := (cM aM ac as_ an ah 1 bu fd fn ++ cA cyI ac 8 cd ++ cA cyI as_ 12 sw ++ cA cyI an 121 rn ++ cA cyI ah 121 ra)) (r := 0) (run_V (q := (RX6, TX6, 8)) (n := 1) (As := [.int 1]) (rest := []) ⟨hx, hb, hml, hown, hts⟩ (c_X6_no l D cyI cyO cyL aM ac as_ an ah 0 bu fd fn 1 _) ggX6_bus_X6_no rfl rfl rfl (hts (.methodLink RX6 39 yX6_no) (List.mem_of_getElem? (i := 11) rfl)) (hts (.initialized RX6) (List.mem_of_getElem? (i := 6) rfl)) (hts (.instanceMethod yX6_no) (List.mem_of_getElem? (i := 12) rfl)) (hts (.selects RX6 yX6_no yX6_no) (List.mem_of_getElem? (i := 13) rfl)) (by decide +kernel) ⟨Nat.le_of_ble_eq_true rfl, Nat.le_of_ble_eq_true rfl⟩ hKK hPc hDc (ci := 6) (q0 := 0) rfl rfl rfl hl.1 rfl (Nat.le_of_ble_eq_true rfl) dX6_bus_14 ⟨Nat.zero_le _, Nat.zero_le _⟩) hP hD hS hA [0] rfl rfl [(true, 0), (false, 1), (false, 2), (false, 3), (false, 4)] (by decide +kernel) rfl (fun H locs hP hD hS => ?_)
    have e9 : mBus rn n bu s_ c_ = (0, 1, bu, rn) := (by first | with_reducible rfl | (simp only [mBus, h_1, if_true, if_false, reduceIte, not_true_eq_false, not_false_eq_true]; done) | (simp [mBus, h_1]; done))
    exact end_i hx hb hrt hlocks (by rw [e9]) (by rw [e9]; exact hP) hS dX6_bus_17
set_option maxHeartbeats 4000000 in
set_option maxRecDepth 100000 in
theorem c_X6_fit (l : Launch) (D : va_G) (cyI cyO cyL : ClassId) (aM : Nat) (ac : Nat) (as_ : Nat) (an : Nat) (ah : Nat) (th : Int32) (bu : Int32) (fd : Int32) (fn : Int32) (cd : Nat → Int32) (sw : Nat → Int32) (rn : Nat → Int32) (ra : Nat → Int32) (a_ : Int32) (b_ : Int32) (n : Nat) (hn : n ≤ 6) (hbu : bu = nI n) : cI l yX6_fit wsX6_fit ({ frames := 2, cells := 0, slots := 0, locals := 43 }) D cyI cyO cyL [.ref aM, .int a_, .int b_] (cM aM ac as_ an ah th bu fd fn ++ cA cyI ac 8 cd ++ cA cyI as_ 12 sw ++ cA cyI an 121 rn ++ cA cyI ah 121 ra) (cM aM ac as_ an ah ((mFit rn bu a_ b_).2.1) bu fd fn ++ cA cyI ac 8 cd ++ cA cyI as_ 12 sw ++ cA cyI an 121 ((mFit rn bu a_ b_).2.2) ++ cA cyI ah 121 ra) ((mFit rn bu a_ b_).1) := by
  intro sz
  refine Met.ofW (cc := cX6_fit) (maxL := 3) (ret := (some .int)) (by decide) rfl ?_
  intro p e s m args below meth c s₁ B9 hml hv
  obtain ⟨rfl, hsz, hP, hKK, hD0⟩ := hv
  have hx := B9.exec
  have hb := B9.bytes
  have hrt := B9.returns
  have hts := atoms_spec (ws := wsX6_fit) B9.pre
  have hown : s.vm.findClass RX6 = some m.cls := findClass_of_methodNamed B9.named
  have hlocks := B9.notSynchronized
  have nw := fun {w : Cond} (h : w ∈ nw_all) => NW.use (args := ([.ref aM, .int a_, .int b_] : List Value).toArray) hKK.2 h
  have iX6 : ∀ w ∈ wsX60, w ∈ wsX6_fit := fun _ h => List.mem_cons_of_mem _ (List.mem_append_right _ h)
  subst hsz
  have hD := hD0.self (sz := s.heap.size)
  generalize hAe : va_A (cM aM ac as_ an ah th bu fd fn ++ cA cyI ac 8 cd ++ cA cyI as_ 12 sw ++ cA cyI an 121 rn ++ cA cyI ah 121 ra) s.heap.size = A at hD ⊢
  have hA : ∀ q : Nat, s.heap.size ≤ q → A q := fun q h => by rw [← hAe]; exact Or.inr h
  have hS : va_S A s.heap s.heap [] := va_S.rf
  have hl := lv_entry ([.ref aM, .int a_, .int b_]) (n := 3) (Nat.le_of_ble_eq_true rfl)
  rw [lg_entry_eq]
  generalize (lg_sl ([.ref aM, .int a_, .int b_]) ++ List.replicate (3 - (lg_sl ([.ref aM, .int a_, .int b_])).length) Slot.unset).toArray = ls at hl ⊢
  have hl : lv_has ls 3 [(0, .ref aM), (1, .int a_), (2, .int b_)] := hl
  refine lv_aload_n hx hb dX6_fit_0 rfl (lv_at hl 0 rfl) ?_
  refine lv_iconst (v := 0) hx hb dX6_fit_1 (by decide) ?_
  refine va_put (D := D) (ci := 6) (v := .int 0) (ty := .int) (C := RX6) (T := TX6) (N := 8) hx hb hts iX6 tyX6 tyX6_ok nmX6 hown hKK.1 hP hD hS 0 rfl rfl 0 (by decide) (hts (.fieldLink RX6 1 "TrolleyGangModel" "thrown" "I") (List.mem_of_getElem? (i := 1) rfl)) (fun _ h9 => h9) rfl (by decide +kernel) rfl rfl (Nat.le_of_ble_eq_true rfl) dX6_fit_2 (fun H locs hP hD hS => ?_)
  have hP : va_P D vwCl (cM aM ac as_ an ah 0 bu fd fn ++ cA cyI ac 8 cd ++ cA cyI as_ 12 sw ++ cA cyI an 121 rn ++ cA cyI ah 121 ra) H := hP
  have hD : va_D A (cM aM ac as_ an ah 0 bu fd fn ++ cA cyI ac 8 cd ++ cA cyI as_ 12 sw ++ cA cyI an 121 rn ++ cA cyI ah 121 ra) := hD
  refine lv_aload_n hx hb dX6_fit_5 rfl (lv_at hl 0 rfl) ?_
  refine lv_iload_n hx hb dX6_fit_6 rfl (lv_at hl 1 rfl) ?_
  have hPc := hP.sub (ws' := (cM aM ac as_ an ah 0 bu fd fn)) [0] rfl
  have hDc := hD.sub (ws' := (cM aM ac as_ an ah 0 bu fd fn)) [0] (by decide) rfl
  refine ret_i (W1 := (cM aM ac as_ an ah 0 bu fd fn)) (W2 := (cM aM ac as_ an ah 0 bu fd fn)) (ws1 := (cM aM ac as_ an ah 0 bu fd fn ++ cA cyI ac 8 cd ++ cA cyI as_ 12 sw ++ cA cyI an 121 rn ++ cA cyI ah 121 ra)) (r := inI a_ 0 (bu - 1)) (run_V (q := (RX6, TX6, 8)) (n := 1) (As := [.int a_]) (rest := []) ⟨hx, hb, hml, hown, hts⟩ (c_X6_isBus l D cyI cyO cyL aM ac as_ an ah 0 bu fd fn a_ _) ggX6_fit_X6_isBus rfl rfl rfl (hts (.methodLink RX6 51 yX6_isBus) (List.mem_of_getElem? (i := 3) rfl)) (hts (.initialized RX6) (List.mem_of_getElem? (i := 6) rfl)) (hts (.instanceMethod yX6_isBus) (List.mem_of_getElem? (i := 4) rfl)) (hts (.selects RX6 yX6_isBus yX6_isBus) (List.mem_of_getElem? (i := 5) rfl)) (by decide +kernel) ⟨Nat.le_of_ble_eq_true rfl, Nat.le_of_ble_eq_true rfl⟩ hKK hPc hDc (ci := 6) (q0 := 0) rfl rfl rfl hl.1 rfl (Nat.le_of_ble_eq_true rfl) dX6_fit_7 ⟨Nat.zero_le _, Nat.zero_le _⟩) hP hD hS hA [0] rfl rfl [(true, 0), (false, 1), (false, 2), (false, 3), (false, 4)] (by decide +kernel) rfl (fun H locs hP hD hS => ?_)
  refine lv_if_eq (tgt := 21) hx hb dX6_fit_10 (by decide) (fun h_1 => ?_) (fun h_1 => ?_)
  · skip
    refine lv_aload_n hx hb dX6_fit_21 rfl (lv_at hl 0 rfl) ?_
    refine lv_iconst (v := 1) hx hb dX6_fit_22 (by decide) ?_
    have hPc := hP.sub (ws' := (cM aM ac as_ an ah 0 bu fd fn)) [0] rfl
    have hDc := hD.sub (ws' := (cM aM ac as_ an ah 0 bu fd fn)) [0] (by decide) rfl
    refine ret_i (W1 := (cM aM ac as_ an ah 0 bu fd fn)) (W2 := (cM aM ac as_ an ah 1 bu fd fn)) (ws1 := (cM aM ac as_ an ah 1 bu fd fn ++ cA cyI ac 8 cd ++ cA cyI as_ 12 sw ++ cA cyI an 121 rn ++ cA cyI ah 121 ra)) (r := 0) (run_V (q := (RX6, TX6, 8)) (n := 1) (As := [.int 1]) (rest := []) ⟨hx, hb, hml, hown, hts⟩ (c_X6_no l D cyI cyO cyL aM ac as_ an ah 0 bu fd fn 1 _) ggX6_fit_X6_no rfl rfl rfl (hts (.methodLink RX6 39 yX6_no) (List.mem_of_getElem? (i := 12) rfl)) (hts (.initialized RX6) (List.mem_of_getElem? (i := 6) rfl)) (hts (.instanceMethod yX6_no) (List.mem_of_getElem? (i := 13) rfl)) (hts (.selects RX6 yX6_no yX6_no) (List.mem_of_getElem? (i := 14) rfl)) (by decide +kernel) ⟨Nat.le_of_ble_eq_true rfl, Nat.le_of_ble_eq_true rfl⟩ hKK hPc hDc (ci := 6) (q0 := 0) rfl rfl rfl hl.1 rfl (Nat.le_of_ble_eq_true rfl) dX6_fit_23 ⟨Nat.zero_le _, Nat.zero_le _⟩) hP hD hS hA [0] rfl rfl [(true, 0), (false, 1), (false, 2), (false, 3), (false, 4)] (by decide +kernel) rfl (fun H locs hP hD hS => ?_)
    have e9 : mFit rn bu a_ b_ = (0, 1, rn) := (by first | with_reducible rfl | (simp only [mFit, h_1, if_true, if_false, reduceIte, not_true_eq_false, not_false_eq_true]; done) | (simp [mFit, h_1]; done))
    exact end_i hx hb hrt hlocks (by rw [e9]) (by rw [e9]; exact hP) hS dX6_fit_26
  · skip
    have ha := vp_mono (inI_b hbu hn h_1) hn
    refine lv_aload_n hx hb dX6_fit_13 rfl (lv_at hl 0 rfl) ?_
    refine lv_iload_n hx hb dX6_fit_14 rfl (lv_at hl 2 rfl) ?_
    have hPc := hP.sub (ws' := (cM aM ac as_ an ah 0 bu fd fn)) [0] rfl
    have hDc := hD.sub (ws' := (cM aM ac as_ an ah 0 bu fd fn)) [0] (by decide) rfl
    refine ret_i (W1 := (cM aM ac as_ an ah 0 bu fd fn)) (W2 := (cM aM ac as_ an ah 0 bu fd fn)) (ws1 := (cM aM ac as_ an ah 0 bu fd fn ++ cA cyI ac 8 cd ++ cA cyI as_ 12 sw ++ cA cyI an 121 rn ++ cA cyI ah 121 ra)) (r := inI b_ 0 (bu - 1)) (run_V (q := (RX6, TX6, 8)) (n := 1) (As := [.int b_]) (rest := []) ⟨hx, hb, hml, hown, hts⟩ (c_X6_isBus l D cyI cyO cyL aM ac as_ an ah 0 bu fd fn b_ _) ggX6_fit_X6_isBus rfl rfl rfl (hts (.methodLink RX6 51 yX6_isBus) (List.mem_of_getElem? (i := 3) rfl)) (hts (.initialized RX6) (List.mem_of_getElem? (i := 6) rfl)) (hts (.instanceMethod yX6_isBus) (List.mem_of_getElem? (i := 4) rfl)) (hts (.selects RX6 yX6_isBus yX6_isBus) (List.mem_of_getElem? (i := 5) rfl)) (by decide +kernel) ⟨Nat.le_of_ble_eq_true rfl, Nat.le_of_ble_eq_true rfl⟩ hKK hPc hDc (ci := 6) (q0 := 0) rfl rfl rfl hl.1 rfl (Nat.le_of_ble_eq_true rfl) dX6_fit_15 ⟨Nat.zero_le _, Nat.zero_le _⟩) hP hD hS hA [0] rfl rfl [(true, 0), (false, 1), (false, 2), (false, 3), (false, 4)] (by decide +kernel) rfl (fun H locs hP hD hS => ?_)
    refine lv_if_ne (tgt := 27) hx hb dX6_fit_18 (by decide) (fun h_2 => ?_) (fun h_2 => ?_)
    · skip
      have hb9 := vp_mono (inI_b hbu hn h_2) hn
      refine lv_aload_n hx hb dX6_fit_27 rfl (lv_at hl 0 rfl) ?_
      refine va_get (D := D) (ci := 6) (v := .ref an) (C := RX6) (T := TX6) (N := 8) hx hb hts iX6 hown hKK.1 hP 0 rfl rfl 6 (by decide) (hts (.fieldLink RX6 26 "TrolleyGangModel" "now" "[I") (List.mem_of_getElem? (i := 2) rfl)) (fun _ h9 => h9) rfl dX6_fit_28 ?_
      refine lv_bipush (v := 72) hx hb dX6_fit_31 (by decide) ?_
      refine lv_bipush (v := 6) hx hb dX6_fit_33 (by decide) ?_
      refine lv_iload_n hx hb dX6_fit_35 rfl (lv_at hl 1 rfl) ?_
      refine lv_imul hx hb dX6_fit_36 ?_
      refine lv_iadd hx hb dX6_fit_37 ?_
      refine lv_iconst (v := 1) hx hb dX6_fit_38 (by decide) ?_
      refine lv_iadd hx hb dX6_fit_39 ?_
      refine va_iald hx hb hKK.1 hP 3 0 rfl rfl (hin := (inB 1 ha (by decide))) dX6_fit_40 ?_
      refine lv_tope (y := rn (72 + 6 * a_.toNatClampNeg + 1)) (by rw [tnB1 ha]) ?_
      refine lv_if_eq (tgt := 62) hx hb dX6_fit_41 (by decide) (fun h_3 => ?_) (fun h_3 => ?_)
      · skip
        refine lv_aload_n hx hb dX6_fit_62 rfl (lv_at hl 0 rfl) ?_
        refine lv_iconst (v := 2) hx hb dX6_fit_63 (by decide) ?_
        have hPc := hP.sub (ws' := (cM aM ac as_ an ah 0 bu fd fn)) [0] rfl
        have hDc := hD.sub (ws' := (cM aM ac as_ an ah 0 bu fd fn)) [0] (by decide) rfl
        refine ret_i (W1 := (cM aM ac as_ an ah 0 bu fd fn)) (W2 := (cM aM ac as_ an ah 2 bu fd fn)) (ws1 := (cM aM ac as_ an ah 2 bu fd fn ++ cA cyI ac 8 cd ++ cA cyI as_ 12 sw ++ cA cyI an 121 rn ++ cA cyI ah 121 ra)) (r := 0) (run_V (q := (RX6, TX6, 8)) (n := 1) (As := [.int 2]) (rest := []) ⟨hx, hb, hml, hown, hts⟩ (c_X6_no l D cyI cyO cyL aM ac as_ an ah 0 bu fd fn 2 _) ggX6_fit_X6_no rfl rfl rfl (hts (.methodLink RX6 39 yX6_no) (List.mem_of_getElem? (i := 12) rfl)) (hts (.initialized RX6) (List.mem_of_getElem? (i := 6) rfl)) (hts (.instanceMethod yX6_no) (List.mem_of_getElem? (i := 13) rfl)) (hts (.selects RX6 yX6_no yX6_no) (List.mem_of_getElem? (i := 14) rfl)) (by decide +kernel) ⟨Nat.le_of_ble_eq_true rfl, Nat.le_of_ble_eq_true rfl⟩ hKK hPc hDc (ci := 6) (q0 := 0) rfl rfl rfl hl.1 rfl (Nat.le_of_ble_eq_true rfl) dX6_fit_64 ⟨Nat.zero_le _, Nat.zero_le _⟩) hP hD hS hA [0] rfl rfl [(true, 0), (false, 1), (false, 2), (false, 3), (false, 4)] (by decide +kernel) rfl (fun H locs hP hD hS => ?_)
        have e9 : mFit rn bu a_ b_ = (0, 2, rn) := (by first | with_reducible rfl | (simp only [mFit, h_1, h_2, h_3, if_true, if_false, reduceIte, not_true_eq_false, not_false_eq_true]; done) | (simp [mFit, h_1, h_2, h_3]; done))
        exact end_i hx hb hrt hlocks (by rw [e9]) (by rw [e9]; exact hP) hS dX6_fit_67
      · skip
        refine lv_aload_n hx hb dX6_fit_44 rfl (lv_at hl 0 rfl) ?_
        refine va_get (D := D) (ci := 6) (v := .ref an) (C := RX6) (T := TX6) (N := 8) hx hb hts iX6 hown hKK.1 hP 0 rfl rfl 6 (by decide) (hts (.fieldLink RX6 26 "TrolleyGangModel" "now" "[I") (List.mem_of_getElem? (i := 2) rfl)) (fun _ h9 => h9) rfl dX6_fit_45 ?_
        refine lv_bipush (v := 72) hx hb dX6_fit_48 (by decide) ?_
        refine lv_bipush (v := 6) hx hb dX6_fit_50 (by decide) ?_
        refine lv_iload_n hx hb dX6_fit_52 rfl (lv_at hl 2 rfl) ?_
        refine lv_imul hx hb dX6_fit_53 ?_
        refine lv_iadd hx hb dX6_fit_54 ?_
        refine lv_iconst (v := 1) hx hb dX6_fit_55 (by decide) ?_
        refine lv_iadd hx hb dX6_fit_56 ?_
        refine va_iald hx hb hKK.1 hP 3 0 rfl rfl (hin := (inB 1 hb9 (by decide))) dX6_fit_57 ?_
        refine lv_tope (y := rn (72 + 6 * b_.toNatClampNeg + 1)) (by rw [tnB1 hb9]) ?_
        refine lv_iconst (v := 1) hx hb dX6_fit_58 (by decide) ?_
        refine lv_icmp_ne (tgt := 68) hx hb dX6_fit_59 (by decide) (fun h_4 => ?_) (fun h_4 => ?_)
        · skip
          refine lv_aload_n hx hb dX6_fit_68 rfl (lv_at hl 0 rfl) ?_
          refine va_get (D := D) (ci := 6) (v := .ref an) (C := RX6) (T := TX6) (N := 8) hx hb hts iX6 hown hKK.1 hP 0 rfl rfl 6 (by decide) (hts (.fieldLink RX6 26 "TrolleyGangModel" "now" "[I") (List.mem_of_getElem? (i := 2) rfl)) (fun _ h9 => h9) rfl dX6_fit_69 ?_
          refine lv_bipush (v := 72) hx hb dX6_fit_72 (by decide) ?_
          refine lv_bipush (v := 6) hx hb dX6_fit_74 (by decide) ?_
          refine lv_iload_n hx hb dX6_fit_76 rfl (lv_at hl 1 rfl) ?_
          refine lv_imul hx hb dX6_fit_77 ?_
          refine lv_iadd hx hb dX6_fit_78 ?_
          refine lv_iconst (v := 1) hx hb dX6_fit_79 (by decide) ?_
          refine lv_iadd hx hb dX6_fit_80 ?_
          refine lv_iconst (v := 0) hx hb dX6_fit_81 (by decide) ?_
          refine va_iast hx hb hKK.1 hP hD hS 3 0 rfl rfl (hin := (inB 1 ha (by decide))) dX6_fit_82 (fun H locs hP hD hS => ?_)
          rw [tnB1 ha] at hP hD
          have hP : va_P D vwCl (cM aM ac as_ an ah 0 bu fd fn ++ cA cyI ac 8 cd ++ cA cyI as_ 12 sw ++ cA cyI an 121 (upd rn (72 + 6 * a_.toNatClampNeg + 1) 0) ++ cA cyI ah 121 ra) H := hP
          have hD : va_D A (cM aM ac as_ an ah 0 bu fd fn ++ cA cyI ac 8 cd ++ cA cyI as_ 12 sw ++ cA cyI an 121 (upd rn (72 + 6 * a_.toNatClampNeg + 1) 0) ++ cA cyI ah 121 ra) := hD
          refine lv_aload_n hx hb dX6_fit_83 rfl (lv_at hl 0 rfl) ?_
          refine va_get (D := D) (ci := 6) (v := .ref an) (C := RX6) (T := TX6) (N := 8) hx hb hts iX6 hown hKK.1 hP 0 rfl rfl 6 (by decide) (hts (.fieldLink RX6 26 "TrolleyGangModel" "now" "[I") (List.mem_of_getElem? (i := 2) rfl)) (fun _ h9 => h9) rfl dX6_fit_84 ?_
          refine lv_bipush (v := 72) hx hb dX6_fit_87 (by decide) ?_
          refine lv_bipush (v := 6) hx hb dX6_fit_89 (by decide) ?_
          refine lv_iload_n hx hb dX6_fit_91 rfl (lv_at hl 2 rfl) ?_
          refine lv_imul hx hb dX6_fit_92 ?_
          refine lv_iadd hx hb dX6_fit_93 ?_
          refine lv_iconst (v := 1) hx hb dX6_fit_94 (by decide) ?_
          refine lv_iadd hx hb dX6_fit_95 ?_
          refine lv_iconst (v := 1) hx hb dX6_fit_96 (by decide) ?_
          refine va_iast hx hb hKK.1 hP hD hS 3 0 rfl rfl (hin := (inB 1 hb9 (by decide))) dX6_fit_97 (fun H locs hP hD hS => ?_)
          rw [tnB1 hb9] at hP hD
          have hP : va_P D vwCl (cM aM ac as_ an ah 0 bu fd fn ++ cA cyI ac 8 cd ++ cA cyI as_ 12 sw ++ cA cyI an 121 (upd (upd rn (72 + 6 * a_.toNatClampNeg + 1) 0) (72 + 6 * b_.toNatClampNeg + 1) 1) ++ cA cyI ah 121 ra) H := hP
          have hD : va_D A (cM aM ac as_ an ah 0 bu fd fn ++ cA cyI ac 8 cd ++ cA cyI as_ 12 sw ++ cA cyI an 121 (upd (upd rn (72 + 6 * a_.toNatClampNeg + 1) 0) (72 + 6 * b_.toNatClampNeg + 1) 1) ++ cA cyI ah 121 ra) := hD
          refine lv_aload_n hx hb dX6_fit_98 rfl (lv_at hl 0 rfl) ?_
          refine va_get (D := D) (ci := 6) (v := .ref an) (C := RX6) (T := TX6) (N := 8) hx hb hts iX6 hown hKK.1 hP 0 rfl rfl 6 (by decide) (hts (.fieldLink RX6 26 "TrolleyGangModel" "now" "[I") (List.mem_of_getElem? (i := 2) rfl)) (fun _ h9 => h9) rfl dX6_fit_99 ?_
          refine lv_bipush (v := 72) hx hb dX6_fit_102 (by decide) ?_
          refine lv_bipush (v := 6) hx hb dX6_fit_104 (by decide) ?_
          refine lv_iload_n hx hb dX6_fit_106 rfl (lv_at hl 2 rfl) ?_
          refine lv_imul hx hb dX6_fit_107 ?_
          refine lv_iadd hx hb dX6_fit_108 ?_
          refine va_iald hx hb hKK.1 hP 3 0 rfl rfl (hin := (inB0 hb9)) dX6_fit_109 ?_
          refine lv_tope (y := (upd (upd rn (72 + 6 * a_.toNatClampNeg + 1) 0) (72 + 6 * b_.toNatClampNeg + 1) 1) (72 + 6 * b_.toNatClampNeg)) (by rw [tnB0 hb9]) ?_
          have e9 : mFit rn bu a_ b_ = ((upd (upd rn (72 + 6 * a_.toNatClampNeg + 1) 0) (72 + 6 * b_.toNatClampNeg + 1) 1) (72 + 6 * b_.toNatClampNeg), 0, upd (upd rn (72 + 6 * a_.toNatClampNeg + 1) 0) (72 + 6 * b_.toNatClampNeg + 1) 1) := (by first | with_reducible rfl | (simp only [mFit, h_1, h_2, h_3, h_4, if_true, if_false, reduceIte, not_true_eq_false, not_false_eq_true]; done) | (simp [mFit, h_1, h_2, h_3, h_4]; done))
          exact end_i hx hb hrt hlocks (by rw [e9]) (by rw [e9]; exact hP) hS dX6_fit_110
        · skip
          refine lv_aload_n hx hb dX6_fit_62 rfl (lv_at hl 0 rfl) ?_
          refine lv_iconst (v := 2) hx hb dX6_fit_63 (by decide) ?_
          have hPc := hP.sub (ws' := (cM aM ac as_ an ah 0 bu fd fn)) [0] rfl
          have hDc := hD.sub (ws' := (cM aM ac as_ an ah 0 bu fd fn)) [0] (by decide) rfl
          refine ret_i (W1 := (cM aM ac as_ an ah 0 bu fd fn)) (W2 := (cM aM ac as_ an ah 2 bu fd fn)) (ws1 := (cM aM ac as_ an ah 2 bu fd fn ++ cA cyI ac 8 cd ++ cA cyI as_ 12 sw ++ cA cyI an 121 rn ++ cA cyI ah 121 ra)) (r := 0) (run_V (q := (RX6, TX6, 8)) (n := 1) (As := [.int 2]) (rest := []) ⟨hx, hb, hml, hown, hts⟩ (c_X6_no l D cyI cyO cyL aM ac as_ an ah 0 bu fd fn 2 _) ggX6_fit_X6_no rfl rfl rfl (hts (.methodLink RX6 39 yX6_no) (List.mem_of_getElem? (i := 12) rfl)) (hts (.initialized RX6) (List.mem_of_getElem? (i := 6) rfl)) (hts (.instanceMethod yX6_no) (List.mem_of_getElem? (i := 13) rfl)) (hts (.selects RX6 yX6_no yX6_no) (List.mem_of_getElem? (i := 14) rfl)) (by decide +kernel) ⟨Nat.le_of_ble_eq_true rfl, Nat.le_of_ble_eq_true rfl⟩ hKK hPc hDc (ci := 6) (q0 := 0) rfl rfl rfl hl.1 rfl (Nat.le_of_ble_eq_true rfl) dX6_fit_64 ⟨Nat.zero_le _, Nat.zero_le _⟩) hP hD hS hA [0] rfl rfl [(true, 0), (false, 1), (false, 2), (false, 3), (false, 4)] (by decide +kernel) rfl (fun H locs hP hD hS => ?_)
          have e9 : mFit rn bu a_ b_ = (0, 2, rn) := (by first | with_reducible rfl | (simp only [mFit, h_1, h_2, h_3, h_4, if_true, if_false, reduceIte, not_true_eq_false, not_false_eq_true]; done) | (simp [mFit, h_1, h_2, h_3, h_4]; done))
          exact end_i hx hb hrt hlocks (by rw [e9]) (by rw [e9]; exact hP) hS dX6_fit_67
    · skip
      refine lv_aload_n hx hb dX6_fit_21 rfl (lv_at hl 0 rfl) ?_
      refine lv_iconst (v := 1) hx hb dX6_fit_22 (by decide) ?_
      have hPc := hP.sub (ws' := (cM aM ac as_ an ah 0 bu fd fn)) [0] rfl
      have hDc := hD.sub (ws' := (cM aM ac as_ an ah 0 bu fd fn)) [0] (by decide) rfl
      refine ret_i (W1 := (cM aM ac as_ an ah 0 bu fd fn)) (W2 := (cM aM ac as_ an ah 1 bu fd fn)) (ws1 := (cM aM ac as_ an ah 1 bu fd fn ++ cA cyI ac 8 cd ++ cA cyI as_ 12 sw ++ cA cyI an 121 rn ++ cA cyI ah 121 ra)) (r := 0) (run_V (q := (RX6, TX6, 8)) (n := 1) (As := [.int 1]) (rest := []) ⟨hx, hb, hml, hown, hts⟩ (c_X6_no l D cyI cyO cyL aM ac as_ an ah 0 bu fd fn 1 _) ggX6_fit_X6_no rfl rfl rfl (hts (.methodLink RX6 39 yX6_no) (List.mem_of_getElem? (i := 12) rfl)) (hts (.initialized RX6) (List.mem_of_getElem? (i := 6) rfl)) (hts (.instanceMethod yX6_no) (List.mem_of_getElem? (i := 13) rfl)) (hts (.selects RX6 yX6_no yX6_no) (List.mem_of_getElem? (i := 14) rfl)) (by decide +kernel) ⟨Nat.le_of_ble_eq_true rfl, Nat.le_of_ble_eq_true rfl⟩ hKK hPc hDc (ci := 6) (q0 := 0) rfl rfl rfl hl.1 rfl (Nat.le_of_ble_eq_true rfl) dX6_fit_23 ⟨Nat.zero_le _, Nat.zero_le _⟩) hP hD hS hA [0] rfl rfl [(true, 0), (false, 1), (false, 2), (false, 3), (false, 4)] (by decide +kernel) rfl (fun H locs hP hD hS => ?_)
      have e9 : mFit rn bu a_ b_ = (0, 1, rn) := (by first | with_reducible rfl | (simp only [mFit, h_1, h_2, if_true, if_false, reduceIte, not_true_eq_false, not_false_eq_true]; done) | (simp [mFit, h_1, h_2]; done))
      exact end_i hx hb hrt hlocks (by rw [e9]) (by rw [e9]; exact hP) hS dX6_fit_26
set_option maxHeartbeats 4000000 in
set_option maxRecDepth 100000 in
theorem c_X6_park (l : Launch) (D : va_G) (cyI cyO cyL : ClassId) (aM : Nat) (ac : Nat) (as_ : Nat) (an : Nat) (ah : Nat) (th : Int32) (bu : Int32) (fd : Int32) (fn : Int32) (cd : Nat → Int32) (sw : Nat → Int32) (rn : Nat → Int32) (ra : Nat → Int32) (b_ : Int32) (n : Nat) (hn : n ≤ 6) (hbu : bu = nI n) : cI l yX6_park wsX6_park ({ frames := 2, cells := 0, slots := 0, locals := 43 }) D cyI cyO cyL [.ref aM, .int b_] (cM aM ac as_ an ah th bu fd fn ++ cA cyI ac 8 cd ++ cA cyI as_ 12 sw ++ cA cyI an 121 rn ++ cA cyI ah 121 ra) (cM aM ac as_ an ah ((mPark rn bu b_).2.1) bu fd fn ++ cA cyI ac 8 cd ++ cA cyI as_ 12 sw ++ cA cyI an 121 ((mPark rn bu b_).2.2) ++ cA cyI ah 121 ra) ((mPark rn bu b_).1) := by
  intro sz
  refine Met.ofW (cc := cX6_park) (maxL := 2) (ret := (some .boolean)) (by decide) rfl ?_
  intro p e s m args below meth c s₁ B9 hml hv
  obtain ⟨rfl, hsz, hP, hKK, hD0⟩ := hv
  have hx := B9.exec
  have hb := B9.bytes
  have hrt := B9.returns
  have hts := atoms_spec (ws := wsX6_park) B9.pre
  have hown : s.vm.findClass RX6 = some m.cls := findClass_of_methodNamed B9.named
  have hlocks := B9.notSynchronized
  have nw := fun {w : Cond} (h : w ∈ nw_all) => NW.use (args := ([.ref aM, .int b_] : List Value).toArray) hKK.2 h
  have iX6 : ∀ w ∈ wsX60, w ∈ wsX6_park := fun _ h => List.mem_cons_of_mem _ (List.mem_append_right _ h)
  subst hsz
  have hD := hD0.self (sz := s.heap.size)
  generalize hAe : va_A (cM aM ac as_ an ah th bu fd fn ++ cA cyI ac 8 cd ++ cA cyI as_ 12 sw ++ cA cyI an 121 rn ++ cA cyI ah 121 ra) s.heap.size = A at hD ⊢
  have hA : ∀ q : Nat, s.heap.size ≤ q → A q := fun q h => by rw [← hAe]; exact Or.inr h
  have hS : va_S A s.heap s.heap [] := va_S.rf
  have hl := lv_entry ([.ref aM, .int b_]) (n := 2) (Nat.le_of_ble_eq_true rfl)
  rw [lg_entry_eq]
  generalize (lg_sl ([.ref aM, .int b_]) ++ List.replicate (2 - (lg_sl ([.ref aM, .int b_])).length) Slot.unset).toArray = ls at hl ⊢
  have hl : lv_has ls 2 [(0, .ref aM), (1, .int b_)] := hl
  refine lv_aload_n hx hb dX6_park_0 rfl (lv_at hl 0 rfl) ?_
  refine lv_iconst (v := 0) hx hb dX6_park_1 (by decide) ?_
  refine va_put (D := D) (ci := 6) (v := .int 0) (ty := .int) (C := RX6) (T := TX6) (N := 8) hx hb hts iX6 tyX6 tyX6_ok nmX6 hown hKK.1 hP hD hS 0 rfl rfl 0 (by decide) (hts (.fieldLink RX6 1 "TrolleyGangModel" "thrown" "I") (List.mem_of_getElem? (i := 1) rfl)) (fun _ h9 => h9) rfl (by decide +kernel) rfl rfl (Nat.le_of_ble_eq_true rfl) dX6_park_2 (fun H locs hP hD hS => ?_)
  have hP : va_P D vwCl (cM aM ac as_ an ah 0 bu fd fn ++ cA cyI ac 8 cd ++ cA cyI as_ 12 sw ++ cA cyI an 121 rn ++ cA cyI ah 121 ra) H := hP
  have hD : va_D A (cM aM ac as_ an ah 0 bu fd fn ++ cA cyI ac 8 cd ++ cA cyI as_ 12 sw ++ cA cyI an 121 rn ++ cA cyI ah 121 ra) := hD
  refine lv_aload_n hx hb dX6_park_5 rfl (lv_at hl 0 rfl) ?_
  refine lv_iload_n hx hb dX6_park_6 rfl (lv_at hl 1 rfl) ?_
  have hPc := hP.sub (ws' := (cM aM ac as_ an ah 0 bu fd fn)) [0] rfl
  have hDc := hD.sub (ws' := (cM aM ac as_ an ah 0 bu fd fn)) [0] (by decide) rfl
  refine ret_i (W1 := (cM aM ac as_ an ah 0 bu fd fn)) (W2 := (cM aM ac as_ an ah 0 bu fd fn)) (ws1 := (cM aM ac as_ an ah 0 bu fd fn ++ cA cyI ac 8 cd ++ cA cyI as_ 12 sw ++ cA cyI an 121 rn ++ cA cyI ah 121 ra)) (r := inI b_ 0 (bu - 1)) (run_V (q := (RX6, TX6, 8)) (n := 1) (As := [.int b_]) (rest := []) ⟨hx, hb, hml, hown, hts⟩ (c_X6_isBus l D cyI cyO cyL aM ac as_ an ah 0 bu fd fn b_ _) ggX6_park_X6_isBus rfl rfl rfl (hts (.methodLink RX6 51 yX6_isBus) (List.mem_of_getElem? (i := 3) rfl)) (hts (.initialized RX6) (List.mem_of_getElem? (i := 6) rfl)) (hts (.instanceMethod yX6_isBus) (List.mem_of_getElem? (i := 4) rfl)) (hts (.selects RX6 yX6_isBus yX6_isBus) (List.mem_of_getElem? (i := 5) rfl)) (by decide +kernel) ⟨Nat.le_of_ble_eq_true rfl, Nat.le_of_ble_eq_true rfl⟩ hKK hPc hDc (ci := 6) (q0 := 0) rfl rfl rfl hl.1 rfl (Nat.le_of_ble_eq_true rfl) dX6_park_7 ⟨Nat.zero_le _, Nat.zero_le _⟩) hP hD hS hA [0] rfl rfl [(true, 0), (false, 1), (false, 2), (false, 3), (false, 4)] (by decide +kernel) rfl (fun H locs hP hD hS => ?_)
  refine lv_if_ne (tgt := 27) hx hb dX6_park_10 (by decide) (fun h_1 => ?_) (fun h_1 => ?_)
  · skip
    have hb9 := vp_mono (inI_b hbu hn h_1) hn
    refine lv_aload_n hx hb dX6_park_27 rfl (lv_at hl 0 rfl) ?_
    refine va_get (D := D) (ci := 6) (v := .ref an) (C := RX6) (T := TX6) (N := 8) hx hb hts iX6 hown hKK.1 hP 0 rfl rfl 6 (by decide) (hts (.fieldLink RX6 26 "TrolleyGangModel" "now" "[I") (List.mem_of_getElem? (i := 2) rfl)) (fun _ h9 => h9) rfl dX6_park_28 ?_
    refine lv_bipush (v := 72) hx hb dX6_park_31 (by decide) ?_
    refine lv_bipush (v := 6) hx hb dX6_park_33 (by decide) ?_
    refine lv_iload_n hx hb dX6_park_35 rfl (lv_at hl 1 rfl) ?_
    refine lv_imul hx hb dX6_park_36 ?_
    refine lv_iadd hx hb dX6_park_37 ?_
    refine lv_iconst (v := 2) hx hb dX6_park_38 (by decide) ?_
    refine lv_iadd hx hb dX6_park_39 ?_
    refine lv_iconst (v := 1) hx hb dX6_park_40 (by decide) ?_
    refine lv_aload_n hx hb dX6_park_41 rfl (lv_at hl 0 rfl) ?_
    refine va_get (D := D) (ci := 6) (v := .ref an) (C := RX6) (T := TX6) (N := 8) hx hb hts iX6 hown hKK.1 hP 0 rfl rfl 6 (by decide) (hts (.fieldLink RX6 26 "TrolleyGangModel" "now" "[I") (List.mem_of_getElem? (i := 2) rfl)) (fun _ h9 => h9) rfl dX6_park_42 ?_
    refine lv_bipush (v := 72) hx hb dX6_park_45 (by decide) ?_
    refine lv_bipush (v := 6) hx hb dX6_park_47 (by decide) ?_
    refine lv_iload_n hx hb dX6_park_49 rfl (lv_at hl 1 rfl) ?_
    refine lv_imul hx hb dX6_park_50 ?_
    refine lv_iadd hx hb dX6_park_51 ?_
    refine lv_iconst (v := 2) hx hb dX6_park_52 (by decide) ?_
    refine lv_iadd hx hb dX6_park_53 ?_
    refine va_iald hx hb hKK.1 hP 3 0 rfl rfl (hin := (inB 2 hb9 (by decide))) dX6_park_54 ?_
    refine lv_tope (y := rn (72 + 6 * b_.toNatClampNeg + 2)) (by rw [tnB2 hb9]) ?_
    refine lv_isub hx hb dX6_park_55 ?_
    refine va_iast hx hb hKK.1 hP hD hS 3 0 rfl rfl (hin := (inB 2 hb9 (by decide))) dX6_park_56 (fun H locs hP hD hS => ?_)
    rw [tnB2 hb9] at hP hD
    have hP : va_P D vwCl (cM aM ac as_ an ah 0 bu fd fn ++ cA cyI ac 8 cd ++ cA cyI as_ 12 sw ++ cA cyI an 121 (upd rn (72 + 6 * b_.toNatClampNeg + 2) (1 - (rn (72 + 6 * b_.toNatClampNeg + 2)))) ++ cA cyI ah 121 ra) H := hP
    have hD : va_D A (cM aM ac as_ an ah 0 bu fd fn ++ cA cyI ac 8 cd ++ cA cyI as_ 12 sw ++ cA cyI an 121 (upd rn (72 + 6 * b_.toNatClampNeg + 2) (1 - (rn (72 + 6 * b_.toNatClampNeg + 2)))) ++ cA cyI ah 121 ra) := hD
    refine lv_aload_n hx hb dX6_park_57 rfl (lv_at hl 0 rfl) ?_
    refine va_get (D := D) (ci := 6) (v := .ref an) (C := RX6) (T := TX6) (N := 8) hx hb hts iX6 hown hKK.1 hP 0 rfl rfl 6 (by decide) (hts (.fieldLink RX6 26 "TrolleyGangModel" "now" "[I") (List.mem_of_getElem? (i := 2) rfl)) (fun _ h9 => h9) rfl dX6_park_58 ?_
    refine lv_bipush (v := 72) hx hb dX6_park_61 (by decide) ?_
    refine lv_bipush (v := 6) hx hb dX6_park_63 (by decide) ?_
    refine lv_iload_n hx hb dX6_park_65 rfl (lv_at hl 1 rfl) ?_
    refine lv_imul hx hb dX6_park_66 ?_
    refine lv_iadd hx hb dX6_park_67 ?_
    refine lv_iconst (v := 2) hx hb dX6_park_68 (by decide) ?_
    refine lv_iadd hx hb dX6_park_69 ?_
    refine va_iald hx hb hKK.1 hP 3 0 rfl rfl (hin := (inB 2 hb9 (by decide))) dX6_park_70 ?_
    refine lv_tope (y := (upd rn (72 + 6 * b_.toNatClampNeg + 2) (1 - (rn (72 + 6 * b_.toNatClampNeg + 2)))) (72 + 6 * b_.toNatClampNeg + 2)) (by rw [tnB2 hb9]) ?_
    refine lv_iconst (v := 1) hx hb dX6_park_71 (by decide) ?_
    refine lv_icmp_ne (tgt := 79) hx hb dX6_park_72 (by decide) (fun h_2 => ?_) (fun h_2 => ?_)
    · skip
      refine lv_iconst (v := 0) hx hb dX6_park_79 (by decide) ?_
      have e9 : mPark rn bu b_ = (0, 0, upd rn (72 + 6 * b_.toNatClampNeg + 2) (1 - (rn (72 + 6 * b_.toNatClampNeg + 2)))) := (by first | with_reducible rfl | (simp only [mPark, h_1, h_2, if_true, if_false, reduceIte, not_true_eq_false, not_false_eq_true]; done) | (simp [mPark, h_1, h_2]; done))
      exact end_z hx hb hrt hlocks (by first | exact Or.inl rfl | exact Or.inr rfl) (by rw [e9]) (by rw [e9]; exact hP) hS dX6_park_80
    · skip
      refine lv_iconst (v := 1) hx hb dX6_park_75 (by decide) ?_
      refine lv_goto (tgt := 80) hx hb dX6_park_76 (by decide) ?_
      have e9 : mPark rn bu b_ = (1, 0, upd rn (72 + 6 * b_.toNatClampNeg + 2) (1 - (rn (72 + 6 * b_.toNatClampNeg + 2)))) := (by first | with_reducible rfl | (simp only [mPark, h_1, h_2, if_true, if_false, reduceIte, not_true_eq_false, not_false_eq_true]; done) | (simp [mPark, h_1, h_2]; done))
      exact end_z hx hb hrt hlocks (by first | exact Or.inl rfl | exact Or.inr rfl) (by rw [e9]) (by rw [e9]; exact hP) hS dX6_park_80
  · skip
    refine lv_aload_n hx hb dX6_park_13 rfl (lv_at hl 0 rfl) ?_
    refine lv_iconst (v := 1) hx hb dX6_park_14 (by decide) ?_
    have hPc := hP.sub (ws' := (cM aM ac as_ an ah 0 bu fd fn)) [0] rfl
    have hDc := hD.sub (ws' := (cM aM ac as_ an ah 0 bu fd fn)) [0] (by decide) rfl
    refine ret_i (W1 := (cM aM ac as_ an ah 0 bu fd fn)) (W2 := (cM aM ac as_ an ah 1 bu fd fn)) (ws1 := (cM aM ac as_ an ah 1 bu fd fn ++ cA cyI ac 8 cd ++ cA cyI as_ 12 sw ++ cA cyI an 121 rn ++ cA cyI ah 121 ra)) (r := 0) (run_V (q := (RX6, TX6, 8)) (n := 1) (As := [.int 1]) (rest := []) ⟨hx, hb, hml, hown, hts⟩ (c_X6_no l D cyI cyO cyL aM ac as_ an ah 0 bu fd fn 1 _) ggX6_park_X6_no rfl rfl rfl (hts (.methodLink RX6 39 yX6_no) (List.mem_of_getElem? (i := 12) rfl)) (hts (.initialized RX6) (List.mem_of_getElem? (i := 6) rfl)) (hts (.instanceMethod yX6_no) (List.mem_of_getElem? (i := 13) rfl)) (hts (.selects RX6 yX6_no yX6_no) (List.mem_of_getElem? (i := 14) rfl)) (by decide +kernel) ⟨Nat.le_of_ble_eq_true rfl, Nat.le_of_ble_eq_true rfl⟩ hKK hPc hDc (ci := 6) (q0 := 0) rfl rfl rfl hl.1 rfl (Nat.le_of_ble_eq_true rfl) dX6_park_15 ⟨Nat.zero_le _, Nat.zero_le _⟩) hP hD hS hA [0] rfl rfl [(true, 0), (false, 1), (false, 2), (false, 3), (false, 4)] (by decide +kernel) rfl (fun H locs hP hD hS => ?_)
    refine lv_if_le (tgt := 25) hx hb dX6_park_18 (by decide) (fun _ => ?_) (fun h9 => absurd (by decide) h9)
    refine lv_iconst (v := 0) hx hb dX6_park_25 (by decide) ?_
    have e9 : mPark rn bu b_ = (0, 1, rn) := (by first | with_reducible rfl | (simp only [mPark, h_1, if_true, if_false, reduceIte, not_true_eq_false, not_false_eq_true]; done) | (simp [mPark, h_1]; done))
    exact end_z hx hb hrt hlocks (by first | exact Or.inl rfl | exact Or.inr rfl) (by rw [e9]) (by rw [e9]; exact hP) hS dX6_park_26
set_option maxHeartbeats 4000000 in
set_option maxRecDepth 100000 in
theorem c_X6_told (l : Launch) (D : va_G) (cyI cyO cyL : ClassId) (aM : Nat) (ac : Nat) (as_ : Nat) (an : Nat) (ah : Nat) (th : Int32) (bu : Int32) (fd : Int32) (fn : Int32) (cd : Nat → Int32) (sw : Nat → Int32) (rn : Nat → Int32) (ra : Nat → Int32) (b_ : Int32) (x_ : Int32) (n : Nat) (M_ : Nat) (hn : n ≤ 6) (hbu : bu = nI n) (hok : OkN M_ rn) : cI l yX6_told wsX6_told ({ frames := 2, cells := 0, slots := 0, locals := 44 }) D cyI cyO cyL [.ref aM, .int b_, .int x_] (cM aM ac as_ an ah th bu fd fn ++ cA cyI ac 8 cd ++ cA cyI as_ 12 sw ++ cA cyI an 121 rn ++ cA cyI ah 121 ra) (cM aM ac as_ an ah ((mTold rn bu b_ x_).2) bu fd fn ++ cA cyI ac 8 cd ++ cA cyI as_ 12 sw ++ cA cyI an 121 rn ++ cA cyI ah 121 ra) ((mTold rn bu b_ x_).1) := by
  intro sz
  refine Met.ofW (cc := cX6_told) (maxL := 3) (ret := (some .int)) (by decide) rfl ?_
  intro p e s m args below meth c s₁ B9 hml hv
  obtain ⟨rfl, hsz, hP, hKK, hD0⟩ := hv
  have hx := B9.exec
  have hb := B9.bytes
  have hrt := B9.returns
  have hts := atoms_spec (ws := wsX6_told) B9.pre
  have hown : s.vm.findClass RX6 = some m.cls := findClass_of_methodNamed B9.named
  have hlocks := B9.notSynchronized
  have nw := fun {w : Cond} (h : w ∈ nw_all) => NW.use (args := ([.ref aM, .int b_, .int x_] : List Value).toArray) hKK.2 h
  have iX6 : ∀ w ∈ wsX60, w ∈ wsX6_told := fun _ h => List.mem_cons_of_mem _ (List.mem_append_right _ h)
  subst hsz
  have hD := hD0.self (sz := s.heap.size)
  generalize hAe : va_A (cM aM ac as_ an ah th bu fd fn ++ cA cyI ac 8 cd ++ cA cyI as_ 12 sw ++ cA cyI an 121 rn ++ cA cyI ah 121 ra) s.heap.size = A at hD ⊢
  have hA : ∀ q : Nat, s.heap.size ≤ q → A q := fun q h => by rw [← hAe]; exact Or.inr h
  have hS : va_S A s.heap s.heap [] := va_S.rf
  have hl := lv_entry ([.ref aM, .int b_, .int x_]) (n := 3) (Nat.le_of_ble_eq_true rfl)
  rw [lg_entry_eq]
  generalize (lg_sl ([.ref aM, .int b_, .int x_]) ++ List.replicate (3 - (lg_sl ([.ref aM, .int b_, .int x_])).length) Slot.unset).toArray = ls at hl ⊢
  have hl : lv_has ls 3 [(0, .ref aM), (1, .int b_), (2, .int x_)] := hl
  refine lv_aload_n hx hb dX6_told_0 rfl (lv_at hl 0 rfl) ?_
  refine lv_iconst (v := 0) hx hb dX6_told_1 (by decide) ?_
  refine va_put (D := D) (ci := 6) (v := .int 0) (ty := .int) (C := RX6) (T := TX6) (N := 8) hx hb hts iX6 tyX6 tyX6_ok nmX6 hown hKK.1 hP hD hS 0 rfl rfl 0 (by decide) (hts (.fieldLink RX6 1 "TrolleyGangModel" "thrown" "I") (List.mem_of_getElem? (i := 1) rfl)) (fun _ h9 => h9) rfl (by decide +kernel) rfl rfl (Nat.le_of_ble_eq_true rfl) dX6_told_2 (fun H locs hP hD hS => ?_)
  have hP : va_P D vwCl (cM aM ac as_ an ah 0 bu fd fn ++ cA cyI ac 8 cd ++ cA cyI as_ 12 sw ++ cA cyI an 121 rn ++ cA cyI ah 121 ra) H := hP
  have hD : va_D A (cM aM ac as_ an ah 0 bu fd fn ++ cA cyI ac 8 cd ++ cA cyI as_ 12 sw ++ cA cyI an 121 rn ++ cA cyI ah 121 ra) := hD
  refine lv_aload_n hx hb dX6_told_5 rfl (lv_at hl 0 rfl) ?_
  refine lv_iload_n hx hb dX6_told_6 rfl (lv_at hl 1 rfl) ?_
  have hPc := hP.sub (ws' := (cM aM ac as_ an ah 0 bu fd fn)) [0] rfl
  have hDc := hD.sub (ws' := (cM aM ac as_ an ah 0 bu fd fn)) [0] (by decide) rfl
  refine ret_i (W1 := (cM aM ac as_ an ah 0 bu fd fn)) (W2 := (cM aM ac as_ an ah 0 bu fd fn)) (ws1 := (cM aM ac as_ an ah 0 bu fd fn ++ cA cyI ac 8 cd ++ cA cyI as_ 12 sw ++ cA cyI an 121 rn ++ cA cyI ah 121 ra)) (r := inI b_ 0 (bu - 1)) (run_V (q := (RX6, TX6, 8)) (n := 1) (As := [.int b_]) (rest := []) ⟨hx, hb, hml, hown, hts⟩ (c_X6_isBus l D cyI cyO cyL aM ac as_ an ah 0 bu fd fn b_ _) ggX6_told_X6_isBus rfl rfl rfl (hts (.methodLink RX6 51 yX6_isBus) (List.mem_of_getElem? (i := 2) rfl)) (hts (.initialized RX6) (List.mem_of_getElem? (i := 5) rfl)) (hts (.instanceMethod yX6_isBus) (List.mem_of_getElem? (i := 3) rfl)) (hts (.selects RX6 yX6_isBus yX6_isBus) (List.mem_of_getElem? (i := 4) rfl)) (by decide +kernel) ⟨Nat.le_of_ble_eq_true rfl, Nat.le_of_ble_eq_true rfl⟩ hKK hPc hDc (ci := 6) (q0 := 0) rfl rfl rfl hl.1 rfl (Nat.le_of_ble_eq_true rfl) dX6_told_7 ⟨Nat.zero_le _, Nat.zero_le _⟩) hP hD hS hA [0] rfl rfl [(true, 0), (false, 1), (false, 2), (false, 3), (false, 4)] (by decide +kernel) rfl (fun H locs hP hD hS => ?_)
  refine lv_if_eq (tgt := 32) hx hb dX6_told_10 (by decide) (fun h_1 => ?_) (fun h_1 => ?_)
  · skip
    refine lv_aload_n hx hb dX6_told_32 rfl (lv_at hl 0 rfl) ?_
    refine lv_iconst (v := 1) hx hb dX6_told_33 (by decide) ?_
    have hPc := hP.sub (ws' := (cM aM ac as_ an ah 0 bu fd fn)) [0] rfl
    have hDc := hD.sub (ws' := (cM aM ac as_ an ah 0 bu fd fn)) [0] (by decide) rfl
    refine ret_i (W1 := (cM aM ac as_ an ah 0 bu fd fn)) (W2 := (cM aM ac as_ an ah 1 bu fd fn)) (ws1 := (cM aM ac as_ an ah 1 bu fd fn ++ cA cyI ac 8 cd ++ cA cyI as_ 12 sw ++ cA cyI an 121 rn ++ cA cyI ah 121 ra)) (r := 0) (run_V (q := (RX6, TX6, 8)) (n := 1) (As := [.int 1]) (rest := []) ⟨hx, hb, hml, hown, hts⟩ (c_X6_no l D cyI cyO cyL aM ac as_ an ah 0 bu fd fn 1 _) ggX6_told_X6_no rfl rfl rfl (hts (.methodLink RX6 39 yX6_no) (List.mem_of_getElem? (i := 20) rfl)) (hts (.initialized RX6) (List.mem_of_getElem? (i := 5) rfl)) (hts (.instanceMethod yX6_no) (List.mem_of_getElem? (i := 21) rfl)) (hts (.selects RX6 yX6_no yX6_no) (List.mem_of_getElem? (i := 22) rfl)) (by decide +kernel) ⟨Nat.le_of_ble_eq_true rfl, Nat.le_of_ble_eq_true rfl⟩ hKK hPc hDc (ci := 6) (q0 := 0) rfl rfl rfl hl.1 rfl (Nat.le_of_ble_eq_true rfl) dX6_told_34 ⟨Nat.zero_le _, Nat.zero_le _⟩) hP hD hS hA [0] rfl rfl [(true, 0), (false, 1), (false, 2), (false, 3), (false, 4)] (by decide +kernel) rfl (fun H locs hP hD hS => ?_)
    have e9 : mTold rn bu b_ x_ = (0, 1) := (by first | with_reducible rfl | (simp only [mTold, h_1, if_true, if_false, reduceIte, not_true_eq_false, not_false_eq_true]; done) | (simp [mTold, h_1]; done))
    exact end_i hx hb hrt hlocks (by rw [e9]) (by rw [e9]; exact hP) hS dX6_told_37
  · skip
    have hb9 := vp_mono (inI_b hbu hn h_1) hn
    refine lv_iload_n hx hb dX6_told_13 rfl (lv_at hl 2 rfl) ?_
    refine lv_iconst (v := 0) hx hb dX6_told_14 (by decide) ?_
    refine lv_bipush (v := 6) hx hb dX6_told_15 (by decide) ?_
    have hPc := hP.sub (ws' := ([] : va_W)) [] rfl
    have hDc := hD.sub (ws' := ([] : va_W)) [] (by decide) rfl
    refine ret_i (W1 := ([] : va_W)) (W2 := ([] : va_W)) (ws1 := (cM aM ac as_ an ah 0 bu fd fn ++ cA cyI ac 8 cd ++ cA cyI as_ 12 sw ++ cA cyI an 121 rn ++ cA cyI ah 121 ra)) (r := inI x_ 0 6) (run_S (n := 3) (As := [.int x_, .int 0, .int 6]) (rest := []) ⟨hx, hb, hml, hown, hts⟩ (c_X6_isIn l D cyI cyO cyL x_ 0 6 _) ggX6_told_X6_isIn rfl rfl rfl (hts (.methodLink RX6 32 yX6_isIn) (List.mem_of_getElem? (i := 8) rfl)) (hts (.initialized RX6) (List.mem_of_getElem? (i := 5) rfl)) (hts (.static yX6_isIn) (List.mem_of_getElem? (i := 9) rfl)) (by decide +kernel) ⟨Nat.le_of_ble_eq_true rfl, Nat.le_of_ble_eq_true rfl⟩ hKK hPc hDc rfl hl.1 rfl (Nat.le_of_ble_eq_true rfl) dX6_told_17 ⟨Nat.zero_le _, Nat.zero_le _⟩) hP hD hS hA [] rfl rfl [(false, 0), (false, 1), (false, 2), (false, 3), (false, 4)] (by decide +kernel) rfl (fun H locs hP hD hS => ?_)
    refine lv_if_eq (tgt := 32) hx hb dX6_told_20 (by decide) (fun h_2 => ?_) (fun h_2 => ?_)
    · skip
      refine lv_aload_n hx hb dX6_told_32 rfl (lv_at hl 0 rfl) ?_
      refine lv_iconst (v := 1) hx hb dX6_told_33 (by decide) ?_
      have hPc := hP.sub (ws' := (cM aM ac as_ an ah 0 bu fd fn)) [0] rfl
      have hDc := hD.sub (ws' := (cM aM ac as_ an ah 0 bu fd fn)) [0] (by decide) rfl
      refine ret_i (W1 := (cM aM ac as_ an ah 0 bu fd fn)) (W2 := (cM aM ac as_ an ah 1 bu fd fn)) (ws1 := (cM aM ac as_ an ah 1 bu fd fn ++ cA cyI ac 8 cd ++ cA cyI as_ 12 sw ++ cA cyI an 121 rn ++ cA cyI ah 121 ra)) (r := 0) (run_V (q := (RX6, TX6, 8)) (n := 1) (As := [.int 1]) (rest := []) ⟨hx, hb, hml, hown, hts⟩ (c_X6_no l D cyI cyO cyL aM ac as_ an ah 0 bu fd fn 1 _) ggX6_told_X6_no rfl rfl rfl (hts (.methodLink RX6 39 yX6_no) (List.mem_of_getElem? (i := 20) rfl)) (hts (.initialized RX6) (List.mem_of_getElem? (i := 5) rfl)) (hts (.instanceMethod yX6_no) (List.mem_of_getElem? (i := 21) rfl)) (hts (.selects RX6 yX6_no yX6_no) (List.mem_of_getElem? (i := 22) rfl)) (by decide +kernel) ⟨Nat.le_of_ble_eq_true rfl, Nat.le_of_ble_eq_true rfl⟩ hKK hPc hDc (ci := 6) (q0 := 0) rfl rfl rfl hl.1 rfl (Nat.le_of_ble_eq_true rfl) dX6_told_34 ⟨Nat.zero_le _, Nat.zero_le _⟩) hP hD hS hA [0] rfl rfl [(true, 0), (false, 1), (false, 2), (false, 3), (false, 4)] (by decide +kernel) rfl (fun H locs hP hD hS => ?_)
      have e9 : mTold rn bu b_ x_ = (0, 1) := (by first | with_reducible rfl | (simp only [mTold, h_1, h_2, if_true, if_false, reduceIte, not_true_eq_false, not_false_eq_true]; done) | (simp [mTold, h_1, h_2]; done))
      exact end_i hx hb hrt hlocks (by rw [e9]) (by rw [e9]; exact hP) hS dX6_told_37
    · skip
      have hx9 := inI_vp (N := 6) h_2 (by decide)
      refine lv_aload_n hx hb dX6_told_23 rfl (lv_at hl 0 rfl) ?_
      refine lv_iload_n hx hb dX6_told_24 rfl (lv_at hl 1 rfl) ?_
      refine lv_iload_n hx hb dX6_told_25 rfl (lv_at hl 2 rfl) ?_
      have hPc := hP.sub (ws' := (cM aM ac as_ an ah 0 bu fd fn ++ cA cyI an 121 rn)) [0, 3] rfl
      have hDc := hD.sub (ws' := (cM aM ac as_ an ah 0 bu fd fn ++ cA cyI an 121 rn)) [0, 3] (by decide) rfl
      refine ret_i (W1 := (cM aM ac as_ an ah 0 bu fd fn ++ cA cyI an 121 rn)) (W2 := (cM aM ac as_ an ah 0 bu fd fn ++ cA cyI an 121 rn)) (ws1 := (cM aM ac as_ an ah 0 bu fd fn ++ cA cyI ac 8 cd ++ cA cyI as_ 12 sw ++ cA cyI an 121 rn ++ cA cyI ah 121 ra)) (r := mbtold rn b_ x_) (run_V (q := (RX6, TX6, 8)) (n := 2) (As := [.int b_, .int x_]) (rest := []) ⟨hx, hb, hml, hown, hts⟩ (c_X6_busTold l D cyI cyO cyL aM ac as_ an ah 0 bu fd fn rn b_ x_ hb9 hx9 (hok.1.2.1 _ (vp_lt hb9)) _) ggX6_told_X6_busTold rfl rfl rfl (hts (.methodLink RX6 57 yX6_busTold) (List.mem_of_getElem? (i := 11) rfl)) (hts (.initialized RX6) (List.mem_of_getElem? (i := 5) rfl)) (hts (.instanceMethod yX6_busTold) (List.mem_of_getElem? (i := 12) rfl)) (hts (.selects RX6 yX6_busTold yX6_busTold) (List.mem_of_getElem? (i := 13) rfl)) (by decide +kernel) ⟨Nat.le_of_ble_eq_true rfl, Nat.le_of_ble_eq_true rfl⟩ hKK hPc hDc (ci := 6) (q0 := 0) rfl rfl rfl hl.1 rfl (Nat.le_of_ble_eq_true rfl) dX6_told_26 ⟨Nat.zero_le _, Nat.zero_le _⟩) hP hD hS hA [0, 3] rfl rfl [(true, 0), (false, 1), (false, 2), (true, 1), (false, 4)] (by decide +kernel) rfl (fun H locs hP hD hS => ?_)
      refine lv_goto (tgt := 37) hx hb dX6_told_29 (by decide) ?_
      have e9 : mTold rn bu b_ x_ = (mbtold rn b_ x_, 0) := (by first | with_reducible rfl | (simp only [mTold, h_1, h_2, if_true, if_false, reduceIte, not_true_eq_false, not_false_eq_true]; done) | (simp [mTold, h_1, h_2]; done))
      exact end_i hx hb hrt hlocks (by rw [e9]) (by rw [e9]; exact hP) hS dX6_told_37
set_option maxHeartbeats 4000000 in
set_option maxRecDepth 100000 in
theorem c_X6_span (l : Launch) (D : va_G) (cyI cyO cyL : ClassId) (aM : Nat) (ac : Nat) (as_ : Nat) (an : Nat) (ah : Nat) (th : Int32) (bu : Int32) (fd : Int32) (fn : Int32) (cd : Nat → Int32) (sw : Nat → Int32) (rn : Nat → Int32) (ra : Nat → Int32) (s_ : Int32) (x_ : Int32) (n : Nat) (k_ : Nat) (hn : n ≤ 6) (hbu : bu = nI n) (hm : k_ ≤ 6) (hoc : rn 109 = nI k_) : cI l yX6_span wsX6_span ({ frames := 2, cells := 0, slots := 0, locals := 45 }) D cyI cyO cyL [.ref aM, .int s_, .int x_] (cM aM ac as_ an ah th bu fd fn ++ cA cyI ac 8 cd ++ cA cyI as_ 12 sw ++ cA cyI an 121 rn ++ cA cyI ah 121 ra) (cM aM ac as_ an ah ((mSpan rn n k_ s_ x_).2) bu fd fn ++ cA cyI ac 8 cd ++ cA cyI as_ 12 sw ++ cA cyI an 121 rn ++ cA cyI ah 121 ra) ((mSpan rn n k_ s_ x_).1) := by
  intro sz
  refine Met.ofW (cc := cX6_span) (maxL := 3) (ret := (some .int)) (by decide) rfl ?_
  intro p e s m args below meth c s₁ B9 hml hv
  obtain ⟨rfl, hsz, hP, hKK, hD0⟩ := hv
  have hx := B9.exec
  have hb := B9.bytes
  have hrt := B9.returns
  have hts := atoms_spec (ws := wsX6_span) B9.pre
  have hown : s.vm.findClass RX6 = some m.cls := findClass_of_methodNamed B9.named
  have hlocks := B9.notSynchronized
  have nw := fun {w : Cond} (h : w ∈ nw_all) => NW.use (args := ([.ref aM, .int s_, .int x_] : List Value).toArray) hKK.2 h
  have iX6 : ∀ w ∈ wsX60, w ∈ wsX6_span := fun _ h => List.mem_cons_of_mem _ (List.mem_append_right _ h)
  subst hsz
  have hD := hD0.self (sz := s.heap.size)
  generalize hAe : va_A (cM aM ac as_ an ah th bu fd fn ++ cA cyI ac 8 cd ++ cA cyI as_ 12 sw ++ cA cyI an 121 rn ++ cA cyI ah 121 ra) s.heap.size = A at hD ⊢
  have hA : ∀ q : Nat, s.heap.size ≤ q → A q := fun q h => by rw [← hAe]; exact Or.inr h
  have hS : va_S A s.heap s.heap [] := va_S.rf
  have hl := lv_entry ([.ref aM, .int s_, .int x_]) (n := 3) (Nat.le_of_ble_eq_true rfl)
  rw [lg_entry_eq]
  generalize (lg_sl ([.ref aM, .int s_, .int x_]) ++ List.replicate (3 - (lg_sl ([.ref aM, .int s_, .int x_])).length) Slot.unset).toArray = ls at hl ⊢
  have hl : lv_has ls 3 [(0, .ref aM), (1, .int s_), (2, .int x_)] := hl
  refine lv_aload_n hx hb dX6_span_0 rfl (lv_at hl 0 rfl) ?_
  refine lv_iconst (v := 0) hx hb dX6_span_1 (by decide) ?_
  refine va_put (D := D) (ci := 6) (v := .int 0) (ty := .int) (C := RX6) (T := TX6) (N := 8) hx hb hts iX6 tyX6 tyX6_ok nmX6 hown hKK.1 hP hD hS 0 rfl rfl 0 (by decide) (hts (.fieldLink RX6 1 "TrolleyGangModel" "thrown" "I") (List.mem_of_getElem? (i := 1) rfl)) (fun _ h9 => h9) rfl (by decide +kernel) rfl rfl (Nat.le_of_ble_eq_true rfl) dX6_span_2 (fun H locs hP hD hS => ?_)
  have hP : va_P D vwCl (cM aM ac as_ an ah 0 bu fd fn ++ cA cyI ac 8 cd ++ cA cyI as_ 12 sw ++ cA cyI an 121 rn ++ cA cyI ah 121 ra) H := hP
  have hD : va_D A (cM aM ac as_ an ah 0 bu fd fn ++ cA cyI ac 8 cd ++ cA cyI as_ 12 sw ++ cA cyI an 121 rn ++ cA cyI ah 121 ra) := hD
  refine lv_iload_n hx hb dX6_span_5 rfl (lv_at hl 1 rfl) ?_
  have hPc := hP.sub (ws' := ([] : va_W)) [] rfl
  have hDc := hD.sub (ws' := ([] : va_W)) [] (by decide) rfl
  refine ret_i (W1 := ([] : va_W)) (W2 := ([] : va_W)) (ws1 := (cM aM ac as_ an ah 0 bu fd fn ++ cA cyI ac 8 cd ++ cA cyI as_ 12 sw ++ cA cyI an 121 rn ++ cA cyI ah 121 ra)) (r := inI s_ 0 23) (run_S (n := 1) (As := [.int s_]) (rest := []) ⟨hx, hb, hml, hown, hts⟩ (c_X6_isSpan l D cyI cyO cyL s_ _) ggX6_span_X6_isSpan rfl rfl rfl (hts (.methodLink RX6 47 yX6_isSpan) (List.mem_of_getElem? (i := 2) rfl)) (hts (.initialized RX6) (List.mem_of_getElem? (i := 4) rfl)) (hts (.static yX6_isSpan) (List.mem_of_getElem? (i := 3) rfl)) (by decide +kernel) ⟨Nat.le_of_ble_eq_true rfl, Nat.le_of_ble_eq_true rfl⟩ hKK hPc hDc rfl hl.1 rfl (Nat.le_of_ble_eq_true rfl) dX6_span_6 ⟨Nat.zero_le _, Nat.zero_le _⟩) hP hD hS hA [] rfl rfl [(false, 0), (false, 1), (false, 2), (false, 3), (false, 4)] (by decide +kernel) rfl (fun H locs hP hD hS => ?_)
  refine lv_if_eq (tgt := 30) hx hb dX6_span_9 (by decide) (fun h_1 => ?_) (fun h_1 => ?_)
  · skip
    refine lv_aload_n hx hb dX6_span_30 rfl (lv_at hl 0 rfl) ?_
    refine lv_iconst (v := 1) hx hb dX6_span_31 (by decide) ?_
    have hPc := hP.sub (ws' := (cM aM ac as_ an ah 0 bu fd fn)) [0] rfl
    have hDc := hD.sub (ws' := (cM aM ac as_ an ah 0 bu fd fn)) [0] (by decide) rfl
    refine ret_i (W1 := (cM aM ac as_ an ah 0 bu fd fn)) (W2 := (cM aM ac as_ an ah 1 bu fd fn)) (ws1 := (cM aM ac as_ an ah 1 bu fd fn ++ cA cyI ac 8 cd ++ cA cyI as_ 12 sw ++ cA cyI an 121 rn ++ cA cyI ah 121 ra)) (r := 0) (run_V (q := (RX6, TX6, 8)) (n := 1) (As := [.int 1]) (rest := []) ⟨hx, hb, hml, hown, hts⟩ (c_X6_no l D cyI cyO cyL aM ac as_ an ah 0 bu fd fn 1 _) ggX6_span_X6_no rfl rfl rfl (hts (.methodLink RX6 39 yX6_no) (List.mem_of_getElem? (i := 23) rfl)) (hts (.initialized RX6) (List.mem_of_getElem? (i := 4) rfl)) (hts (.instanceMethod yX6_no) (List.mem_of_getElem? (i := 24) rfl)) (hts (.selects RX6 yX6_no yX6_no) (List.mem_of_getElem? (i := 25) rfl)) (by decide +kernel) ⟨Nat.le_of_ble_eq_true rfl, Nat.le_of_ble_eq_true rfl⟩ hKK hPc hDc (ci := 6) (q0 := 0) rfl rfl rfl hl.1 rfl (Nat.le_of_ble_eq_true rfl) dX6_span_32 ⟨Nat.zero_le _, Nat.zero_le _⟩) hP hD hS hA [0] rfl rfl [(true, 0), (false, 1), (false, 2), (false, 3), (false, 4)] (by decide +kernel) rfl (fun H locs hP hD hS => ?_)
    have e9 : mSpan rn n k_ s_ x_ = (0, 1) := (by first | with_reducible rfl | (simp only [mSpan, h_1, if_true, if_false, reduceIte, not_true_eq_false, not_false_eq_true]; done) | (simp [mSpan, h_1]; done))
    exact end_i hx hb hrt hlocks (by rw [e9]) (by rw [e9]; exact hP) hS dX6_span_35
  · skip
    have hs9 := inI_vp (N := 23) h_1 (by decide)
    refine lv_iload_n hx hb dX6_span_12 rfl (lv_at hl 2 rfl) ?_
    refine lv_iconst (v := 0) hx hb dX6_span_13 (by decide) ?_
    refine lv_iconst (v := 4) hx hb dX6_span_14 (by decide) ?_
    have hPc := hP.sub (ws' := ([] : va_W)) [] rfl
    have hDc := hD.sub (ws' := ([] : va_W)) [] (by decide) rfl
    refine ret_i (W1 := ([] : va_W)) (W2 := ([] : va_W)) (ws1 := (cM aM ac as_ an ah 0 bu fd fn ++ cA cyI ac 8 cd ++ cA cyI as_ 12 sw ++ cA cyI an 121 rn ++ cA cyI ah 121 ra)) (r := inI x_ 0 4) (run_S (n := 3) (As := [.int x_, .int 0, .int 4]) (rest := []) ⟨hx, hb, hml, hown, hts⟩ (c_X6_isIn l D cyI cyO cyL x_ 0 4 _) ggX6_span_X6_isIn rfl rfl rfl (hts (.methodLink RX6 32 yX6_isIn) (List.mem_of_getElem? (i := 6) rfl)) (hts (.initialized RX6) (List.mem_of_getElem? (i := 4) rfl)) (hts (.static yX6_isIn) (List.mem_of_getElem? (i := 7) rfl)) (by decide +kernel) ⟨Nat.le_of_ble_eq_true rfl, Nat.le_of_ble_eq_true rfl⟩ hKK hPc hDc rfl hl.1 rfl (Nat.le_of_ble_eq_true rfl) dX6_span_15 ⟨Nat.zero_le _, Nat.zero_le _⟩) hP hD hS hA [] rfl rfl [(false, 0), (false, 1), (false, 2), (false, 3), (false, 4)] (by decide +kernel) rfl (fun H locs hP hD hS => ?_)
    refine lv_if_eq (tgt := 30) hx hb dX6_span_18 (by decide) (fun h_2 => ?_) (fun h_2 => ?_)
    · skip
      refine lv_aload_n hx hb dX6_span_30 rfl (lv_at hl 0 rfl) ?_
      refine lv_iconst (v := 1) hx hb dX6_span_31 (by decide) ?_
      have hPc := hP.sub (ws' := (cM aM ac as_ an ah 0 bu fd fn)) [0] rfl
      have hDc := hD.sub (ws' := (cM aM ac as_ an ah 0 bu fd fn)) [0] (by decide) rfl
      refine ret_i (W1 := (cM aM ac as_ an ah 0 bu fd fn)) (W2 := (cM aM ac as_ an ah 1 bu fd fn)) (ws1 := (cM aM ac as_ an ah 1 bu fd fn ++ cA cyI ac 8 cd ++ cA cyI as_ 12 sw ++ cA cyI an 121 rn ++ cA cyI ah 121 ra)) (r := 0) (run_V (q := (RX6, TX6, 8)) (n := 1) (As := [.int 1]) (rest := []) ⟨hx, hb, hml, hown, hts⟩ (c_X6_no l D cyI cyO cyL aM ac as_ an ah 0 bu fd fn 1 _) ggX6_span_X6_no rfl rfl rfl (hts (.methodLink RX6 39 yX6_no) (List.mem_of_getElem? (i := 23) rfl)) (hts (.initialized RX6) (List.mem_of_getElem? (i := 4) rfl)) (hts (.instanceMethod yX6_no) (List.mem_of_getElem? (i := 24) rfl)) (hts (.selects RX6 yX6_no yX6_no) (List.mem_of_getElem? (i := 25) rfl)) (by decide +kernel) ⟨Nat.le_of_ble_eq_true rfl, Nat.le_of_ble_eq_true rfl⟩ hKK hPc hDc (ci := 6) (q0 := 0) rfl rfl rfl hl.1 rfl (Nat.le_of_ble_eq_true rfl) dX6_span_32 ⟨Nat.zero_le _, Nat.zero_le _⟩) hP hD hS hA [0] rfl rfl [(true, 0), (false, 1), (false, 2), (false, 3), (false, 4)] (by decide +kernel) rfl (fun H locs hP hD hS => ?_)
      have e9 : mSpan rn n k_ s_ x_ = (0, 1) := (by first | with_reducible rfl | (simp only [mSpan, h_1, h_2, if_true, if_false, reduceIte, not_true_eq_false, not_false_eq_true]; done) | (simp [mSpan, h_1, h_2]; done))
      exact end_i hx hb hrt hlocks (by rw [e9]) (by rw [e9]; exact hP) hS dX6_span_35
    · skip
      have hx9 := inI_vp (N := 4) h_2 (by decide)
      refine lv_aload_n hx hb dX6_span_21 rfl (lv_at hl 0 rfl) ?_
      refine lv_iload_n hx hb dX6_span_22 rfl (lv_at hl 1 rfl) ?_
      refine lv_iload_n hx hb dX6_span_23 rfl (lv_at hl 2 rfl) ?_
      have hPc := hP.sub (ws' := (cM aM ac as_ an ah 0 bu fd fn ++ cA cyI an 121 rn)) [0, 3] rfl
      have hDc := hD.sub (ws' := (cM aM ac as_ an ah 0 bu fd fn ++ cA cyI an 121 rn)) [0, 3] (by decide) rfl
      refine ret_i (W1 := (cM aM ac as_ an ah 0 bu fd fn ++ cA cyI an 121 rn)) (W2 := (cM aM ac as_ an ah 0 bu fd fn ++ cA cyI an 121 rn)) (ws1 := (cM aM ac as_ an ah 0 bu fd fn ++ cA cyI ac 8 cd ++ cA cyI as_ 12 sw ++ cA cyI an 121 rn ++ cA cyI ah 121 ra)) (r := mstold rn n k_ s_ x_) (run_V (q := (RX6, TX6, 8)) (n := 2) (As := [.int s_, .int x_]) (rest := []) ⟨hx, hb, hml, hown, hts⟩ (c_X6_spanTold l D cyI cyO cyL aM ac as_ an ah 0 bu fd fn rn s_ x_ n k_ hs9 (vp_ge0 hx9) (by first | assumption | omega) (by first | assumption | omega) (by first | assumption | omega) (by first | assumption | omega) _) ggX6_span_X6_spanTold rfl rfl rfl (hts (.methodLink RX6 67 yX6_spanTold) (List.mem_of_getElem? (i := 9) rfl)) (hts (.initialized RX6) (List.mem_of_getElem? (i := 4) rfl)) (hts (.instanceMethod yX6_spanTold) (List.mem_of_getElem? (i := 10) rfl)) (hts (.selects RX6 yX6_spanTold yX6_spanTold) (List.mem_of_getElem? (i := 11) rfl)) (by decide +kernel) ⟨Nat.le_of_ble_eq_true rfl, Nat.le_of_ble_eq_true rfl⟩ hKK hPc hDc (ci := 6) (q0 := 0) rfl rfl rfl hl.1 rfl (Nat.le_of_ble_eq_true rfl) dX6_span_24 ⟨Nat.zero_le _, Nat.zero_le _⟩) hP hD hS hA [0, 3] rfl rfl [(true, 0), (false, 1), (false, 2), (true, 1), (false, 4)] (by decide +kernel) rfl (fun H locs hP hD hS => ?_)
      refine lv_goto (tgt := 35) hx hb dX6_span_27 (by decide) ?_
      have e9 : mSpan rn n k_ s_ x_ = (mstold rn n k_ s_ x_, 0) := (by first | with_reducible rfl | (simp only [mSpan, h_1, h_2, if_true, if_false, reduceIte, not_true_eq_false, not_false_eq_true]; done) | (simp [mSpan, h_1, h_2]; done))
      exact end_i hx hb hrt hlocks (by rw [e9]) (by rw [e9]; exact hP) hS dX6_span_35
set_option maxHeartbeats 4000000 in
set_option maxRecDepth 100000 in
theorem c_X6_order (l : Launch) (D : va_G) (cyI cyO cyL : ClassId) (aM : Nat) (ac : Nat) (as_ : Nat) (an : Nat) (ah : Nat) (th : Int32) (bu : Int32) (fd : Int32) (fn : Int32) (cd : Nat → Int32) (sw : Nat → Int32) (rn : Nat → Int32) (ra : Nat → Int32) (s_ : Int32) (k_ : Nat) (hm : k_ ≤ 6) (hoc : rn 109 = nI k_) : cI l yX6_order wsX6_order ({ frames := 2, cells := 0, slots := 0, locals := 42 }) D cyI cyO cyL [.ref aM, .int s_] (cM aM ac as_ an ah th bu fd fn ++ cA cyI ac 8 cd ++ cA cyI as_ 12 sw ++ cA cyI an 121 rn ++ cA cyI ah 121 ra) (cM aM ac as_ an ah ((mOrder rn k_ s_).2.1) bu fd fn ++ cA cyI ac 8 cd ++ cA cyI as_ 12 sw ++ cA cyI an 121 ((mOrder rn k_ s_).2.2) ++ cA cyI ah 121 ra) ((mOrder rn k_ s_).1) := by
  intro sz
  refine Met.ofW (cc := cX6_order) (maxL := 2) (ret := (some .int)) (by decide) rfl ?_
  intro p e s m args below meth c s₁ B9 hml hv
  obtain ⟨rfl, hsz, hP, hKK, hD0⟩ := hv
  have hx := B9.exec
  have hb := B9.bytes
  have hrt := B9.returns
  have hts := atoms_spec (ws := wsX6_order) B9.pre
  have hown : s.vm.findClass RX6 = some m.cls := findClass_of_methodNamed B9.named
  have hlocks := B9.notSynchronized
  have nw := fun {w : Cond} (h : w ∈ nw_all) => NW.use (args := ([.ref aM, .int s_] : List Value).toArray) hKK.2 h
  have iX6 : ∀ w ∈ wsX60, w ∈ wsX6_order := fun _ h => List.mem_cons_of_mem _ (List.mem_append_right _ h)
  subst hsz
  have hD := hD0.self (sz := s.heap.size)
  generalize hAe : va_A (cM aM ac as_ an ah th bu fd fn ++ cA cyI ac 8 cd ++ cA cyI as_ 12 sw ++ cA cyI an 121 rn ++ cA cyI ah 121 ra) s.heap.size = A at hD ⊢
  have hA : ∀ q : Nat, s.heap.size ≤ q → A q := fun q h => by rw [← hAe]; exact Or.inr h
  have hS : va_S A s.heap s.heap [] := va_S.rf
  have hl := lv_entry ([.ref aM, .int s_]) (n := 2) (Nat.le_of_ble_eq_true rfl)
  rw [lg_entry_eq]
  generalize (lg_sl ([.ref aM, .int s_]) ++ List.replicate (2 - (lg_sl ([.ref aM, .int s_])).length) Slot.unset).toArray = ls at hl ⊢
  have hl : lv_has ls 2 [(0, .ref aM), (1, .int s_)] := hl
  refine lv_aload_n hx hb dX6_order_0 rfl (lv_at hl 0 rfl) ?_
  refine lv_iconst (v := 0) hx hb dX6_order_1 (by decide) ?_
  refine va_put (D := D) (ci := 6) (v := .int 0) (ty := .int) (C := RX6) (T := TX6) (N := 8) hx hb hts iX6 tyX6 tyX6_ok nmX6 hown hKK.1 hP hD hS 0 rfl rfl 0 (by decide) (hts (.fieldLink RX6 1 "TrolleyGangModel" "thrown" "I") (List.mem_of_getElem? (i := 1) rfl)) (fun _ h9 => h9) rfl (by decide +kernel) rfl rfl (Nat.le_of_ble_eq_true rfl) dX6_order_2 (fun H locs hP hD hS => ?_)
  have hP : va_P D vwCl (cM aM ac as_ an ah 0 bu fd fn ++ cA cyI ac 8 cd ++ cA cyI as_ 12 sw ++ cA cyI an 121 rn ++ cA cyI ah 121 ra) H := hP
  have hD : va_D A (cM aM ac as_ an ah 0 bu fd fn ++ cA cyI ac 8 cd ++ cA cyI as_ 12 sw ++ cA cyI an 121 rn ++ cA cyI ah 121 ra) := hD
  refine lv_iload_n hx hb dX6_order_5 rfl (lv_at hl 1 rfl) ?_
  have hPc := hP.sub (ws' := ([] : va_W)) [] rfl
  have hDc := hD.sub (ws' := ([] : va_W)) [] (by decide) rfl
  refine ret_i (W1 := ([] : va_W)) (W2 := ([] : va_W)) (ws1 := (cM aM ac as_ an ah 0 bu fd fn ++ cA cyI ac 8 cd ++ cA cyI as_ 12 sw ++ cA cyI an 121 rn ++ cA cyI ah 121 ra)) (r := inI s_ 0 23) (run_S (n := 1) (As := [.int s_]) (rest := []) ⟨hx, hb, hml, hown, hts⟩ (c_X6_isSpan l D cyI cyO cyL s_ _) ggX6_order_X6_isSpan rfl rfl rfl (hts (.methodLink RX6 47 yX6_isSpan) (List.mem_of_getElem? (i := 3) rfl)) (hts (.initialized RX6) (List.mem_of_getElem? (i := 5) rfl)) (hts (.static yX6_isSpan) (List.mem_of_getElem? (i := 4) rfl)) (by decide +kernel) ⟨Nat.le_of_ble_eq_true rfl, Nat.le_of_ble_eq_true rfl⟩ hKK hPc hDc rfl hl.1 rfl (Nat.le_of_ble_eq_true rfl) dX6_order_6 ⟨Nat.zero_le _, Nat.zero_le _⟩) hP hD hS hA [] rfl rfl [(false, 0), (false, 1), (false, 2), (false, 3), (false, 4)] (by decide +kernel) rfl (fun H locs hP hD hS => ?_)
  refine lv_if_ne (tgt := 18) hx hb dX6_order_9 (by decide) (fun h_1 => ?_) (fun h_1 => ?_)
  · skip
    refine lv_aload_n hx hb dX6_order_18 rfl (lv_at hl 0 rfl) ?_
    refine va_get (D := D) (ci := 6) (v := .ref an) (C := RX6) (T := TX6) (N := 8) hx hb hts iX6 hown hKK.1 hP 0 rfl rfl 6 (by decide) (hts (.fieldLink RX6 26 "TrolleyGangModel" "now" "[I") (List.mem_of_getElem? (i := 2) rfl)) (fun _ h9 => h9) rfl dX6_order_19 ?_
    refine lv_bipush (v := 109) hx hb dX6_order_22 (by decide) ?_
    refine va_iald hx hb hKK.1 hP 3 0 rfl rfl (hin := (vp_in_nI (n := 109) (by decide) (by decide))) dX6_order_24 ?_
    refine lv_tope (y := rn 109) rfl ?_
    refine lv_tope (y := nI k_) hoc ?_
    refine lv_bipush (v := 6) hx hb dX6_order_25 (by decide) ?_
    refine lv_icmp_eq (tgt := 38) hx hb dX6_order_27 (by decide) (fun h_2 => ?_) (fun h_2 => ?_)
    · skip
      refine lv_aload_n hx hb dX6_order_38 rfl (lv_at hl 0 rfl) ?_
      refine lv_iconst (v := 2) hx hb dX6_order_39 (by decide) ?_
      have hPc := hP.sub (ws' := (cM aM ac as_ an ah 0 bu fd fn)) [0] rfl
      have hDc := hD.sub (ws' := (cM aM ac as_ an ah 0 bu fd fn)) [0] (by decide) rfl
      refine ret_i (W1 := (cM aM ac as_ an ah 0 bu fd fn)) (W2 := (cM aM ac as_ an ah 2 bu fd fn)) (ws1 := (cM aM ac as_ an ah 2 bu fd fn ++ cA cyI ac 8 cd ++ cA cyI as_ 12 sw ++ cA cyI an 121 rn ++ cA cyI ah 121 ra)) (r := 0) (run_V (q := (RX6, TX6, 8)) (n := 1) (As := [.int 2]) (rest := []) ⟨hx, hb, hml, hown, hts⟩ (c_X6_no l D cyI cyO cyL aM ac as_ an ah 0 bu fd fn 2 _) ggX6_order_X6_no rfl rfl rfl (hts (.methodLink RX6 39 yX6_no) (List.mem_of_getElem? (i := 10) rfl)) (hts (.initialized RX6) (List.mem_of_getElem? (i := 5) rfl)) (hts (.instanceMethod yX6_no) (List.mem_of_getElem? (i := 11) rfl)) (hts (.selects RX6 yX6_no yX6_no) (List.mem_of_getElem? (i := 12) rfl)) (by decide +kernel) ⟨Nat.le_of_ble_eq_true rfl, Nat.le_of_ble_eq_true rfl⟩ hKK hPc hDc (ci := 6) (q0 := 0) rfl rfl rfl hl.1 rfl (Nat.le_of_ble_eq_true rfl) dX6_order_40 ⟨Nat.zero_le _, Nat.zero_le _⟩) hP hD hS hA [0] rfl rfl [(true, 0), (false, 1), (false, 2), (false, 3), (false, 4)] (by decide +kernel) rfl (fun H locs hP hD hS => ?_)
      have e9 : mOrder rn k_ s_ = (0, 2, rn) := (by first | with_reducible rfl | (simp only [mOrder, h_1, h_2, if_true, if_false, reduceIte, not_true_eq_false, not_false_eq_true]; done) | (simp [mOrder, h_1, h_2]; done))
      exact end_i hx hb hrt hlocks (by rw [e9]) (by rw [e9]; exact hP) hS dX6_order_43
    · skip
      have hk6 : k_ < 6 := Nat.lt_of_le_of_ne hm fun e9 => h_2 (by rw [e9]; rfl)
      refine lv_aload_n hx hb dX6_order_30 rfl (lv_at hl 0 rfl) ?_
      refine lv_iload_n hx hb dX6_order_31 rfl (lv_at hl 1 rfl) ?_
      have hPc := hP.sub (ws' := (cM aM ac as_ an ah 0 bu fd fn ++ cA cyI an 121 rn)) [0, 3] rfl
      have hDc := hD.sub (ws' := (cM aM ac as_ an ah 0 bu fd fn ++ cA cyI an 121 rn)) [0, 3] (by decide) rfl
      refine ret_i (W1 := (cM aM ac as_ an ah 0 bu fd fn ++ cA cyI an 121 rn)) (W2 := (cM aM ac as_ an ah 0 bu fd fn ++ cA cyI an 121 rn)) (ws1 := (cM aM ac as_ an ah 0 bu fd fn ++ cA cyI ac 8 cd ++ cA cyI as_ 12 sw ++ cA cyI an 121 rn ++ cA cyI ah 121 ra)) (r := mplace rn s_ k_ 0) (run_V (q := (RX6, TX6, 8)) (n := 1) (As := [.int s_]) (rest := []) ⟨hx, hb, hml, hown, hts⟩ (c_X6_placeOf l D cyI cyO cyL aM ac as_ an ah 0 bu fd fn rn s_ k_ (by first | assumption | omega) (by first | assumption | omega) _) ggX6_order_X6_placeOf rfl rfl rfl (hts (.methodLink RX6 64 yX6_placeOf) (List.mem_of_getElem? (i := 14) rfl)) (hts (.initialized RX6) (List.mem_of_getElem? (i := 5) rfl)) (hts (.instanceMethod yX6_placeOf) (List.mem_of_getElem? (i := 15) rfl)) (hts (.selects RX6 yX6_placeOf yX6_placeOf) (List.mem_of_getElem? (i := 16) rfl)) (by decide +kernel) ⟨Nat.le_of_ble_eq_true rfl, Nat.le_of_ble_eq_true rfl⟩ hKK hPc hDc (ci := 6) (q0 := 0) rfl rfl rfl hl.1 rfl (Nat.le_of_ble_eq_true rfl) dX6_order_32 ⟨Nat.zero_le _, Nat.zero_le _⟩) hP hD hS hA [0, 3] rfl rfl [(true, 0), (false, 1), (false, 2), (true, 1), (false, 4)] (by decide +kernel) rfl (fun H locs hP hD hS => ?_)
      refine lv_if_lt (tgt := 44) hx hb dX6_order_35 (by decide) (fun h_3 => ?_) (fun h_3 => ?_)
      · skip
        refine lv_aload_n hx hb dX6_order_44 rfl (lv_at hl 0 rfl) ?_
        refine va_get (D := D) (ci := 6) (v := .ref an) (C := RX6) (T := TX6) (N := 8) hx hb hts iX6 hown hKK.1 hP 0 rfl rfl 6 (by decide) (hts (.fieldLink RX6 26 "TrolleyGangModel" "now" "[I") (List.mem_of_getElem? (i := 2) rfl)) (fun _ h9 => h9) rfl dX6_order_45 ?_
        refine lv_bipush (v := 113) hx hb dX6_order_48 (by decide) ?_
        refine lv_aload_n hx hb dX6_order_50 rfl (lv_at hl 0 rfl) ?_
        refine va_get (D := D) (ci := 6) (v := .ref an) (C := RX6) (T := TX6) (N := 8) hx hb hts iX6 hown hKK.1 hP 0 rfl rfl 6 (by decide) (hts (.fieldLink RX6 26 "TrolleyGangModel" "now" "[I") (List.mem_of_getElem? (i := 2) rfl)) (fun _ h9 => h9) rfl dX6_order_51 ?_
        refine lv_bipush (v := 109) hx hb dX6_order_54 (by decide) ?_
        refine va_iald hx hb hKK.1 hP 3 0 rfl rfl (hin := (vp_in_nI (n := 109) (by decide) (by decide))) dX6_order_56 ?_
        refine lv_tope (y := rn 109) rfl ?_
        refine lv_tope (y := nI k_) hoc ?_
        refine lv_iadd hx hb dX6_order_57 ?_
        refine lv_tope (y := nI (113 + k_)) (nI_add 113 k_) ?_
        refine lv_iload_n hx hb dX6_order_58 rfl (lv_at hl 1 rfl) ?_
        refine va_iast hx hb hKK.1 hP hD hS 3 0 rfl rfl (hin := (vp_in_nI (show (113 + k_) < 121 by omega) (by omega))) dX6_order_59 (fun H locs hP hD hS => ?_)
        rw [nI_clamp (by omega)] at hP hD
        have hP : va_P D vwCl (cM aM ac as_ an ah 0 bu fd fn ++ cA cyI ac 8 cd ++ cA cyI as_ 12 sw ++ cA cyI an 121 (upd rn (113 + k_) s_) ++ cA cyI ah 121 ra) H := hP
        have hD : va_D A (cM aM ac as_ an ah 0 bu fd fn ++ cA cyI ac 8 cd ++ cA cyI as_ 12 sw ++ cA cyI an 121 (upd rn (113 + k_) s_) ++ cA cyI ah 121 ra) := hD
        refine lv_aload_n hx hb dX6_order_60 rfl (lv_at hl 0 rfl) ?_
        refine va_get (D := D) (ci := 6) (v := .ref an) (C := RX6) (T := TX6) (N := 8) hx hb hts iX6 hown hKK.1 hP 0 rfl rfl 6 (by decide) (hts (.fieldLink RX6 26 "TrolleyGangModel" "now" "[I") (List.mem_of_getElem? (i := 2) rfl)) (fun _ h9 => h9) rfl dX6_order_61 ?_
        refine lv_bipush (v := 109) hx hb dX6_order_64 (by decide) ?_
        refine lv_dup2_11 hx hb dX6_order_66 rfl rfl ?_
        refine va_iald hx hb hKK.1 hP 3 0 rfl rfl (hin := (vp_in_nI (n := 109) (by decide) (by decide))) dX6_order_67 ?_
        refine lv_tope (y := (upd rn (113 + k_) s_) 109) rfl ?_
        refine lv_tope (y := nI k_) ((upd_ne _ _ (by omega)).trans hoc) ?_
        refine lv_iconst (v := 1) hx hb dX6_order_68 (by decide) ?_
        refine lv_iadd hx hb dX6_order_69 ?_
        refine lv_tope (y := nI (k_ + 1)) (nI_add k_ 1) ?_
        refine va_iast hx hb hKK.1 hP hD hS 3 0 rfl rfl (hin := (vp_in_nI (n := 109) (by decide) (by decide))) dX6_order_70 (fun H locs hP hD hS => ?_)
        have hP : va_P D vwCl (cM aM ac as_ an ah 0 bu fd fn ++ cA cyI ac 8 cd ++ cA cyI as_ 12 sw ++ cA cyI an 121 (upd (upd rn (113 + k_) s_) 109 (nI (k_ + 1))) ++ cA cyI ah 121 ra) H := hP
        have hD : va_D A (cM aM ac as_ an ah 0 bu fd fn ++ cA cyI ac 8 cd ++ cA cyI as_ 12 sw ++ cA cyI an 121 (upd (upd rn (113 + k_) s_) 109 (nI (k_ + 1))) ++ cA cyI ah 121 ra) := hD
        refine lv_aload_n hx hb dX6_order_71 rfl (lv_at hl 0 rfl) ?_
        refine va_get (D := D) (ci := 6) (v := .ref an) (C := RX6) (T := TX6) (N := 8) hx hb hts iX6 hown hKK.1 hP 0 rfl rfl 6 (by decide) (hts (.fieldLink RX6 26 "TrolleyGangModel" "now" "[I") (List.mem_of_getElem? (i := 2) rfl)) (fun _ h9 => h9) rfl dX6_order_72 ?_
        refine lv_bipush (v := 109) hx hb dX6_order_75 (by decide) ?_
        refine va_iald hx hb hKK.1 hP 3 0 rfl rfl (hin := (vp_in_nI (n := 109) (by decide) (by decide))) dX6_order_77 ?_
        refine lv_tope (y := (upd (upd rn (113 + k_) s_) 109 (nI (k_ + 1))) 109) rfl ?_
        have e9 : mOrder rn k_ s_ = ((upd (upd rn (113 + k_) s_) 109 (nI (k_ + 1))) 109, 0, upd (upd rn (113 + k_) s_) 109 (nI (k_ + 1))) := (by first | with_reducible rfl | (simp only [mOrder, h_1, h_2, h_3, if_true, if_false, reduceIte, not_true_eq_false, not_false_eq_true]; done) | (simp [mOrder, h_1, h_2, h_3]; done))
        exact end_i hx hb hrt hlocks (by rw [e9]) (by rw [e9]; exact hP) hS dX6_order_78
      · skip
        refine lv_aload_n hx hb dX6_order_38 rfl (lv_at hl 0 rfl) ?_
        refine lv_iconst (v := 2) hx hb dX6_order_39 (by decide) ?_
        have hPc := hP.sub (ws' := (cM aM ac as_ an ah 0 bu fd fn)) [0] rfl
        have hDc := hD.sub (ws' := (cM aM ac as_ an ah 0 bu fd fn)) [0] (by decide) rfl
        refine ret_i (W1 := (cM aM ac as_ an ah 0 bu fd fn)) (W2 := (cM aM ac as_ an ah 2 bu fd fn)) (ws1 := (cM aM ac as_ an ah 2 bu fd fn ++ cA cyI ac 8 cd ++ cA cyI as_ 12 sw ++ cA cyI an 121 rn ++ cA cyI ah 121 ra)) (r := 0) (run_V (q := (RX6, TX6, 8)) (n := 1) (As := [.int 2]) (rest := []) ⟨hx, hb, hml, hown, hts⟩ (c_X6_no l D cyI cyO cyL aM ac as_ an ah 0 bu fd fn 2 _) ggX6_order_X6_no rfl rfl rfl (hts (.methodLink RX6 39 yX6_no) (List.mem_of_getElem? (i := 10) rfl)) (hts (.initialized RX6) (List.mem_of_getElem? (i := 5) rfl)) (hts (.instanceMethod yX6_no) (List.mem_of_getElem? (i := 11) rfl)) (hts (.selects RX6 yX6_no yX6_no) (List.mem_of_getElem? (i := 12) rfl)) (by decide +kernel) ⟨Nat.le_of_ble_eq_true rfl, Nat.le_of_ble_eq_true rfl⟩ hKK hPc hDc (ci := 6) (q0 := 0) rfl rfl rfl hl.1 rfl (Nat.le_of_ble_eq_true rfl) dX6_order_40 ⟨Nat.zero_le _, Nat.zero_le _⟩) hP hD hS hA [0] rfl rfl [(true, 0), (false, 1), (false, 2), (false, 3), (false, 4)] (by decide +kernel) rfl (fun H locs hP hD hS => ?_)
        have e9 : mOrder rn k_ s_ = (0, 2, rn) := (by first | with_reducible rfl | (simp only [mOrder, h_1, h_2, h_3, if_true, if_false, reduceIte, not_true_eq_false, not_false_eq_true]; done) | (simp [mOrder, h_1, h_2, h_3]; done))
        exact end_i hx hb hrt hlocks (by rw [e9]) (by rw [e9]; exact hP) hS dX6_order_43
  · skip
    refine lv_aload_n hx hb dX6_order_12 rfl (lv_at hl 0 rfl) ?_
    refine lv_iconst (v := 1) hx hb dX6_order_13 (by decide) ?_
    have hPc := hP.sub (ws' := (cM aM ac as_ an ah 0 bu fd fn)) [0] rfl
    have hDc := hD.sub (ws' := (cM aM ac as_ an ah 0 bu fd fn)) [0] (by decide) rfl
    refine ret_i (W1 := (cM aM ac as_ an ah 0 bu fd fn)) (W2 := (cM aM ac as_ an ah 1 bu fd fn)) (ws1 := (cM aM ac as_ an ah 1 bu fd fn ++ cA cyI ac 8 cd ++ cA cyI as_ 12 sw ++ cA cyI an 121 rn ++ cA cyI ah 121 ra)) (r := 0) (run_V (q := (RX6, TX6, 8)) (n := 1) (As := [.int 1]) (rest := []) ⟨hx, hb, hml, hown, hts⟩ (c_X6_no l D cyI cyO cyL aM ac as_ an ah 0 bu fd fn 1 _) ggX6_order_X6_no rfl rfl rfl (hts (.methodLink RX6 39 yX6_no) (List.mem_of_getElem? (i := 10) rfl)) (hts (.initialized RX6) (List.mem_of_getElem? (i := 5) rfl)) (hts (.instanceMethod yX6_no) (List.mem_of_getElem? (i := 11) rfl)) (hts (.selects RX6 yX6_no yX6_no) (List.mem_of_getElem? (i := 12) rfl)) (by decide +kernel) ⟨Nat.le_of_ble_eq_true rfl, Nat.le_of_ble_eq_true rfl⟩ hKK hPc hDc (ci := 6) (q0 := 0) rfl rfl rfl hl.1 rfl (Nat.le_of_ble_eq_true rfl) dX6_order_14 ⟨Nat.zero_le _, Nat.zero_le _⟩) hP hD hS hA [0] rfl rfl [(true, 0), (false, 1), (false, 2), (false, 3), (false, 4)] (by decide +kernel) rfl (fun H locs hP hD hS => ?_)
    have e9 : mOrder rn k_ s_ = (0, 1, rn) := (by first | with_reducible rfl | (simp only [mOrder, h_1, if_true, if_false, reduceIte, not_true_eq_false, not_false_eq_true]; done) | (simp [mOrder, h_1]; done))
    exact end_i hx hb hrt hlocks (by rw [e9]) (by rw [e9]; exact hP) hS dX6_order_17
set_option maxHeartbeats 4000000 in
set_option maxRecDepth 100000 in
theorem c_X6_cancel (l : Launch) (D : va_G) (cyI cyO cyL : ClassId) (aM : Nat) (ac : Nat) (as_ : Nat) (an : Nat) (ah : Nat) (th : Int32) (bu : Int32) (fd : Int32) (fn : Int32) (cd : Nat → Int32) (sw : Nat → Int32) (rn : Nat → Int32) (ra : Nat → Int32) (s_ : Int32) (k_ : Nat) (p_ : Nat) (hs : inI s_ 0 23 = 1) (hm : k_ ≤ 6) (hoc : rn 109 = nI k_) (hp : mplace rn s_ k_ 0 = nI p_) (hpk : p_ < k_) : cI l yX6_cancel wsX6_cancel ({ frames := 2, cells := 0, slots := 0, locals := 42 }) D cyI cyO cyL [.ref aM, .int s_] (cM aM ac as_ an ah th bu fd fn ++ cA cyI ac 8 cd ++ cA cyI as_ 12 sw ++ cA cyI an 121 rn ++ cA cyI ah 121 ra) (cM aM ac as_ an ah 0 bu fd fn ++ cA cyI ac 8 cd ++ cA cyI as_ 12 sw ++ cA cyI an 121 (mrem rn p_ k_) ++ cA cyI ah 121 ra) (nI p_) := by
  intro sz
  refine Met.ofW (cc := cX6_cancel) (maxL := 3) (ret := (some .int)) (by decide) rfl ?_
  intro p e s m args below meth c s₁ B9 hml hv
  obtain ⟨rfl, hsz, hP, hKK, hD0⟩ := hv
  have hx := B9.exec
  have hb := B9.bytes
  have hrt := B9.returns
  have hts := atoms_spec (ws := wsX6_cancel) B9.pre
  have hown : s.vm.findClass RX6 = some m.cls := findClass_of_methodNamed B9.named
  have hlocks := B9.notSynchronized
  have nw := fun {w : Cond} (h : w ∈ nw_all) => NW.use (args := ([.ref aM, .int s_] : List Value).toArray) hKK.2 h
  have iX6 : ∀ w ∈ wsX60, w ∈ wsX6_cancel := fun _ h => List.mem_cons_of_mem _ (List.mem_append_right _ h)
  subst hsz
  have hD := hD0.self (sz := s.heap.size)
  generalize hAe : va_A (cM aM ac as_ an ah th bu fd fn ++ cA cyI ac 8 cd ++ cA cyI as_ 12 sw ++ cA cyI an 121 rn ++ cA cyI ah 121 ra) s.heap.size = A at hD ⊢
  have hA : ∀ q : Nat, s.heap.size ≤ q → A q := fun q h => by rw [← hAe]; exact Or.inr h
  have hS : va_S A s.heap s.heap [] := va_S.rf
  have hl := lv_entry ([.ref aM, .int s_]) (n := 3) (Nat.le_of_ble_eq_true rfl)
  rw [lg_entry_eq]
  generalize (lg_sl ([.ref aM, .int s_]) ++ List.replicate (3 - (lg_sl ([.ref aM, .int s_])).length) Slot.unset).toArray = ls at hl ⊢
  have hl : lv_has ls 3 [(0, .ref aM), (1, .int s_)] := hl
  refine lv_aload_n hx hb dX6_cancel_0 rfl (lv_at hl 0 rfl) ?_
  refine lv_iconst (v := 0) hx hb dX6_cancel_1 (by decide) ?_
  refine va_put (D := D) (ci := 6) (v := .int 0) (ty := .int) (C := RX6) (T := TX6) (N := 8) hx hb hts iX6 tyX6 tyX6_ok nmX6 hown hKK.1 hP hD hS 0 rfl rfl 0 (by decide) (hts (.fieldLink RX6 1 "TrolleyGangModel" "thrown" "I") (List.mem_of_getElem? (i := 1) rfl)) (fun _ h9 => h9) rfl (by decide +kernel) rfl rfl (Nat.le_of_ble_eq_true rfl) dX6_cancel_2 (fun H locs hP hD hS => ?_)
  have hP : va_P D vwCl (cM aM ac as_ an ah 0 bu fd fn ++ cA cyI ac 8 cd ++ cA cyI as_ 12 sw ++ cA cyI an 121 rn ++ cA cyI ah 121 ra) H := hP
  have hD : va_D A (cM aM ac as_ an ah 0 bu fd fn ++ cA cyI ac 8 cd ++ cA cyI as_ 12 sw ++ cA cyI an 121 rn ++ cA cyI ah 121 ra) := hD
  refine lv_iload_n hx hb dX6_cancel_5 rfl (lv_at hl 1 rfl) ?_
  have hPc := hP.sub (ws' := ([] : va_W)) [] rfl
  have hDc := hD.sub (ws' := ([] : va_W)) [] (by decide) rfl
  refine ret_i (W1 := ([] : va_W)) (W2 := ([] : va_W)) (ws1 := (cM aM ac as_ an ah 0 bu fd fn ++ cA cyI ac 8 cd ++ cA cyI as_ 12 sw ++ cA cyI an 121 rn ++ cA cyI ah 121 ra)) (r := inI s_ 0 23) (run_S (n := 1) (As := [.int s_]) (rest := []) ⟨hx, hb, hml, hown, hts⟩ (c_X6_isSpan l D cyI cyO cyL s_ _) ggX6_cancel_X6_isSpan rfl rfl rfl (hts (.methodLink RX6 47 yX6_isSpan) (List.mem_of_getElem? (i := 3) rfl)) (hts (.initialized RX6) (List.mem_of_getElem? (i := 5) rfl)) (hts (.static yX6_isSpan) (List.mem_of_getElem? (i := 4) rfl)) (by decide +kernel) ⟨Nat.le_of_ble_eq_true rfl, Nat.le_of_ble_eq_true rfl⟩ hKK hPc hDc rfl hl.1 rfl (Nat.le_of_ble_eq_true rfl) dX6_cancel_6 ⟨Nat.zero_le _, Nat.zero_le _⟩) hP hD hS hA [] rfl rfl [(false, 0), (false, 1), (false, 2), (false, 3), (false, 4)] (by decide +kernel) rfl (fun H locs hP hD hS => ?_)
  refine lv_if_ne (tgt := 18) hx hb dX6_cancel_9 (by decide) (fun h_1 => ?_) (fun h_1 => ?_)
  · skip
    refine lv_aload_n hx hb dX6_cancel_18 rfl (lv_at hl 0 rfl) ?_
    refine lv_iload_n hx hb dX6_cancel_19 rfl (lv_at hl 1 rfl) ?_
    have hPc := hP.sub (ws' := (cM aM ac as_ an ah 0 bu fd fn ++ cA cyI an 121 rn)) [0, 3] rfl
    have hDc := hD.sub (ws' := (cM aM ac as_ an ah 0 bu fd fn ++ cA cyI an 121 rn)) [0, 3] (by decide) rfl
    refine ret_i (W1 := (cM aM ac as_ an ah 0 bu fd fn ++ cA cyI an 121 rn)) (W2 := (cM aM ac as_ an ah 0 bu fd fn ++ cA cyI an 121 rn)) (ws1 := (cM aM ac as_ an ah 0 bu fd fn ++ cA cyI ac 8 cd ++ cA cyI as_ 12 sw ++ cA cyI an 121 rn ++ cA cyI ah 121 ra)) (r := mplace rn s_ k_ 0) (run_V (q := (RX6, TX6, 8)) (n := 1) (As := [.int s_]) (rest := []) ⟨hx, hb, hml, hown, hts⟩ (c_X6_placeOf l D cyI cyO cyL aM ac as_ an ah 0 bu fd fn rn s_ k_ (by first | assumption | omega) (by first | assumption | omega) _) ggX6_cancel_X6_placeOf rfl rfl rfl (hts (.methodLink RX6 64 yX6_placeOf) (List.mem_of_getElem? (i := 14) rfl)) (hts (.initialized RX6) (List.mem_of_getElem? (i := 5) rfl)) (hts (.instanceMethod yX6_placeOf) (List.mem_of_getElem? (i := 15) rfl)) (hts (.selects RX6 yX6_placeOf yX6_placeOf) (List.mem_of_getElem? (i := 16) rfl)) (by decide +kernel) ⟨Nat.le_of_ble_eq_true rfl, Nat.le_of_ble_eq_true rfl⟩ hKK hPc hDc (ci := 6) (q0 := 0) rfl rfl rfl hl.1 rfl (Nat.le_of_ble_eq_true rfl) dX6_cancel_20 ⟨Nat.zero_le _, Nat.zero_le _⟩) hP hD hS hA [0, 3] rfl rfl [(true, 0), (false, 1), (false, 2), (true, 1), (false, 4)] (by decide +kernel) rfl (fun H locs hP hD hS => ?_)
    refine lv_tope (y := nI p_) hp ?_
    refine lv_istore_n (lv' := [(2, .int (nI p_)), (0, .ref aM), (1, .int s_)]) hx hb dX6_cancel_23 rfl hl (by decide) rfl (fun ls hl => ?_)
    refine lv_iload_n hx hb dX6_cancel_24 rfl (lv_at hl 0 rfl) ?_
    refine lv_if_ge (tgt := 34) hx hb dX6_cancel_25 (by decide) (fun h_2 => ?_) (fun h_2 => ?_)
    · skip
      refine lv_aload_n hx hb dX6_cancel_34 rfl (lv_at hl 1 rfl) ?_
      refine va_get (D := D) (ci := 6) (v := .ref an) (C := RX6) (T := TX6) (N := 8) hx hb hts iX6 hown hKK.1 hP 0 rfl rfl 6 (by decide) (hts (.fieldLink RX6 26 "TrolleyGangModel" "now" "[I") (List.mem_of_getElem? (i := 2) rfl)) (fun _ h9 => h9) rfl dX6_cancel_35 ?_
      refine lv_iload_n hx hb dX6_cancel_38 rfl (lv_at hl 0 rfl) ?_
      have hPc := hP.sub (ws' := (cA cyI an 121 rn)) [3] rfl
      have hDc := hD.sub (ws' := (cA cyI an 121 rn)) [3] (by decide) rfl
      refine ret_v (W1 := (cA cyI an 121 rn)) (W2 := (cA cyI an 121 (mrem rn p_ k_))) (ws1 := (cM aM ac as_ an ah 0 bu fd fn ++ cA cyI ac 8 cd ++ cA cyI as_ 12 sw ++ cA cyI an 121 (mrem rn p_ k_) ++ cA cyI ah 121 ra)) (run_S (n := 2) (As := [.ref an, .int (nI p_)]) (rest := []) ⟨hx, hb, hml, hown, hts⟩ (c_X6_remove l D cyI cyO cyL an rn k_ p_ hm hoc hpk _) ggX6_cancel_X6_remove rfl rfl rfl (hts (.methodLink RX6 70 yX6_remove) (List.mem_of_getElem? (i := 18) rfl)) (hts (.initialized RX6) (List.mem_of_getElem? (i := 5) rfl)) (hts (.static yX6_remove) (List.mem_of_getElem? (i := 19) rfl)) (by decide +kernel) ⟨Nat.le_of_ble_eq_true rfl, Nat.le_of_ble_eq_true rfl⟩ hKK hPc hDc rfl hl.1 rfl (Nat.le_of_ble_eq_true rfl) dX6_cancel_39 ⟨Nat.zero_le _, Nat.zero_le _⟩) hP hD hS hA [3] rfl rfl [(false, 0), (false, 1), (false, 2), (true, 0), (false, 4)] (by decide +kernel) rfl (fun H locs hP hD hS => ?_)
      refine lv_iload_n hx hb dX6_cancel_42 rfl (lv_at hl 0 rfl) ?_
      exact end_i hx hb hrt hlocks rfl hP hS dX6_cancel_43
    · skip
      exact absurd (nI_pos' (by omega)) h_2
  · skip
    exact absurd h_1 (by rw [hs]; decide)
set_option maxHeartbeats 4000000 in
set_option maxRecDepth 100000 in
theorem c_X6_cancel_b (l : Launch) (D : va_G) (cyI cyO cyL : ClassId) (aM : Nat) (ac : Nat) (as_ : Nat) (an : Nat) (ah : Nat) (th : Int32) (bu : Int32) (fd : Int32) (fn : Int32) (cd : Nat → Int32) (sw : Nat → Int32) (rn : Nat → Int32) (ra : Nat → Int32) (s_ : Int32) (k_ : Nat) (hm : k_ ≤ 6) (hoc : rn 109 = nI k_) (hp : inI s_ 0 23 = 0 ∨ mplace rn s_ k_ 0 = -1) : cI l yX6_cancel wsX6_cancel ({ frames := 2, cells := 0, slots := 0, locals := 42 }) D cyI cyO cyL [.ref aM, .int s_] (cM aM ac as_ an ah th bu fd fn ++ cA cyI ac 8 cd ++ cA cyI as_ 12 sw ++ cA cyI an 121 rn ++ cA cyI ah 121 ra) (cM aM ac as_ an ah (mCb s_) bu fd fn ++ cA cyI ac 8 cd ++ cA cyI as_ 12 sw ++ cA cyI an 121 rn ++ cA cyI ah 121 ra) 0 := by
  intro sz
  refine Met.ofW (cc := cX6_cancel) (maxL := 3) (ret := (some .int)) (by decide) rfl ?_
  intro p e s m args below meth c s₁ B9 hml hv
  obtain ⟨rfl, hsz, hP, hKK, hD0⟩ := hv
  have hx := B9.exec
  have hb := B9.bytes
  have hrt := B9.returns
  have hts := atoms_spec (ws := wsX6_cancel) B9.pre
  have hown : s.vm.findClass RX6 = some m.cls := findClass_of_methodNamed B9.named
  have hlocks := B9.notSynchronized
  have nw := fun {w : Cond} (h : w ∈ nw_all) => NW.use (args := ([.ref aM, .int s_] : List Value).toArray) hKK.2 h
  have iX6 : ∀ w ∈ wsX60, w ∈ wsX6_cancel := fun _ h => List.mem_cons_of_mem _ (List.mem_append_right _ h)
  subst hsz
  have hD := hD0.self (sz := s.heap.size)
  generalize hAe : va_A (cM aM ac as_ an ah th bu fd fn ++ cA cyI ac 8 cd ++ cA cyI as_ 12 sw ++ cA cyI an 121 rn ++ cA cyI ah 121 ra) s.heap.size = A at hD ⊢
  have hA : ∀ q : Nat, s.heap.size ≤ q → A q := fun q h => by rw [← hAe]; exact Or.inr h
  have hS : va_S A s.heap s.heap [] := va_S.rf
  have hl := lv_entry ([.ref aM, .int s_]) (n := 3) (Nat.le_of_ble_eq_true rfl)
  rw [lg_entry_eq]
  generalize (lg_sl ([.ref aM, .int s_]) ++ List.replicate (3 - (lg_sl ([.ref aM, .int s_])).length) Slot.unset).toArray = ls at hl ⊢
  have hl : lv_has ls 3 [(0, .ref aM), (1, .int s_)] := hl
  refine lv_aload_n hx hb dX6_cancel_0 rfl (lv_at hl 0 rfl) ?_
  refine lv_iconst (v := 0) hx hb dX6_cancel_1 (by decide) ?_
  refine va_put (D := D) (ci := 6) (v := .int 0) (ty := .int) (C := RX6) (T := TX6) (N := 8) hx hb hts iX6 tyX6 tyX6_ok nmX6 hown hKK.1 hP hD hS 0 rfl rfl 0 (by decide) (hts (.fieldLink RX6 1 "TrolleyGangModel" "thrown" "I") (List.mem_of_getElem? (i := 1) rfl)) (fun _ h9 => h9) rfl (by decide +kernel) rfl rfl (Nat.le_of_ble_eq_true rfl) dX6_cancel_2 (fun H locs hP hD hS => ?_)
  have hP : va_P D vwCl (cM aM ac as_ an ah 0 bu fd fn ++ cA cyI ac 8 cd ++ cA cyI as_ 12 sw ++ cA cyI an 121 rn ++ cA cyI ah 121 ra) H := hP
  have hD : va_D A (cM aM ac as_ an ah 0 bu fd fn ++ cA cyI ac 8 cd ++ cA cyI as_ 12 sw ++ cA cyI an 121 rn ++ cA cyI ah 121 ra) := hD
  refine lv_iload_n hx hb dX6_cancel_5 rfl (lv_at hl 1 rfl) ?_
  have hPc := hP.sub (ws' := ([] : va_W)) [] rfl
  have hDc := hD.sub (ws' := ([] : va_W)) [] (by decide) rfl
  refine ret_i (W1 := ([] : va_W)) (W2 := ([] : va_W)) (ws1 := (cM aM ac as_ an ah 0 bu fd fn ++ cA cyI ac 8 cd ++ cA cyI as_ 12 sw ++ cA cyI an 121 rn ++ cA cyI ah 121 ra)) (r := inI s_ 0 23) (run_S (n := 1) (As := [.int s_]) (rest := []) ⟨hx, hb, hml, hown, hts⟩ (c_X6_isSpan l D cyI cyO cyL s_ _) ggX6_cancel_X6_isSpan rfl rfl rfl (hts (.methodLink RX6 47 yX6_isSpan) (List.mem_of_getElem? (i := 3) rfl)) (hts (.initialized RX6) (List.mem_of_getElem? (i := 5) rfl)) (hts (.static yX6_isSpan) (List.mem_of_getElem? (i := 4) rfl)) (by decide +kernel) ⟨Nat.le_of_ble_eq_true rfl, Nat.le_of_ble_eq_true rfl⟩ hKK hPc hDc rfl hl.1 rfl (Nat.le_of_ble_eq_true rfl) dX6_cancel_6 ⟨Nat.zero_le _, Nat.zero_le _⟩) hP hD hS hA [] rfl rfl [(false, 0), (false, 1), (false, 2), (false, 3), (false, 4)] (by decide +kernel) rfl (fun H locs hP hD hS => ?_)
  refine lv_if_ne (tgt := 18) hx hb dX6_cancel_9 (by decide) (fun h_1 => ?_) (fun h_1 => ?_)
  · skip
    have hp2 := hp.resolve_left h_1
    refine lv_aload_n hx hb dX6_cancel_18 rfl (lv_at hl 0 rfl) ?_
    refine lv_iload_n hx hb dX6_cancel_19 rfl (lv_at hl 1 rfl) ?_
    have hPc := hP.sub (ws' := (cM aM ac as_ an ah 0 bu fd fn ++ cA cyI an 121 rn)) [0, 3] rfl
    have hDc := hD.sub (ws' := (cM aM ac as_ an ah 0 bu fd fn ++ cA cyI an 121 rn)) [0, 3] (by decide) rfl
    refine ret_i (W1 := (cM aM ac as_ an ah 0 bu fd fn ++ cA cyI an 121 rn)) (W2 := (cM aM ac as_ an ah 0 bu fd fn ++ cA cyI an 121 rn)) (ws1 := (cM aM ac as_ an ah 0 bu fd fn ++ cA cyI ac 8 cd ++ cA cyI as_ 12 sw ++ cA cyI an 121 rn ++ cA cyI ah 121 ra)) (r := mplace rn s_ k_ 0) (run_V (q := (RX6, TX6, 8)) (n := 1) (As := [.int s_]) (rest := []) ⟨hx, hb, hml, hown, hts⟩ (c_X6_placeOf l D cyI cyO cyL aM ac as_ an ah 0 bu fd fn rn s_ k_ (by first | assumption | omega) (by first | assumption | omega) _) ggX6_cancel_X6_placeOf rfl rfl rfl (hts (.methodLink RX6 64 yX6_placeOf) (List.mem_of_getElem? (i := 14) rfl)) (hts (.initialized RX6) (List.mem_of_getElem? (i := 5) rfl)) (hts (.instanceMethod yX6_placeOf) (List.mem_of_getElem? (i := 15) rfl)) (hts (.selects RX6 yX6_placeOf yX6_placeOf) (List.mem_of_getElem? (i := 16) rfl)) (by decide +kernel) ⟨Nat.le_of_ble_eq_true rfl, Nat.le_of_ble_eq_true rfl⟩ hKK hPc hDc (ci := 6) (q0 := 0) rfl rfl rfl hl.1 rfl (Nat.le_of_ble_eq_true rfl) dX6_cancel_20 ⟨Nat.zero_le _, Nat.zero_le _⟩) hP hD hS hA [0, 3] rfl rfl [(true, 0), (false, 1), (false, 2), (true, 1), (false, 4)] (by decide +kernel) rfl (fun H locs hP hD hS => ?_)
    refine lv_istore_n (lv' := [(2, .int (mplace rn s_ k_ 0)), (0, .ref aM), (1, .int s_)]) hx hb dX6_cancel_23 rfl hl (by decide) rfl (fun ls hl => ?_)
    refine lv_iload_n hx hb dX6_cancel_24 rfl (lv_at hl 0 rfl) ?_
    refine lv_if_ge (tgt := 34) hx hb dX6_cancel_25 (by decide) (fun h_2 => ?_) (fun h_2 => ?_)
    · skip
      exact absurd h_2 (by rw [hp2]; decide)
    · skip
      refine lv_aload_n hx hb dX6_cancel_28 rfl (lv_at hl 1 rfl) ?_
      refine lv_iconst (v := 2) hx hb dX6_cancel_29 (by decide) ?_
      have hPc := hP.sub (ws' := (cM aM ac as_ an ah 0 bu fd fn)) [0] rfl
      have hDc := hD.sub (ws' := (cM aM ac as_ an ah 0 bu fd fn)) [0] (by decide) rfl
      refine ret_i (W1 := (cM aM ac as_ an ah 0 bu fd fn)) (W2 := (cM aM ac as_ an ah 2 bu fd fn)) (ws1 := (cM aM ac as_ an ah 2 bu fd fn ++ cA cyI ac 8 cd ++ cA cyI as_ 12 sw ++ cA cyI an 121 rn ++ cA cyI ah 121 ra)) (r := 0) (run_V (q := (RX6, TX6, 8)) (n := 1) (As := [.int 2]) (rest := []) ⟨hx, hb, hml, hown, hts⟩ (c_X6_no l D cyI cyO cyL aM ac as_ an ah 0 bu fd fn 2 _) ggX6_cancel_X6_no rfl rfl rfl (hts (.methodLink RX6 39 yX6_no) (List.mem_of_getElem? (i := 10) rfl)) (hts (.initialized RX6) (List.mem_of_getElem? (i := 5) rfl)) (hts (.instanceMethod yX6_no) (List.mem_of_getElem? (i := 11) rfl)) (hts (.selects RX6 yX6_no yX6_no) (List.mem_of_getElem? (i := 12) rfl)) (by decide +kernel) ⟨Nat.le_of_ble_eq_true rfl, Nat.le_of_ble_eq_true rfl⟩ hKK hPc hDc (ci := 6) (q0 := 0) rfl rfl rfl hl.1 rfl (Nat.le_of_ble_eq_true rfl) dX6_cancel_30 ⟨Nat.zero_le _, Nat.zero_le _⟩) hP hD hS hA [0] rfl rfl [(true, 0), (false, 1), (false, 2), (false, 3), (false, 4)] (by decide +kernel) rfl (fun H locs hP hD hS => ?_)
      have e9_1 : (mCb s_) = 2 := (by simp only [mCb, h_1, if_false])
      exact end_i hx hb hrt hlocks rfl (by first | exact hP | (rw [e9_1]; exact hP)) hS dX6_cancel_33
  · skip
    refine lv_aload_n hx hb dX6_cancel_12 rfl (lv_at hl 0 rfl) ?_
    refine lv_iconst (v := 1) hx hb dX6_cancel_13 (by decide) ?_
    have hPc := hP.sub (ws' := (cM aM ac as_ an ah 0 bu fd fn)) [0] rfl
    have hDc := hD.sub (ws' := (cM aM ac as_ an ah 0 bu fd fn)) [0] (by decide) rfl
    refine ret_i (W1 := (cM aM ac as_ an ah 0 bu fd fn)) (W2 := (cM aM ac as_ an ah 1 bu fd fn)) (ws1 := (cM aM ac as_ an ah 1 bu fd fn ++ cA cyI ac 8 cd ++ cA cyI as_ 12 sw ++ cA cyI an 121 rn ++ cA cyI ah 121 ra)) (r := 0) (run_V (q := (RX6, TX6, 8)) (n := 1) (As := [.int 1]) (rest := []) ⟨hx, hb, hml, hown, hts⟩ (c_X6_no l D cyI cyO cyL aM ac as_ an ah 0 bu fd fn 1 _) ggX6_cancel_X6_no rfl rfl rfl (hts (.methodLink RX6 39 yX6_no) (List.mem_of_getElem? (i := 10) rfl)) (hts (.initialized RX6) (List.mem_of_getElem? (i := 5) rfl)) (hts (.instanceMethod yX6_no) (List.mem_of_getElem? (i := 11) rfl)) (hts (.selects RX6 yX6_no yX6_no) (List.mem_of_getElem? (i := 12) rfl)) (by decide +kernel) ⟨Nat.le_of_ble_eq_true rfl, Nat.le_of_ble_eq_true rfl⟩ hKK hPc hDc (ci := 6) (q0 := 0) rfl rfl rfl hl.1 rfl (Nat.le_of_ble_eq_true rfl) dX6_cancel_14 ⟨Nat.zero_le _, Nat.zero_le _⟩) hP hD hS hA [0] rfl rfl [(true, 0), (false, 1), (false, 2), (false, 3), (false, 4)] (by decide +kernel) rfl (fun H locs hP hD hS => ?_)
    have e9_1 : (mCb s_) = 1 := (by simp only [mCb, h_1, if_true])
    exact end_i hx hb hrt hlocks rfl (by first | exact hP | (rw [e9_1]; exact hP)) hS dX6_cancel_17
set_option maxHeartbeats 4000000 in
set_option maxRecDepth 100000 in
theorem c_X6_gang (l : Launch) (D : va_G) (cyI cyO cyL : ClassId) (aM : Nat) (ac : Nat) (as_ : Nat) (an : Nat) (ah : Nat) (th : Int32) (bu : Int32) (fd : Int32) (fn : Int32) (cd : Nat → Int32) (sw : Nat → Int32) (rn : Nat → Int32) (ra : Nat → Int32) (x_ : Int32) : cI l yX6_gang wsX6_gang ({ frames := 3, cells := 0, slots := 0, locals := 65 }) D cyI cyO cyL [.ref aM, .int x_] (cM aM ac as_ an ah th bu fd fn ++ cA cyI ac 8 cd ++ cA cyI as_ 12 sw ++ cA cyI an 121 rn ++ cA cyI ah 121 ra) (cM aM ac as_ an ah ((mGang rn x_).2) bu fd fn ++ cA cyI ac 8 cd ++ cA cyI as_ 12 sw ++ cA cyI an 121 rn ++ cA cyI ah 121 ra) ((mGang rn x_).1) := by
  intro sz
  refine Met.ofW (cc := cX6_gang) (maxL := 2) (ret := (some .int)) (by decide) rfl ?_
  intro p e s m args below meth c s₁ B9 hml hv
  obtain ⟨rfl, hsz, hP, hKK, hD0⟩ := hv
  have hx := B9.exec
  have hb := B9.bytes
  have hrt := B9.returns
  have hts := atoms_spec (ws := wsX6_gang) B9.pre
  have hown : s.vm.findClass RX6 = some m.cls := findClass_of_methodNamed B9.named
  have hlocks := B9.notSynchronized
  have nw := fun {w : Cond} (h : w ∈ nw_all) => NW.use (args := ([.ref aM, .int x_] : List Value).toArray) hKK.2 h
  have iX6 : ∀ w ∈ wsX60, w ∈ wsX6_gang := fun _ h => List.mem_cons_of_mem _ (List.mem_append_right _ h)
  subst hsz
  have hD := hD0.self (sz := s.heap.size)
  generalize hAe : va_A (cM aM ac as_ an ah th bu fd fn ++ cA cyI ac 8 cd ++ cA cyI as_ 12 sw ++ cA cyI an 121 rn ++ cA cyI ah 121 ra) s.heap.size = A at hD ⊢
  have hA : ∀ q : Nat, s.heap.size ≤ q → A q := fun q h => by rw [← hAe]; exact Or.inr h
  have hS : va_S A s.heap s.heap [] := va_S.rf
  have hl := lv_entry ([.ref aM, .int x_]) (n := 2) (Nat.le_of_ble_eq_true rfl)
  rw [lg_entry_eq]
  generalize (lg_sl ([.ref aM, .int x_]) ++ List.replicate (2 - (lg_sl ([.ref aM, .int x_])).length) Slot.unset).toArray = ls at hl ⊢
  have hl : lv_has ls 2 [(0, .ref aM), (1, .int x_)] := hl
  refine lv_aload_n hx hb dX6_gang_0 rfl (lv_at hl 0 rfl) ?_
  refine lv_iconst (v := 0) hx hb dX6_gang_1 (by decide) ?_
  refine va_put (D := D) (ci := 6) (v := .int 0) (ty := .int) (C := RX6) (T := TX6) (N := 8) hx hb hts iX6 tyX6 tyX6_ok nmX6 hown hKK.1 hP hD hS 0 rfl rfl 0 (by decide) (hts (.fieldLink RX6 1 "TrolleyGangModel" "thrown" "I") (List.mem_of_getElem? (i := 1) rfl)) (fun _ h9 => h9) rfl (by decide +kernel) rfl rfl (Nat.le_of_ble_eq_true rfl) dX6_gang_2 (fun H locs hP hD hS => ?_)
  have hP : va_P D vwCl (cM aM ac as_ an ah 0 bu fd fn ++ cA cyI ac 8 cd ++ cA cyI as_ 12 sw ++ cA cyI an 121 rn ++ cA cyI ah 121 ra) H := hP
  have hD : va_D A (cM aM ac as_ an ah 0 bu fd fn ++ cA cyI ac 8 cd ++ cA cyI as_ 12 sw ++ cA cyI an 121 rn ++ cA cyI ah 121 ra) := hD
  refine lv_iload_n hx hb dX6_gang_5 rfl (lv_at hl 1 rfl) ?_
  refine lv_iconst (v := 0) hx hb dX6_gang_6 (by decide) ?_
  refine lv_bipush (v := 6) hx hb dX6_gang_7 (by decide) ?_
  have hPc := hP.sub (ws' := ([] : va_W)) [] rfl
  have hDc := hD.sub (ws' := ([] : va_W)) [] (by decide) rfl
  refine ret_i (W1 := ([] : va_W)) (W2 := ([] : va_W)) (ws1 := (cM aM ac as_ an ah 0 bu fd fn ++ cA cyI ac 8 cd ++ cA cyI as_ 12 sw ++ cA cyI an 121 rn ++ cA cyI ah 121 ra)) (r := inI x_ 0 6) (run_S (n := 3) (As := [.int x_, .int 0, .int 6]) (rest := []) ⟨hx, hb, hml, hown, hts⟩ (c_X6_isIn l D cyI cyO cyL x_ 0 6 _) ggX6_gang_X6_isIn rfl rfl rfl (hts (.methodLink RX6 32 yX6_isIn) (List.mem_of_getElem? (i := 2) rfl)) (hts (.initialized RX6) (List.mem_of_getElem? (i := 4) rfl)) (hts (.static yX6_isIn) (List.mem_of_getElem? (i := 3) rfl)) (by decide +kernel) ⟨Nat.le_of_ble_eq_true rfl, Nat.le_of_ble_eq_true rfl⟩ hKK hPc hDc rfl hl.1 rfl (Nat.le_of_ble_eq_true rfl) dX6_gang_9 ⟨Nat.zero_le _, Nat.zero_le _⟩) hP hD hS hA [] rfl rfl [(false, 0), (false, 1), (false, 2), (false, 3), (false, 4)] (by decide +kernel) rfl (fun H locs hP hD hS => ?_)
  refine lv_if_eq (tgt := 23) hx hb dX6_gang_12 (by decide) (fun h_1 => ?_) (fun h_1 => ?_)
  · skip
    refine lv_aload_n hx hb dX6_gang_23 rfl (lv_at hl 0 rfl) ?_
    refine lv_iconst (v := 1) hx hb dX6_gang_24 (by decide) ?_
    have hPc := hP.sub (ws' := (cM aM ac as_ an ah 0 bu fd fn)) [0] rfl
    have hDc := hD.sub (ws' := (cM aM ac as_ an ah 0 bu fd fn)) [0] (by decide) rfl
    refine ret_i (W1 := (cM aM ac as_ an ah 0 bu fd fn)) (W2 := (cM aM ac as_ an ah 1 bu fd fn)) (ws1 := (cM aM ac as_ an ah 1 bu fd fn ++ cA cyI ac 8 cd ++ cA cyI as_ 12 sw ++ cA cyI an 121 rn ++ cA cyI ah 121 ra)) (r := 0) (run_V (q := (RX6, TX6, 8)) (n := 1) (As := [.int 1]) (rest := []) ⟨hx, hb, hml, hown, hts⟩ (c_X6_no l D cyI cyO cyL aM ac as_ an ah 0 bu fd fn 1 _) ggX6_gang_X6_no rfl rfl rfl (hts (.methodLink RX6 39 yX6_no) (List.mem_of_getElem? (i := 22) rfl)) (hts (.initialized RX6) (List.mem_of_getElem? (i := 4) rfl)) (hts (.instanceMethod yX6_no) (List.mem_of_getElem? (i := 23) rfl)) (hts (.selects RX6 yX6_no yX6_no) (List.mem_of_getElem? (i := 24) rfl)) (by decide +kernel) ⟨Nat.le_of_ble_eq_true rfl, Nat.le_of_ble_eq_true rfl⟩ hKK hPc hDc (ci := 6) (q0 := 0) rfl rfl rfl hl.1 rfl (Nat.le_of_ble_eq_true rfl) dX6_gang_25 ⟨Nat.zero_le _, Nat.zero_le _⟩) hP hD hS hA [0] rfl rfl [(true, 0), (false, 1), (false, 2), (false, 3), (false, 4)] (by decide +kernel) rfl (fun H locs hP hD hS => ?_)
    have e9 : mGang rn x_ = (0, 1) := (by first | with_reducible rfl | (simp only [mGang, h_1, if_true, if_false, reduceIte, not_true_eq_false, not_false_eq_true]; done) | (simp [mGang, h_1]; done))
    exact end_i hx hb hrt hlocks (by rw [e9]) (by rw [e9]; exact hP) hS dX6_gang_28
  · skip
    have hx9 := inI_vp (N := 6) h_1 (by decide)
    refine lv_aload_n hx hb dX6_gang_15 rfl (lv_at hl 0 rfl) ?_
    refine lv_iload_n hx hb dX6_gang_16 rfl (lv_at hl 1 rfl) ?_
    have hPc := hP.sub (ws' := (cM aM ac as_ an ah 0 bu fd fn ++ cA cyI an 121 rn)) [0, 3] rfl
    have hDc := hD.sub (ws' := (cM aM ac as_ an ah 0 bu fd fn ++ cA cyI an 121 rn)) [0, 3] (by decide) rfl
    refine ret_i (W1 := (cM aM ac as_ an ah 0 bu fd fn ++ cA cyI an 121 rn)) (W2 := (cM aM ac as_ an ah 0 bu fd fn ++ cA cyI an 121 rn)) (ws1 := (cM aM ac as_ an ah 0 bu fd fn ++ cA cyI ac 8 cd ++ cA cyI as_ 12 sw ++ cA cyI an 121 rn ++ cA cyI ah 121 ra)) (r := mgtold rn x_) (run_V (q := (RX6, TX6, 8)) (n := 1) (As := [.int x_]) (rest := []) ⟨hx, hb, hml, hown, hts⟩ (c_X6_gangTold l D cyI cyO cyL aM ac as_ an ah 0 bu fd fn rn x_ hx9 _) ggX6_gang_X6_gangTold rfl rfl rfl (hts (.methodLink RX6 85 yX6_gangTold) (List.mem_of_getElem? (i := 6) rfl)) (hts (.initialized RX6) (List.mem_of_getElem? (i := 4) rfl)) (hts (.instanceMethod yX6_gangTold) (List.mem_of_getElem? (i := 7) rfl)) (hts (.selects RX6 yX6_gangTold yX6_gangTold) (List.mem_of_getElem? (i := 8) rfl)) (by decide +kernel) ⟨Nat.le_of_ble_eq_true rfl, Nat.le_of_ble_eq_true rfl⟩ hKK hPc hDc (ci := 6) (q0 := 0) rfl rfl rfl hl.1 rfl (Nat.le_of_ble_eq_true rfl) dX6_gang_17 ⟨Nat.zero_le _, Nat.zero_le _⟩) hP hD hS hA [0, 3] rfl rfl [(true, 0), (false, 1), (false, 2), (true, 1), (false, 4)] (by decide +kernel) rfl (fun H locs hP hD hS => ?_)
    refine lv_goto (tgt := 28) hx hb dX6_gang_20 (by decide) ?_
    have e9 : mGang rn x_ = (mgtold rn x_, 0) := (by first | with_reducible rfl | (simp only [mGang, h_1, if_true, if_false, reduceIte, not_true_eq_false, not_false_eq_true]; done) | (simp [mGang, h_1]; done))
    exact end_i hx hb hrt hlocks (by rw [e9]) (by rw [e9]; exact hP) hS dX6_gang_28
set_option maxHeartbeats 4000000 in
set_option maxRecDepth 100000 in
theorem c_X6_count (l : Launch) (D : va_G) (cyI cyO cyL : ClassId) (aM : Nat) (ac : Nat) (as_ : Nat) (an : Nat) (ah : Nat) (th : Int32) (bu : Int32) (fd : Int32) (fn : Int32) (cd : Nat → Int32) (sw : Nat → Int32) (rn : Nat → Int32) (ra : Nat → Int32) (x_ : Int32) (n : Nat) (hn : n ≤ 6) (hbu : bu = nI n) : cI l yX6_count wsX6_count ({ frames := 3, cells := 0, slots := 0, locals := 67 }) D cyI cyO cyL [.ref aM, .int x_] (cM aM ac as_ an ah th bu fd fn ++ cA cyI ac 8 cd ++ cA cyI as_ 12 sw ++ cA cyI an 121 rn ++ cA cyI ah 121 ra) (cM aM ac as_ an ah ((mCount rn n bu x_).2) bu fd fn ++ cA cyI ac 8 cd ++ cA cyI as_ 12 sw ++ cA cyI an 121 rn ++ cA cyI ah 121 ra) ((mCount rn n bu x_).1) := by
  intro sz
  refine Met.ofW (cc := cX6_count) (maxL := 2) (ret := (some .int)) (by decide) rfl ?_
  intro p e s m args below meth c s₁ B9 hml hv
  obtain ⟨rfl, hsz, hP, hKK, hD0⟩ := hv
  have hx := B9.exec
  have hb := B9.bytes
  have hrt := B9.returns
  have hts := atoms_spec (ws := wsX6_count) B9.pre
  have hown : s.vm.findClass RX6 = some m.cls := findClass_of_methodNamed B9.named
  have hlocks := B9.notSynchronized
  have nw := fun {w : Cond} (h : w ∈ nw_all) => NW.use (args := ([.ref aM, .int x_] : List Value).toArray) hKK.2 h
  have iX6 : ∀ w ∈ wsX60, w ∈ wsX6_count := fun _ h => List.mem_cons_of_mem _ (List.mem_append_right _ h)
  subst hsz
  have hD := hD0.self (sz := s.heap.size)
  generalize hAe : va_A (cM aM ac as_ an ah th bu fd fn ++ cA cyI ac 8 cd ++ cA cyI as_ 12 sw ++ cA cyI an 121 rn ++ cA cyI ah 121 ra) s.heap.size = A at hD ⊢
  have hA : ∀ q : Nat, s.heap.size ≤ q → A q := fun q h => by rw [← hAe]; exact Or.inr h
  have hS : va_S A s.heap s.heap [] := va_S.rf
  have hl := lv_entry ([.ref aM, .int x_]) (n := 2) (Nat.le_of_ble_eq_true rfl)
  rw [lg_entry_eq]
  generalize (lg_sl ([.ref aM, .int x_]) ++ List.replicate (2 - (lg_sl ([.ref aM, .int x_])).length) Slot.unset).toArray = ls at hl ⊢
  have hl : lv_has ls 2 [(0, .ref aM), (1, .int x_)] := hl
  refine lv_aload_n hx hb dX6_count_0 rfl (lv_at hl 0 rfl) ?_
  refine lv_iconst (v := 0) hx hb dX6_count_1 (by decide) ?_
  refine va_put (D := D) (ci := 6) (v := .int 0) (ty := .int) (C := RX6) (T := TX6) (N := 8) hx hb hts iX6 tyX6 tyX6_ok nmX6 hown hKK.1 hP hD hS 0 rfl rfl 0 (by decide) (hts (.fieldLink RX6 1 "TrolleyGangModel" "thrown" "I") (List.mem_of_getElem? (i := 1) rfl)) (fun _ h9 => h9) rfl (by decide +kernel) rfl rfl (Nat.le_of_ble_eq_true rfl) dX6_count_2 (fun H locs hP hD hS => ?_)
  have hP : va_P D vwCl (cM aM ac as_ an ah 0 bu fd fn ++ cA cyI ac 8 cd ++ cA cyI as_ 12 sw ++ cA cyI an 121 rn ++ cA cyI ah 121 ra) H := hP
  have hD : va_D A (cM aM ac as_ an ah 0 bu fd fn ++ cA cyI ac 8 cd ++ cA cyI as_ 12 sw ++ cA cyI an 121 rn ++ cA cyI ah 121 ra) := hD
  refine lv_iload_n hx hb dX6_count_5 rfl (lv_at hl 1 rfl) ?_
  refine lv_iconst (v := 0) hx hb dX6_count_6 (by decide) ?_
  refine lv_bipush (v := 8) hx hb dX6_count_7 (by decide) ?_
  have hPc := hP.sub (ws' := ([] : va_W)) [] rfl
  have hDc := hD.sub (ws' := ([] : va_W)) [] (by decide) rfl
  refine ret_i (W1 := ([] : va_W)) (W2 := ([] : va_W)) (ws1 := (cM aM ac as_ an ah 0 bu fd fn ++ cA cyI ac 8 cd ++ cA cyI as_ 12 sw ++ cA cyI an 121 rn ++ cA cyI ah 121 ra)) (r := inI x_ 0 8) (run_S (n := 3) (As := [.int x_, .int 0, .int 8]) (rest := []) ⟨hx, hb, hml, hown, hts⟩ (c_X6_isIn l D cyI cyO cyL x_ 0 8 _) ggX6_count_X6_isIn rfl rfl rfl (hts (.methodLink RX6 32 yX6_isIn) (List.mem_of_getElem? (i := 2) rfl)) (hts (.initialized RX6) (List.mem_of_getElem? (i := 4) rfl)) (hts (.static yX6_isIn) (List.mem_of_getElem? (i := 3) rfl)) (by decide +kernel) ⟨Nat.le_of_ble_eq_true rfl, Nat.le_of_ble_eq_true rfl⟩ hKK hPc hDc rfl hl.1 rfl (Nat.le_of_ble_eq_true rfl) dX6_count_9 ⟨Nat.zero_le _, Nat.zero_le _⟩) hP hD hS hA [] rfl rfl [(false, 0), (false, 1), (false, 2), (false, 3), (false, 4)] (by decide +kernel) rfl (fun H locs hP hD hS => ?_)
  refine lv_if_eq (tgt := 23) hx hb dX6_count_12 (by decide) (fun h_1 => ?_) (fun h_1 => ?_)
  · skip
    refine lv_aload_n hx hb dX6_count_23 rfl (lv_at hl 0 rfl) ?_
    refine lv_iconst (v := 1) hx hb dX6_count_24 (by decide) ?_
    have hPc := hP.sub (ws' := (cM aM ac as_ an ah 0 bu fd fn)) [0] rfl
    have hDc := hD.sub (ws' := (cM aM ac as_ an ah 0 bu fd fn)) [0] (by decide) rfl
    refine ret_i (W1 := (cM aM ac as_ an ah 0 bu fd fn)) (W2 := (cM aM ac as_ an ah 1 bu fd fn)) (ws1 := (cM aM ac as_ an ah 1 bu fd fn ++ cA cyI ac 8 cd ++ cA cyI as_ 12 sw ++ cA cyI an 121 rn ++ cA cyI ah 121 ra)) (r := 0) (run_V (q := (RX6, TX6, 8)) (n := 1) (As := [.int 1]) (rest := []) ⟨hx, hb, hml, hown, hts⟩ (c_X6_no l D cyI cyO cyL aM ac as_ an ah 0 bu fd fn 1 _) ggX6_count_X6_no rfl rfl rfl (hts (.methodLink RX6 39 yX6_no) (List.mem_of_getElem? (i := 26) rfl)) (hts (.initialized RX6) (List.mem_of_getElem? (i := 4) rfl)) (hts (.instanceMethod yX6_no) (List.mem_of_getElem? (i := 27) rfl)) (hts (.selects RX6 yX6_no yX6_no) (List.mem_of_getElem? (i := 28) rfl)) (by decide +kernel) ⟨Nat.le_of_ble_eq_true rfl, Nat.le_of_ble_eq_true rfl⟩ hKK hPc hDc (ci := 6) (q0 := 0) rfl rfl rfl hl.1 rfl (Nat.le_of_ble_eq_true rfl) dX6_count_25 ⟨Nat.zero_le _, Nat.zero_le _⟩) hP hD hS hA [0] rfl rfl [(true, 0), (false, 1), (false, 2), (false, 3), (false, 4)] (by decide +kernel) rfl (fun H locs hP hD hS => ?_)
    have e9 : mCount rn n bu x_ = (0, 1) := (by first | with_reducible rfl | (simp only [mCount, h_1, if_true, if_false, reduceIte, not_true_eq_false, not_false_eq_true]; done) | (simp [mCount, h_1]; done))
    exact end_i hx hb hrt hlocks (by rw [e9]) (by rw [e9]; exact hP) hS dX6_count_28
  · skip
    refine lv_aload_n hx hb dX6_count_15 rfl (lv_at hl 0 rfl) ?_
    refine lv_iload_n hx hb dX6_count_16 rfl (lv_at hl 1 rfl) ?_
    have hPc := hP.sub (ws' := (cM aM ac as_ an ah 0 bu fd fn ++ cA cyI an 121 rn)) [0, 3] rfl
    have hDc := hD.sub (ws' := (cM aM ac as_ an ah 0 bu fd fn ++ cA cyI an 121 rn)) [0, 3] (by decide) rfl
    refine ret_i (W1 := (cM aM ac as_ an ah 0 bu fd fn ++ cA cyI an 121 rn)) (W2 := (cM aM ac as_ an ah 0 bu fd fn ++ cA cyI an 121 rn)) (ws1 := (cM aM ac as_ an ah 0 bu fd fn ++ cA cyI ac 8 cd ++ cA cyI as_ 12 sw ++ cA cyI an 121 rn ++ cA cyI ah 121 ra)) (r := mcounted rn n bu x_) (run_V (q := (RX6, TX6, 8)) (n := 1) (As := [.int x_]) (rest := []) ⟨hx, hb, hml, hown, hts⟩ (c_X6_counted l D cyI cyO cyL aM ac as_ an ah 0 bu fd fn rn x_ n (by first | assumption | omega) (by first | assumption | omega) _) ggX6_count_X6_counted rfl rfl rfl (hts (.methodLink RX6 101 yX6_counted) (List.mem_of_getElem? (i := 6) rfl)) (hts (.initialized RX6) (List.mem_of_getElem? (i := 4) rfl)) (hts (.instanceMethod yX6_counted) (List.mem_of_getElem? (i := 7) rfl)) (hts (.selects RX6 yX6_counted yX6_counted) (List.mem_of_getElem? (i := 8) rfl)) (by decide +kernel) ⟨Nat.le_of_ble_eq_true rfl, Nat.le_of_ble_eq_true rfl⟩ hKK hPc hDc (ci := 6) (q0 := 0) rfl rfl rfl hl.1 rfl (Nat.le_of_ble_eq_true rfl) dX6_count_17 ⟨Nat.zero_le _, Nat.zero_le _⟩) hP hD hS hA [0, 3] rfl rfl [(true, 0), (false, 1), (false, 2), (true, 1), (false, 4)] (by decide +kernel) rfl (fun H locs hP hD hS => ?_)
    refine lv_goto (tgt := 28) hx hb dX6_count_20 (by decide) ?_
    have e9 : mCount rn n bu x_ = (mcounted rn n bu x_, 0) := (by first | with_reducible rfl | (simp only [mCount, h_1, if_true, if_false, reduceIte, not_true_eq_false, not_false_eq_true]; done) | (simp [mCount, h_1]; done))
    exact end_i hx hb hrt hlocks (by rw [e9]) (by rw [e9]; exact hP) hS dX6_count_28
set_option maxHeartbeats 4000000 in
set_option maxRecDepth 100000 in
theorem c_X6_pass__b (l : Launch) (D : va_G) (cyI cyO cyL : ClassId) (aM : Nat) (ac : Nat) (as_ : Nat) (an : Nat) (ah : Nat) (th : Int32) (bu : Int32) (fd : Int32) (fn : Int32) (cd : Nat → Int32) (sw : Nat → Int32) (rn : Nat → Int32) (ra : Nat → Int32) (h_ : Int32) (hbd : inI h_ 1 72 = 0) : cI l yX6_pass_ wsX6_pass_ ({ frames := 1, cells := 0, slots := 0, locals := 22 }) D cyI cyO cyL [.ref aM, .int h_] (cM aM ac as_ an ah th bu fd fn ++ cA cyI ac 8 cd ++ cA cyI as_ 12 sw ++ cA cyI an 121 rn ++ cA cyI ah 121 ra) (cM aM ac as_ an ah 1 bu fd fn ++ cA cyI ac 8 cd ++ cA cyI as_ 12 sw ++ cA cyI an 121 rn ++ cA cyI ah 121 ra) 0 := by
  intro sz
  refine Met.ofW (cc := cX6_pass_) (maxL := 3) (ret := (some .int)) (by decide) rfl ?_
  intro p e s m args below meth c s₁ B9 hml hv
  obtain ⟨rfl, hsz, hP, hKK, hD0⟩ := hv
  have hx := B9.exec
  have hb := B9.bytes
  have hrt := B9.returns
  have hts := atoms_spec (ws := wsX6_pass_) B9.pre
  have hown : s.vm.findClass RX6 = some m.cls := findClass_of_methodNamed B9.named
  have hlocks := B9.notSynchronized
  have nw := fun {w : Cond} (h : w ∈ nw_all) => NW.use (args := ([.ref aM, .int h_] : List Value).toArray) hKK.2 h
  have iX6 : ∀ w ∈ wsX60, w ∈ wsX6_pass_ := fun _ h => List.mem_cons_of_mem _ (List.mem_append_right _ h)
  subst hsz
  have hD := hD0.self (sz := s.heap.size)
  generalize hAe : va_A (cM aM ac as_ an ah th bu fd fn ++ cA cyI ac 8 cd ++ cA cyI as_ 12 sw ++ cA cyI an 121 rn ++ cA cyI ah 121 ra) s.heap.size = A at hD ⊢
  have hA : ∀ q : Nat, s.heap.size ≤ q → A q := fun q h => by rw [← hAe]; exact Or.inr h
  have hS : va_S A s.heap s.heap [] := va_S.rf
  have hl := lv_entry ([.ref aM, .int h_]) (n := 3) (Nat.le_of_ble_eq_true rfl)
  rw [lg_entry_eq]
  generalize (lg_sl ([.ref aM, .int h_]) ++ List.replicate (3 - (lg_sl ([.ref aM, .int h_])).length) Slot.unset).toArray = ls at hl ⊢
  have hl : lv_has ls 3 [(0, .ref aM), (1, .int h_)] := hl
  refine lv_aload_n hx hb dX6_pass__0 rfl (lv_at hl 0 rfl) ?_
  refine lv_iconst (v := 0) hx hb dX6_pass__1 (by decide) ?_
  refine va_put (D := D) (ci := 6) (v := .int 0) (ty := .int) (C := RX6) (T := TX6) (N := 8) hx hb hts iX6 tyX6 tyX6_ok nmX6 hown hKK.1 hP hD hS 0 rfl rfl 0 (by decide) (hts (.fieldLink RX6 1 "TrolleyGangModel" "thrown" "I") (List.mem_of_getElem? (i := 1) rfl)) (fun _ h9 => h9) rfl (by decide +kernel) rfl rfl (Nat.le_of_ble_eq_true rfl) dX6_pass__2 (fun H locs hP hD hS => ?_)
  have hP : va_P D vwCl (cM aM ac as_ an ah 0 bu fd fn ++ cA cyI ac 8 cd ++ cA cyI as_ 12 sw ++ cA cyI an 121 rn ++ cA cyI ah 121 ra) H := hP
  have hD : va_D A (cM aM ac as_ an ah 0 bu fd fn ++ cA cyI ac 8 cd ++ cA cyI as_ 12 sw ++ cA cyI an 121 rn ++ cA cyI ah 121 ra) := hD
  refine lv_iload_n hx hb dX6_pass__5 rfl (lv_at hl 1 rfl) ?_
  refine lv_iconst (v := 1) hx hb dX6_pass__6 (by decide) ?_
  refine lv_bipush (v := 72) hx hb dX6_pass__7 (by decide) ?_
  have hPc := hP.sub (ws' := ([] : va_W)) [] rfl
  have hDc := hD.sub (ws' := ([] : va_W)) [] (by decide) rfl
  refine ret_i (W1 := ([] : va_W)) (W2 := ([] : va_W)) (ws1 := (cM aM ac as_ an ah 0 bu fd fn ++ cA cyI ac 8 cd ++ cA cyI as_ 12 sw ++ cA cyI an 121 rn ++ cA cyI ah 121 ra)) (r := inI h_ 1 72) (run_S (n := 3) (As := [.int h_, .int 1, .int 72]) (rest := []) ⟨hx, hb, hml, hown, hts⟩ (c_X6_isIn l D cyI cyO cyL h_ 1 72 _) ggX6_pass__X6_isIn rfl rfl rfl (hts (.methodLink RX6 32 yX6_isIn) (List.mem_of_getElem? (i := 3) rfl)) (hts (.initialized RX6) (List.mem_of_getElem? (i := 5) rfl)) (hts (.static yX6_isIn) (List.mem_of_getElem? (i := 4) rfl)) (by decide +kernel) ⟨Nat.le_of_ble_eq_true rfl, Nat.le_of_ble_eq_true rfl⟩ hKK hPc hDc rfl hl.1 rfl (Nat.le_of_ble_eq_true rfl) dX6_pass__9 ⟨Nat.zero_le _, Nat.zero_le _⟩) hP hD hS hA [] rfl rfl [(false, 0), (false, 1), (false, 2), (false, 3), (false, 4)] (by decide +kernel) rfl (fun H locs hP hD hS => ?_)
  refine lv_if_ne (tgt := 21) hx hb dX6_pass__12 (by decide) (fun h_1 => ?_) (fun h_1 => ?_)
  · skip
    exact absurd hbd h_1
  · skip
    refine lv_aload_n hx hb dX6_pass__15 rfl (lv_at hl 0 rfl) ?_
    refine lv_iconst (v := 1) hx hb dX6_pass__16 (by decide) ?_
    have hPc := hP.sub (ws' := (cM aM ac as_ an ah 0 bu fd fn)) [0] rfl
    have hDc := hD.sub (ws' := (cM aM ac as_ an ah 0 bu fd fn)) [0] (by decide) rfl
    refine ret_i (W1 := (cM aM ac as_ an ah 0 bu fd fn)) (W2 := (cM aM ac as_ an ah 1 bu fd fn)) (ws1 := (cM aM ac as_ an ah 1 bu fd fn ++ cA cyI ac 8 cd ++ cA cyI as_ 12 sw ++ cA cyI an 121 rn ++ cA cyI ah 121 ra)) (r := 0) (run_V (q := (RX6, TX6, 8)) (n := 1) (As := [.int 1]) (rest := []) ⟨hx, hb, hml, hown, hts⟩ (c_X6_no l D cyI cyO cyL aM ac as_ an ah 0 bu fd fn 1 _) ggX6_pass__X6_no rfl rfl rfl (hts (.methodLink RX6 39 yX6_no) (List.mem_of_getElem? (i := 7) rfl)) (hts (.initialized RX6) (List.mem_of_getElem? (i := 5) rfl)) (hts (.instanceMethod yX6_no) (List.mem_of_getElem? (i := 8) rfl)) (hts (.selects RX6 yX6_no yX6_no) (List.mem_of_getElem? (i := 9) rfl)) (by decide +kernel) ⟨Nat.le_of_ble_eq_true rfl, Nat.le_of_ble_eq_true rfl⟩ hKK hPc hDc (ci := 6) (q0 := 0) rfl rfl rfl hl.1 rfl (Nat.le_of_ble_eq_true rfl) dX6_pass__17 ⟨Nat.zero_le _, Nat.zero_le _⟩) hP hD hS hA [0] rfl rfl [(true, 0), (false, 1), (false, 2), (false, 3), (false, 4)] (by decide +kernel) rfl (fun H locs hP hD hS => ?_)
    exact end_i hx hb hrt hlocks rfl hP hS dX6_pass__20
set_option maxHeartbeats 4000000 in
set_option maxRecDepth 100000 in
theorem c_X6_foresee_b (l : Launch) (D : va_G) (cyI cyO cyL : ClassId) (aM : Nat) (ac : Nat) (as_ : Nat) (an : Nat) (ah : Nat) (th : Int32) (bu : Int32) (fd : Int32) (fn : Int32) (cd : Nat → Int32) (sw : Nat → Int32) (rn : Nat → Int32) (ra : Nat → Int32) (h_ : Int32) (x_ : Int32) (hbd : inI h_ 1 72 = 0) : cI l yX6_foresee wsX6_foresee ({ frames := 1, cells := 0, slots := 0, locals := 22 }) D cyI cyO cyL [.ref aM, .int h_, .int x_] (cM aM ac as_ an ah th bu fd fn ++ cA cyI ac 8 cd ++ cA cyI as_ 12 sw ++ cA cyI an 121 rn ++ cA cyI ah 121 ra) (cM aM ac as_ an ah 1 bu fd fn ++ cA cyI ac 8 cd ++ cA cyI as_ 12 sw ++ cA cyI an 121 rn ++ cA cyI ah 121 ra) 0 := by
  intro sz
  refine Met.ofW (cc := cX6_foresee) (maxL := 3) (ret := (some .int)) (by decide) rfl ?_
  intro p e s m args below meth c s₁ B9 hml hv
  obtain ⟨rfl, hsz, hP, hKK, hD0⟩ := hv
  have hx := B9.exec
  have hb := B9.bytes
  have hrt := B9.returns
  have hts := atoms_spec (ws := wsX6_foresee) B9.pre
  have hown : s.vm.findClass RX6 = some m.cls := findClass_of_methodNamed B9.named
  have hlocks := B9.notSynchronized
  have nw := fun {w : Cond} (h : w ∈ nw_all) => NW.use (args := ([.ref aM, .int h_, .int x_] : List Value).toArray) hKK.2 h
  have iX6 : ∀ w ∈ wsX60, w ∈ wsX6_foresee := fun _ h => List.mem_cons_of_mem _ (List.mem_append_right _ h)
  subst hsz
  have hD := hD0.self (sz := s.heap.size)
  generalize hAe : va_A (cM aM ac as_ an ah th bu fd fn ++ cA cyI ac 8 cd ++ cA cyI as_ 12 sw ++ cA cyI an 121 rn ++ cA cyI ah 121 ra) s.heap.size = A at hD ⊢
  have hA : ∀ q : Nat, s.heap.size ≤ q → A q := fun q h => by rw [← hAe]; exact Or.inr h
  have hS : va_S A s.heap s.heap [] := va_S.rf
  have hl := lv_entry ([.ref aM, .int h_, .int x_]) (n := 3) (Nat.le_of_ble_eq_true rfl)
  rw [lg_entry_eq]
  generalize (lg_sl ([.ref aM, .int h_, .int x_]) ++ List.replicate (3 - (lg_sl ([.ref aM, .int h_, .int x_])).length) Slot.unset).toArray = ls at hl ⊢
  have hl : lv_has ls 3 [(0, .ref aM), (1, .int h_), (2, .int x_)] := hl
  refine lv_aload_n hx hb dX6_foresee_0 rfl (lv_at hl 0 rfl) ?_
  refine lv_iconst (v := 0) hx hb dX6_foresee_1 (by decide) ?_
  refine va_put (D := D) (ci := 6) (v := .int 0) (ty := .int) (C := RX6) (T := TX6) (N := 8) hx hb hts iX6 tyX6 tyX6_ok nmX6 hown hKK.1 hP hD hS 0 rfl rfl 0 (by decide) (hts (.fieldLink RX6 1 "TrolleyGangModel" "thrown" "I") (List.mem_of_getElem? (i := 1) rfl)) (fun _ h9 => h9) rfl (by decide +kernel) rfl rfl (Nat.le_of_ble_eq_true rfl) dX6_foresee_2 (fun H locs hP hD hS => ?_)
  have hP : va_P D vwCl (cM aM ac as_ an ah 0 bu fd fn ++ cA cyI ac 8 cd ++ cA cyI as_ 12 sw ++ cA cyI an 121 rn ++ cA cyI ah 121 ra) H := hP
  have hD : va_D A (cM aM ac as_ an ah 0 bu fd fn ++ cA cyI ac 8 cd ++ cA cyI as_ 12 sw ++ cA cyI an 121 rn ++ cA cyI ah 121 ra) := hD
  refine lv_iload_n hx hb dX6_foresee_5 rfl (lv_at hl 1 rfl) ?_
  refine lv_iconst (v := 1) hx hb dX6_foresee_6 (by decide) ?_
  refine lv_bipush (v := 72) hx hb dX6_foresee_7 (by decide) ?_
  have hPc := hP.sub (ws' := ([] : va_W)) [] rfl
  have hDc := hD.sub (ws' := ([] : va_W)) [] (by decide) rfl
  refine ret_i (W1 := ([] : va_W)) (W2 := ([] : va_W)) (ws1 := (cM aM ac as_ an ah 0 bu fd fn ++ cA cyI ac 8 cd ++ cA cyI as_ 12 sw ++ cA cyI an 121 rn ++ cA cyI ah 121 ra)) (r := inI h_ 1 72) (run_S (n := 3) (As := [.int h_, .int 1, .int 72]) (rest := []) ⟨hx, hb, hml, hown, hts⟩ (c_X6_isIn l D cyI cyO cyL h_ 1 72 _) ggX6_foresee_X6_isIn rfl rfl rfl (hts (.methodLink RX6 32 yX6_isIn) (List.mem_of_getElem? (i := 3) rfl)) (hts (.initialized RX6) (List.mem_of_getElem? (i := 5) rfl)) (hts (.static yX6_isIn) (List.mem_of_getElem? (i := 4) rfl)) (by decide +kernel) ⟨Nat.le_of_ble_eq_true rfl, Nat.le_of_ble_eq_true rfl⟩ hKK hPc hDc rfl hl.1 rfl (Nat.le_of_ble_eq_true rfl) dX6_foresee_9 ⟨Nat.zero_le _, Nat.zero_le _⟩) hP hD hS hA [] rfl rfl [(false, 0), (false, 1), (false, 2), (false, 3), (false, 4)] (by decide +kernel) rfl (fun H locs hP hD hS => ?_)
  refine lv_if_ne (tgt := 21) hx hb dX6_foresee_12 (by decide) (fun h_1 => ?_) (fun h_1 => ?_)
  · skip
    exact absurd hbd h_1
  · skip
    refine lv_aload_n hx hb dX6_foresee_15 rfl (lv_at hl 0 rfl) ?_
    refine lv_iconst (v := 1) hx hb dX6_foresee_16 (by decide) ?_
    have hPc := hP.sub (ws' := (cM aM ac as_ an ah 0 bu fd fn)) [0] rfl
    have hDc := hD.sub (ws' := (cM aM ac as_ an ah 0 bu fd fn)) [0] (by decide) rfl
    refine ret_i (W1 := (cM aM ac as_ an ah 0 bu fd fn)) (W2 := (cM aM ac as_ an ah 1 bu fd fn)) (ws1 := (cM aM ac as_ an ah 1 bu fd fn ++ cA cyI ac 8 cd ++ cA cyI as_ 12 sw ++ cA cyI an 121 rn ++ cA cyI ah 121 ra)) (r := 0) (run_V (q := (RX6, TX6, 8)) (n := 1) (As := [.int 1]) (rest := []) ⟨hx, hb, hml, hown, hts⟩ (c_X6_no l D cyI cyO cyL aM ac as_ an ah 0 bu fd fn 1 _) ggX6_foresee_X6_no rfl rfl rfl (hts (.methodLink RX6 39 yX6_no) (List.mem_of_getElem? (i := 7) rfl)) (hts (.initialized RX6) (List.mem_of_getElem? (i := 5) rfl)) (hts (.instanceMethod yX6_no) (List.mem_of_getElem? (i := 8) rfl)) (hts (.selects RX6 yX6_no yX6_no) (List.mem_of_getElem? (i := 9) rfl)) (by decide +kernel) ⟨Nat.le_of_ble_eq_true rfl, Nat.le_of_ble_eq_true rfl⟩ hKK hPc hDc (ci := 6) (q0 := 0) rfl rfl rfl hl.1 rfl (Nat.le_of_ble_eq_true rfl) dX6_foresee_17 ⟨Nat.zero_le _, Nat.zero_le _⟩) hP hD hS hA [0] rfl rfl [(true, 0), (false, 1), (false, 2), (false, 3), (false, 4)] (by decide +kernel) rfl (fun H locs hP hD hS => ?_)
    exact end_i hx hb hrt hlocks rfl hP hS dX6_foresee_20
set_option maxHeartbeats 4000000 in
set_option maxRecDepth 100000 in
theorem c_X6_advise_b (l : Launch) (D : va_G) (cyI cyO cyL : ClassId) (aM : Nat) (ac : Nat) (as_ : Nat) (an : Nat) (ah : Nat) (th : Int32) (bu : Int32) (fd : Int32) (fn : Int32) (cd : Nat → Int32) (sw : Nat → Int32) (rn : Nat → Int32) (ra : Nat → Int32) (h_ : Int32) (hbd : inI h_ 1 48 = 0) : cI l yX6_advise wsX6_advise ({ frames := 1, cells := 0, slots := 0, locals := 22 }) D cyI cyO cyL [.ref aM, .int h_] (cM aM ac as_ an ah th bu fd fn ++ cA cyI ac 8 cd ++ cA cyI as_ 12 sw ++ cA cyI an 121 rn ++ cA cyI ah 121 ra) (cM aM ac as_ an ah 1 bu fd fn ++ cA cyI ac 8 cd ++ cA cyI as_ 12 sw ++ cA cyI an 121 rn ++ cA cyI ah 121 ra) 0 := by
  intro sz
  refine Met.ofW (cc := cX6_advise) (maxL := 6) (ret := (some .int)) (by decide) rfl ?_
  intro p e s m args below meth c s₁ B9 hml hv
  obtain ⟨rfl, hsz, hP, hKK, hD0⟩ := hv
  have hx := B9.exec
  have hb := B9.bytes
  have hrt := B9.returns
  have hts := atoms_spec (ws := wsX6_advise) B9.pre
  have hown : s.vm.findClass RX6 = some m.cls := findClass_of_methodNamed B9.named
  have hlocks := B9.notSynchronized
  have nw := fun {w : Cond} (h : w ∈ nw_all) => NW.use (args := ([.ref aM, .int h_] : List Value).toArray) hKK.2 h
  have iX6 : ∀ w ∈ wsX60, w ∈ wsX6_advise := fun _ h => List.mem_cons_of_mem _ (List.mem_append_right _ h)
  subst hsz
  have hD := hD0.self (sz := s.heap.size)
  generalize hAe : va_A (cM aM ac as_ an ah th bu fd fn ++ cA cyI ac 8 cd ++ cA cyI as_ 12 sw ++ cA cyI an 121 rn ++ cA cyI ah 121 ra) s.heap.size = A at hD ⊢
  have hA : ∀ q : Nat, s.heap.size ≤ q → A q := fun q h => by rw [← hAe]; exact Or.inr h
  have hS : va_S A s.heap s.heap [] := va_S.rf
  have hl := lv_entry ([.ref aM, .int h_]) (n := 6) (Nat.le_of_ble_eq_true rfl)
  rw [lg_entry_eq]
  generalize (lg_sl ([.ref aM, .int h_]) ++ List.replicate (6 - (lg_sl ([.ref aM, .int h_])).length) Slot.unset).toArray = ls at hl ⊢
  have hl : lv_has ls 6 [(0, .ref aM), (1, .int h_)] := hl
  refine lv_aload_n hx hb dX6_advise_0 rfl (lv_at hl 0 rfl) ?_
  refine lv_iconst (v := 0) hx hb dX6_advise_1 (by decide) ?_
  refine va_put (D := D) (ci := 6) (v := .int 0) (ty := .int) (C := RX6) (T := TX6) (N := 8) hx hb hts iX6 tyX6 tyX6_ok nmX6 hown hKK.1 hP hD hS 0 rfl rfl 0 (by decide) (hts (.fieldLink RX6 1 "TrolleyGangModel" "thrown" "I") (List.mem_of_getElem? (i := 1) rfl)) (fun _ h9 => h9) rfl (by decide +kernel) rfl rfl (Nat.le_of_ble_eq_true rfl) dX6_advise_2 (fun H locs hP hD hS => ?_)
  have hP : va_P D vwCl (cM aM ac as_ an ah 0 bu fd fn ++ cA cyI ac 8 cd ++ cA cyI as_ 12 sw ++ cA cyI an 121 rn ++ cA cyI ah 121 ra) H := hP
  have hD : va_D A (cM aM ac as_ an ah 0 bu fd fn ++ cA cyI ac 8 cd ++ cA cyI as_ 12 sw ++ cA cyI an 121 rn ++ cA cyI ah 121 ra) := hD
  refine lv_iload_n hx hb dX6_advise_5 rfl (lv_at hl 1 rfl) ?_
  refine lv_iconst (v := 1) hx hb dX6_advise_6 (by decide) ?_
  refine lv_bipush (v := 48) hx hb dX6_advise_7 (by decide) ?_
  have hPc := hP.sub (ws' := ([] : va_W)) [] rfl
  have hDc := hD.sub (ws' := ([] : va_W)) [] (by decide) rfl
  refine ret_i (W1 := ([] : va_W)) (W2 := ([] : va_W)) (ws1 := (cM aM ac as_ an ah 0 bu fd fn ++ cA cyI ac 8 cd ++ cA cyI as_ 12 sw ++ cA cyI an 121 rn ++ cA cyI ah 121 ra)) (r := inI h_ 1 48) (run_S (n := 3) (As := [.int h_, .int 1, .int 48]) (rest := []) ⟨hx, hb, hml, hown, hts⟩ (c_X6_isIn l D cyI cyO cyL h_ 1 48 _) ggX6_advise_X6_isIn rfl rfl rfl (hts (.methodLink RX6 32 yX6_isIn) (List.mem_of_getElem? (i := 2) rfl)) (hts (.initialized RX6) (List.mem_of_getElem? (i := 4) rfl)) (hts (.static yX6_isIn) (List.mem_of_getElem? (i := 3) rfl)) (by decide +kernel) ⟨Nat.le_of_ble_eq_true rfl, Nat.le_of_ble_eq_true rfl⟩ hKK hPc hDc rfl hl.1 rfl (Nat.le_of_ble_eq_true rfl) dX6_advise_9 ⟨Nat.zero_le _, Nat.zero_le _⟩) hP hD hS hA [] rfl rfl [(false, 0), (false, 1), (false, 2), (false, 3), (false, 4)] (by decide +kernel) rfl (fun H locs hP hD hS => ?_)
  refine lv_if_ne (tgt := 21) hx hb dX6_advise_12 (by decide) (fun h_1 => ?_) (fun h_1 => ?_)
  · skip
    exact absurd hbd h_1
  · skip
    refine lv_aload_n hx hb dX6_advise_15 rfl (lv_at hl 0 rfl) ?_
    refine lv_iconst (v := 1) hx hb dX6_advise_16 (by decide) ?_
    have hPc := hP.sub (ws' := (cM aM ac as_ an ah 0 bu fd fn)) [0] rfl
    have hDc := hD.sub (ws' := (cM aM ac as_ an ah 0 bu fd fn)) [0] (by decide) rfl
    refine ret_i (W1 := (cM aM ac as_ an ah 0 bu fd fn)) (W2 := (cM aM ac as_ an ah 1 bu fd fn)) (ws1 := (cM aM ac as_ an ah 1 bu fd fn ++ cA cyI ac 8 cd ++ cA cyI as_ 12 sw ++ cA cyI an 121 rn ++ cA cyI ah 121 ra)) (r := 0) (run_V (q := (RX6, TX6, 8)) (n := 1) (As := [.int 1]) (rest := []) ⟨hx, hb, hml, hown, hts⟩ (c_X6_no l D cyI cyO cyL aM ac as_ an ah 0 bu fd fn 1 _) ggX6_advise_X6_no rfl rfl rfl (hts (.methodLink RX6 39 yX6_no) (List.mem_of_getElem? (i := 6) rfl)) (hts (.initialized RX6) (List.mem_of_getElem? (i := 4) rfl)) (hts (.instanceMethod yX6_no) (List.mem_of_getElem? (i := 7) rfl)) (hts (.selects RX6 yX6_no yX6_no) (List.mem_of_getElem? (i := 8) rfl)) (by decide +kernel) ⟨Nat.le_of_ble_eq_true rfl, Nat.le_of_ble_eq_true rfl⟩ hKK hPc hDc (ci := 6) (q0 := 0) rfl rfl rfl hl.1 rfl (Nat.le_of_ble_eq_true rfl) dX6_advise_17 ⟨Nat.zero_le _, Nat.zero_le _⟩) hP hD hS hA [0] rfl rfl [(true, 0), (false, 1), (false, 2), (false, 3), (false, 4)] (by decide +kernel) rfl (fun H locs hP hD hS => ?_)
    exact end_i hx hb hrt hlocks rfl hP hS dX6_advise_20
set_option maxHeartbeats 4000000 in
set_option maxRecDepth 100000 in
theorem c_X6_pass_ (l : Launch) (D : va_G) (cyI cyO cyL : ClassId) (aM : Nat) (ac : Nat) (as_ : Nat) (an : Nat) (ah : Nat) (th : Int32) (bu : Int32) (fd : Int32) (fn : Int32) (cd : Nat → Int32) (sw : Nat → Int32) (rn : Nat → Int32) (ra : Nat → Int32) (h_ : Nat) (n : Nat) (M_ : Nat) (hn : n ≤ 6) (hbu : bu = nI n) (hok : OkN M_ rn) (hM : M_ + 300 < 2 ^ 30) (hsw : ∀ k, sw k = -1 ∨ vp_in (sw k) 24) (hh1 : 1 ≤ h_) (hh2 : h_ ≤ 72) : cI l yX6_pass_ wsX6_pass_ ({ frames := 5, cells := 0, slots := 0, locals := 109 }) D cyI cyO cyL [.ref aM, .int (nI h_)] (cM aM ac as_ an ah th bu fd fn ++ cA cyI ac 8 cd ++ cA cyI as_ 12 sw ++ cA cyI an 121 rn ++ cA cyI ah 121 ra) (cM aM ac as_ an ah 0 bu fd fn ++ cA cyI ac 8 cd ++ cA cyI as_ 12 sw ++ cA cyI an 121 (mpaL cd sw fd fn n h_ rn) ++ cA cyI ah 121 ra) ((mpaL cd sw fd fn n h_ rn) 119 - rn 119) := by
  intro sz
  refine Met.ofW (cc := cX6_pass_) (maxL := 3) (ret := (some .int)) (by decide) rfl ?_
  intro p e s m args below meth c s₁ B9 hml hv
  obtain ⟨rfl, hsz, hP, hKK, hD0⟩ := hv
  have hx := B9.exec
  have hb := B9.bytes
  have hrt := B9.returns
  have hts := atoms_spec (ws := wsX6_pass_) B9.pre
  have hown : s.vm.findClass RX6 = some m.cls := findClass_of_methodNamed B9.named
  have hlocks := B9.notSynchronized
  have nw := fun {w : Cond} (h : w ∈ nw_all) => NW.use (args := ([.ref aM, .int (nI h_)] : List Value).toArray) hKK.2 h
  have iX6 : ∀ w ∈ wsX60, w ∈ wsX6_pass_ := fun _ h => List.mem_cons_of_mem _ (List.mem_append_right _ h)
  subst hsz
  have hD := hD0.self (sz := s.heap.size)
  generalize hAe : va_A (cM aM ac as_ an ah th bu fd fn ++ cA cyI ac 8 cd ++ cA cyI as_ 12 sw ++ cA cyI an 121 rn ++ cA cyI ah 121 ra) s.heap.size = A at hD ⊢
  have hA : ∀ q : Nat, s.heap.size ≤ q → A q := fun q h => by rw [← hAe]; exact Or.inr h
  have hS : va_S A s.heap s.heap [] := va_S.rf
  have hl := lv_entry ([.ref aM, .int (nI h_)]) (n := 3) (Nat.le_of_ble_eq_true rfl)
  rw [lg_entry_eq]
  generalize (lg_sl ([.ref aM, .int (nI h_)]) ++ List.replicate (3 - (lg_sl ([.ref aM, .int (nI h_)])).length) Slot.unset).toArray = ls at hl ⊢
  have hl : lv_has ls 3 [(0, .ref aM), (1, .int (nI h_))] := hl
  refine lv_aload_n hx hb dX6_pass__0 rfl (lv_at hl 0 rfl) ?_
  refine lv_iconst (v := 0) hx hb dX6_pass__1 (by decide) ?_
  refine va_put (D := D) (ci := 6) (v := .int 0) (ty := .int) (C := RX6) (T := TX6) (N := 8) hx hb hts iX6 tyX6 tyX6_ok nmX6 hown hKK.1 hP hD hS 0 rfl rfl 0 (by decide) (hts (.fieldLink RX6 1 "TrolleyGangModel" "thrown" "I") (List.mem_of_getElem? (i := 1) rfl)) (fun _ h9 => h9) rfl (by decide +kernel) rfl rfl (Nat.le_of_ble_eq_true rfl) dX6_pass__2 (fun H locs hP hD hS => ?_)
  have hP : va_P D vwCl (cM aM ac as_ an ah 0 bu fd fn ++ cA cyI ac 8 cd ++ cA cyI as_ 12 sw ++ cA cyI an 121 rn ++ cA cyI ah 121 ra) H := hP
  have hD : va_D A (cM aM ac as_ an ah 0 bu fd fn ++ cA cyI ac 8 cd ++ cA cyI as_ 12 sw ++ cA cyI an 121 rn ++ cA cyI ah 121 ra) := hD
  refine lv_iload_n hx hb dX6_pass__5 rfl (lv_at hl 1 rfl) ?_
  refine lv_iconst (v := 1) hx hb dX6_pass__6 (by decide) ?_
  refine lv_bipush (v := 72) hx hb dX6_pass__7 (by decide) ?_
  have hPc := hP.sub (ws' := ([] : va_W)) [] rfl
  have hDc := hD.sub (ws' := ([] : va_W)) [] (by decide) rfl
  refine ret_i (W1 := ([] : va_W)) (W2 := ([] : va_W)) (ws1 := (cM aM ac as_ an ah 0 bu fd fn ++ cA cyI ac 8 cd ++ cA cyI as_ 12 sw ++ cA cyI an 121 rn ++ cA cyI ah 121 ra)) (r := inI (nI h_) 1 72) (run_S (n := 3) (As := [.int (nI h_), .int 1, .int 72]) (rest := []) ⟨hx, hb, hml, hown, hts⟩ (c_X6_isIn l D cyI cyO cyL (nI h_) 1 72 _) ggX6_pass__X6_isIn rfl rfl rfl (hts (.methodLink RX6 32 yX6_isIn) (List.mem_of_getElem? (i := 3) rfl)) (hts (.initialized RX6) (List.mem_of_getElem? (i := 5) rfl)) (hts (.static yX6_isIn) (List.mem_of_getElem? (i := 4) rfl)) (by decide +kernel) ⟨Nat.le_of_ble_eq_true rfl, Nat.le_of_ble_eq_true rfl⟩ hKK hPc hDc rfl hl.1 rfl (Nat.le_of_ble_eq_true rfl) dX6_pass__9 ⟨Nat.zero_le _, Nat.zero_le _⟩) hP hD hS hA [] rfl rfl [(false, 0), (false, 1), (false, 2), (false, 3), (false, 4)] (by decide +kernel) rfl (fun H locs hP hD hS => ?_)
  refine lv_if_ne (tgt := 21) hx hb dX6_pass__12 (by decide) (fun h_1 => ?_) (fun h_1 => ?_)
  · skip
    refine lv_aload_n hx hb dX6_pass__21 rfl (lv_at hl 0 rfl) ?_
    refine va_get (D := D) (ci := 6) (v := .ref an) (C := RX6) (T := TX6) (N := 8) hx hb hts iX6 hown hKK.1 hP 0 rfl rfl 6 (by decide) (hts (.fieldLink RX6 26 "TrolleyGangModel" "now" "[I") (List.mem_of_getElem? (i := 2) rfl)) (fun _ h9 => h9) rfl dX6_pass__22 ?_
    refine lv_bipush (v := 119) hx hb dX6_pass__25 (by decide) ?_
    refine va_iald hx hb hKK.1 hP 3 0 rfl rfl (hin := (vp_in_nI (n := 119) (by decide) (by decide))) dX6_pass__27 ?_
    refine lv_tope (y := rn 119) rfl ?_
    refine lv_istore_n (lv' := [(2, .int (rn 119)), (0, .ref aM), (1, .int (nI h_))]) hx hb dX6_pass__28 rfl hl (by decide) rfl (fun ls hl => ?_)
    refine lv_aload_n hx hb dX6_pass__29 rfl (lv_at hl 1 rfl) ?_
    refine lv_aload_n hx hb dX6_pass__30 rfl (lv_at hl 1 rfl) ?_
    refine va_get (D := D) (ci := 6) (v := .ref an) (C := RX6) (T := TX6) (N := 8) hx hb hts iX6 hown hKK.1 hP 0 rfl rfl 6 (by decide) (hts (.fieldLink RX6 26 "TrolleyGangModel" "now" "[I") (List.mem_of_getElem? (i := 2) rfl)) (fun _ h9 => h9) rfl dX6_pass__31 ?_
    refine lv_iload_n hx hb dX6_pass__34 rfl (lv_at hl 2 rfl) ?_
    have hPc := hP.sub (ws' := (cM aM ac as_ an ah 0 bu fd fn ++ cA cyI ac 8 cd ++ cA cyI as_ 12 sw ++ cA cyI an 121 rn)) [0, 1, 2, 3] rfl
    have hDc := hD.sub (ws' := (cM aM ac as_ an ah 0 bu fd fn ++ cA cyI ac 8 cd ++ cA cyI as_ 12 sw ++ cA cyI an 121 rn)) [0, 1, 2, 3] (by decide) rfl
    refine ret_v (W1 := (cM aM ac as_ an ah 0 bu fd fn ++ cA cyI ac 8 cd ++ cA cyI as_ 12 sw ++ cA cyI an 121 rn)) (W2 := (cM aM ac as_ an ah 0 bu fd fn ++ cA cyI ac 8 cd ++ cA cyI as_ 12 sw ++ cA cyI an 121 (mpaL cd sw fd fn n h_ rn))) (ws1 := (cM aM ac as_ an ah 0 bu fd fn ++ cA cyI ac 8 cd ++ cA cyI as_ 12 sw ++ cA cyI an 121 (mpaL cd sw fd fn n h_ rn) ++ cA cyI ah 121 ra)) (run_V (q := (RX6, TX6, 8)) (n := 2) (As := [.ref an, .int (nI h_)]) (rest := []) ⟨hx, hb, hml, hown, hts⟩ (c_X6_passAll l D cyI cyO cyL aM ac as_ an ah an 0 bu fd fn cd sw rn h_ n M_ hn hbu hok hM (by omega) hsw _) ggX6_pass__X6_passAll rfl rfl rfl (hts (.methodLink RX6 130 yX6_passAll) (List.mem_of_getElem? (i := 11) rfl)) (hts (.initialized RX6) (List.mem_of_getElem? (i := 5) rfl)) (hts (.instanceMethod yX6_passAll) (List.mem_of_getElem? (i := 12) rfl)) (hts (.selects RX6 yX6_passAll yX6_passAll) (List.mem_of_getElem? (i := 13) rfl)) (by decide +kernel) ⟨Nat.le_of_ble_eq_true rfl, Nat.le_of_ble_eq_true rfl⟩ hKK hPc hDc (ci := 6) (q0 := 0) rfl rfl rfl hl.1 rfl (Nat.le_of_ble_eq_true rfl) dX6_pass__35 ⟨Nat.zero_le _, Nat.zero_le _⟩) hP hD hS hA [0, 1, 2, 3] rfl rfl [(true, 0), (true, 1), (true, 2), (true, 3), (false, 4)] (by decide +kernel) rfl (fun H locs hP hD hS => ?_)
    refine lv_aload_n hx hb dX6_pass__38 rfl (lv_at hl 1 rfl) ?_
    refine va_get (D := D) (ci := 6) (v := .ref an) (C := RX6) (T := TX6) (N := 8) hx hb hts iX6 hown hKK.1 hP 0 rfl rfl 6 (by decide) (hts (.fieldLink RX6 26 "TrolleyGangModel" "now" "[I") (List.mem_of_getElem? (i := 2) rfl)) (fun _ h9 => h9) rfl dX6_pass__39 ?_
    refine lv_bipush (v := 119) hx hb dX6_pass__42 (by decide) ?_
    refine va_iald hx hb hKK.1 hP 3 0 rfl rfl (hin := (vp_in_nI (n := 119) (by decide) (by decide))) dX6_pass__44 ?_
    refine lv_tope (y := (mpaL cd sw fd fn n h_ rn) 119) rfl ?_
    refine lv_iload_n hx hb dX6_pass__45 rfl (lv_at hl 0 rfl) ?_
    refine lv_isub hx hb dX6_pass__46 ?_
    have e9_0 : ((mpaL cd sw fd fn n h_ rn) 119 - rn 119) = ((mpaL cd sw fd fn n h_ rn) 119) - (rn 119) := (by rfl)
    exact end_i hx hb hrt hlocks e9_0.symm hP hS dX6_pass__47
  · skip
    exact absurd h_1 (inI_h (lo := 1) (hi := 72) hh1 hh2 (by decide))
set_option maxHeartbeats 4000000 in
set_option maxRecDepth 100000 in
theorem c_X6_foresee (l : Launch) (D : va_G) (cyI cyO cyL : ClassId) (aM : Nat) (ac : Nat) (as_ : Nat) (an : Nat) (ah : Nat) (th : Int32) (bu : Int32) (fd : Int32) (fn : Int32) (cd : Nat → Int32) (sw : Nat → Int32) (rn : Nat → Int32) (ra : Nat → Int32) (x_ : Int32) (h_ : Nat) (n : Nat) (M_ : Nat) (hn : n ≤ 6) (hbu : bu = nI n) (hok : OkN M_ rn) (hM : M_ + 300 < 2 ^ 30) (hsw : ∀ k, sw k = -1 ∨ vp_in (sw k) 24) (hh1 : 1 ≤ h_) (hh2 : h_ ≤ 72) (hwx : x_ = 2 ∨ ¬ inI x_ 5 8 = 0) : cI l yX6_foresee wsX6_foresee ({ frames := 5, cells := 0, slots := 0, locals := 109 }) D cyI cyO cyL [.ref aM, .int (nI h_), .int x_] (cM aM ac as_ an ah th bu fd fn ++ cA cyI ac 8 cd ++ cA cyI as_ 12 sw ++ cA cyI an 121 rn ++ cA cyI ah 121 ra) (cM aM ac as_ an ah 0 bu fd fn ++ cA cyI ac 8 cd ++ cA cyI as_ 12 sw ++ cA cyI an 121 rn ++ cA cyI ah 121 (mpaL cd sw fd fn n h_ (va_cpy rn ra 0 0 121))) (msummed (mpaL cd sw fd fn n h_ (va_cpy rn ra 0 0 121)) n x_) := by
  intro sz
  refine Met.ofW (cc := cX6_foresee) (maxL := 3) (ret := (some .int)) (by decide) rfl ?_
  intro p e s m args below meth c s₁ B9 hml hv
  obtain ⟨rfl, hsz, hP, hKK, hD0⟩ := hv
  have hx := B9.exec
  have hb := B9.bytes
  have hrt := B9.returns
  have hts := atoms_spec (ws := wsX6_foresee) B9.pre
  have hown : s.vm.findClass RX6 = some m.cls := findClass_of_methodNamed B9.named
  have hlocks := B9.notSynchronized
  have nw := fun {w : Cond} (h : w ∈ nw_all) => NW.use (args := ([.ref aM, .int (nI h_), .int x_] : List Value).toArray) hKK.2 h
  have iX6 : ∀ w ∈ wsX60, w ∈ wsX6_foresee := fun _ h => List.mem_cons_of_mem _ (List.mem_append_right _ h)
  subst hsz
  have hD := hD0.self (sz := s.heap.size)
  generalize hAe : va_A (cM aM ac as_ an ah th bu fd fn ++ cA cyI ac 8 cd ++ cA cyI as_ 12 sw ++ cA cyI an 121 rn ++ cA cyI ah 121 ra) s.heap.size = A at hD ⊢
  have hA : ∀ q : Nat, s.heap.size ≤ q → A q := fun q h => by rw [← hAe]; exact Or.inr h
  have hS : va_S A s.heap s.heap [] := va_S.rf
  have hl := lv_entry ([.ref aM, .int (nI h_), .int x_]) (n := 3) (Nat.le_of_ble_eq_true rfl)
  rw [lg_entry_eq]
  generalize (lg_sl ([.ref aM, .int (nI h_), .int x_]) ++ List.replicate (3 - (lg_sl ([.ref aM, .int (nI h_), .int x_])).length) Slot.unset).toArray = ls at hl ⊢
  have hl : lv_has ls 3 [(0, .ref aM), (1, .int (nI h_)), (2, .int x_)] := hl
  refine lv_aload_n hx hb dX6_foresee_0 rfl (lv_at hl 0 rfl) ?_
  refine lv_iconst (v := 0) hx hb dX6_foresee_1 (by decide) ?_
  refine va_put (D := D) (ci := 6) (v := .int 0) (ty := .int) (C := RX6) (T := TX6) (N := 8) hx hb hts iX6 tyX6 tyX6_ok nmX6 hown hKK.1 hP hD hS 0 rfl rfl 0 (by decide) (hts (.fieldLink RX6 1 "TrolleyGangModel" "thrown" "I") (List.mem_of_getElem? (i := 1) rfl)) (fun _ h9 => h9) rfl (by decide +kernel) rfl rfl (Nat.le_of_ble_eq_true rfl) dX6_foresee_2 (fun H locs hP hD hS => ?_)
  have hP : va_P D vwCl (cM aM ac as_ an ah 0 bu fd fn ++ cA cyI ac 8 cd ++ cA cyI as_ 12 sw ++ cA cyI an 121 rn ++ cA cyI ah 121 ra) H := hP
  have hD : va_D A (cM aM ac as_ an ah 0 bu fd fn ++ cA cyI ac 8 cd ++ cA cyI as_ 12 sw ++ cA cyI an 121 rn ++ cA cyI ah 121 ra) := hD
  refine lv_iload_n hx hb dX6_foresee_5 rfl (lv_at hl 1 rfl) ?_
  refine lv_iconst (v := 1) hx hb dX6_foresee_6 (by decide) ?_
  refine lv_bipush (v := 72) hx hb dX6_foresee_7 (by decide) ?_
  have hPc := hP.sub (ws' := ([] : va_W)) [] rfl
  have hDc := hD.sub (ws' := ([] : va_W)) [] (by decide) rfl
  refine ret_i (W1 := ([] : va_W)) (W2 := ([] : va_W)) (ws1 := (cM aM ac as_ an ah 0 bu fd fn ++ cA cyI ac 8 cd ++ cA cyI as_ 12 sw ++ cA cyI an 121 rn ++ cA cyI ah 121 ra)) (r := inI (nI h_) 1 72) (run_S (n := 3) (As := [.int (nI h_), .int 1, .int 72]) (rest := []) ⟨hx, hb, hml, hown, hts⟩ (c_X6_isIn l D cyI cyO cyL (nI h_) 1 72 _) ggX6_foresee_X6_isIn rfl rfl rfl (hts (.methodLink RX6 32 yX6_isIn) (List.mem_of_getElem? (i := 3) rfl)) (hts (.initialized RX6) (List.mem_of_getElem? (i := 5) rfl)) (hts (.static yX6_isIn) (List.mem_of_getElem? (i := 4) rfl)) (by decide +kernel) ⟨Nat.le_of_ble_eq_true rfl, Nat.le_of_ble_eq_true rfl⟩ hKK hPc hDc rfl hl.1 rfl (Nat.le_of_ble_eq_true rfl) dX6_foresee_9 ⟨Nat.zero_le _, Nat.zero_le _⟩) hP hD hS hA [] rfl rfl [(false, 0), (false, 1), (false, 2), (false, 3), (false, 4)] (by decide +kernel) rfl (fun H locs hP hD hS => ?_)
  refine lv_if_ne (tgt := 21) hx hb dX6_foresee_12 (by decide) (fun h_1 => ?_) (fun h_1 => ?_)
  · skip
    refine lv_iload_n hx hb dX6_foresee_21 rfl (lv_at hl 2 rfl) ?_
    refine lv_iconst (v := 2) hx hb dX6_foresee_22 (by decide) ?_
    refine lv_icmp_eq (tgt := 42) hx hb dX6_foresee_23 (by decide) (fun h_2 => ?_) (fun h_2 => ?_)
    · skip
      refine lv_aload_n hx hb dX6_foresee_42 rfl (lv_at hl 0 rfl) ?_
      have hPc := hP.sub (ws' := (cM aM ac as_ an ah 0 bu fd fn ++ cA cyI an 121 rn ++ cA cyI ah 121 ra)) [0, 3, 4] rfl
      have hDc := hD.sub (ws' := (cM aM ac as_ an ah 0 bu fd fn ++ cA cyI an 121 rn ++ cA cyI ah 121 ra)) [0, 3, 4] (by decide) rfl
      refine ret_v (W1 := (cM aM ac as_ an ah 0 bu fd fn ++ cA cyI an 121 rn ++ cA cyI ah 121 ra)) (W2 := (cM aM ac as_ an ah 0 bu fd fn ++ cA cyI an 121 rn ++ cA cyI ah 121 (va_cpy rn ra 0 0 121))) (ws1 := (cM aM ac as_ an ah 0 bu fd fn ++ cA cyI ac 8 cd ++ cA cyI as_ 12 sw ++ cA cyI an 121 rn ++ cA cyI ah 121 (va_cpy rn ra 0 0 121))) (run_V (q := (RX6, TX6, 8)) (n := 0) (As := []) (rest := []) ⟨hx, hb, hml, hown, hts⟩ (c_X6_lookAhead l D cyI cyO cyL aM ac as_ an ah 0 bu fd fn rn ra _) ggX6_foresee_X6_lookAhead rfl rfl rfl (hts (.methodLink RX6 133 yX6_lookAhead) (List.mem_of_getElem? (i := 11) rfl)) (hts (.initialized RX6) (List.mem_of_getElem? (i := 5) rfl)) (hts (.instanceMethod yX6_lookAhead) (List.mem_of_getElem? (i := 12) rfl)) (hts (.selects RX6 yX6_lookAhead yX6_lookAhead) (List.mem_of_getElem? (i := 13) rfl)) (by decide +kernel) ⟨Nat.le_of_ble_eq_true rfl, Nat.le_of_ble_eq_true rfl⟩ hKK hPc hDc (ci := 6) (q0 := 0) rfl rfl rfl hl.1 rfl (Nat.le_of_ble_eq_true rfl) dX6_foresee_43 ⟨Nat.zero_le _, Nat.zero_le _⟩) hP hD hS hA [0, 3, 4] rfl rfl [(true, 0), (false, 1), (false, 2), (true, 1), (true, 2)] (by decide +kernel) rfl (fun H locs hP hD hS => ?_)
      refine lv_aload_n hx hb dX6_foresee_46 rfl (lv_at hl 0 rfl) ?_
      refine lv_aload_n hx hb dX6_foresee_47 rfl (lv_at hl 0 rfl) ?_
      refine va_get (D := D) (ci := 6) (v := .ref ah) (C := RX6) (T := TX6) (N := 8) hx hb hts iX6 hown hKK.1 hP 0 rfl rfl 7 (by decide) (hts (.fieldLink RX6 29 "TrolleyGangModel" "ahead" "[I") (List.mem_of_getElem? (i := 2) rfl)) (fun _ h9 => h9) rfl dX6_foresee_48 ?_
      refine lv_iload_n hx hb dX6_foresee_51 rfl (lv_at hl 1 rfl) ?_
      have hPc := hP.sub (ws' := (cM aM ac as_ an ah 0 bu fd fn ++ cA cyI ac 8 cd ++ cA cyI as_ 12 sw ++ cA cyI ah 121 (va_cpy rn ra 0 0 121))) [0, 1, 2, 4] rfl
      have hDc := hD.sub (ws' := (cM aM ac as_ an ah 0 bu fd fn ++ cA cyI ac 8 cd ++ cA cyI as_ 12 sw ++ cA cyI ah 121 (va_cpy rn ra 0 0 121))) [0, 1, 2, 4] (by decide) rfl
      refine ret_v (W1 := (cM aM ac as_ an ah 0 bu fd fn ++ cA cyI ac 8 cd ++ cA cyI as_ 12 sw ++ cA cyI ah 121 (va_cpy rn ra 0 0 121))) (W2 := (cM aM ac as_ an ah 0 bu fd fn ++ cA cyI ac 8 cd ++ cA cyI as_ 12 sw ++ cA cyI ah 121 (mpaL cd sw fd fn n h_ (va_cpy rn ra 0 0 121)))) (ws1 := (cM aM ac as_ an ah 0 bu fd fn ++ cA cyI ac 8 cd ++ cA cyI as_ 12 sw ++ cA cyI an 121 rn ++ cA cyI ah 121 (mpaL cd sw fd fn n h_ (va_cpy rn ra 0 0 121)))) (run_V (q := (RX6, TX6, 8)) (n := 2) (As := [.ref ah, .int (nI h_)]) (rest := []) ⟨hx, hb, hml, hown, hts⟩ (c_X6_passAll l D cyI cyO cyL aM ac as_ an ah ah 0 bu fd fn cd sw (va_cpy rn ra 0 0 121) h_ n M_ hn hbu (OkN_cpy hok) hM (by omega) hsw _) ggX6_foresee_X6_passAll rfl rfl rfl (hts (.methodLink RX6 130 yX6_passAll) (List.mem_of_getElem? (i := 20) rfl)) (hts (.initialized RX6) (List.mem_of_getElem? (i := 5) rfl)) (hts (.instanceMethod yX6_passAll) (List.mem_of_getElem? (i := 21) rfl)) (hts (.selects RX6 yX6_passAll yX6_passAll) (List.mem_of_getElem? (i := 22) rfl)) (by decide +kernel) ⟨Nat.le_of_ble_eq_true rfl, Nat.le_of_ble_eq_true rfl⟩ hKK hPc hDc (ci := 6) (q0 := 0) rfl rfl rfl hl.1 rfl (Nat.le_of_ble_eq_true rfl) dX6_foresee_52 ⟨Nat.zero_le _, Nat.zero_le _⟩) hP hD hS hA [0, 1, 2, 4] rfl rfl [(true, 0), (true, 1), (true, 2), (false, 3), (true, 3)] (by decide +kernel) rfl (fun H locs hP hD hS => ?_)
      refine lv_aload_n hx hb dX6_foresee_55 rfl (lv_at hl 0 rfl) ?_
      refine lv_aload_n hx hb dX6_foresee_56 rfl (lv_at hl 0 rfl) ?_
      refine va_get (D := D) (ci := 6) (v := .ref ah) (C := RX6) (T := TX6) (N := 8) hx hb hts iX6 hown hKK.1 hP 0 rfl rfl 7 (by decide) (hts (.fieldLink RX6 29 "TrolleyGangModel" "ahead" "[I") (List.mem_of_getElem? (i := 2) rfl)) (fun _ h9 => h9) rfl dX6_foresee_57 ?_
      refine lv_iload_n hx hb dX6_foresee_60 rfl (lv_at hl 2 rfl) ?_
      have hPc := hP.sub (ws' := (cM aM ac as_ an ah 0 bu fd fn ++ cA cyI ah 121 (mpaL cd sw fd fn n h_ (va_cpy rn ra 0 0 121)))) [0, 4] rfl
      have hDc := hD.sub (ws' := (cM aM ac as_ an ah 0 bu fd fn ++ cA cyI ah 121 (mpaL cd sw fd fn n h_ (va_cpy rn ra 0 0 121)))) [0, 4] (by decide) rfl
      refine ret_i (W1 := (cM aM ac as_ an ah 0 bu fd fn ++ cA cyI ah 121 (mpaL cd sw fd fn n h_ (va_cpy rn ra 0 0 121)))) (W2 := (cM aM ac as_ an ah 0 bu fd fn ++ cA cyI ah 121 (mpaL cd sw fd fn n h_ (va_cpy rn ra 0 0 121)))) (ws1 := (cM aM ac as_ an ah 0 bu fd fn ++ cA cyI ac 8 cd ++ cA cyI as_ 12 sw ++ cA cyI an 121 rn ++ cA cyI ah 121 (mpaL cd sw fd fn n h_ (va_cpy rn ra 0 0 121)))) (r := msummed (mpaL cd sw fd fn n h_ (va_cpy rn ra 0 0 121)) n x_) (run_V (q := (RX6, TX6, 8)) (n := 2) (As := [.ref ah, .int x_]) (rest := []) ⟨hx, hb, hml, hown, hts⟩ (c_X6_summed l D cyI cyO cyL aM ac as_ an ah ah 0 bu fd fn (mpaL cd sw fd fn n h_ (va_cpy rn ra 0 0 121)) x_ n (by first | assumption | omega) (by first | assumption | omega) _) ggX6_foresee_X6_summed rfl rfl rfl (hts (.methodLink RX6 98 yX6_summed) (List.mem_of_getElem? (i := 63) rfl)) (hts (.initialized RX6) (List.mem_of_getElem? (i := 5) rfl)) (hts (.instanceMethod yX6_summed) (List.mem_of_getElem? (i := 64) rfl)) (hts (.selects RX6 yX6_summed yX6_summed) (List.mem_of_getElem? (i := 65) rfl)) (by decide +kernel) ⟨Nat.le_of_ble_eq_true rfl, Nat.le_of_ble_eq_true rfl⟩ hKK hPc hDc (ci := 6) (q0 := 0) rfl rfl rfl hl.1 rfl (Nat.le_of_ble_eq_true rfl) dX6_foresee_61 ⟨Nat.zero_le _, Nat.zero_le _⟩) hP hD hS hA [0, 4] rfl rfl [(true, 0), (false, 1), (false, 2), (false, 3), (true, 1)] (by decide +kernel) rfl (fun H locs hP hD hS => ?_)
      exact end_i hx hb hrt hlocks rfl hP hS dX6_foresee_64
    · skip
      have hx2 := hwx.resolve_left h_2
      refine lv_iload_n hx hb dX6_foresee_26 rfl (lv_at hl 2 rfl) ?_
      refine lv_iconst (v := 5) hx hb dX6_foresee_27 (by decide) ?_
      refine lv_bipush (v := 8) hx hb dX6_foresee_28 (by decide) ?_
      have hPc := hP.sub (ws' := ([] : va_W)) [] rfl
      have hDc := hD.sub (ws' := ([] : va_W)) [] (by decide) rfl
      refine ret_i (W1 := ([] : va_W)) (W2 := ([] : va_W)) (ws1 := (cM aM ac as_ an ah 0 bu fd fn ++ cA cyI ac 8 cd ++ cA cyI as_ 12 sw ++ cA cyI an 121 rn ++ cA cyI ah 121 ra)) (r := inI x_ 5 8) (run_S (n := 3) (As := [.int x_, .int 5, .int 8]) (rest := []) ⟨hx, hb, hml, hown, hts⟩ (c_X6_isIn l D cyI cyO cyL x_ 5 8 _) ggX6_foresee_X6_isIn rfl rfl rfl (hts (.methodLink RX6 32 yX6_isIn) (List.mem_of_getElem? (i := 3) rfl)) (hts (.initialized RX6) (List.mem_of_getElem? (i := 5) rfl)) (hts (.static yX6_isIn) (List.mem_of_getElem? (i := 4) rfl)) (by decide +kernel) ⟨Nat.le_of_ble_eq_true rfl, Nat.le_of_ble_eq_true rfl⟩ hKK hPc hDc rfl hl.1 rfl (Nat.le_of_ble_eq_true rfl) dX6_foresee_30 ⟨Nat.zero_le _, Nat.zero_le _⟩) hP hD hS hA [] rfl rfl [(false, 0), (false, 1), (false, 2), (false, 3), (false, 4)] (by decide +kernel) rfl (fun H locs hP hD hS => ?_)
      refine lv_if_ne (tgt := 42) hx hb dX6_foresee_33 (by decide) (fun h_3 => ?_) (fun h_3 => ?_)
      · skip
        refine lv_aload_n hx hb dX6_foresee_42 rfl (lv_at hl 0 rfl) ?_
        have hPc := hP.sub (ws' := (cM aM ac as_ an ah 0 bu fd fn ++ cA cyI an 121 rn ++ cA cyI ah 121 ra)) [0, 3, 4] rfl
        have hDc := hD.sub (ws' := (cM aM ac as_ an ah 0 bu fd fn ++ cA cyI an 121 rn ++ cA cyI ah 121 ra)) [0, 3, 4] (by decide) rfl
        refine ret_v (W1 := (cM aM ac as_ an ah 0 bu fd fn ++ cA cyI an 121 rn ++ cA cyI ah 121 ra)) (W2 := (cM aM ac as_ an ah 0 bu fd fn ++ cA cyI an 121 rn ++ cA cyI ah 121 (va_cpy rn ra 0 0 121))) (ws1 := (cM aM ac as_ an ah 0 bu fd fn ++ cA cyI ac 8 cd ++ cA cyI as_ 12 sw ++ cA cyI an 121 rn ++ cA cyI ah 121 (va_cpy rn ra 0 0 121))) (run_V (q := (RX6, TX6, 8)) (n := 0) (As := []) (rest := []) ⟨hx, hb, hml, hown, hts⟩ (c_X6_lookAhead l D cyI cyO cyL aM ac as_ an ah 0 bu fd fn rn ra _) ggX6_foresee_X6_lookAhead rfl rfl rfl (hts (.methodLink RX6 133 yX6_lookAhead) (List.mem_of_getElem? (i := 11) rfl)) (hts (.initialized RX6) (List.mem_of_getElem? (i := 5) rfl)) (hts (.instanceMethod yX6_lookAhead) (List.mem_of_getElem? (i := 12) rfl)) (hts (.selects RX6 yX6_lookAhead yX6_lookAhead) (List.mem_of_getElem? (i := 13) rfl)) (by decide +kernel) ⟨Nat.le_of_ble_eq_true rfl, Nat.le_of_ble_eq_true rfl⟩ hKK hPc hDc (ci := 6) (q0 := 0) rfl rfl rfl hl.1 rfl (Nat.le_of_ble_eq_true rfl) dX6_foresee_43 ⟨Nat.zero_le _, Nat.zero_le _⟩) hP hD hS hA [0, 3, 4] rfl rfl [(true, 0), (false, 1), (false, 2), (true, 1), (true, 2)] (by decide +kernel) rfl (fun H locs hP hD hS => ?_)
        refine lv_aload_n hx hb dX6_foresee_46 rfl (lv_at hl 0 rfl) ?_
        refine lv_aload_n hx hb dX6_foresee_47 rfl (lv_at hl 0 rfl) ?_
        refine va_get (D := D) (ci := 6) (v := .ref ah) (C := RX6) (T := TX6) (N := 8) hx hb hts iX6 hown hKK.1 hP 0 rfl rfl 7 (by decide) (hts (.fieldLink RX6 29 "TrolleyGangModel" "ahead" "[I") (List.mem_of_getElem? (i := 2) rfl)) (fun _ h9 => h9) rfl dX6_foresee_48 ?_
        refine lv_iload_n hx hb dX6_foresee_51 rfl (lv_at hl 1 rfl) ?_
        have hPc := hP.sub (ws' := (cM aM ac as_ an ah 0 bu fd fn ++ cA cyI ac 8 cd ++ cA cyI as_ 12 sw ++ cA cyI ah 121 (va_cpy rn ra 0 0 121))) [0, 1, 2, 4] rfl
        have hDc := hD.sub (ws' := (cM aM ac as_ an ah 0 bu fd fn ++ cA cyI ac 8 cd ++ cA cyI as_ 12 sw ++ cA cyI ah 121 (va_cpy rn ra 0 0 121))) [0, 1, 2, 4] (by decide) rfl
        refine ret_v (W1 := (cM aM ac as_ an ah 0 bu fd fn ++ cA cyI ac 8 cd ++ cA cyI as_ 12 sw ++ cA cyI ah 121 (va_cpy rn ra 0 0 121))) (W2 := (cM aM ac as_ an ah 0 bu fd fn ++ cA cyI ac 8 cd ++ cA cyI as_ 12 sw ++ cA cyI ah 121 (mpaL cd sw fd fn n h_ (va_cpy rn ra 0 0 121)))) (ws1 := (cM aM ac as_ an ah 0 bu fd fn ++ cA cyI ac 8 cd ++ cA cyI as_ 12 sw ++ cA cyI an 121 rn ++ cA cyI ah 121 (mpaL cd sw fd fn n h_ (va_cpy rn ra 0 0 121)))) (run_V (q := (RX6, TX6, 8)) (n := 2) (As := [.ref ah, .int (nI h_)]) (rest := []) ⟨hx, hb, hml, hown, hts⟩ (c_X6_passAll l D cyI cyO cyL aM ac as_ an ah ah 0 bu fd fn cd sw (va_cpy rn ra 0 0 121) h_ n M_ hn hbu (OkN_cpy hok) hM (by omega) hsw _) ggX6_foresee_X6_passAll rfl rfl rfl (hts (.methodLink RX6 130 yX6_passAll) (List.mem_of_getElem? (i := 20) rfl)) (hts (.initialized RX6) (List.mem_of_getElem? (i := 5) rfl)) (hts (.instanceMethod yX6_passAll) (List.mem_of_getElem? (i := 21) rfl)) (hts (.selects RX6 yX6_passAll yX6_passAll) (List.mem_of_getElem? (i := 22) rfl)) (by decide +kernel) ⟨Nat.le_of_ble_eq_true rfl, Nat.le_of_ble_eq_true rfl⟩ hKK hPc hDc (ci := 6) (q0 := 0) rfl rfl rfl hl.1 rfl (Nat.le_of_ble_eq_true rfl) dX6_foresee_52 ⟨Nat.zero_le _, Nat.zero_le _⟩) hP hD hS hA [0, 1, 2, 4] rfl rfl [(true, 0), (true, 1), (true, 2), (false, 3), (true, 3)] (by decide +kernel) rfl (fun H locs hP hD hS => ?_)
        refine lv_aload_n hx hb dX6_foresee_55 rfl (lv_at hl 0 rfl) ?_
        refine lv_aload_n hx hb dX6_foresee_56 rfl (lv_at hl 0 rfl) ?_
        refine va_get (D := D) (ci := 6) (v := .ref ah) (C := RX6) (T := TX6) (N := 8) hx hb hts iX6 hown hKK.1 hP 0 rfl rfl 7 (by decide) (hts (.fieldLink RX6 29 "TrolleyGangModel" "ahead" "[I") (List.mem_of_getElem? (i := 2) rfl)) (fun _ h9 => h9) rfl dX6_foresee_57 ?_
        refine lv_iload_n hx hb dX6_foresee_60 rfl (lv_at hl 2 rfl) ?_
        have hPc := hP.sub (ws' := (cM aM ac as_ an ah 0 bu fd fn ++ cA cyI ah 121 (mpaL cd sw fd fn n h_ (va_cpy rn ra 0 0 121)))) [0, 4] rfl
        have hDc := hD.sub (ws' := (cM aM ac as_ an ah 0 bu fd fn ++ cA cyI ah 121 (mpaL cd sw fd fn n h_ (va_cpy rn ra 0 0 121)))) [0, 4] (by decide) rfl
        refine ret_i (W1 := (cM aM ac as_ an ah 0 bu fd fn ++ cA cyI ah 121 (mpaL cd sw fd fn n h_ (va_cpy rn ra 0 0 121)))) (W2 := (cM aM ac as_ an ah 0 bu fd fn ++ cA cyI ah 121 (mpaL cd sw fd fn n h_ (va_cpy rn ra 0 0 121)))) (ws1 := (cM aM ac as_ an ah 0 bu fd fn ++ cA cyI ac 8 cd ++ cA cyI as_ 12 sw ++ cA cyI an 121 rn ++ cA cyI ah 121 (mpaL cd sw fd fn n h_ (va_cpy rn ra 0 0 121)))) (r := msummed (mpaL cd sw fd fn n h_ (va_cpy rn ra 0 0 121)) n x_) (run_V (q := (RX6, TX6, 8)) (n := 2) (As := [.ref ah, .int x_]) (rest := []) ⟨hx, hb, hml, hown, hts⟩ (c_X6_summed l D cyI cyO cyL aM ac as_ an ah ah 0 bu fd fn (mpaL cd sw fd fn n h_ (va_cpy rn ra 0 0 121)) x_ n (by first | assumption | omega) (by first | assumption | omega) _) ggX6_foresee_X6_summed rfl rfl rfl (hts (.methodLink RX6 98 yX6_summed) (List.mem_of_getElem? (i := 63) rfl)) (hts (.initialized RX6) (List.mem_of_getElem? (i := 5) rfl)) (hts (.instanceMethod yX6_summed) (List.mem_of_getElem? (i := 64) rfl)) (hts (.selects RX6 yX6_summed yX6_summed) (List.mem_of_getElem? (i := 65) rfl)) (by decide +kernel) ⟨Nat.le_of_ble_eq_true rfl, Nat.le_of_ble_eq_true rfl⟩ hKK hPc hDc (ci := 6) (q0 := 0) rfl rfl rfl hl.1 rfl (Nat.le_of_ble_eq_true rfl) dX6_foresee_61 ⟨Nat.zero_le _, Nat.zero_le _⟩) hP hD hS hA [0, 4] rfl rfl [(true, 0), (false, 1), (false, 2), (false, 3), (true, 1)] (by decide +kernel) rfl (fun H locs hP hD hS => ?_)
        exact end_i hx hb hrt hlocks rfl hP hS dX6_foresee_64
      · skip
        exact absurd h_3 hx2
  · skip
    exact absurd h_1 (inI_h (lo := 1) (hi := 72) hh1 hh2 (by decide))
set_option maxHeartbeats 4000000 in
set_option maxRecDepth 100000 in
theorem c_X6_foresee_b2 (l : Launch) (D : va_G) (cyI cyO cyL : ClassId) (aM : Nat) (ac : Nat) (as_ : Nat) (an : Nat) (ah : Nat) (th : Int32) (bu : Int32) (fd : Int32) (fn : Int32) (cd : Nat → Int32) (sw : Nat → Int32) (rn : Nat → Int32) (ra : Nat → Int32) (x_ : Int32) (h_ : Nat) (hh1 : 1 ≤ h_) (hh2 : h_ ≤ 72) (hwx : ¬ x_ = 2 ∧ inI x_ 5 8 = 0) : cI l yX6_foresee wsX6_foresee ({ frames := 1, cells := 0, slots := 0, locals := 22 }) D cyI cyO cyL [.ref aM, .int (nI h_), .int x_] (cM aM ac as_ an ah th bu fd fn ++ cA cyI ac 8 cd ++ cA cyI as_ 12 sw ++ cA cyI an 121 rn ++ cA cyI ah 121 ra) (cM aM ac as_ an ah 2 bu fd fn ++ cA cyI ac 8 cd ++ cA cyI as_ 12 sw ++ cA cyI an 121 rn ++ cA cyI ah 121 ra) 0 := by
  intro sz
  refine Met.ofW (cc := cX6_foresee) (maxL := 3) (ret := (some .int)) (by decide) rfl ?_
  intro p e s m args below meth c s₁ B9 hml hv
  obtain ⟨rfl, hsz, hP, hKK, hD0⟩ := hv
  have hx := B9.exec
  have hb := B9.bytes
  have hrt := B9.returns
  have hts := atoms_spec (ws := wsX6_foresee) B9.pre
  have hown : s.vm.findClass RX6 = some m.cls := findClass_of_methodNamed B9.named
  have hlocks := B9.notSynchronized
  have nw := fun {w : Cond} (h : w ∈ nw_all) => NW.use (args := ([.ref aM, .int (nI h_), .int x_] : List Value).toArray) hKK.2 h
  have iX6 : ∀ w ∈ wsX60, w ∈ wsX6_foresee := fun _ h => List.mem_cons_of_mem _ (List.mem_append_right _ h)
  subst hsz
  have hD := hD0.self (sz := s.heap.size)
  generalize hAe : va_A (cM aM ac as_ an ah th bu fd fn ++ cA cyI ac 8 cd ++ cA cyI as_ 12 sw ++ cA cyI an 121 rn ++ cA cyI ah 121 ra) s.heap.size = A at hD ⊢
  have hA : ∀ q : Nat, s.heap.size ≤ q → A q := fun q h => by rw [← hAe]; exact Or.inr h
  have hS : va_S A s.heap s.heap [] := va_S.rf
  have hl := lv_entry ([.ref aM, .int (nI h_), .int x_]) (n := 3) (Nat.le_of_ble_eq_true rfl)
  rw [lg_entry_eq]
  generalize (lg_sl ([.ref aM, .int (nI h_), .int x_]) ++ List.replicate (3 - (lg_sl ([.ref aM, .int (nI h_), .int x_])).length) Slot.unset).toArray = ls at hl ⊢
  have hl : lv_has ls 3 [(0, .ref aM), (1, .int (nI h_)), (2, .int x_)] := hl
  refine lv_aload_n hx hb dX6_foresee_0 rfl (lv_at hl 0 rfl) ?_
  refine lv_iconst (v := 0) hx hb dX6_foresee_1 (by decide) ?_
  refine va_put (D := D) (ci := 6) (v := .int 0) (ty := .int) (C := RX6) (T := TX6) (N := 8) hx hb hts iX6 tyX6 tyX6_ok nmX6 hown hKK.1 hP hD hS 0 rfl rfl 0 (by decide) (hts (.fieldLink RX6 1 "TrolleyGangModel" "thrown" "I") (List.mem_of_getElem? (i := 1) rfl)) (fun _ h9 => h9) rfl (by decide +kernel) rfl rfl (Nat.le_of_ble_eq_true rfl) dX6_foresee_2 (fun H locs hP hD hS => ?_)
  have hP : va_P D vwCl (cM aM ac as_ an ah 0 bu fd fn ++ cA cyI ac 8 cd ++ cA cyI as_ 12 sw ++ cA cyI an 121 rn ++ cA cyI ah 121 ra) H := hP
  have hD : va_D A (cM aM ac as_ an ah 0 bu fd fn ++ cA cyI ac 8 cd ++ cA cyI as_ 12 sw ++ cA cyI an 121 rn ++ cA cyI ah 121 ra) := hD
  refine lv_iload_n hx hb dX6_foresee_5 rfl (lv_at hl 1 rfl) ?_
  refine lv_iconst (v := 1) hx hb dX6_foresee_6 (by decide) ?_
  refine lv_bipush (v := 72) hx hb dX6_foresee_7 (by decide) ?_
  have hPc := hP.sub (ws' := ([] : va_W)) [] rfl
  have hDc := hD.sub (ws' := ([] : va_W)) [] (by decide) rfl
  refine ret_i (W1 := ([] : va_W)) (W2 := ([] : va_W)) (ws1 := (cM aM ac as_ an ah 0 bu fd fn ++ cA cyI ac 8 cd ++ cA cyI as_ 12 sw ++ cA cyI an 121 rn ++ cA cyI ah 121 ra)) (r := inI (nI h_) 1 72) (run_S (n := 3) (As := [.int (nI h_), .int 1, .int 72]) (rest := []) ⟨hx, hb, hml, hown, hts⟩ (c_X6_isIn l D cyI cyO cyL (nI h_) 1 72 _) ggX6_foresee_X6_isIn rfl rfl rfl (hts (.methodLink RX6 32 yX6_isIn) (List.mem_of_getElem? (i := 3) rfl)) (hts (.initialized RX6) (List.mem_of_getElem? (i := 5) rfl)) (hts (.static yX6_isIn) (List.mem_of_getElem? (i := 4) rfl)) (by decide +kernel) ⟨Nat.le_of_ble_eq_true rfl, Nat.le_of_ble_eq_true rfl⟩ hKK hPc hDc rfl hl.1 rfl (Nat.le_of_ble_eq_true rfl) dX6_foresee_9 ⟨Nat.zero_le _, Nat.zero_le _⟩) hP hD hS hA [] rfl rfl [(false, 0), (false, 1), (false, 2), (false, 3), (false, 4)] (by decide +kernel) rfl (fun H locs hP hD hS => ?_)
  refine lv_if_ne (tgt := 21) hx hb dX6_foresee_12 (by decide) (fun h_1 => ?_) (fun h_1 => ?_)
  · skip
    refine lv_iload_n hx hb dX6_foresee_21 rfl (lv_at hl 2 rfl) ?_
    refine lv_iconst (v := 2) hx hb dX6_foresee_22 (by decide) ?_
    refine lv_icmp_eq (tgt := 42) hx hb dX6_foresee_23 (by decide) (fun h_2 => ?_) (fun h_2 => ?_)
    · skip
      exact absurd h_2 hwx.1
    · skip
      refine lv_iload_n hx hb dX6_foresee_26 rfl (lv_at hl 2 rfl) ?_
      refine lv_iconst (v := 5) hx hb dX6_foresee_27 (by decide) ?_
      refine lv_bipush (v := 8) hx hb dX6_foresee_28 (by decide) ?_
      have hPc := hP.sub (ws' := ([] : va_W)) [] rfl
      have hDc := hD.sub (ws' := ([] : va_W)) [] (by decide) rfl
      refine ret_i (W1 := ([] : va_W)) (W2 := ([] : va_W)) (ws1 := (cM aM ac as_ an ah 0 bu fd fn ++ cA cyI ac 8 cd ++ cA cyI as_ 12 sw ++ cA cyI an 121 rn ++ cA cyI ah 121 ra)) (r := inI x_ 5 8) (run_S (n := 3) (As := [.int x_, .int 5, .int 8]) (rest := []) ⟨hx, hb, hml, hown, hts⟩ (c_X6_isIn l D cyI cyO cyL x_ 5 8 _) ggX6_foresee_X6_isIn rfl rfl rfl (hts (.methodLink RX6 32 yX6_isIn) (List.mem_of_getElem? (i := 3) rfl)) (hts (.initialized RX6) (List.mem_of_getElem? (i := 5) rfl)) (hts (.static yX6_isIn) (List.mem_of_getElem? (i := 4) rfl)) (by decide +kernel) ⟨Nat.le_of_ble_eq_true rfl, Nat.le_of_ble_eq_true rfl⟩ hKK hPc hDc rfl hl.1 rfl (Nat.le_of_ble_eq_true rfl) dX6_foresee_30 ⟨Nat.zero_le _, Nat.zero_le _⟩) hP hD hS hA [] rfl rfl [(false, 0), (false, 1), (false, 2), (false, 3), (false, 4)] (by decide +kernel) rfl (fun H locs hP hD hS => ?_)
      refine lv_if_ne (tgt := 42) hx hb dX6_foresee_33 (by decide) (fun h_3 => ?_) (fun h_3 => ?_)
      · skip
        exact absurd hwx.2 h_3
      · skip
        refine lv_aload_n hx hb dX6_foresee_36 rfl (lv_at hl 0 rfl) ?_
        refine lv_iconst (v := 2) hx hb dX6_foresee_37 (by decide) ?_
        have hPc := hP.sub (ws' := (cM aM ac as_ an ah 0 bu fd fn)) [0] rfl
        have hDc := hD.sub (ws' := (cM aM ac as_ an ah 0 bu fd fn)) [0] (by decide) rfl
        refine ret_i (W1 := (cM aM ac as_ an ah 0 bu fd fn)) (W2 := (cM aM ac as_ an ah 2 bu fd fn)) (ws1 := (cM aM ac as_ an ah 2 bu fd fn ++ cA cyI ac 8 cd ++ cA cyI as_ 12 sw ++ cA cyI an 121 rn ++ cA cyI ah 121 ra)) (r := 0) (run_V (q := (RX6, TX6, 8)) (n := 1) (As := [.int 2]) (rest := []) ⟨hx, hb, hml, hown, hts⟩ (c_X6_no l D cyI cyO cyL aM ac as_ an ah 0 bu fd fn 2 _) ggX6_foresee_X6_no rfl rfl rfl (hts (.methodLink RX6 39 yX6_no) (List.mem_of_getElem? (i := 7) rfl)) (hts (.initialized RX6) (List.mem_of_getElem? (i := 5) rfl)) (hts (.instanceMethod yX6_no) (List.mem_of_getElem? (i := 8) rfl)) (hts (.selects RX6 yX6_no yX6_no) (List.mem_of_getElem? (i := 9) rfl)) (by decide +kernel) ⟨Nat.le_of_ble_eq_true rfl, Nat.le_of_ble_eq_true rfl⟩ hKK hPc hDc (ci := 6) (q0 := 0) rfl rfl rfl hl.1 rfl (Nat.le_of_ble_eq_true rfl) dX6_foresee_38 ⟨Nat.zero_le _, Nat.zero_le _⟩) hP hD hS hA [0] rfl rfl [(true, 0), (false, 1), (false, 2), (false, 3), (false, 4)] (by decide +kernel) rfl (fun H locs hP hD hS => ?_)
        exact end_i hx hb hrt hlocks rfl hP hS dX6_foresee_41
  · skip
    exact absurd h_1 (inI_h (lo := 1) (hi := 72) hh1 hh2 (by decide))
set_option maxHeartbeats 4000000 in
set_option maxRecDepth 100000 in
theorem c_X6_coinsWith (l : Launch) (D : va_G) (cyI cyO cyL : ClassId) (aM : Nat) (ac : Nat) (as_ : Nat) (an : Nat) (ah : Nat) (th : Int32) (bu : Int32) (fd : Int32) (fn : Int32) (cd : Nat → Int32) (sw : Nat → Int32) (rn : Nat → Int32) (ra : Nat → Int32) (s_ : Int32) (h_ : Nat) (n : Nat) (M_ : Nat) (hn : n ≤ 6) (hbu : bu = nI n) (hok : OkN M_ rn) (hM : M_ + 300 < 2 ^ 30) (hsw : ∀ k, sw k = -1 ∨ vp_in (sw k) 24) (hh : h_ ≤ 48) (hs : s_ = -1 ∨ vp_in s_ 24) : cI l yX6_coinsWith wsX6_coinsWith ({ frames := 5, cells := 0, slots := 0, locals := 109 }) D cyI cyO cyL [.ref aM, .int s_, .int (nI h_)] (cM aM ac as_ an ah th bu fd fn ++ cA cyI ac 8 cd ++ cA cyI as_ 12 sw ++ cA cyI an 121 rn ++ cA cyI ah 121 ra) (cM aM ac as_ an ah th bu fd fn ++ cA cyI ac 8 cd ++ cA cyI as_ 12 sw ++ cA cyI an 121 rn ++ cA cyI ah 121 (mcw cd sw fd fn n h_ rn s_ ra)) ((mcw cd sw fd fn n h_ rn s_ ra) 119) := by
  intro sz
  refine Met.ofW (cc := cX6_coinsWith) (maxL := 3) (ret := (some .int)) (by decide) rfl ?_
  intro p e s m args below meth c s₁ B9 hml hv
  obtain ⟨rfl, hsz, hP, hKK, hD0⟩ := hv
  have hx := B9.exec
  have hb := B9.bytes
  have hrt := B9.returns
  have hts := atoms_spec (ws := wsX6_coinsWith) B9.pre
  have hown : s.vm.findClass RX6 = some m.cls := findClass_of_methodNamed B9.named
  have hlocks := B9.notSynchronized
  have nw := fun {w : Cond} (h : w ∈ nw_all) => NW.use (args := ([.ref aM, .int s_, .int (nI h_)] : List Value).toArray) hKK.2 h
  have iX6 : ∀ w ∈ wsX60, w ∈ wsX6_coinsWith := fun _ h => List.mem_cons_of_mem _ (List.mem_append_right _ h)
  subst hsz
  have hD := hD0.self (sz := s.heap.size)
  generalize hAe : va_A (cM aM ac as_ an ah th bu fd fn ++ cA cyI ac 8 cd ++ cA cyI as_ 12 sw ++ cA cyI an 121 rn ++ cA cyI ah 121 ra) s.heap.size = A at hD ⊢
  have hA : ∀ q : Nat, s.heap.size ≤ q → A q := fun q h => by rw [← hAe]; exact Or.inr h
  have hS : va_S A s.heap s.heap [] := va_S.rf
  have hl := lv_entry ([.ref aM, .int s_, .int (nI h_)]) (n := 3) (Nat.le_of_ble_eq_true rfl)
  rw [lg_entry_eq]
  generalize (lg_sl ([.ref aM, .int s_, .int (nI h_)]) ++ List.replicate (3 - (lg_sl ([.ref aM, .int s_, .int (nI h_)])).length) Slot.unset).toArray = ls at hl ⊢
  have hl : lv_has ls 3 [(0, .ref aM), (1, .int s_), (2, .int (nI h_))] := hl
  refine lv_aload_n hx hb dX6_coinsWith_0 rfl (lv_at hl 0 rfl) ?_
  have hPc := hP.sub (ws' := (cM aM ac as_ an ah th bu fd fn ++ cA cyI an 121 rn ++ cA cyI ah 121 ra)) [0, 3, 4] rfl
  have hDc := hD.sub (ws' := (cM aM ac as_ an ah th bu fd fn ++ cA cyI an 121 rn ++ cA cyI ah 121 ra)) [0, 3, 4] (by decide) rfl
  refine ret_v (W1 := (cM aM ac as_ an ah th bu fd fn ++ cA cyI an 121 rn ++ cA cyI ah 121 ra)) (W2 := (cM aM ac as_ an ah th bu fd fn ++ cA cyI an 121 rn ++ cA cyI ah 121 (va_cpy rn ra 0 0 121))) (ws1 := (cM aM ac as_ an ah th bu fd fn ++ cA cyI ac 8 cd ++ cA cyI as_ 12 sw ++ cA cyI an 121 rn ++ cA cyI ah 121 (va_cpy rn ra 0 0 121))) (run_V (q := (RX6, TX6, 8)) (n := 0) (As := []) (rest := []) ⟨hx, hb, hml, hown, hts⟩ (c_X6_lookAhead l D cyI cyO cyL aM ac as_ an ah th bu fd fn rn ra _) ggX6_coinsWith_X6_lookAhead rfl rfl rfl (hts (.methodLink RX6 133 yX6_lookAhead) (List.mem_of_getElem? (i := 2) rfl)) (hts (.initialized RX6) (List.mem_of_getElem? (i := 5) rfl)) (hts (.instanceMethod yX6_lookAhead) (List.mem_of_getElem? (i := 3) rfl)) (hts (.selects RX6 yX6_lookAhead yX6_lookAhead) (List.mem_of_getElem? (i := 4) rfl)) (by decide +kernel) ⟨Nat.le_of_ble_eq_true rfl, Nat.le_of_ble_eq_true rfl⟩ hKK hPc hDc (ci := 6) (q0 := 0) rfl rfl rfl hl.1 rfl (Nat.le_of_ble_eq_true rfl) dX6_coinsWith_1 ⟨Nat.zero_le _, Nat.zero_le _⟩) hP hD hS hA [0, 3, 4] rfl rfl [(true, 0), (false, 1), (false, 2), (true, 1), (true, 2)] (by decide +kernel) rfl (fun H locs hP hD hS => ?_)
  refine lv_aload_n hx hb dX6_coinsWith_4 rfl (lv_at hl 0 rfl) ?_
  refine va_get (D := D) (ci := 6) (v := .ref ah) (C := RX6) (T := TX6) (N := 8) hx hb hts iX6 hown hKK.1 hP 0 rfl rfl 7 (by decide) (hts (.fieldLink RX6 29 "TrolleyGangModel" "ahead" "[I") (List.mem_of_getElem? (i := 1) rfl)) (fun _ h9 => h9) rfl dX6_coinsWith_5 ?_
  refine lv_bipush (v := 109) hx hb dX6_coinsWith_8 (by decide) ?_
  refine lv_iload_n hx hb dX6_coinsWith_10 rfl (lv_at hl 1 rfl) ?_
  refine lv_if_ge (tgt := 18) hx hb dX6_coinsWith_11 (by decide) (fun h_1 => ?_) (fun h_1 => ?_)
  · skip
    refine lv_iconst (v := 1) hx hb dX6_coinsWith_18 (by decide) ?_
    refine va_iast hx hb hKK.1 hP hD hS 4 0 rfl rfl (hin := (vp_in_nI (n := 109) (by decide) (by decide))) dX6_coinsWith_19 (fun H locs hP hD hS => ?_)
    have hP : va_P D vwCl (cM aM ac as_ an ah th bu fd fn ++ cA cyI ac 8 cd ++ cA cyI as_ 12 sw ++ cA cyI an 121 rn ++ cA cyI ah 121 (upd (va_cpy rn ra 0 0 121) 109 1)) H := hP
    have hD : va_D A (cM aM ac as_ an ah th bu fd fn ++ cA cyI ac 8 cd ++ cA cyI as_ 12 sw ++ cA cyI an 121 rn ++ cA cyI ah 121 (upd (va_cpy rn ra 0 0 121) 109 1)) := hD
    refine lv_aload_n hx hb dX6_coinsWith_20 rfl (lv_at hl 0 rfl) ?_
    refine va_get (D := D) (ci := 6) (v := .ref ah) (C := RX6) (T := TX6) (N := 8) hx hb hts iX6 hown hKK.1 hP 0 rfl rfl 7 (by decide) (hts (.fieldLink RX6 29 "TrolleyGangModel" "ahead" "[I") (List.mem_of_getElem? (i := 1) rfl)) (fun _ h9 => h9) rfl dX6_coinsWith_21 ?_
    refine lv_bipush (v := 113) hx hb dX6_coinsWith_24 (by decide) ?_
    refine lv_iload_n hx hb dX6_coinsWith_26 rfl (lv_at hl 1 rfl) ?_
    refine va_iast hx hb hKK.1 hP hD hS 4 0 rfl rfl (hin := (vp_in_nI (n := 113) (by decide) (by decide))) dX6_coinsWith_27 (fun H locs hP hD hS => ?_)
    have hP : va_P D vwCl (cM aM ac as_ an ah th bu fd fn ++ cA cyI ac 8 cd ++ cA cyI as_ 12 sw ++ cA cyI an 121 rn ++ cA cyI ah 121 (upd (upd (va_cpy rn ra 0 0 121) 109 1) 113 s_)) H := hP
    have hD : va_D A (cM aM ac as_ an ah th bu fd fn ++ cA cyI ac 8 cd ++ cA cyI as_ 12 sw ++ cA cyI an 121 rn ++ cA cyI ah 121 (upd (upd (va_cpy rn ra 0 0 121) 109 1) 113 s_)) := hD
    refine lv_aload_n hx hb dX6_coinsWith_28 rfl (lv_at hl 0 rfl) ?_
    refine va_get (D := D) (ci := 6) (v := .ref ah) (C := RX6) (T := TX6) (N := 8) hx hb hts iX6 hown hKK.1 hP 0 rfl rfl 7 (by decide) (hts (.fieldLink RX6 29 "TrolleyGangModel" "ahead" "[I") (List.mem_of_getElem? (i := 1) rfl)) (fun _ h9 => h9) rfl dX6_coinsWith_29 ?_
    refine lv_bipush (v := 110) hx hb dX6_coinsWith_32 (by decide) ?_
    refine lv_iconst (v := 0) hx hb dX6_coinsWith_34 (by decide) ?_
    refine va_iast hx hb hKK.1 hP hD hS 4 0 rfl rfl (hin := (vp_in_nI (n := 110) (by decide) (by decide))) dX6_coinsWith_35 (fun H locs hP hD hS => ?_)
    have hP : va_P D vwCl (cM aM ac as_ an ah th bu fd fn ++ cA cyI ac 8 cd ++ cA cyI as_ 12 sw ++ cA cyI an 121 rn ++ cA cyI ah 121 (upd (upd (upd (va_cpy rn ra 0 0 121) 109 1) 113 s_) 110 0)) H := hP
    have hD : va_D A (cM aM ac as_ an ah th bu fd fn ++ cA cyI ac 8 cd ++ cA cyI as_ 12 sw ++ cA cyI an 121 rn ++ cA cyI ah 121 (upd (upd (upd (va_cpy rn ra 0 0 121) 109 1) 113 s_) 110 0)) := hD
    have e6_2 : upd (upd (upd (va_cpy rn ra 0 0 121) 109 1) 113 s_) 110 0 = mhv (va_cpy rn ra 0 0 121) s_ := (by simp only [mhv, h_1, if_true, if_false])
    rw [e6_2] at hP hD
    have hP : va_P D vwCl (cM aM ac as_ an ah th bu fd fn ++ cA cyI ac 8 cd ++ cA cyI as_ 12 sw ++ cA cyI an 121 rn ++ cA cyI ah 121 (mhv (va_cpy rn ra 0 0 121) s_)) H := hP
    have hD : va_D A (cM aM ac as_ an ah th bu fd fn ++ cA cyI ac 8 cd ++ cA cyI as_ 12 sw ++ cA cyI an 121 rn ++ cA cyI ah 121 (mhv (va_cpy rn ra 0 0 121) s_)) := hD
    refine lv_aload_n hx hb dX6_coinsWith_36 rfl (lv_at hl 0 rfl) ?_
    refine lv_aload_n hx hb dX6_coinsWith_37 rfl (lv_at hl 0 rfl) ?_
    refine va_get (D := D) (ci := 6) (v := .ref ah) (C := RX6) (T := TX6) (N := 8) hx hb hts iX6 hown hKK.1 hP 0 rfl rfl 7 (by decide) (hts (.fieldLink RX6 29 "TrolleyGangModel" "ahead" "[I") (List.mem_of_getElem? (i := 1) rfl)) (fun _ h9 => h9) rfl dX6_coinsWith_38 ?_
    refine lv_iload_n hx hb dX6_coinsWith_41 rfl (lv_at hl 2 rfl) ?_
    have hPc := hP.sub (ws' := (cM aM ac as_ an ah th bu fd fn ++ cA cyI ac 8 cd ++ cA cyI as_ 12 sw ++ cA cyI ah 121 (mhv (va_cpy rn ra 0 0 121) s_))) [0, 1, 2, 4] rfl
    have hDc := hD.sub (ws' := (cM aM ac as_ an ah th bu fd fn ++ cA cyI ac 8 cd ++ cA cyI as_ 12 sw ++ cA cyI ah 121 (mhv (va_cpy rn ra 0 0 121) s_))) [0, 1, 2, 4] (by decide) rfl
    refine ret_v (W1 := (cM aM ac as_ an ah th bu fd fn ++ cA cyI ac 8 cd ++ cA cyI as_ 12 sw ++ cA cyI ah 121 (mhv (va_cpy rn ra 0 0 121) s_))) (W2 := (cM aM ac as_ an ah th bu fd fn ++ cA cyI ac 8 cd ++ cA cyI as_ 12 sw ++ cA cyI ah 121 (mpaL cd sw fd fn n h_ (mhv (va_cpy rn ra 0 0 121) s_)))) (ws1 := (cM aM ac as_ an ah th bu fd fn ++ cA cyI ac 8 cd ++ cA cyI as_ 12 sw ++ cA cyI an 121 rn ++ cA cyI ah 121 (mpaL cd sw fd fn n h_ (mhv (va_cpy rn ra 0 0 121) s_)))) (run_V (q := (RX6, TX6, 8)) (n := 2) (As := [.ref ah, .int (nI h_)]) (rest := []) ⟨hx, hb, hml, hown, hts⟩ (c_X6_passAll l D cyI cyO cyL aM ac as_ an ah ah th bu fd fn cd sw (mhv (va_cpy rn ra 0 0 121) s_) h_ n M_ hn hbu (OkN_hv (OkN_cpy hok) hs) hM (by omega) hsw _) ggX6_coinsWith_X6_passAll rfl rfl rfl (hts (.methodLink RX6 130 yX6_passAll) (List.mem_of_getElem? (i := 12) rfl)) (hts (.initialized RX6) (List.mem_of_getElem? (i := 5) rfl)) (hts (.instanceMethod yX6_passAll) (List.mem_of_getElem? (i := 13) rfl)) (hts (.selects RX6 yX6_passAll yX6_passAll) (List.mem_of_getElem? (i := 14) rfl)) (by decide +kernel) ⟨Nat.le_of_ble_eq_true rfl, Nat.le_of_ble_eq_true rfl⟩ hKK hPc hDc (ci := 6) (q0 := 0) rfl rfl rfl hl.1 rfl (Nat.le_of_ble_eq_true rfl) dX6_coinsWith_42 ⟨Nat.zero_le _, Nat.zero_le _⟩) hP hD hS hA [0, 1, 2, 4] rfl rfl [(true, 0), (true, 1), (true, 2), (false, 3), (true, 3)] (by decide +kernel) rfl (fun H locs hP hD hS => ?_)
    refine lv_aload_n hx hb dX6_coinsWith_45 rfl (lv_at hl 0 rfl) ?_
    refine va_get (D := D) (ci := 6) (v := .ref ah) (C := RX6) (T := TX6) (N := 8) hx hb hts iX6 hown hKK.1 hP 0 rfl rfl 7 (by decide) (hts (.fieldLink RX6 29 "TrolleyGangModel" "ahead" "[I") (List.mem_of_getElem? (i := 1) rfl)) (fun _ h9 => h9) rfl dX6_coinsWith_46 ?_
    refine lv_bipush (v := 119) hx hb dX6_coinsWith_49 (by decide) ?_
    refine va_iald hx hb hKK.1 hP 4 0 rfl rfl (hin := (vp_in_nI (n := 119) (by decide) (by decide))) dX6_coinsWith_51 ?_
    refine lv_tope (y := (mpaL cd sw fd fn n h_ (mhv (va_cpy rn ra 0 0 121) s_)) 119) rfl ?_
    have e9_0 : ((mcw cd sw fd fn n h_ rn s_ ra) 119) = (mpaL cd sw fd fn n h_ (mhv (va_cpy rn ra 0 0 121) s_)) 119 := (by rfl)
    have e9_1 : (mcw cd sw fd fn n h_ rn s_ ra) = mpaL cd sw fd fn n h_ (mhv (va_cpy rn ra 0 0 121) s_) := (by rfl)
    exact end_i hx hb hrt hlocks e9_0.symm (by first | exact hP | (rw [e9_1]; exact hP)) hS dX6_coinsWith_52
  · skip
    refine lv_iconst (v := 0) hx hb dX6_coinsWith_14 (by decide) ?_
    refine lv_goto (tgt := 19) hx hb dX6_coinsWith_15 (by decide) ?_
    refine va_iast hx hb hKK.1 hP hD hS 4 0 rfl rfl (hin := (vp_in_nI (n := 109) (by decide) (by decide))) dX6_coinsWith_19 (fun H locs hP hD hS => ?_)
    have hP : va_P D vwCl (cM aM ac as_ an ah th bu fd fn ++ cA cyI ac 8 cd ++ cA cyI as_ 12 sw ++ cA cyI an 121 rn ++ cA cyI ah 121 (upd (va_cpy rn ra 0 0 121) 109 0)) H := hP
    have hD : va_D A (cM aM ac as_ an ah th bu fd fn ++ cA cyI ac 8 cd ++ cA cyI as_ 12 sw ++ cA cyI an 121 rn ++ cA cyI ah 121 (upd (va_cpy rn ra 0 0 121) 109 0)) := hD
    refine lv_aload_n hx hb dX6_coinsWith_20 rfl (lv_at hl 0 rfl) ?_
    refine va_get (D := D) (ci := 6) (v := .ref ah) (C := RX6) (T := TX6) (N := 8) hx hb hts iX6 hown hKK.1 hP 0 rfl rfl 7 (by decide) (hts (.fieldLink RX6 29 "TrolleyGangModel" "ahead" "[I") (List.mem_of_getElem? (i := 1) rfl)) (fun _ h9 => h9) rfl dX6_coinsWith_21 ?_
    refine lv_bipush (v := 113) hx hb dX6_coinsWith_24 (by decide) ?_
    refine lv_iload_n hx hb dX6_coinsWith_26 rfl (lv_at hl 1 rfl) ?_
    refine va_iast hx hb hKK.1 hP hD hS 4 0 rfl rfl (hin := (vp_in_nI (n := 113) (by decide) (by decide))) dX6_coinsWith_27 (fun H locs hP hD hS => ?_)
    have hP : va_P D vwCl (cM aM ac as_ an ah th bu fd fn ++ cA cyI ac 8 cd ++ cA cyI as_ 12 sw ++ cA cyI an 121 rn ++ cA cyI ah 121 (upd (upd (va_cpy rn ra 0 0 121) 109 0) 113 s_)) H := hP
    have hD : va_D A (cM aM ac as_ an ah th bu fd fn ++ cA cyI ac 8 cd ++ cA cyI as_ 12 sw ++ cA cyI an 121 rn ++ cA cyI ah 121 (upd (upd (va_cpy rn ra 0 0 121) 109 0) 113 s_)) := hD
    refine lv_aload_n hx hb dX6_coinsWith_28 rfl (lv_at hl 0 rfl) ?_
    refine va_get (D := D) (ci := 6) (v := .ref ah) (C := RX6) (T := TX6) (N := 8) hx hb hts iX6 hown hKK.1 hP 0 rfl rfl 7 (by decide) (hts (.fieldLink RX6 29 "TrolleyGangModel" "ahead" "[I") (List.mem_of_getElem? (i := 1) rfl)) (fun _ h9 => h9) rfl dX6_coinsWith_29 ?_
    refine lv_bipush (v := 110) hx hb dX6_coinsWith_32 (by decide) ?_
    refine lv_iconst (v := 0) hx hb dX6_coinsWith_34 (by decide) ?_
    refine va_iast hx hb hKK.1 hP hD hS 4 0 rfl rfl (hin := (vp_in_nI (n := 110) (by decide) (by decide))) dX6_coinsWith_35 (fun H locs hP hD hS => ?_)
    have hP : va_P D vwCl (cM aM ac as_ an ah th bu fd fn ++ cA cyI ac 8 cd ++ cA cyI as_ 12 sw ++ cA cyI an 121 rn ++ cA cyI ah 121 (upd (upd (upd (va_cpy rn ra 0 0 121) 109 0) 113 s_) 110 0)) H := hP
    have hD : va_D A (cM aM ac as_ an ah th bu fd fn ++ cA cyI ac 8 cd ++ cA cyI as_ 12 sw ++ cA cyI an 121 rn ++ cA cyI ah 121 (upd (upd (upd (va_cpy rn ra 0 0 121) 109 0) 113 s_) 110 0)) := hD
    have e6_3 : upd (upd (upd (va_cpy rn ra 0 0 121) 109 0) 113 s_) 110 0 = mhv (va_cpy rn ra 0 0 121) s_ := (by simp only [mhv, h_1, if_true, if_false])
    rw [e6_3] at hP hD
    have hP : va_P D vwCl (cM aM ac as_ an ah th bu fd fn ++ cA cyI ac 8 cd ++ cA cyI as_ 12 sw ++ cA cyI an 121 rn ++ cA cyI ah 121 (mhv (va_cpy rn ra 0 0 121) s_)) H := hP
    have hD : va_D A (cM aM ac as_ an ah th bu fd fn ++ cA cyI ac 8 cd ++ cA cyI as_ 12 sw ++ cA cyI an 121 rn ++ cA cyI ah 121 (mhv (va_cpy rn ra 0 0 121) s_)) := hD
    refine lv_aload_n hx hb dX6_coinsWith_36 rfl (lv_at hl 0 rfl) ?_
    refine lv_aload_n hx hb dX6_coinsWith_37 rfl (lv_at hl 0 rfl) ?_
    refine va_get (D := D) (ci := 6) (v := .ref ah) (C := RX6) (T := TX6) (N := 8) hx hb hts iX6 hown hKK.1 hP 0 rfl rfl 7 (by decide) (hts (.fieldLink RX6 29 "TrolleyGangModel" "ahead" "[I") (List.mem_of_getElem? (i := 1) rfl)) (fun _ h9 => h9) rfl dX6_coinsWith_38 ?_
    refine lv_iload_n hx hb dX6_coinsWith_41 rfl (lv_at hl 2 rfl) ?_
    have hPc := hP.sub (ws' := (cM aM ac as_ an ah th bu fd fn ++ cA cyI ac 8 cd ++ cA cyI as_ 12 sw ++ cA cyI ah 121 (mhv (va_cpy rn ra 0 0 121) s_))) [0, 1, 2, 4] rfl
    have hDc := hD.sub (ws' := (cM aM ac as_ an ah th bu fd fn ++ cA cyI ac 8 cd ++ cA cyI as_ 12 sw ++ cA cyI ah 121 (mhv (va_cpy rn ra 0 0 121) s_))) [0, 1, 2, 4] (by decide) rfl
    refine ret_v (W1 := (cM aM ac as_ an ah th bu fd fn ++ cA cyI ac 8 cd ++ cA cyI as_ 12 sw ++ cA cyI ah 121 (mhv (va_cpy rn ra 0 0 121) s_))) (W2 := (cM aM ac as_ an ah th bu fd fn ++ cA cyI ac 8 cd ++ cA cyI as_ 12 sw ++ cA cyI ah 121 (mpaL cd sw fd fn n h_ (mhv (va_cpy rn ra 0 0 121) s_)))) (ws1 := (cM aM ac as_ an ah th bu fd fn ++ cA cyI ac 8 cd ++ cA cyI as_ 12 sw ++ cA cyI an 121 rn ++ cA cyI ah 121 (mpaL cd sw fd fn n h_ (mhv (va_cpy rn ra 0 0 121) s_)))) (run_V (q := (RX6, TX6, 8)) (n := 2) (As := [.ref ah, .int (nI h_)]) (rest := []) ⟨hx, hb, hml, hown, hts⟩ (c_X6_passAll l D cyI cyO cyL aM ac as_ an ah ah th bu fd fn cd sw (mhv (va_cpy rn ra 0 0 121) s_) h_ n M_ hn hbu (OkN_hv (OkN_cpy hok) hs) hM (by omega) hsw _) ggX6_coinsWith_X6_passAll rfl rfl rfl (hts (.methodLink RX6 130 yX6_passAll) (List.mem_of_getElem? (i := 12) rfl)) (hts (.initialized RX6) (List.mem_of_getElem? (i := 5) rfl)) (hts (.instanceMethod yX6_passAll) (List.mem_of_getElem? (i := 13) rfl)) (hts (.selects RX6 yX6_passAll yX6_passAll) (List.mem_of_getElem? (i := 14) rfl)) (by decide +kernel) ⟨Nat.le_of_ble_eq_true rfl, Nat.le_of_ble_eq_true rfl⟩ hKK hPc hDc (ci := 6) (q0 := 0) rfl rfl rfl hl.1 rfl (Nat.le_of_ble_eq_true rfl) dX6_coinsWith_42 ⟨Nat.zero_le _, Nat.zero_le _⟩) hP hD hS hA [0, 1, 2, 4] rfl rfl [(true, 0), (true, 1), (true, 2), (false, 3), (true, 3)] (by decide +kernel) rfl (fun H locs hP hD hS => ?_)
    refine lv_aload_n hx hb dX6_coinsWith_45 rfl (lv_at hl 0 rfl) ?_
    refine va_get (D := D) (ci := 6) (v := .ref ah) (C := RX6) (T := TX6) (N := 8) hx hb hts iX6 hown hKK.1 hP 0 rfl rfl 7 (by decide) (hts (.fieldLink RX6 29 "TrolleyGangModel" "ahead" "[I") (List.mem_of_getElem? (i := 1) rfl)) (fun _ h9 => h9) rfl dX6_coinsWith_46 ?_
    refine lv_bipush (v := 119) hx hb dX6_coinsWith_49 (by decide) ?_
    refine va_iald hx hb hKK.1 hP 4 0 rfl rfl (hin := (vp_in_nI (n := 119) (by decide) (by decide))) dX6_coinsWith_51 ?_
    refine lv_tope (y := (mpaL cd sw fd fn n h_ (mhv (va_cpy rn ra 0 0 121) s_)) 119) rfl ?_
    have e9_0 : ((mcw cd sw fd fn n h_ rn s_ ra) 119) = (mpaL cd sw fd fn n h_ (mhv (va_cpy rn ra 0 0 121) s_)) 119 := (by rfl)
    have e9_1 : (mcw cd sw fd fn n h_ rn s_ ra) = mpaL cd sw fd fn n h_ (mhv (va_cpy rn ra 0 0 121) s_) := (by rfl)
    exact end_i hx hb hrt hlocks e9_0.symm (by first | exact hP | (rw [e9_1]; exact hP)) hS dX6_coinsWith_52
set_option maxHeartbeats 4000000 in
set_option maxRecDepth 100000 in
theorem c_X6_falls (l : Launch) (D : va_G) (cyI cyO cyL : ClassId) (aM : Nat) (ac : Nat) (as_ : Nat) (an : Nat) (ah : Nat) (th : Int32) (bu : Int32) (fd : Int32) (fn : Int32) (cd : Nat → Int32) (sw : Nat → Int32) (rn : Nat → Int32) (ra : Nat → Int32) (s_ : Int32) (n : Nat) (M_ : Nat) (hs : vp_in s_ 24) (hn : n ≤ 6) (hbu : bu = nI n) (hok : OkN M_ rn) (hM : M_ + 300 < 2 ^ 30) (hsw : ∀ k, sw k = -1 ∨ vp_in (sw k) 24) : cI l yX6_falls wsX6_falls ({ frames := 4, cells := 0, slots := 0, locals := 86 }) D cyI cyO cyL [.ref aM, .int s_] (cM aM ac as_ an ah th bu fd fn ++ cA cyI ac 8 cd ++ cA cyI as_ 12 sw ++ cA cyI an 121 rn ++ cA cyI ah 121 ra) (cM aM ac as_ an ah 0 bu fd fn ++ cA cyI ac 8 cd ++ cA cyI as_ 12 sw ++ cA cyI an 121 rn ++ cA cyI ah 121 ((mfaL cd sw fd fn n s_ 97 0 (va_cpy rn ra 0 0 121)).2)) ((mfaL cd sw fd fn n s_ 97 0 (va_cpy rn ra 0 0 121)).1) := by
  intro sz
  refine Met.ofW (cc := cX6_falls) (maxL := 3) (ret := (some .int)) (by decide) rfl ?_
  intro p e s m args below meth c s₁ B9 hml hv
  obtain ⟨rfl, hsz, hP, hKK, hD0⟩ := hv
  have hx := B9.exec
  have hb := B9.bytes
  have hrt := B9.returns
  have hts := atoms_spec (ws := wsX6_falls) B9.pre
  have hown : s.vm.findClass RX6 = some m.cls := findClass_of_methodNamed B9.named
  have hlocks := B9.notSynchronized
  have nw := fun {w : Cond} (h : w ∈ nw_all) => NW.use (args := ([.ref aM, .int s_] : List Value).toArray) hKK.2 h
  have iX6 : ∀ w ∈ wsX60, w ∈ wsX6_falls := fun _ h => List.mem_cons_of_mem _ (List.mem_append_right _ h)
  subst hsz
  have hD := hD0.self (sz := s.heap.size)
  generalize hAe : va_A (cM aM ac as_ an ah th bu fd fn ++ cA cyI ac 8 cd ++ cA cyI as_ 12 sw ++ cA cyI an 121 rn ++ cA cyI ah 121 ra) s.heap.size = A at hD ⊢
  have hA : ∀ q : Nat, s.heap.size ≤ q → A q := fun q h => by rw [← hAe]; exact Or.inr h
  have hS : va_S A s.heap s.heap [] := va_S.rf
  have hl := lv_entry ([.ref aM, .int s_]) (n := 3) (Nat.le_of_ble_eq_true rfl)
  rw [lg_entry_eq]
  generalize (lg_sl ([.ref aM, .int s_]) ++ List.replicate (3 - (lg_sl ([.ref aM, .int s_])).length) Slot.unset).toArray = ls at hl ⊢
  have hl : lv_has ls 3 [(0, .ref aM), (1, .int s_)] := hl
  refine lv_aload_n hx hb dX6_falls_0 rfl (lv_at hl 0 rfl) ?_
  refine lv_iconst (v := 0) hx hb dX6_falls_1 (by decide) ?_
  refine va_put (D := D) (ci := 6) (v := .int 0) (ty := .int) (C := RX6) (T := TX6) (N := 8) hx hb hts iX6 tyX6 tyX6_ok nmX6 hown hKK.1 hP hD hS 0 rfl rfl 0 (by decide) (hts (.fieldLink RX6 1 "TrolleyGangModel" "thrown" "I") (List.mem_of_getElem? (i := 1) rfl)) (fun _ h9 => h9) rfl (by decide +kernel) rfl rfl (Nat.le_of_ble_eq_true rfl) dX6_falls_2 (fun H locs hP hD hS => ?_)
  have hP : va_P D vwCl (cM aM ac as_ an ah 0 bu fd fn ++ cA cyI ac 8 cd ++ cA cyI as_ 12 sw ++ cA cyI an 121 rn ++ cA cyI ah 121 ra) H := hP
  have hD : va_D A (cM aM ac as_ an ah 0 bu fd fn ++ cA cyI ac 8 cd ++ cA cyI as_ 12 sw ++ cA cyI an 121 rn ++ cA cyI ah 121 ra) := hD
  refine lv_iload_n hx hb dX6_falls_5 rfl (lv_at hl 1 rfl) ?_
  have hPc := hP.sub (ws' := ([] : va_W)) [] rfl
  have hDc := hD.sub (ws' := ([] : va_W)) [] (by decide) rfl
  refine ret_i (W1 := ([] : va_W)) (W2 := ([] : va_W)) (ws1 := (cM aM ac as_ an ah 0 bu fd fn ++ cA cyI ac 8 cd ++ cA cyI as_ 12 sw ++ cA cyI an 121 rn ++ cA cyI ah 121 ra)) (r := inI s_ 0 23) (run_S (n := 1) (As := [.int s_]) (rest := []) ⟨hx, hb, hml, hown, hts⟩ (c_X6_isSpan l D cyI cyO cyL s_ _) ggX6_falls_X6_isSpan rfl rfl rfl (hts (.methodLink RX6 47 yX6_isSpan) (List.mem_of_getElem? (i := 3) rfl)) (hts (.initialized RX6) (List.mem_of_getElem? (i := 5) rfl)) (hts (.static yX6_isSpan) (List.mem_of_getElem? (i := 4) rfl)) (by decide +kernel) ⟨Nat.le_of_ble_eq_true rfl, Nat.le_of_ble_eq_true rfl⟩ hKK hPc hDc rfl hl.1 rfl (Nat.le_of_ble_eq_true rfl) dX6_falls_6 ⟨Nat.zero_le _, Nat.zero_le _⟩) hP hD hS hA [] rfl rfl [(false, 0), (false, 1), (false, 2), (false, 3), (false, 4)] (by decide +kernel) rfl (fun H locs hP hD hS => ?_)
  refine lv_if_ne (tgt := 18) hx hb dX6_falls_9 (by decide) (fun h_1 => ?_) (fun h_1 => ?_)
  · skip
    refine lv_aload_n hx hb dX6_falls_18 rfl (lv_at hl 0 rfl) ?_
    have hPc := hP.sub (ws' := (cM aM ac as_ an ah 0 bu fd fn ++ cA cyI an 121 rn ++ cA cyI ah 121 ra)) [0, 3, 4] rfl
    have hDc := hD.sub (ws' := (cM aM ac as_ an ah 0 bu fd fn ++ cA cyI an 121 rn ++ cA cyI ah 121 ra)) [0, 3, 4] (by decide) rfl
    refine ret_v (W1 := (cM aM ac as_ an ah 0 bu fd fn ++ cA cyI an 121 rn ++ cA cyI ah 121 ra)) (W2 := (cM aM ac as_ an ah 0 bu fd fn ++ cA cyI an 121 rn ++ cA cyI ah 121 (va_cpy rn ra 0 0 121))) (ws1 := (cM aM ac as_ an ah 0 bu fd fn ++ cA cyI ac 8 cd ++ cA cyI as_ 12 sw ++ cA cyI an 121 rn ++ cA cyI ah 121 (va_cpy rn ra 0 0 121))) (run_V (q := (RX6, TX6, 8)) (n := 0) (As := []) (rest := []) ⟨hx, hb, hml, hown, hts⟩ (c_X6_lookAhead l D cyI cyO cyL aM ac as_ an ah 0 bu fd fn rn ra _) ggX6_falls_X6_lookAhead rfl rfl rfl (hts (.methodLink RX6 133 yX6_lookAhead) (List.mem_of_getElem? (i := 14) rfl)) (hts (.initialized RX6) (List.mem_of_getElem? (i := 5) rfl)) (hts (.instanceMethod yX6_lookAhead) (List.mem_of_getElem? (i := 15) rfl)) (hts (.selects RX6 yX6_lookAhead yX6_lookAhead) (List.mem_of_getElem? (i := 16) rfl)) (by decide +kernel) ⟨Nat.le_of_ble_eq_true rfl, Nat.le_of_ble_eq_true rfl⟩ hKK hPc hDc (ci := 6) (q0 := 0) rfl rfl rfl hl.1 rfl (Nat.le_of_ble_eq_true rfl) dX6_falls_19 ⟨Nat.zero_le _, Nat.zero_le _⟩) hP hD hS hA [0, 3, 4] rfl rfl [(true, 0), (false, 1), (false, 2), (true, 1), (true, 2)] (by decide +kernel) rfl (fun H locs hP hD hS => ?_)
    refine lv_iconst (v := 0) hx hb dX6_falls_22 (by decide) ?_
    refine lv_istore_n (lv' := [(2, .int 0), (0, .ref aM), (1, .int s_)]) hx hb dX6_falls_23 rfl hl (by decide) rfl (fun ls hl => ?_)
    refine wloop (σ := (Nat) × (Nat → Int32)) (fun d9 x9 H9 L9 s9 => ((x9.1) + d9 = 97) ∧ (mfaL cd sw fd fn n s_ 97 0 (va_cpy rn ra 0 0 121) = mfaL cd sw fd fn n s_ d9 (x9.1) (x9.2)) ∧ (OkN (M_ + (x9.1)) (x9.2)) ∧ (va_P D vwCl (cM aM ac as_ an ah 0 bu fd fn ++ cA cyI ac 8 cd ++ cA cyI as_ 12 sw ++ cA cyI an 121 rn ++ cA cyI ah 121 (x9.2)) H9) ∧ (va_D A (cM aM ac as_ an ah 0 bu fd fn ++ cA cyI ac 8 cd ++ cA cyI as_ 12 sw ++ cA cyI an 121 rn ++ cA cyI ah 121 (x9.2))) ∧ (va_S A s.heap H9 L9) ∧ (lv_has s9 3 [(2, .int (nI (x9.1))), (0, .ref aM), (1, .int s_)])) (fun d9 x9 H locs ls g9 ih => ?_) 97 (0, va_cpy rn ra 0 0 121) _ _ _ ⟨(by omega), rfl, (OkN_cpy hok), hP, hD, hS, lv_sub hl [0, 1, 2] rfl⟩
    obtain ⟨i, ra1⟩ := x9
    obtain ⟨hid, hsp, hq, hP, hD, hS, hl⟩ := g9
    obtain ⟨d, rfl⟩ : ∃ z, z = d9 := ⟨_, rfl⟩
    have hid : i + d = 97 := hid
    have hsp : mfaL cd sw fd fn n s_ 97 0 (va_cpy rn ra 0 0 121) = mfaL cd sw fd fn n s_ d i ra1 := hsp
    have hq : OkN (M_ + i) ra1 := hq
    have hP : va_P D vwCl (cM aM ac as_ an ah 0 bu fd fn ++ cA cyI ac 8 cd ++ cA cyI as_ 12 sw ++ cA cyI an 121 rn ++ cA cyI ah 121 ra1) H := hP
    have hD : va_D A (cM aM ac as_ an ah 0 bu fd fn ++ cA cyI ac 8 cd ++ cA cyI as_ 12 sw ++ cA cyI an 121 rn ++ cA cyI ah 121 ra1) := hD
    have hl : lv_has ls 3 [(2, .int (nI i)), (0, .ref aM), (1, .int s_)] := hl
    refine lv_iload_n hx hb dX6_falls_24 rfl (lv_at hl 0 rfl) ?_
    refine lv_bipush (v := 96) hx hb dX6_falls_25 (by decide) ?_
    refine lv_icmp_gt (tgt := 59) hx hb dX6_falls_27 (by decide) (fun h_2 => ?_) (fun h_2 => ?_)
    · skip
      obtain rfl : d = 0 := by have h9 := mt (nI_leI (a := i) (b := 96) (by omega) (by omega)).mpr (fun h8 => absurd h_2 (Int32.not_lt.mpr h8)); omega
      refine lv_iconst (v := (-1)) hx hb dX6_falls_59 (by decide) ?_
      have e9_0 : ((mfaL cd sw fd fn n s_ 97 0 (va_cpy rn ra 0 0 121)).1) = (-1) := (by rw [hsp]; rfl)
      have e9_2 : ((mfaL cd sw fd fn n s_ 97 0 (va_cpy rn ra 0 0 121)).2) = ra1 := (by rw [hsp]; rfl)
      exact end_i hx hb hrt hlocks e9_0.symm (by first | exact hP | (rw [e9_2]; exact hP)) hS dX6_falls_60
    · skip
      have hlt : i < 97 := by have h9 := (nI_leI (a := i) (b := 96) (by omega) (by omega)).mp (Int32.not_lt.mp h_2); omega
      obtain ⟨d, rfl⟩ : ∃ k, d = k + 1 := ⟨d - 1, by omega⟩
      refine lv_aload_n hx hb dX6_falls_30 rfl (lv_at hl 1 rfl) ?_
      refine va_get (D := D) (ci := 6) (v := .ref ah) (C := RX6) (T := TX6) (N := 8) hx hb hts iX6 hown hKK.1 hP 0 rfl rfl 7 (by decide) (hts (.fieldLink RX6 29 "TrolleyGangModel" "ahead" "[I") (List.mem_of_getElem? (i := 2) rfl)) (fun _ h9 => h9) rfl dX6_falls_31 ?_
      refine lv_bipush (v := 48) hx hb dX6_falls_34 (by decide) ?_
      refine lv_iload_n hx hb dX6_falls_36 rfl (lv_at hl 2 rfl) ?_
      refine lv_iadd hx hb dX6_falls_37 ?_
      refine va_iald hx hb hKK.1 hP 4 0 rfl rfl (hin := (in48 hs)) dX6_falls_38 ?_
      refine lv_tope (y := ra1 (48 + s_.toNatClampNeg)) (by rw [tn48 hs]) ?_
      refine lv_iconst (v := 1) hx hb dX6_falls_39 (by decide) ?_
      refine lv_icmp_ne (tgt := 45) hx hb dX6_falls_40 (by decide) (fun h_3 => ?_) (fun h_3 => ?_)
      · skip
        refine lv_aload_n hx hb dX6_falls_45 rfl (lv_at hl 1 rfl) ?_
        refine lv_aload_n hx hb dX6_falls_46 rfl (lv_at hl 1 rfl) ?_
        refine va_get (D := D) (ci := 6) (v := .ref ah) (C := RX6) (T := TX6) (N := 8) hx hb hts iX6 hown hKK.1 hP 0 rfl rfl 7 (by decide) (hts (.fieldLink RX6 29 "TrolleyGangModel" "ahead" "[I") (List.mem_of_getElem? (i := 2) rfl)) (fun _ h9 => h9) rfl dX6_falls_47 ?_
        have hPc := hP.sub (ws' := (cM aM ac as_ an ah 0 bu fd fn ++ cA cyI ac 8 cd ++ cA cyI as_ 12 sw ++ cA cyI ah 121 ra1)) [0, 1, 2, 4] rfl
        have hDc := hD.sub (ws' := (cM aM ac as_ an ah 0 bu fd fn ++ cA cyI ac 8 cd ++ cA cyI as_ 12 sw ++ cA cyI ah 121 ra1)) [0, 1, 2, 4] (by decide) rfl
        refine ret_v (W1 := (cM aM ac as_ an ah 0 bu fd fn ++ cA cyI ac 8 cd ++ cA cyI as_ 12 sw ++ cA cyI ah 121 ra1)) (W2 := (cM aM ac as_ an ah 0 bu fd fn ++ cA cyI ac 8 cd ++ cA cyI as_ 12 sw ++ cA cyI ah 121 (mpass cd sw fd fn n ra1))) (ws1 := (cM aM ac as_ an ah 0 bu fd fn ++ cA cyI ac 8 cd ++ cA cyI as_ 12 sw ++ cA cyI an 121 rn ++ cA cyI ah 121 (mpass cd sw fd fn n ra1))) (run_V (q := (RX6, TX6, 8)) (n := 1) (As := [.ref ah]) (rest := []) ⟨hx, hb, hml, hown, hts⟩ (c_X6_pass l D cyI cyO cyL aM ac as_ an ah ah 0 bu fd fn cd sw ra1 n (by first | assumption | omega) (by first | assumption | omega) hq.1 (by first | assumption | omega) _) ggX6_falls_X6_pass rfl rfl rfl (hts (.methodLink RX6 121 yX6_pass) (List.mem_of_getElem? (i := 23) rfl)) (hts (.initialized RX6) (List.mem_of_getElem? (i := 5) rfl)) (hts (.instanceMethod yX6_pass) (List.mem_of_getElem? (i := 24) rfl)) (hts (.selects RX6 yX6_pass yX6_pass) (List.mem_of_getElem? (i := 25) rfl)) (by decide +kernel) ⟨Nat.le_of_ble_eq_true rfl, Nat.le_of_ble_eq_true rfl⟩ hKK hPc hDc (ci := 6) (q0 := 0) rfl rfl rfl hl.1 rfl (Nat.le_of_ble_eq_true rfl) dX6_falls_50 ⟨Nat.zero_le _, Nat.zero_le _⟩) hP hD hS hA [0, 1, 2, 4] rfl rfl [(true, 0), (true, 1), (true, 2), (false, 3), (true, 3)] (by decide +kernel) rfl (fun H locs hP hD hS => ?_)
        refine lv_iinc (v := nI (i + 1)) (lv' := [(2, .int (nI (i + 1))), (0, .ref aM), (1, .int s_)]) hx hb dX6_falls_53 hl (k := 0) rfl (nI_1 i) (by decide) rfl (fun ls hl => ?_)
        refine lv_goto (tgt := 24) hx hb dX6_falls_56 (by decide) ?_
        exact ih d ((i + 1), (mpass cd sw fd fn n ra1)) _ _ _ (by omega) ⟨(by omega), (hsp.trans (by first | with_reducible rfl | (simp only [mfaL, h_1, h_2, h_3, if_true, if_false, reduceIte, not_true_eq_false, not_false_eq_true]; done) | (simp [mfaL, h_1, h_2, h_3]; done))), (OkN.pass (M := M_ + i) hn hsw (by omega) hq), hP, hD, hS, lv_sub hl [0, 1, 2] rfl⟩
      · skip
        refine lv_iload_n hx hb dX6_falls_43 rfl (lv_at hl 0 rfl) ?_
        have e9_0 : ((mfaL cd sw fd fn n s_ 97 0 (va_cpy rn ra 0 0 121)).1) = nI i := (by rw [hsp]; simp only [mfaL, h_3, if_true])
        have e9_2 : ((mfaL cd sw fd fn n s_ 97 0 (va_cpy rn ra 0 0 121)).2) = ra1 := (by rw [hsp]; simp only [mfaL, h_3, if_true])
        exact end_i hx hb hrt hlocks e9_0.symm (by first | exact hP | (rw [e9_2]; exact hP)) hS dX6_falls_44
  · skip
    exact absurd (h_1.symm.trans (vp_inI (N := 23) hs (by decide))) (by decide)
set_option maxHeartbeats 4000000 in
set_option maxRecDepth 100000 in
theorem c_X6_falls_b (l : Launch) (D : va_G) (cyI cyO cyL : ClassId) (aM : Nat) (ac : Nat) (as_ : Nat) (an : Nat) (ah : Nat) (th : Int32) (bu : Int32) (fd : Int32) (fn : Int32) (cd : Nat → Int32) (sw : Nat → Int32) (rn : Nat → Int32) (ra : Nat → Int32) (s_ : Int32) (hbd : inI s_ 0 23 = 0) : cI l yX6_falls wsX6_falls ({ frames := 2, cells := 0, slots := 0, locals := 42 }) D cyI cyO cyL [.ref aM, .int s_] (cM aM ac as_ an ah th bu fd fn ++ cA cyI ac 8 cd ++ cA cyI as_ 12 sw ++ cA cyI an 121 rn ++ cA cyI ah 121 ra) (cM aM ac as_ an ah 1 bu fd fn ++ cA cyI ac 8 cd ++ cA cyI as_ 12 sw ++ cA cyI an 121 rn ++ cA cyI ah 121 ra) 0 := by
  intro sz
  refine Met.ofW (cc := cX6_falls) (maxL := 3) (ret := (some .int)) (by decide) rfl ?_
  intro p e s m args below meth c s₁ B9 hml hv
  obtain ⟨rfl, hsz, hP, hKK, hD0⟩ := hv
  have hx := B9.exec
  have hb := B9.bytes
  have hrt := B9.returns
  have hts := atoms_spec (ws := wsX6_falls) B9.pre
  have hown : s.vm.findClass RX6 = some m.cls := findClass_of_methodNamed B9.named
  have hlocks := B9.notSynchronized
  have nw := fun {w : Cond} (h : w ∈ nw_all) => NW.use (args := ([.ref aM, .int s_] : List Value).toArray) hKK.2 h
  have iX6 : ∀ w ∈ wsX60, w ∈ wsX6_falls := fun _ h => List.mem_cons_of_mem _ (List.mem_append_right _ h)
  subst hsz
  have hD := hD0.self (sz := s.heap.size)
  generalize hAe : va_A (cM aM ac as_ an ah th bu fd fn ++ cA cyI ac 8 cd ++ cA cyI as_ 12 sw ++ cA cyI an 121 rn ++ cA cyI ah 121 ra) s.heap.size = A at hD ⊢
  have hA : ∀ q : Nat, s.heap.size ≤ q → A q := fun q h => by rw [← hAe]; exact Or.inr h
  have hS : va_S A s.heap s.heap [] := va_S.rf
  have hl := lv_entry ([.ref aM, .int s_]) (n := 3) (Nat.le_of_ble_eq_true rfl)
  rw [lg_entry_eq]
  generalize (lg_sl ([.ref aM, .int s_]) ++ List.replicate (3 - (lg_sl ([.ref aM, .int s_])).length) Slot.unset).toArray = ls at hl ⊢
  have hl : lv_has ls 3 [(0, .ref aM), (1, .int s_)] := hl
  refine lv_aload_n hx hb dX6_falls_0 rfl (lv_at hl 0 rfl) ?_
  refine lv_iconst (v := 0) hx hb dX6_falls_1 (by decide) ?_
  refine va_put (D := D) (ci := 6) (v := .int 0) (ty := .int) (C := RX6) (T := TX6) (N := 8) hx hb hts iX6 tyX6 tyX6_ok nmX6 hown hKK.1 hP hD hS 0 rfl rfl 0 (by decide) (hts (.fieldLink RX6 1 "TrolleyGangModel" "thrown" "I") (List.mem_of_getElem? (i := 1) rfl)) (fun _ h9 => h9) rfl (by decide +kernel) rfl rfl (Nat.le_of_ble_eq_true rfl) dX6_falls_2 (fun H locs hP hD hS => ?_)
  have hP : va_P D vwCl (cM aM ac as_ an ah 0 bu fd fn ++ cA cyI ac 8 cd ++ cA cyI as_ 12 sw ++ cA cyI an 121 rn ++ cA cyI ah 121 ra) H := hP
  have hD : va_D A (cM aM ac as_ an ah 0 bu fd fn ++ cA cyI ac 8 cd ++ cA cyI as_ 12 sw ++ cA cyI an 121 rn ++ cA cyI ah 121 ra) := hD
  refine lv_iload_n hx hb dX6_falls_5 rfl (lv_at hl 1 rfl) ?_
  have hPc := hP.sub (ws' := ([] : va_W)) [] rfl
  have hDc := hD.sub (ws' := ([] : va_W)) [] (by decide) rfl
  refine ret_i (W1 := ([] : va_W)) (W2 := ([] : va_W)) (ws1 := (cM aM ac as_ an ah 0 bu fd fn ++ cA cyI ac 8 cd ++ cA cyI as_ 12 sw ++ cA cyI an 121 rn ++ cA cyI ah 121 ra)) (r := inI s_ 0 23) (run_S (n := 1) (As := [.int s_]) (rest := []) ⟨hx, hb, hml, hown, hts⟩ (c_X6_isSpan l D cyI cyO cyL s_ _) ggX6_falls_X6_isSpan rfl rfl rfl (hts (.methodLink RX6 47 yX6_isSpan) (List.mem_of_getElem? (i := 3) rfl)) (hts (.initialized RX6) (List.mem_of_getElem? (i := 5) rfl)) (hts (.static yX6_isSpan) (List.mem_of_getElem? (i := 4) rfl)) (by decide +kernel) ⟨Nat.le_of_ble_eq_true rfl, Nat.le_of_ble_eq_true rfl⟩ hKK hPc hDc rfl hl.1 rfl (Nat.le_of_ble_eq_true rfl) dX6_falls_6 ⟨Nat.zero_le _, Nat.zero_le _⟩) hP hD hS hA [] rfl rfl [(false, 0), (false, 1), (false, 2), (false, 3), (false, 4)] (by decide +kernel) rfl (fun H locs hP hD hS => ?_)
  refine lv_if_ne (tgt := 18) hx hb dX6_falls_9 (by decide) (fun h_1 => ?_) (fun h_1 => ?_)
  · skip
    exact absurd hbd h_1
  · skip
    refine lv_aload_n hx hb dX6_falls_12 rfl (lv_at hl 0 rfl) ?_
    refine lv_iconst (v := 1) hx hb dX6_falls_13 (by decide) ?_
    have hPc := hP.sub (ws' := (cM aM ac as_ an ah 0 bu fd fn)) [0] rfl
    have hDc := hD.sub (ws' := (cM aM ac as_ an ah 0 bu fd fn)) [0] (by decide) rfl
    refine ret_i (W1 := (cM aM ac as_ an ah 0 bu fd fn)) (W2 := (cM aM ac as_ an ah 1 bu fd fn)) (ws1 := (cM aM ac as_ an ah 1 bu fd fn ++ cA cyI ac 8 cd ++ cA cyI as_ 12 sw ++ cA cyI an 121 rn ++ cA cyI ah 121 ra)) (r := 0) (run_V (q := (RX6, TX6, 8)) (n := 1) (As := [.int 1]) (rest := []) ⟨hx, hb, hml, hown, hts⟩ (c_X6_no l D cyI cyO cyL aM ac as_ an ah 0 bu fd fn 1 _) ggX6_falls_X6_no rfl rfl rfl (hts (.methodLink RX6 39 yX6_no) (List.mem_of_getElem? (i := 10) rfl)) (hts (.initialized RX6) (List.mem_of_getElem? (i := 5) rfl)) (hts (.instanceMethod yX6_no) (List.mem_of_getElem? (i := 11) rfl)) (hts (.selects RX6 yX6_no yX6_no) (List.mem_of_getElem? (i := 12) rfl)) (by decide +kernel) ⟨Nat.le_of_ble_eq_true rfl, Nat.le_of_ble_eq_true rfl⟩ hKK hPc hDc (ci := 6) (q0 := 0) rfl rfl rfl hl.1 rfl (Nat.le_of_ble_eq_true rfl) dX6_falls_14 ⟨Nat.zero_le _, Nat.zero_le _⟩) hP hD hS hA [0] rfl rfl [(true, 0), (false, 1), (false, 2), (false, 3), (false, 4)] (by decide +kernel) rfl (fun H locs hP hD hS => ?_)
    exact end_i hx hb hrt hlocks rfl hP hS dX6_falls_17
set_option maxHeartbeats 4000000 in
set_option maxRecDepth 100000 in
theorem c_X6_advise (l : Launch) (D : va_G) (cyI cyO cyL : ClassId) (aM : Nat) (ac : Nat) (as_ : Nat) (an : Nat) (ah : Nat) (th : Int32) (bu : Int32) (fd : Int32) (fn : Int32) (cd : Nat → Int32) (sw : Nat → Int32) (rn : Nat → Int32) (ra : Nat → Int32) (h_ : Nat) (n : Nat) (M_ : Nat) (hn : n ≤ 6) (hbu : bu = nI n) (hok : OkN M_ rn) (hM : M_ + 300 < 2 ^ 30) (hsw : ∀ k, sw k = -1 ∨ vp_in (sw k) 24) (hh1 : 1 ≤ h_) (hh2 : h_ ≤ 48) : cI l yX6_advise wsX6_advise ({ frames := 6, cells := 0, slots := 0, locals := 131 }) D cyI cyO cyL [.ref aM, .int (nI h_)] (cM aM ac as_ an ah th bu fd fn ++ cA cyI ac 8 cd ++ cA cyI as_ 12 sw ++ cA cyI an 121 rn ++ cA cyI ah 121 ra) (cM aM ac as_ an ah 0 bu fd fn ++ cA cyI ac 8 cd ++ cA cyI as_ 12 sw ++ cA cyI an 121 rn ++ cA cyI ah 121 ((madL (fun z => mcw cd sw fd fn n h_ rn z) 24 0 (-1) ((mcw cd sw fd fn n h_ rn (-1) ra) 119) (mcw cd sw fd fn n h_ rn (-1) ra)).2)) ((madL (fun z => mcw cd sw fd fn n h_ rn z) 24 0 (-1) ((mcw cd sw fd fn n h_ rn (-1) ra) 119) (mcw cd sw fd fn n h_ rn (-1) ra)).1) := by
  intro sz
  refine Met.ofW (cc := cX6_advise) (maxL := 6) (ret := (some .int)) (by decide) rfl ?_
  intro p e s m args below meth c s₁ B9 hml hv
  obtain ⟨rfl, hsz, hP, hKK, hD0⟩ := hv
  have hx := B9.exec
  have hb := B9.bytes
  have hrt := B9.returns
  have hts := atoms_spec (ws := wsX6_advise) B9.pre
  have hown : s.vm.findClass RX6 = some m.cls := findClass_of_methodNamed B9.named
  have hlocks := B9.notSynchronized
  have nw := fun {w : Cond} (h : w ∈ nw_all) => NW.use (args := ([.ref aM, .int (nI h_)] : List Value).toArray) hKK.2 h
  have iX6 : ∀ w ∈ wsX60, w ∈ wsX6_advise := fun _ h => List.mem_cons_of_mem _ (List.mem_append_right _ h)
  subst hsz
  have hD := hD0.self (sz := s.heap.size)
  generalize hAe : va_A (cM aM ac as_ an ah th bu fd fn ++ cA cyI ac 8 cd ++ cA cyI as_ 12 sw ++ cA cyI an 121 rn ++ cA cyI ah 121 ra) s.heap.size = A at hD ⊢
  have hA : ∀ q : Nat, s.heap.size ≤ q → A q := fun q h => by rw [← hAe]; exact Or.inr h
  have hS : va_S A s.heap s.heap [] := va_S.rf
  have hl := lv_entry ([.ref aM, .int (nI h_)]) (n := 6) (Nat.le_of_ble_eq_true rfl)
  rw [lg_entry_eq]
  generalize (lg_sl ([.ref aM, .int (nI h_)]) ++ List.replicate (6 - (lg_sl ([.ref aM, .int (nI h_)])).length) Slot.unset).toArray = ls at hl ⊢
  have hl : lv_has ls 6 [(0, .ref aM), (1, .int (nI h_))] := hl
  refine lv_aload_n hx hb dX6_advise_0 rfl (lv_at hl 0 rfl) ?_
  refine lv_iconst (v := 0) hx hb dX6_advise_1 (by decide) ?_
  refine va_put (D := D) (ci := 6) (v := .int 0) (ty := .int) (C := RX6) (T := TX6) (N := 8) hx hb hts iX6 tyX6 tyX6_ok nmX6 hown hKK.1 hP hD hS 0 rfl rfl 0 (by decide) (hts (.fieldLink RX6 1 "TrolleyGangModel" "thrown" "I") (List.mem_of_getElem? (i := 1) rfl)) (fun _ h9 => h9) rfl (by decide +kernel) rfl rfl (Nat.le_of_ble_eq_true rfl) dX6_advise_2 (fun H locs hP hD hS => ?_)
  have hP : va_P D vwCl (cM aM ac as_ an ah 0 bu fd fn ++ cA cyI ac 8 cd ++ cA cyI as_ 12 sw ++ cA cyI an 121 rn ++ cA cyI ah 121 ra) H := hP
  have hD : va_D A (cM aM ac as_ an ah 0 bu fd fn ++ cA cyI ac 8 cd ++ cA cyI as_ 12 sw ++ cA cyI an 121 rn ++ cA cyI ah 121 ra) := hD
  refine lv_iload_n hx hb dX6_advise_5 rfl (lv_at hl 1 rfl) ?_
  refine lv_iconst (v := 1) hx hb dX6_advise_6 (by decide) ?_
  refine lv_bipush (v := 48) hx hb dX6_advise_7 (by decide) ?_
  have hPc := hP.sub (ws' := ([] : va_W)) [] rfl
  have hDc := hD.sub (ws' := ([] : va_W)) [] (by decide) rfl
  refine ret_i (W1 := ([] : va_W)) (W2 := ([] : va_W)) (ws1 := (cM aM ac as_ an ah 0 bu fd fn ++ cA cyI ac 8 cd ++ cA cyI as_ 12 sw ++ cA cyI an 121 rn ++ cA cyI ah 121 ra)) (r := inI (nI h_) 1 48) (run_S (n := 3) (As := [.int (nI h_), .int 1, .int 48]) (rest := []) ⟨hx, hb, hml, hown, hts⟩ (c_X6_isIn l D cyI cyO cyL (nI h_) 1 48 _) ggX6_advise_X6_isIn rfl rfl rfl (hts (.methodLink RX6 32 yX6_isIn) (List.mem_of_getElem? (i := 2) rfl)) (hts (.initialized RX6) (List.mem_of_getElem? (i := 4) rfl)) (hts (.static yX6_isIn) (List.mem_of_getElem? (i := 3) rfl)) (by decide +kernel) ⟨Nat.le_of_ble_eq_true rfl, Nat.le_of_ble_eq_true rfl⟩ hKK hPc hDc rfl hl.1 rfl (Nat.le_of_ble_eq_true rfl) dX6_advise_9 ⟨Nat.zero_le _, Nat.zero_le _⟩) hP hD hS hA [] rfl rfl [(false, 0), (false, 1), (false, 2), (false, 3), (false, 4)] (by decide +kernel) rfl (fun H locs hP hD hS => ?_)
  refine lv_if_ne (tgt := 21) hx hb dX6_advise_12 (by decide) (fun h_1 => ?_) (fun h_1 => ?_)
  · skip
    refine lv_iconst (v := (-1)) hx hb dX6_advise_21 (by decide) ?_
    refine lv_istore_n (lv' := [(2, .int (-1)), (0, .ref aM), (1, .int (nI h_))]) hx hb dX6_advise_22 rfl hl (by decide) rfl (fun ls hl => ?_)
    refine lv_aload_n hx hb dX6_advise_23 rfl (lv_at hl 1 rfl) ?_
    refine lv_iconst (v := (-1)) hx hb dX6_advise_24 (by decide) ?_
    refine lv_iload_n hx hb dX6_advise_25 rfl (lv_at hl 2 rfl) ?_
    have hPc := hP.sub (ws' := (cM aM ac as_ an ah 0 bu fd fn ++ cA cyI ac 8 cd ++ cA cyI as_ 12 sw ++ cA cyI an 121 rn ++ cA cyI ah 121 ra)) [0, 1, 2, 3, 4] rfl
    have hDc := hD.sub (ws' := (cM aM ac as_ an ah 0 bu fd fn ++ cA cyI ac 8 cd ++ cA cyI as_ 12 sw ++ cA cyI an 121 rn ++ cA cyI ah 121 ra)) [0, 1, 2, 3, 4] (by decide) rfl
    refine ret_i (W1 := (cM aM ac as_ an ah 0 bu fd fn ++ cA cyI ac 8 cd ++ cA cyI as_ 12 sw ++ cA cyI an 121 rn ++ cA cyI ah 121 ra)) (W2 := (cM aM ac as_ an ah 0 bu fd fn ++ cA cyI ac 8 cd ++ cA cyI as_ 12 sw ++ cA cyI an 121 rn ++ cA cyI ah 121 (mcw cd sw fd fn n h_ rn (-1) ra))) (ws1 := (cM aM ac as_ an ah 0 bu fd fn ++ cA cyI ac 8 cd ++ cA cyI as_ 12 sw ++ cA cyI an 121 rn ++ cA cyI ah 121 (mcw cd sw fd fn n h_ rn (-1) ra))) (r := (mcw cd sw fd fn n h_ rn (-1) ra) 119) (run_V (q := (RX6, TX6, 8)) (n := 2) (As := [.int (-1), .int (nI h_)]) (rest := []) ⟨hx, hb, hml, hown, hts⟩ (c_X6_coinsWith l D cyI cyO cyL aM ac as_ an ah 0 bu fd fn cd sw rn ra (-1) h_ n M_ hn hbu hok hM hsw hh2 (Or.inl rfl) _) ggX6_advise_X6_coinsWith rfl rfl rfl (hts (.methodLink RX6 136 yX6_coinsWith) (List.mem_of_getElem? (i := 10) rfl)) (hts (.initialized RX6) (List.mem_of_getElem? (i := 4) rfl)) (hts (.instanceMethod yX6_coinsWith) (List.mem_of_getElem? (i := 11) rfl)) (hts (.selects RX6 yX6_coinsWith yX6_coinsWith) (List.mem_of_getElem? (i := 12) rfl)) (by decide +kernel) ⟨Nat.le_of_ble_eq_true rfl, Nat.le_of_ble_eq_true rfl⟩ hKK hPc hDc (ci := 6) (q0 := 0) rfl rfl rfl hl.1 rfl (Nat.le_of_ble_eq_true rfl) dX6_advise_26 ⟨Nat.zero_le _, Nat.zero_le _⟩) hP hD hS hA [0, 1, 2, 3, 4] rfl rfl [(true, 0), (true, 1), (true, 2), (true, 3), (true, 4)] (by decide +kernel) rfl (fun H locs hP hD hS => ?_)
    refine lv_istore_n (lv' := [(3, .int ((mcw cd sw fd fn n h_ rn (-1) ra) 119)), (2, .int (-1)), (0, .ref aM), (1, .int (nI h_))]) hx hb dX6_advise_29 rfl hl (by decide) rfl (fun ls hl => ?_)
    refine lv_iconst (v := 0) hx hb dX6_advise_30 (by decide) ?_
    refine lv_istore (lv' := [(4, .int 0), (3, .int ((mcw cd sw fd fn n h_ rn (-1) ra) 119)), (2, .int (-1)), (0, .ref aM), (1, .int (nI h_))]) hx hb dX6_advise_31 hl (by decide) rfl (fun ls hl => ?_)
    refine wloop (σ := (Nat) × (Int32) × (Int32) × (Nat → Int32)) (fun d9 x9 H9 L9 s9 => ((x9.1) + d9 = 24) ∧ (madL (fun z => mcw cd sw fd fn n h_ rn z) 24 0 (-1) ((mcw cd sw fd fn n h_ rn (-1) ra) 119) (mcw cd sw fd fn n h_ rn (-1) ra) = madL (fun z => mcw cd sw fd fn n h_ rn z) d9 (x9.1) (x9.2.1) (x9.2.2.1) (x9.2.2.2)) ∧ (va_P D vwCl (cM aM ac as_ an ah 0 bu fd fn ++ cA cyI ac 8 cd ++ cA cyI as_ 12 sw ++ cA cyI an 121 rn ++ cA cyI ah 121 (x9.2.2.2)) H9) ∧ (va_D A (cM aM ac as_ an ah 0 bu fd fn ++ cA cyI ac 8 cd ++ cA cyI as_ 12 sw ++ cA cyI an 121 rn ++ cA cyI ah 121 (x9.2.2.2))) ∧ (va_S A s.heap H9 L9) ∧ (lv_has s9 6 [(4, .int (nI (x9.1))), (3, .int (x9.2.2.1)), (2, .int (x9.2.1)), (0, .ref aM), (1, .int (nI h_))])) (fun d9 x9 H locs ls g9 ih => ?_) 24 (0, (-1), (mcw cd sw fd fn n h_ rn (-1) ra) 119, mcw cd sw fd fn n h_ rn (-1) ra) _ _ _ ⟨(by omega), rfl, hP, hD, hS, lv_sub hl [0, 1, 2, 3, 4] rfl⟩
    obtain ⟨i, b1, m1, ra1⟩ := x9
    obtain ⟨hid, hsp, hP, hD, hS, hl⟩ := g9
    obtain ⟨d, rfl⟩ : ∃ z, z = d9 := ⟨_, rfl⟩
    have hid : i + d = 24 := hid
    have hsp : madL (fun z => mcw cd sw fd fn n h_ rn z) 24 0 (-1) ((mcw cd sw fd fn n h_ rn (-1) ra) 119) (mcw cd sw fd fn n h_ rn (-1) ra) = madL (fun z => mcw cd sw fd fn n h_ rn z) d i b1 m1 ra1 := hsp
    have hP : va_P D vwCl (cM aM ac as_ an ah 0 bu fd fn ++ cA cyI ac 8 cd ++ cA cyI as_ 12 sw ++ cA cyI an 121 rn ++ cA cyI ah 121 ra1) H := hP
    have hD : va_D A (cM aM ac as_ an ah 0 bu fd fn ++ cA cyI ac 8 cd ++ cA cyI as_ 12 sw ++ cA cyI an 121 rn ++ cA cyI ah 121 ra1) := hD
    have hl : lv_has ls 6 [(4, .int (nI i)), (3, .int m1), (2, .int b1), (0, .ref aM), (1, .int (nI h_))] := hl
    refine lv_iload hx hb dX6_advise_33 (lv_at hl 0 rfl) ?_
    refine lv_bipush (v := 24) hx hb dX6_advise_35 (by decide) ?_
    refine lv_icmp_ge (tgt := 70) hx hb dX6_advise_37 (by decide) (fun h_2 => ?_) (fun h_2 => ?_)
    · skip
      obtain rfl : d = 0 := by have h9 := (nI_leI (a := 24) (b := i) (by omega) (by omega)).mp h_2; omega
      have hiN : i = 24 := by omega
      refine lv_iload_n hx hb dX6_advise_70 rfl (lv_at hl 2 rfl) ?_
      have e9_0 : ((madL (fun z => mcw cd sw fd fn n h_ rn z) 24 0 (-1) ((mcw cd sw fd fn n h_ rn (-1) ra) 119) (mcw cd sw fd fn n h_ rn (-1) ra)).1) = b1 := (by rw [hsp]; rfl)
      have e9_2 : ((madL (fun z => mcw cd sw fd fn n h_ rn z) 24 0 (-1) ((mcw cd sw fd fn n h_ rn (-1) ra) 119) (mcw cd sw fd fn n h_ rn (-1) ra)).2) = ra1 := (by rw [hsp]; rfl)
      exact end_i hx hb hrt hlocks e9_0.symm (by first | exact hP | (rw [e9_2]; exact hP)) hS dX6_advise_71
    · skip
      have hlt : i < 24 := by have h9 := mt (nI_leI (a := 24) (b := i) (by omega) (by omega)).mpr h_2; omega
      obtain ⟨d, rfl⟩ : ∃ k, d = k + 1 := ⟨d - 1, by omega⟩
      refine lv_aload_n hx hb dX6_advise_40 rfl (lv_at hl 3 rfl) ?_
      refine lv_iload hx hb dX6_advise_41 (lv_at hl 0 rfl) ?_
      refine lv_iload_n hx hb dX6_advise_43 rfl (lv_at hl 4 rfl) ?_
      have hPc := hP.sub (ws' := (cM aM ac as_ an ah 0 bu fd fn ++ cA cyI ac 8 cd ++ cA cyI as_ 12 sw ++ cA cyI an 121 rn ++ cA cyI ah 121 ra1)) [0, 1, 2, 3, 4] rfl
      have hDc := hD.sub (ws' := (cM aM ac as_ an ah 0 bu fd fn ++ cA cyI ac 8 cd ++ cA cyI as_ 12 sw ++ cA cyI an 121 rn ++ cA cyI ah 121 ra1)) [0, 1, 2, 3, 4] (by decide) rfl
      refine ret_i (W1 := (cM aM ac as_ an ah 0 bu fd fn ++ cA cyI ac 8 cd ++ cA cyI as_ 12 sw ++ cA cyI an 121 rn ++ cA cyI ah 121 ra1)) (W2 := (cM aM ac as_ an ah 0 bu fd fn ++ cA cyI ac 8 cd ++ cA cyI as_ 12 sw ++ cA cyI an 121 rn ++ cA cyI ah 121 (mcw cd sw fd fn n h_ rn (nI i) ra1))) (ws1 := (cM aM ac as_ an ah 0 bu fd fn ++ cA cyI ac 8 cd ++ cA cyI as_ 12 sw ++ cA cyI an 121 rn ++ cA cyI ah 121 (mcw cd sw fd fn n h_ rn (nI i) ra1))) (r := (mcw cd sw fd fn n h_ rn (nI i) ra1) 119) (run_V (q := (RX6, TX6, 8)) (n := 2) (As := [.int (nI i), .int (nI h_)]) (rest := []) ⟨hx, hb, hml, hown, hts⟩ (c_X6_coinsWith l D cyI cyO cyL aM ac as_ an ah 0 bu fd fn cd sw rn ra1 (nI i) h_ n M_ hn hbu hok hM hsw hh2 (Or.inr (vp_in_nI hlt (by omega))) _) ggX6_advise_X6_coinsWith rfl rfl rfl (hts (.methodLink RX6 136 yX6_coinsWith) (List.mem_of_getElem? (i := 10) rfl)) (hts (.initialized RX6) (List.mem_of_getElem? (i := 4) rfl)) (hts (.instanceMethod yX6_coinsWith) (List.mem_of_getElem? (i := 11) rfl)) (hts (.selects RX6 yX6_coinsWith yX6_coinsWith) (List.mem_of_getElem? (i := 12) rfl)) (by decide +kernel) ⟨Nat.le_of_ble_eq_true rfl, Nat.le_of_ble_eq_true rfl⟩ hKK hPc hDc (ci := 6) (q0 := 0) rfl rfl rfl hl.1 rfl (Nat.le_of_ble_eq_true rfl) dX6_advise_44 ⟨Nat.zero_le _, Nat.zero_le _⟩) hP hD hS hA [0, 1, 2, 3, 4] rfl rfl [(true, 0), (true, 1), (true, 2), (true, 3), (true, 4)] (by decide +kernel) rfl (fun H locs hP hD hS => ?_)
      refine lv_istore (lv' := [(5, .int ((mcw cd sw fd fn n h_ rn (nI i) ra1) 119)), (4, .int (nI i)), (3, .int m1), (2, .int b1), (0, .ref aM), (1, .int (nI h_))]) hx hb dX6_advise_47 hl (by decide) rfl (fun ls hl => ?_)
      refine lv_iload hx hb dX6_advise_49 (lv_at hl 0 rfl) ?_
      refine lv_iload_n hx hb dX6_advise_51 rfl (lv_at hl 2 rfl) ?_
      refine lv_icmp_gt (tgt := 58) hx hb dX6_advise_52 (by decide) (fun h_3 => ?_) (fun h_3 => ?_)
      · skip
        refine lv_iload hx hb dX6_advise_58 (lv_at hl 1 rfl) ?_
        refine lv_istore_n (lv' := [(2, .int (nI i)), (5, .int ((mcw cd sw fd fn n h_ rn (nI i) ra1) 119)), (4, .int (nI i)), (3, .int m1), (0, .ref aM), (1, .int (nI h_))]) hx hb dX6_advise_60 rfl hl (by decide) rfl (fun ls hl => ?_)
        refine lv_iload hx hb dX6_advise_61 (lv_at hl 1 rfl) ?_
        refine lv_istore_n (lv' := [(3, .int ((mcw cd sw fd fn n h_ rn (nI i) ra1) 119)), (2, .int (nI i)), (5, .int ((mcw cd sw fd fn n h_ rn (nI i) ra1) 119)), (4, .int (nI i)), (0, .ref aM), (1, .int (nI h_))]) hx hb dX6_advise_63 rfl hl (by decide) rfl (fun ls hl => ?_)
        refine lv_iinc (v := nI (i + 1)) (lv' := [(4, .int (nI (i + 1))), (3, .int ((mcw cd sw fd fn n h_ rn (nI i) ra1) 119)), (2, .int (nI i)), (5, .int ((mcw cd sw fd fn n h_ rn (nI i) ra1) 119)), (0, .ref aM), (1, .int (nI h_))]) hx hb dX6_advise_64 hl (k := 3) rfl (nI_1 i) (by decide) rfl (fun ls hl => ?_)
        refine lv_goto (tgt := 33) hx hb dX6_advise_67 (by decide) ?_
        exact ih d ((i + 1), (nI i), ((mcw cd sw fd fn n h_ rn (nI i) ra1) 119), (mcw cd sw fd fn n h_ rn (nI i) ra1)) _ _ _ (by omega) ⟨(by omega), (hsp.trans (by simp only [madL]; first | rw [if_pos h_3] | rw [if_neg h_3])), hP, hD, hS, lv_sub hl [0, 1, 2, 4, 5] rfl⟩
      · skip
        refine lv_goto (tgt := 64) hx hb dX6_advise_55 (by decide) ?_
        refine lv_iinc (v := nI (i + 1)) (lv' := [(4, .int (nI (i + 1))), (5, .int ((mcw cd sw fd fn n h_ rn (nI i) ra1) 119)), (3, .int m1), (2, .int b1), (0, .ref aM), (1, .int (nI h_))]) hx hb dX6_advise_64 hl (k := 1) rfl (nI_1 i) (by decide) rfl (fun ls hl => ?_)
        refine lv_goto (tgt := 33) hx hb dX6_advise_67 (by decide) ?_
        exact ih d ((i + 1), b1, m1, (mcw cd sw fd fn n h_ rn (nI i) ra1)) _ _ _ (by omega) ⟨(by omega), (hsp.trans (by simp only [madL]; first | rw [if_pos h_3] | rw [if_neg h_3])), hP, hD, hS, lv_sub hl [0, 2, 3, 4, 5] rfl⟩
  · skip
    exact absurd h_1 (inI_h (lo := 1) (hi := 48) hh1 hh2 (by decide))
set_option maxHeartbeats 4000000 in
set_option maxRecDepth 100000 in
theorem c_X6_mean (l : Launch) (D : va_G) (cyI cyO cyL : ClassId) (aM : Nat) (ac : Nat) (as_ : Nat) (an : Nat) (ah : Nat) (th : Int32) (bu : Int32) (fd : Int32) (fn : Int32) (cd : Nat → Int32) (sw : Nat → Int32) (rn : Nat → Int32) (ra : Nat → Int32) (hsum : ∃ k : Nat, k ≤ 2400 ∧ msum rn 0 24 0 0 = nI k) : cD l yX6_mean wsX6_mean ({ frames := 1, cells := 0, slots := 0, locals := 23 }) D cyI cyO cyL [.ref aM] (cM aM ac as_ an ah th bu fd fn ++ cA cyI ac 8 cd ++ cA cyI as_ 12 sw ++ cA cyI an 121 rn ++ cA cyI ah 121 ra) (cM aM ac as_ an ah 0 bu fd fn ++ cA cyI ac 8 cd ++ cA cyI as_ 12 sw ++ cA cyI an 121 rn ++ cA cyI ah 121 ra) (mmn rn) := by
  intro sz
  refine Met.ofW (cc := cX6_mean) (maxL := 1) (ret := (some .double)) (by decide) rfl ?_
  intro p e s m args below meth c s₁ B9 hml hv
  obtain ⟨rfl, hsz, hP, hKK, hD0⟩ := hv
  have hx := B9.exec
  have hb := B9.bytes
  have hrt := B9.returns
  have hts := atoms_spec (ws := wsX6_mean) B9.pre
  have hown : s.vm.findClass RX6 = some m.cls := findClass_of_methodNamed B9.named
  have hlocks := B9.notSynchronized
  have nw := fun {w : Cond} (h : w ∈ nw_all) => NW.use (args := ([.ref aM] : List Value).toArray) hKK.2 h
  have iX6 : ∀ w ∈ wsX60, w ∈ wsX6_mean := fun _ h => List.mem_cons_of_mem _ (List.mem_append_right _ h)
  subst hsz
  have hD := hD0.self (sz := s.heap.size)
  generalize hAe : va_A (cM aM ac as_ an ah th bu fd fn ++ cA cyI ac 8 cd ++ cA cyI as_ 12 sw ++ cA cyI an 121 rn ++ cA cyI ah 121 ra) s.heap.size = A at hD ⊢
  have hA : ∀ q : Nat, s.heap.size ≤ q → A q := fun q h => by rw [← hAe]; exact Or.inr h
  have hS : va_S A s.heap s.heap [] := va_S.rf
  have hl := lv_entry ([.ref aM]) (n := 1) (Nat.le_of_ble_eq_true rfl)
  rw [lg_entry_eq]
  generalize (lg_sl ([.ref aM]) ++ List.replicate (1 - (lg_sl ([.ref aM])).length) Slot.unset).toArray = ls at hl ⊢
  have hl : lv_has ls 1 [(0, .ref aM)] := hl
  refine lv_aload_n hx hb dX6_mean_0 rfl (lv_at hl 0 rfl) ?_
  refine lv_iconst (v := 0) hx hb dX6_mean_1 (by decide) ?_
  refine va_put (D := D) (ci := 6) (v := .int 0) (ty := .int) (C := RX6) (T := TX6) (N := 8) hx hb hts iX6 tyX6 tyX6_ok nmX6 hown hKK.1 hP hD hS 0 rfl rfl 0 (by decide) (hts (.fieldLink RX6 1 "TrolleyGangModel" "thrown" "I") (List.mem_of_getElem? (i := 1) rfl)) (fun _ h9 => h9) rfl (by decide +kernel) rfl rfl (Nat.le_of_ble_eq_true rfl) dX6_mean_2 (fun H locs hP hD hS => ?_)
  have hP : va_P D vwCl (cM aM ac as_ an ah 0 bu fd fn ++ cA cyI ac 8 cd ++ cA cyI as_ 12 sw ++ cA cyI an 121 rn ++ cA cyI ah 121 ra) H := hP
  have hD : va_D A (cM aM ac as_ an ah 0 bu fd fn ++ cA cyI ac 8 cd ++ cA cyI as_ 12 sw ++ cA cyI an 121 rn ++ cA cyI ah 121 ra) := hD
  refine lv_aload_n hx hb dX6_mean_5 rfl (lv_at hl 0 rfl) ?_
  refine va_get (D := D) (ci := 6) (v := .ref an) (C := RX6) (T := TX6) (N := 8) hx hb hts iX6 hown hKK.1 hP 0 rfl rfl 6 (by decide) (hts (.fieldLink RX6 26 "TrolleyGangModel" "now" "[I") (List.mem_of_getElem? (i := 2) rfl)) (fun _ h9 => h9) rfl dX6_mean_6 ?_
  refine lv_iconst (v := 0) hx hb dX6_mean_9 (by decide) ?_
  have hPc := hP.sub (ws' := (cA cyI an 121 rn)) [3] rfl
  have hDc := hD.sub (ws' := (cA cyI an 121 rn)) [3] (by decide) rfl
  refine ret_i (W1 := (cA cyI an 121 rn)) (W2 := (cA cyI an 121 rn)) (ws1 := (cM aM ac as_ an ah 0 bu fd fn ++ cA cyI ac 8 cd ++ cA cyI as_ 12 sw ++ cA cyI an 121 rn ++ cA cyI ah 121 ra)) (r := msum rn 0 24 0 0) (run_S (n := 2) (As := [.ref an, .int 0]) (rest := []) ⟨hx, hb, hml, hown, hts⟩ (c_X6_sum l D cyI cyO cyL an rn 0 (by first | assumption | omega) _) ggX6_mean_X6_sum rfl rfl rfl (hts (.methodLink RX6 88 yX6_sum) (List.mem_of_getElem? (i := 4) rfl)) (hts (.initialized RX6) (List.mem_of_getElem? (i := 6) rfl)) (hts (.static yX6_sum) (List.mem_of_getElem? (i := 5) rfl)) (by decide +kernel) ⟨Nat.le_of_ble_eq_true rfl, Nat.le_of_ble_eq_true rfl⟩ hKK hPc hDc rfl hl.1 rfl (Nat.le_of_ble_eq_true rfl) dX6_mean_10 ⟨Nat.zero_le _, Nat.zero_le _⟩) hP hD hS hA [3] rfl rfl [(false, 0), (false, 1), (false, 2), (true, 0), (false, 4)] (by decide +kernel) rfl (fun H locs hP hD hS => ?_)
  refine lv_i2d hx hb dX6_mean_13 ?_
  refine lv_ldc2d hx hb hown (hts (.constantDouble RX6 139 (4627448617123184640)) (List.mem_of_getElem? (i := 3) rfl)) dX6_mean_14 ?_
  refine lv_ddiv hx hb dX6_mean_17 (mn_ok hsum) ?_
  have e9_0 : (mmn rn) = FP.ddiv (FP.i2d (msum rn 0 24 0 0)) 4627448617123184640 := (by rfl)
  exact end_d hx hb hrt hlocks e9_0.symm hP hS dX6_mean_18
set_option maxHeartbeats 4000000 in
set_option maxRecDepth 100000 in
theorem c_X6_digest (l : Launch) (D : va_G) (cyI cyO cyL : ClassId) (aM : Nat) (ac : Nat) (as_ : Nat) (an : Nat) (ah : Nat) (th : Int32) (bu : Int32) (fd : Int32) (fn : Int32) (cd : Nat → Int32) (sw : Nat → Int32) (rn : Nat → Int32) (ra : Nat → Int32) (n : Nat) (k_ : Nat) (M_ : Nat) (hn : n ≤ 6) (hbu : bu = nI n) (hok : OkN M_ rn) (hm : k_ ≤ 6) (hoc : rn 109 = nI k_) : cL l yX6_digest wsX6_digest ({ frames := 3, cells := 0, slots := 0, locals := 67 }) D cyI cyO cyL [.ref aM] (cM aM ac as_ an ah th bu fd fn ++ cA cyI ac 8 cd ++ cA cyI as_ 12 sw ++ cA cyI an 121 rn ++ cA cyI ah 121 ra) (cM aM ac as_ an ah 0 bu fd fn ++ cA cyI ac 8 cd ++ cA cyI as_ 12 sw ++ cA cyI an 121 rn ++ cA cyI ah 121 ra) (dgL (fun z => mbtold rn (nI (z / 7)) (nI (z % 7))) (7 * n) 0 (dgL (fun z => mstold rn n k_ (nI (z / 5)) (nI (z % 5))) 120 0 (dgL (fun z => mgtold rn (nI z)) 7 0 (dgT cd sw fd fn (dgL (fun z => mcounted rn n bu (nI z)) 9 0 1301))))) := by
  intro sz
  refine Met.ofW (cc := cX6_digest) (maxL := 7) (ret := (some .long)) (by decide) rfl ?_
  intro p e s m args below meth c s₁ B9 hml hv
  obtain ⟨rfl, hsz, hP, hKK, hD0⟩ := hv
  have hx := B9.exec
  have hb := B9.bytes
  have hrt := B9.returns
  have hts := atoms_spec (ws := wsX6_digest) B9.pre
  have hown : s.vm.findClass RX6 = some m.cls := findClass_of_methodNamed B9.named
  have hlocks := B9.notSynchronized
  have nw := fun {w : Cond} (h : w ∈ nw_all) => NW.use (args := ([.ref aM] : List Value).toArray) hKK.2 h
  have iX6 : ∀ w ∈ wsX60, w ∈ wsX6_digest := fun _ h => List.mem_cons_of_mem _ (List.mem_append_right _ h)
  subst hsz
  have hD := hD0.self (sz := s.heap.size)
  generalize hAe : va_A (cM aM ac as_ an ah th bu fd fn ++ cA cyI ac 8 cd ++ cA cyI as_ 12 sw ++ cA cyI an 121 rn ++ cA cyI ah 121 ra) s.heap.size = A at hD ⊢
  have hA : ∀ q : Nat, s.heap.size ≤ q → A q := fun q h => by rw [← hAe]; exact Or.inr h
  have hS : va_S A s.heap s.heap [] := va_S.rf
  have hl := lv_entry ([.ref aM]) (n := 7) (Nat.le_of_ble_eq_true rfl)
  rw [lg_entry_eq]
  generalize (lg_sl ([.ref aM]) ++ List.replicate (7 - (lg_sl ([.ref aM])).length) Slot.unset).toArray = ls at hl ⊢
  have hl : lv_has ls 7 [(0, .ref aM)] := hl
  refine lv_aload_n hx hb dX6_digest_0 rfl (lv_at hl 0 rfl) ?_
  refine lv_iconst (v := 0) hx hb dX6_digest_1 (by decide) ?_
  refine va_put (D := D) (ci := 6) (v := .int 0) (ty := .int) (C := RX6) (T := TX6) (N := 8) hx hb hts iX6 tyX6 tyX6_ok nmX6 hown hKK.1 hP hD hS 0 rfl rfl 0 (by decide) (hts (.fieldLink RX6 1 "TrolleyGangModel" "thrown" "I") (List.mem_of_getElem? (i := 1) rfl)) (fun _ h9 => h9) rfl (by decide +kernel) rfl rfl (Nat.le_of_ble_eq_true rfl) dX6_digest_2 (fun H locs hP hD hS => ?_)
  have hP : va_P D vwCl (cM aM ac as_ an ah 0 bu fd fn ++ cA cyI ac 8 cd ++ cA cyI as_ 12 sw ++ cA cyI an 121 rn ++ cA cyI ah 121 ra) H := hP
  have hD : va_D A (cM aM ac as_ an ah 0 bu fd fn ++ cA cyI ac 8 cd ++ cA cyI as_ 12 sw ++ cA cyI an 121 rn ++ cA cyI ah 121 ra) := hD
  refine lv_ldc2 hx hb hown (hts (.constantLong RX6 141 (1301)) (List.mem_of_getElem? (i := 2) rfl)) dX6_digest_5 ?_
  refine lv_lstore_n (lv' := [(1, .long 1301), (0, .ref aM)]) hx hb dX6_digest_8 rfl hl (by decide) rfl (fun ls hl => ?_)
  refine lv_iconst (v := 0) hx hb dX6_digest_9 (by decide) ?_
  refine lv_istore_n (lv' := [(3, .int 0), (1, .long 1301), (0, .ref aM)]) hx hb dX6_digest_10 rfl hl (by decide) rfl (fun ls hl => ?_)
  refine wloop (σ := (Nat) × (Int64)) (fun d9 x9 H9 L9 s9 => ((x9.1) + d9 = 9) ∧ (dgL (fun z => mcounted rn n bu (nI z)) 9 0 1301 = dgL (fun z => mcounted rn n bu (nI z)) d9 (x9.1) (x9.2)) ∧ (va_P D vwCl (cM aM ac as_ an ah 0 bu fd fn ++ cA cyI ac 8 cd ++ cA cyI as_ 12 sw ++ cA cyI an 121 rn ++ cA cyI ah 121 ra) H9) ∧ (va_D A (cM aM ac as_ an ah 0 bu fd fn ++ cA cyI ac 8 cd ++ cA cyI as_ 12 sw ++ cA cyI an 121 rn ++ cA cyI ah 121 ra)) ∧ (va_S A s.heap H9 L9) ∧ (lv_has s9 7 [(3, .int (nI (x9.1))), (1, .long (x9.2)), (0, .ref aM)])) (fun d9 x9 H locs ls g9 ihA => ?_) 9 (0, 1301) _ _ _ ⟨(by omega), rfl, hP, hD, hS, lv_sub hl [0, 1, 2] rfl⟩
  obtain ⟨iA, a1⟩ := x9
  obtain ⟨hidA, hspA, hP, hD, hS, hl⟩ := g9
  obtain ⟨dA, rfl⟩ : ∃ z, z = d9 := ⟨_, rfl⟩
  have hidA : iA + dA = 9 := hidA
  have hspA : dgL (fun z => mcounted rn n bu (nI z)) 9 0 1301 = dgL (fun z => mcounted rn n bu (nI z)) dA iA a1 := hspA
  have hP : va_P D vwCl (cM aM ac as_ an ah 0 bu fd fn ++ cA cyI ac 8 cd ++ cA cyI as_ 12 sw ++ cA cyI an 121 rn ++ cA cyI ah 121 ra) H := hP
  have hD : va_D A (cM aM ac as_ an ah 0 bu fd fn ++ cA cyI ac 8 cd ++ cA cyI as_ 12 sw ++ cA cyI an 121 rn ++ cA cyI ah 121 ra) := hD
  have hl : lv_has ls 7 [(3, .int (nI iA)), (1, .long a1), (0, .ref aM)] := hl
  refine lv_iload_n hx hb dX6_digest_11 rfl (lv_at hl 0 rfl) ?_
  refine lv_bipush (v := 9) hx hb dX6_digest_12 (by decide) ?_
  refine lv_icmp_ge (tgt := 36) hx hb dX6_digest_14 (by decide) (fun h_1 => ?_) (fun h_1 => ?_)
  · skip
    obtain rfl : dA = 0 := by have h9 := (nI_leI (a := 9) (b := iA) (by omega) (by omega)).mp h_1; omega
    have hiNA : iA = 9 := by omega
    have hA1 : dgL (fun z => mcounted rn n bu (nI z)) 9 0 1301 = a1 := hspA
    refine lv_aload_n hx hb dX6_digest_36 rfl (lv_at hl 2 rfl) ?_
    refine va_get (D := D) (ci := 6) (v := .ref ac) (C := RX6) (T := TX6) (N := 8) hx hb hts iX6 hown hKK.1 hP 0 rfl rfl 4 (by decide) (hts (.fieldLink RX6 19 "TrolleyGangModel" "cold" "[I") (List.mem_of_getElem? (i := 4) rfl)) (fun _ h9 => h9) rfl dX6_digest_37 ?_
    refine lv_astore_n (lv' := [(3, .ref ac), (1, .long a1), (0, .ref aM)]) hx hb dX6_digest_40 rfl hl (by decide) rfl (fun ls hl => ?_)
    refine lv_aload_n hx hb dX6_digest_41 rfl (lv_at hl 0 rfl) ?_
    refine va_alen hx hb hKK.1 hP 1 0 rfl (v := 8) rfl rfl dX6_digest_42 ?_
    refine lv_istore (lv' := [(4, .int 8), (3, .ref ac), (1, .long a1), (0, .ref aM)]) hx hb dX6_digest_43 hl (by decide) rfl (fun ls hl => ?_)
    refine lv_iconst (v := 0) hx hb dX6_digest_45 (by decide) ?_
    refine lv_istore (lv' := [(5, .int 0), (4, .int 8), (3, .ref ac), (1, .long a1), (0, .ref aM)]) hx hb dX6_digest_46 hl (by decide) rfl (fun ls hl => ?_)
    refine wloop (σ := (Nat) × (Int64)) (fun d9 x9 H9 L9 s9 => ((x9.1) + d9 = 8) ∧ (dgL cd 8 0 a1 = dgL cd d9 (x9.1) (x9.2)) ∧ (va_P D vwCl (cM aM ac as_ an ah 0 bu fd fn ++ cA cyI ac 8 cd ++ cA cyI as_ 12 sw ++ cA cyI an 121 rn ++ cA cyI ah 121 ra) H9) ∧ (va_D A (cM aM ac as_ an ah 0 bu fd fn ++ cA cyI ac 8 cd ++ cA cyI as_ 12 sw ++ cA cyI an 121 rn ++ cA cyI ah 121 ra)) ∧ (va_S A s.heap H9 L9) ∧ (lv_has s9 7 [(5, .int (nI (x9.1))), (4, .int 8), (3, .ref ac), (1, .long (x9.2)), (0, .ref aM)])) (fun d9 x9 H locs ls g9 ihB => ?_) 8 (0, a1) _ _ _ ⟨(by omega), rfl, hP, hD, hS, lv_sub hl [0, 1, 2, 3, 4] rfl⟩
    obtain ⟨iB, a2⟩ := x9
    obtain ⟨hidB, hspB, hP, hD, hS, hl⟩ := g9
    obtain ⟨dB, rfl⟩ : ∃ z, z = d9 := ⟨_, rfl⟩
    have hidB : iB + dB = 8 := hidB
    have hspB : dgL cd 8 0 a1 = dgL cd dB iB a2 := hspB
    have hP : va_P D vwCl (cM aM ac as_ an ah 0 bu fd fn ++ cA cyI ac 8 cd ++ cA cyI as_ 12 sw ++ cA cyI an 121 rn ++ cA cyI ah 121 ra) H := hP
    have hD : va_D A (cM aM ac as_ an ah 0 bu fd fn ++ cA cyI ac 8 cd ++ cA cyI as_ 12 sw ++ cA cyI an 121 rn ++ cA cyI ah 121 ra) := hD
    have hl : lv_has ls 7 [(5, .int (nI iB)), (4, .int 8), (3, .ref ac), (1, .long a2), (0, .ref aM)] := hl
    refine lv_iload hx hb dX6_digest_48 (lv_at hl 0 rfl) ?_
    refine lv_iload hx hb dX6_digest_50 (lv_at hl 1 rfl) ?_
    refine lv_icmp_ge (tgt := 77) hx hb dX6_digest_52 (by decide) (fun h_2 => ?_) (fun h_2 => ?_)
    · skip
      obtain rfl : dB = 0 := by have h9 := (nI_leI (a := 8) (b := iB) (by omega) (by omega)).mp h_2; omega
      have hiNB : iB = 8 := by omega
      have hB1 : dgL cd 8 0 a1 = a2 := hspB
      refine lv_aload_n hx hb dX6_digest_77 rfl (lv_at hl 4 rfl) ?_
      refine va_get (D := D) (ci := 6) (v := .ref as_) (C := RX6) (T := TX6) (N := 8) hx hb hts iX6 hown hKK.1 hP 0 rfl rfl 5 (by decide) (hts (.fieldLink RX6 23 "TrolleyGangModel" "swan" "[I") (List.mem_of_getElem? (i := 5) rfl)) (fun _ h9 => h9) rfl dX6_digest_78 ?_
      refine lv_astore_n (lv' := [(3, .ref as_), (5, .int (nI iB)), (4, .int 8), (1, .long a2), (0, .ref aM)]) hx hb dX6_digest_81 rfl hl (by decide) rfl (fun ls hl => ?_)
      refine lv_aload_n hx hb dX6_digest_82 rfl (lv_at hl 0 rfl) ?_
      refine va_alen hx hb hKK.1 hP 2 0 rfl (v := 12) rfl rfl dX6_digest_83 ?_
      refine lv_istore (lv' := [(4, .int 12), (3, .ref as_), (5, .int (nI iB)), (1, .long a2), (0, .ref aM)]) hx hb dX6_digest_84 hl (by decide) rfl (fun ls hl => ?_)
      refine lv_iconst (v := 0) hx hb dX6_digest_86 (by decide) ?_
      refine lv_istore (lv' := [(5, .int 0), (4, .int 12), (3, .ref as_), (1, .long a2), (0, .ref aM)]) hx hb dX6_digest_87 hl (by decide) rfl (fun ls hl => ?_)
      refine wloop (σ := (Nat) × (Int64)) (fun d9 x9 H9 L9 s9 => ((x9.1) + d9 = 12) ∧ (dgL sw 12 0 a2 = dgL sw d9 (x9.1) (x9.2)) ∧ (va_P D vwCl (cM aM ac as_ an ah 0 bu fd fn ++ cA cyI ac 8 cd ++ cA cyI as_ 12 sw ++ cA cyI an 121 rn ++ cA cyI ah 121 ra) H9) ∧ (va_D A (cM aM ac as_ an ah 0 bu fd fn ++ cA cyI ac 8 cd ++ cA cyI as_ 12 sw ++ cA cyI an 121 rn ++ cA cyI ah 121 ra)) ∧ (va_S A s.heap H9 L9) ∧ (lv_has s9 7 [(5, .int (nI (x9.1))), (4, .int 12), (3, .ref as_), (1, .long (x9.2)), (0, .ref aM)])) (fun d9 x9 H locs ls g9 ihC => ?_) 12 (0, a2) _ _ _ ⟨(by omega), rfl, hP, hD, hS, lv_sub hl [0, 1, 2, 3, 4] rfl⟩
      obtain ⟨iC, a3⟩ := x9
      obtain ⟨hidC, hspC, hP, hD, hS, hl⟩ := g9
      obtain ⟨dC, rfl⟩ : ∃ z, z = d9 := ⟨_, rfl⟩
      have hidC : iC + dC = 12 := hidC
      have hspC : dgL sw 12 0 a2 = dgL sw dC iC a3 := hspC
      have hP : va_P D vwCl (cM aM ac as_ an ah 0 bu fd fn ++ cA cyI ac 8 cd ++ cA cyI as_ 12 sw ++ cA cyI an 121 rn ++ cA cyI ah 121 ra) H := hP
      have hD : va_D A (cM aM ac as_ an ah 0 bu fd fn ++ cA cyI ac 8 cd ++ cA cyI as_ 12 sw ++ cA cyI an 121 rn ++ cA cyI ah 121 ra) := hD
      have hl : lv_has ls 7 [(5, .int (nI iC)), (4, .int 12), (3, .ref as_), (1, .long a3), (0, .ref aM)] := hl
      refine lv_iload hx hb dX6_digest_89 (lv_at hl 0 rfl) ?_
      refine lv_iload hx hb dX6_digest_91 (lv_at hl 1 rfl) ?_
      refine lv_icmp_ge (tgt := 118) hx hb dX6_digest_93 (by decide) (fun h_3 => ?_) (fun h_3 => ?_)
      · skip
        obtain rfl : dC = 0 := by have h9 := (nI_leI (a := 12) (b := iC) (by omega) (by omega)).mp h_3; omega
        have hiNC : iC = 12 := by omega
        have hC1 : dgL sw 12 0 a2 = a3 := hspC
        refine lv_lload_n hx hb dX6_digest_118 rfl (lv_at hl 3 rfl) ?_
        refine lv_ldc2 hx hb hown (hts (.constantLong RX6 143 (31)) (List.mem_of_getElem? (i := 3) rfl)) dX6_digest_119 ?_
        refine lv_lmul hx hb dX6_digest_122 ?_
        refine lv_aload_n hx hb dX6_digest_123 rfl (lv_at hl 4 rfl) ?_
        refine va_get (D := D) (ci := 6) (v := .int fd) (C := RX6) (T := TX6) (N := 8) hx hb hts iX6 hown hKK.1 hP 0 rfl rfl 2 (by decide) (hts (.fieldLink RX6 13 "TrolleyGangModel" "fareByDay" "I") (List.mem_of_getElem? (i := 6) rfl)) (fun _ h9 => h9) rfl dX6_digest_124 ?_
        refine lv_i2l (v := fd.toInt64) hx hb dX6_digest_127 rfl ?_
        refine lv_ladd hx hb dX6_digest_128 ?_
        refine lv_ldc2 hx hb hown (hts (.constantLong RX6 143 (31)) (List.mem_of_getElem? (i := 3) rfl)) dX6_digest_129 ?_
        refine lv_lmul hx hb dX6_digest_132 ?_
        refine lv_aload_n hx hb dX6_digest_133 rfl (lv_at hl 4 rfl) ?_
        refine va_get (D := D) (ci := 6) (v := .int fn) (C := RX6) (T := TX6) (N := 8) hx hb hts iX6 hown hKK.1 hP 0 rfl rfl 3 (by decide) (hts (.fieldLink RX6 16 "TrolleyGangModel" "fareByNight" "I") (List.mem_of_getElem? (i := 7) rfl)) (fun _ h9 => h9) rfl dX6_digest_134 ?_
        refine lv_i2l (v := fn.toInt64) hx hb dX6_digest_137 rfl ?_
        refine lv_ladd hx hb dX6_digest_138 ?_
        refine lv_lstore_n (lv' := [(1, .long ((((a3 * 31) + fd.toInt64) * 31) + fn.toInt64)), (5, .int (nI iC)), (4, .int 12), (3, .ref as_), (0, .ref aM)]) hx hb dX6_digest_139 rfl hl (by decide) rfl (fun ls hl => ?_)
        refine lv_iconst (v := 0) hx hb dX6_digest_140 (by decide) ?_
        refine lv_istore_n (lv' := [(3, .int 0), (1, .long ((((a3 * 31) + fd.toInt64) * 31) + fn.toInt64)), (5, .int (nI iC)), (4, .int 12), (0, .ref aM)]) hx hb dX6_digest_141 rfl hl (by decide) rfl (fun ls hl => ?_)
        refine wloop (σ := (Nat) × (Int64)) (fun d9 x9 H9 L9 s9 => ((x9.1) + d9 = 7) ∧ (dgL (fun z => mgtold rn (nI z)) 7 0 (((a3 * 31 + fd.toInt64) * 31) + fn.toInt64) = dgL (fun z => mgtold rn (nI z)) d9 (x9.1) (x9.2)) ∧ (va_P D vwCl (cM aM ac as_ an ah 0 bu fd fn ++ cA cyI ac 8 cd ++ cA cyI as_ 12 sw ++ cA cyI an 121 rn ++ cA cyI ah 121 ra) H9) ∧ (va_D A (cM aM ac as_ an ah 0 bu fd fn ++ cA cyI ac 8 cd ++ cA cyI as_ 12 sw ++ cA cyI an 121 rn ++ cA cyI ah 121 ra)) ∧ (va_S A s.heap H9 L9) ∧ (lv_has s9 7 [(3, .int (nI (x9.1))), (1, .long (x9.2)), (0, .ref aM)])) (fun d9 x9 H locs ls g9 ihD => ?_) 7 (0, (((a3 * 31) + fd.toInt64) * 31) + fn.toInt64) _ _ _ ⟨(by omega), rfl, hP, hD, hS, lv_sub hl [0, 1, 4] rfl⟩
        obtain ⟨iD, a4⟩ := x9
        obtain ⟨hidD, hspD, hP, hD, hS, hl⟩ := g9
        obtain ⟨dD, rfl⟩ : ∃ z, z = d9 := ⟨_, rfl⟩
        have hidD : iD + dD = 7 := hidD
        have hspD : dgL (fun z => mgtold rn (nI z)) 7 0 (((a3 * 31 + fd.toInt64) * 31) + fn.toInt64) = dgL (fun z => mgtold rn (nI z)) dD iD a4 := hspD
        have hP : va_P D vwCl (cM aM ac as_ an ah 0 bu fd fn ++ cA cyI ac 8 cd ++ cA cyI as_ 12 sw ++ cA cyI an 121 rn ++ cA cyI ah 121 ra) H := hP
        have hD : va_D A (cM aM ac as_ an ah 0 bu fd fn ++ cA cyI ac 8 cd ++ cA cyI as_ 12 sw ++ cA cyI an 121 rn ++ cA cyI ah 121 ra) := hD
        have hl : lv_has ls 7 [(3, .int (nI iD)), (1, .long a4), (0, .ref aM)] := hl
        refine lv_iload_n hx hb dX6_digest_142 rfl (lv_at hl 0 rfl) ?_
        refine lv_bipush (v := 7) hx hb dX6_digest_143 (by decide) ?_
        refine lv_icmp_ge (tgt := 167) hx hb dX6_digest_145 (by decide) (fun h_4 => ?_) (fun h_4 => ?_)
        · skip
          obtain rfl : dD = 0 := by have h9 := (nI_leI (a := 7) (b := iD) (by omega) (by omega)).mp h_4; omega
          have hiND : iD = 7 := by omega
          have hD1 : dgL (fun z => mgtold rn (nI z)) 7 0 (((a3 * 31 + fd.toInt64) * 31) + fn.toInt64) = a4 := hspD
          refine lv_iconst (v := 0) hx hb dX6_digest_167 (by decide) ?_
          refine lv_istore_n (lv' := [(3, .int 0), (1, .long a4), (0, .ref aM)]) hx hb dX6_digest_168 rfl hl (by decide) rfl (fun ls hl => ?_)
          refine wloop (σ := (Nat) × (Int64)) (fun d9 x9 H9 L9 s9 => ((x9.1) + d9 = 120) ∧ (dgL (fun z => mstold rn n k_ (nI (z / 5)) (nI (z % 5))) 120 0 a4 = dgL (fun z => mstold rn n k_ (nI (z / 5)) (nI (z % 5))) d9 (x9.1) (x9.2)) ∧ (va_P D vwCl (cM aM ac as_ an ah 0 bu fd fn ++ cA cyI ac 8 cd ++ cA cyI as_ 12 sw ++ cA cyI an 121 rn ++ cA cyI ah 121 ra) H9) ∧ (va_D A (cM aM ac as_ an ah 0 bu fd fn ++ cA cyI ac 8 cd ++ cA cyI as_ 12 sw ++ cA cyI an 121 rn ++ cA cyI ah 121 ra)) ∧ (va_S A s.heap H9 L9) ∧ (lv_has s9 7 [(3, .int (nI (x9.1))), (1, .long (x9.2)), (0, .ref aM)])) (fun d9 x9 H locs ls g9 ihE => ?_) 120 (0, a4) _ _ _ ⟨(by omega), rfl, hP, hD, hS, lv_sub hl [0, 1, 2] rfl⟩
          obtain ⟨iE, a5⟩ := x9
          obtain ⟨hidE, hspE, hP, hD, hS, hl⟩ := g9
          obtain ⟨dE, rfl⟩ : ∃ z, z = d9 := ⟨_, rfl⟩
          have hidE : iE + dE = 120 := hidE
          have hspE : dgL (fun z => mstold rn n k_ (nI (z / 5)) (nI (z % 5))) 120 0 a4 = dgL (fun z => mstold rn n k_ (nI (z / 5)) (nI (z % 5))) dE iE a5 := hspE
          have hP : va_P D vwCl (cM aM ac as_ an ah 0 bu fd fn ++ cA cyI ac 8 cd ++ cA cyI as_ 12 sw ++ cA cyI an 121 rn ++ cA cyI ah 121 ra) H := hP
          have hD : va_D A (cM aM ac as_ an ah 0 bu fd fn ++ cA cyI ac 8 cd ++ cA cyI as_ 12 sw ++ cA cyI an 121 rn ++ cA cyI ah 121 ra) := hD
          have hl : lv_has ls 7 [(3, .int (nI iE)), (1, .long a5), (0, .ref aM)] := hl
          refine lv_iload_n hx hb dX6_digest_169 rfl (lv_at hl 0 rfl) ?_
          refine lv_bipush (v := 120) hx hb dX6_digest_170 (by decide) ?_
          refine lv_icmp_ge (tgt := 199) hx hb dX6_digest_172 (by decide) (fun h_5 => ?_) (fun h_5 => ?_)
          · skip
            obtain rfl : dE = 0 := by have h9 := (nI_leI (a := 120) (b := iE) (by omega) (by omega)).mp h_5; omega
            have hiNE : iE = 120 := by omega
            have hE1 : dgL (fun z => mstold rn n k_ (nI (z / 5)) (nI (z % 5))) 120 0 a4 = a5 := hspE
            refine lv_iconst (v := 0) hx hb dX6_digest_199 (by decide) ?_
            refine lv_istore_n (lv' := [(3, .int 0), (1, .long a5), (0, .ref aM)]) hx hb dX6_digest_200 rfl hl (by decide) rfl (fun ls hl => ?_)
            refine wloop (σ := (Nat) × (Int64)) (fun d9 x9 H9 L9 s9 => ((x9.1) + d9 = (7 * n)) ∧ (dgL (fun z => mbtold rn (nI (z / 7)) (nI (z % 7))) (7 * n) 0 a5 = dgL (fun z => mbtold rn (nI (z / 7)) (nI (z % 7))) d9 (x9.1) (x9.2)) ∧ (va_P D vwCl (cM aM ac as_ an ah 0 bu fd fn ++ cA cyI ac 8 cd ++ cA cyI as_ 12 sw ++ cA cyI an 121 rn ++ cA cyI ah 121 ra) H9) ∧ (va_D A (cM aM ac as_ an ah 0 bu fd fn ++ cA cyI ac 8 cd ++ cA cyI as_ 12 sw ++ cA cyI an 121 rn ++ cA cyI ah 121 ra)) ∧ (va_S A s.heap H9 L9) ∧ (lv_has s9 7 [(3, .int (nI (x9.1))), (1, .long (x9.2)), (0, .ref aM)])) (fun d9 x9 H locs ls g9 ihF => ?_) (7 * n) (0, a5) _ _ _ ⟨(by omega), rfl, hP, hD, hS, lv_sub hl [0, 1, 2] rfl⟩
            obtain ⟨iF, a6⟩ := x9
            obtain ⟨hidF, hspF, hP, hD, hS, hl⟩ := g9
            obtain ⟨dF, rfl⟩ : ∃ z, z = d9 := ⟨_, rfl⟩
            have hidF : iF + dF = (7 * n) := hidF
            have hspF : dgL (fun z => mbtold rn (nI (z / 7)) (nI (z % 7))) (7 * n) 0 a5 = dgL (fun z => mbtold rn (nI (z / 7)) (nI (z % 7))) dF iF a6 := hspF
            have hP : va_P D vwCl (cM aM ac as_ an ah 0 bu fd fn ++ cA cyI ac 8 cd ++ cA cyI as_ 12 sw ++ cA cyI an 121 rn ++ cA cyI ah 121 ra) H := hP
            have hD : va_D A (cM aM ac as_ an ah 0 bu fd fn ++ cA cyI ac 8 cd ++ cA cyI as_ 12 sw ++ cA cyI an 121 rn ++ cA cyI ah 121 ra) := hD
            have hl : lv_has ls 7 [(3, .int (nI iF)), (1, .long a6), (0, .ref aM)] := hl
            refine lv_iload_n hx hb dX6_digest_201 rfl (lv_at hl 0 rfl) ?_
            refine lv_bipush (v := 7) hx hb dX6_digest_202 (by decide) ?_
            refine lv_aload_n hx hb dX6_digest_204 rfl (lv_at hl 2 rfl) ?_
            refine va_get (D := D) (ci := 6) (v := .int bu) (C := RX6) (T := TX6) (N := 8) hx hb hts iX6 hown hKK.1 hP 0 rfl rfl 1 (by decide) (hts (.fieldLink RX6 36 "TrolleyGangModel" "buses" "I") (List.mem_of_getElem? (i := 8) rfl)) (fun _ h9 => h9) rfl dX6_digest_205 ?_
            refine lv_tope (y := nI n) hbu ?_
            refine lv_imul hx hb dX6_digest_208 ?_
            refine lv_tope (y := nI (7 * n)) (pk_mul 7 n) ?_
            refine lv_icmp_ge (tgt := 238) hx hb dX6_digest_209 (by decide) (fun h_6 => ?_) (fun h_6 => ?_)
            · skip
              obtain rfl : dF = 0 := by have h9 := (nI_leI (a := (7 * n)) (b := iF) (by omega) (by omega)).mp h_6; omega
              have hiNF : iF = (7 * n) := by omega
              have hF1 : dgL (fun z => mbtold rn (nI (z / 7)) (nI (z % 7))) (7 * n) 0 a5 = a6 := hspF
              refine lv_lload_n hx hb dX6_digest_238 rfl (lv_at hl 1 rfl) ?_
              have e9_0 : (dgL (fun z => mbtold rn (nI (z / 7)) (nI (z % 7))) (7 * n) 0 (dgL (fun z => mstold rn n k_ (nI (z / 5)) (nI (z % 5))) 120 0 (dgL (fun z => mgtold rn (nI z)) 7 0 (dgT cd sw fd fn (dgL (fun z => mcounted rn n bu (nI z)) 9 0 1301))))) = a6 := (by rw [dgT, hA1, hB1, hC1, hD1, hE1, hF1])
              exact end_l hx hb hrt hlocks e9_0.symm hP hS dX6_digest_239
            · skip
              have hltF : iF < (7 * n) := by have h9 := mt (nI_leI (a := (7 * n)) (b := iF) (by omega) (by omega)).mpr h_6; omega
              obtain ⟨dF, rfl⟩ : ∃ k, dF = k + 1 := ⟨dF - 1, by omega⟩
              refine lv_lload_n hx hb dX6_digest_212 rfl (lv_at hl 1 rfl) ?_
              refine lv_ldc2 hx hb hown (hts (.constantLong RX6 143 (31)) (List.mem_of_getElem? (i := 3) rfl)) dX6_digest_213 ?_
              refine lv_lmul hx hb dX6_digest_216 ?_
              refine lv_aload_n hx hb dX6_digest_217 rfl (lv_at hl 2 rfl) ?_
              refine lv_iload_n hx hb dX6_digest_218 rfl (lv_at hl 0 rfl) ?_
              refine lv_bipush (v := 7) hx hb dX6_digest_219 (by decide) ?_
              refine lv_idiv hx hb dX6_digest_221 (by decide) ?_
              refine lv_tope (y := nI (iF / 7)) (pk_div (a := iF) (d := 7) (by omega) (by omega) (by omega)) ?_
              refine lv_iload_n hx hb dX6_digest_222 rfl (lv_at hl 0 rfl) ?_
              refine lv_bipush (v := 7) hx hb dX6_digest_223 (by decide) ?_
              refine lv_irem hx hb dX6_digest_225 (by decide) ?_
              refine lv_tope (y := ir (nI iF) 7) rfl ?_
              refine lv_tope (y := nI (iF % 7)) (ir_nI (a := iF) (N := 7) (by omega) (by decide) (by decide)) ?_
              have hPc := hP.sub (ws' := (cM aM ac as_ an ah 0 bu fd fn ++ cA cyI an 121 rn)) [0, 3] rfl
              have hDc := hD.sub (ws' := (cM aM ac as_ an ah 0 bu fd fn ++ cA cyI an 121 rn)) [0, 3] (by decide) rfl
              refine ret_i (W1 := (cM aM ac as_ an ah 0 bu fd fn ++ cA cyI an 121 rn)) (W2 := (cM aM ac as_ an ah 0 bu fd fn ++ cA cyI an 121 rn)) (ws1 := (cM aM ac as_ an ah 0 bu fd fn ++ cA cyI ac 8 cd ++ cA cyI as_ 12 sw ++ cA cyI an 121 rn ++ cA cyI ah 121 ra)) (r := mbtold rn (nI (iF / 7)) (nI (iF % 7))) (run_V (q := (RX6, TX6, 8)) (n := 2) (As := [.int (nI (iF / 7)), .int (nI (iF % 7))]) (rest := [.long (a6 * 31)]) ⟨hx, hb, hml, hown, hts⟩ (c_X6_busTold l D cyI cyO cyL aM ac as_ an ah 0 bu fd fn rn (nI (iF / 7)) (nI (iF % 7)) (vp_in_nI (show iF / 7 < 6 by omega) (by decide)) (vp_in_nI (show iF % 7 < 7 by omega) (by decide)) (hok.1.2.1 _ (by rw [nI_clamp (by omega)]; omega)) _) ggX6_digest_X6_busTold rfl rfl rfl (hts (.methodLink RX6 57 yX6_busTold) (List.mem_of_getElem? (i := 56) rfl)) (hts (.initialized RX6) (List.mem_of_getElem? (i := 12) rfl)) (hts (.instanceMethod yX6_busTold) (List.mem_of_getElem? (i := 57) rfl)) (hts (.selects RX6 yX6_busTold yX6_busTold) (List.mem_of_getElem? (i := 58) rfl)) (by decide +kernel) ⟨Nat.le_of_ble_eq_true rfl, Nat.le_of_ble_eq_true rfl⟩ hKK hPc hDc (ci := 6) (q0 := 0) rfl rfl rfl hl.1 rfl (Nat.le_of_ble_eq_true rfl) dX6_digest_226 ⟨Nat.zero_le _, Nat.zero_le _⟩) hP hD hS hA [0, 3] rfl rfl [(true, 0), (false, 1), (false, 2), (true, 1), (false, 4)] (by decide +kernel) rfl (fun H locs hP hD hS => ?_)
              refine lv_i2l (v := (mbtold rn (nI (iF / 7)) (nI (iF % 7))).toInt64) hx hb dX6_digest_229 rfl ?_
              refine lv_ladd hx hb dX6_digest_230 ?_
              refine lv_lstore_n (lv' := [(1, .long ((a6 * 31) + ((mbtold rn (nI (iF / 7)) (nI (iF % 7))).toInt64))), (3, .int (nI iF)), (0, .ref aM)]) hx hb dX6_digest_231 rfl hl (by decide) rfl (fun ls hl => ?_)
              refine lv_iinc (v := nI (iF + 1)) (lv' := [(3, .int (nI (iF + 1))), (1, .long ((a6 * 31) + ((mbtold rn (nI (iF / 7)) (nI (iF % 7))).toInt64))), (0, .ref aM)]) hx hb dX6_digest_232 hl (k := 1) rfl (nI_1 iF) (by decide) rfl (fun ls hl => ?_)
              refine lv_goto (tgt := 201) hx hb dX6_digest_235 (by decide) ?_
              exact ihF dF ((iF + 1), ((a6 * 31) + ((mbtold rn (nI (iF / 7)) (nI (iF % 7))).toInt64))) _ _ _ (by omega) ⟨(by omega), (hspF.trans (by rfl)), hP, hD, hS, lv_sub hl [0, 1, 2] rfl⟩
          · skip
            have hltE : iE < 120 := by have h9 := mt (nI_leI (a := 120) (b := iE) (by omega) (by omega)).mpr h_5; omega
            obtain ⟨dE, rfl⟩ : ∃ k, dE = k + 1 := ⟨dE - 1, by omega⟩
            refine lv_lload_n hx hb dX6_digest_175 rfl (lv_at hl 1 rfl) ?_
            refine lv_ldc2 hx hb hown (hts (.constantLong RX6 143 (31)) (List.mem_of_getElem? (i := 3) rfl)) dX6_digest_176 ?_
            refine lv_lmul hx hb dX6_digest_179 ?_
            refine lv_aload_n hx hb dX6_digest_180 rfl (lv_at hl 2 rfl) ?_
            refine lv_iload_n hx hb dX6_digest_181 rfl (lv_at hl 0 rfl) ?_
            refine lv_iconst (v := 5) hx hb dX6_digest_182 (by decide) ?_
            refine lv_idiv hx hb dX6_digest_183 (by decide) ?_
            refine lv_tope (y := nI (iE / 5)) (pk_div (a := iE) (d := 5) (by omega) (by omega) (by omega)) ?_
            refine lv_iload_n hx hb dX6_digest_184 rfl (lv_at hl 0 rfl) ?_
            refine lv_iconst (v := 5) hx hb dX6_digest_185 (by decide) ?_
            refine lv_irem hx hb dX6_digest_186 (by decide) ?_
            refine lv_tope (y := ir (nI iE) 5) rfl ?_
            refine lv_tope (y := nI (iE % 5)) (ir_nI (a := iE) (N := 5) (by omega) (by decide) (by decide)) ?_
            have hPc := hP.sub (ws' := (cM aM ac as_ an ah 0 bu fd fn ++ cA cyI an 121 rn)) [0, 3] rfl
            have hDc := hD.sub (ws' := (cM aM ac as_ an ah 0 bu fd fn ++ cA cyI an 121 rn)) [0, 3] (by decide) rfl
            refine ret_i (W1 := (cM aM ac as_ an ah 0 bu fd fn ++ cA cyI an 121 rn)) (W2 := (cM aM ac as_ an ah 0 bu fd fn ++ cA cyI an 121 rn)) (ws1 := (cM aM ac as_ an ah 0 bu fd fn ++ cA cyI ac 8 cd ++ cA cyI as_ 12 sw ++ cA cyI an 121 rn ++ cA cyI ah 121 ra)) (r := mstold rn n k_ (nI (iE / 5)) (nI (iE % 5))) (run_V (q := (RX6, TX6, 8)) (n := 2) (As := [.int (nI (iE / 5)), .int (nI (iE % 5))]) (rest := [.long (a5 * 31)]) ⟨hx, hb, hml, hown, hts⟩ (c_X6_spanTold l D cyI cyO cyL aM ac as_ an ah 0 bu fd fn rn (nI (iE / 5)) (nI (iE % 5)) n k_ (vp_in_nI (show iE / 5 < 24 by omega) (by decide)) (nI_pos (show iE % 5 < 2 ^ 31 by omega)) (by first | assumption | omega) (by first | assumption | omega) (by first | assumption | omega) (by first | assumption | omega) _) ggX6_digest_X6_spanTold rfl rfl rfl (hts (.methodLink RX6 67 yX6_spanTold) (List.mem_of_getElem? (i := 44) rfl)) (hts (.initialized RX6) (List.mem_of_getElem? (i := 12) rfl)) (hts (.instanceMethod yX6_spanTold) (List.mem_of_getElem? (i := 45) rfl)) (hts (.selects RX6 yX6_spanTold yX6_spanTold) (List.mem_of_getElem? (i := 46) rfl)) (by decide +kernel) ⟨Nat.le_of_ble_eq_true rfl, Nat.le_of_ble_eq_true rfl⟩ hKK hPc hDc (ci := 6) (q0 := 0) rfl rfl rfl hl.1 rfl (Nat.le_of_ble_eq_true rfl) dX6_digest_187 ⟨Nat.zero_le _, Nat.zero_le _⟩) hP hD hS hA [0, 3] rfl rfl [(true, 0), (false, 1), (false, 2), (true, 1), (false, 4)] (by decide +kernel) rfl (fun H locs hP hD hS => ?_)
            refine lv_i2l (v := (mstold rn n k_ (nI (iE / 5)) (nI (iE % 5))).toInt64) hx hb dX6_digest_190 rfl ?_
            refine lv_ladd hx hb dX6_digest_191 ?_
            refine lv_lstore_n (lv' := [(1, .long ((a5 * 31) + ((mstold rn n k_ (nI (iE / 5)) (nI (iE % 5))).toInt64))), (3, .int (nI iE)), (0, .ref aM)]) hx hb dX6_digest_192 rfl hl (by decide) rfl (fun ls hl => ?_)
            refine lv_iinc (v := nI (iE + 1)) (lv' := [(3, .int (nI (iE + 1))), (1, .long ((a5 * 31) + ((mstold rn n k_ (nI (iE / 5)) (nI (iE % 5))).toInt64))), (0, .ref aM)]) hx hb dX6_digest_193 hl (k := 1) rfl (nI_1 iE) (by decide) rfl (fun ls hl => ?_)
            refine lv_goto (tgt := 169) hx hb dX6_digest_196 (by decide) ?_
            exact ihE dE ((iE + 1), ((a5 * 31) + ((mstold rn n k_ (nI (iE / 5)) (nI (iE % 5))).toInt64))) _ _ _ (by omega) ⟨(by omega), (hspE.trans (by rfl)), hP, hD, hS, lv_sub hl [0, 1, 2] rfl⟩
        · skip
          have hltD : iD < 7 := by have h9 := mt (nI_leI (a := 7) (b := iD) (by omega) (by omega)).mpr h_4; omega
          obtain ⟨dD, rfl⟩ : ∃ k, dD = k + 1 := ⟨dD - 1, by omega⟩
          refine lv_lload_n hx hb dX6_digest_148 rfl (lv_at hl 1 rfl) ?_
          refine lv_ldc2 hx hb hown (hts (.constantLong RX6 143 (31)) (List.mem_of_getElem? (i := 3) rfl)) dX6_digest_149 ?_
          refine lv_lmul hx hb dX6_digest_152 ?_
          refine lv_aload_n hx hb dX6_digest_153 rfl (lv_at hl 2 rfl) ?_
          refine lv_iload_n hx hb dX6_digest_154 rfl (lv_at hl 0 rfl) ?_
          have hPc := hP.sub (ws' := (cM aM ac as_ an ah 0 bu fd fn ++ cA cyI an 121 rn)) [0, 3] rfl
          have hDc := hD.sub (ws' := (cM aM ac as_ an ah 0 bu fd fn ++ cA cyI an 121 rn)) [0, 3] (by decide) rfl
          refine ret_i (W1 := (cM aM ac as_ an ah 0 bu fd fn ++ cA cyI an 121 rn)) (W2 := (cM aM ac as_ an ah 0 bu fd fn ++ cA cyI an 121 rn)) (ws1 := (cM aM ac as_ an ah 0 bu fd fn ++ cA cyI ac 8 cd ++ cA cyI as_ 12 sw ++ cA cyI an 121 rn ++ cA cyI ah 121 ra)) (r := mgtold rn (nI iD)) (run_V (q := (RX6, TX6, 8)) (n := 1) (As := [.int (nI iD)]) (rest := [.long (a4 * 31)]) ⟨hx, hb, hml, hown, hts⟩ (c_X6_gangTold l D cyI cyO cyL aM ac as_ an ah 0 bu fd fn rn (nI iD) (vp_in_nI hltD (by decide)) _) ggX6_digest_X6_gangTold rfl rfl rfl (hts (.methodLink RX6 85 yX6_gangTold) (List.mem_of_getElem? (i := 29) rfl)) (hts (.initialized RX6) (List.mem_of_getElem? (i := 12) rfl)) (hts (.instanceMethod yX6_gangTold) (List.mem_of_getElem? (i := 30) rfl)) (hts (.selects RX6 yX6_gangTold yX6_gangTold) (List.mem_of_getElem? (i := 31) rfl)) (by decide +kernel) ⟨Nat.le_of_ble_eq_true rfl, Nat.le_of_ble_eq_true rfl⟩ hKK hPc hDc (ci := 6) (q0 := 0) rfl rfl rfl hl.1 rfl (Nat.le_of_ble_eq_true rfl) dX6_digest_155 ⟨Nat.zero_le _, Nat.zero_le _⟩) hP hD hS hA [0, 3] rfl rfl [(true, 0), (false, 1), (false, 2), (true, 1), (false, 4)] (by decide +kernel) rfl (fun H locs hP hD hS => ?_)
          refine lv_i2l (v := (mgtold rn (nI iD)).toInt64) hx hb dX6_digest_158 rfl ?_
          refine lv_ladd hx hb dX6_digest_159 ?_
          refine lv_lstore_n (lv' := [(1, .long ((a4 * 31) + ((mgtold rn (nI iD)).toInt64))), (3, .int (nI iD)), (0, .ref aM)]) hx hb dX6_digest_160 rfl hl (by decide) rfl (fun ls hl => ?_)
          refine lv_iinc (v := nI (iD + 1)) (lv' := [(3, .int (nI (iD + 1))), (1, .long ((a4 * 31) + ((mgtold rn (nI iD)).toInt64))), (0, .ref aM)]) hx hb dX6_digest_161 hl (k := 1) rfl (nI_1 iD) (by decide) rfl (fun ls hl => ?_)
          refine lv_goto (tgt := 142) hx hb dX6_digest_164 (by decide) ?_
          exact ihD dD ((iD + 1), ((a4 * 31) + ((mgtold rn (nI iD)).toInt64))) _ _ _ (by omega) ⟨(by omega), (hspD.trans (by rfl)), hP, hD, hS, lv_sub hl [0, 1, 2] rfl⟩
      · skip
        have hltC : iC < 12 := by have h9 := mt (nI_leI (a := 12) (b := iC) (by omega) (by omega)).mpr h_3; omega
        obtain ⟨dC, rfl⟩ : ∃ k, dC = k + 1 := ⟨dC - 1, by omega⟩
        refine lv_aload_n hx hb dX6_digest_96 rfl (lv_at hl 2 rfl) ?_
        refine lv_iload hx hb dX6_digest_97 (lv_at hl 0 rfl) ?_
        refine va_iald hx hb hKK.1 hP 2 0 rfl rfl (hin := (vp_in_nI hltC (by decide))) dX6_digest_99 ?_
        refine lv_tope (y := sw iC) (by rw [nI_clamp (by omega)]) ?_
        refine lv_istore (lv' := [(6, .int (sw iC)), (5, .int (nI iC)), (4, .int 12), (3, .ref as_), (1, .long a3), (0, .ref aM)]) hx hb dX6_digest_100 hl (by decide) rfl (fun ls hl => ?_)
        refine lv_lload_n hx hb dX6_digest_102 rfl (lv_at hl 4 rfl) ?_
        refine lv_ldc2 hx hb hown (hts (.constantLong RX6 143 (31)) (List.mem_of_getElem? (i := 3) rfl)) dX6_digest_103 ?_
        refine lv_lmul hx hb dX6_digest_106 ?_
        refine lv_iload hx hb dX6_digest_107 (lv_at hl 0 rfl) ?_
        refine lv_i2l (v := (sw iC).toInt64) hx hb dX6_digest_109 rfl ?_
        refine lv_ladd hx hb dX6_digest_110 ?_
        refine lv_lstore_n (lv' := [(1, .long ((a3 * 31) + ((sw iC).toInt64))), (6, .int (sw iC)), (5, .int (nI iC)), (4, .int 12), (3, .ref as_), (0, .ref aM)]) hx hb dX6_digest_111 rfl hl (by decide) rfl (fun ls hl => ?_)
        refine lv_iinc (v := nI (iC + 1)) (lv' := [(5, .int (nI (iC + 1))), (1, .long ((a3 * 31) + ((sw iC).toInt64))), (6, .int (sw iC)), (4, .int 12), (3, .ref as_), (0, .ref aM)]) hx hb dX6_digest_112 hl (k := 2) rfl (nI_1 iC) (by decide) rfl (fun ls hl => ?_)
        refine lv_goto (tgt := 89) hx hb dX6_digest_115 (by decide) ?_
        exact ihC dC ((iC + 1), ((a3 * 31) + ((sw iC).toInt64))) _ _ _ (by omega) ⟨(by omega), (hspC.trans (by rfl)), hP, hD, hS, lv_sub hl [0, 3, 4, 1, 5] rfl⟩
    · skip
      have hltB : iB < 8 := by have h9 := mt (nI_leI (a := 8) (b := iB) (by omega) (by omega)).mpr h_2; omega
      obtain ⟨dB, rfl⟩ : ∃ k, dB = k + 1 := ⟨dB - 1, by omega⟩
      refine lv_aload_n hx hb dX6_digest_55 rfl (lv_at hl 2 rfl) ?_
      refine lv_iload hx hb dX6_digest_56 (lv_at hl 0 rfl) ?_
      refine va_iald hx hb hKK.1 hP 1 0 rfl rfl (hin := (vp_in_nI hltB (by decide))) dX6_digest_58 ?_
      refine lv_tope (y := cd iB) (by rw [nI_clamp (by omega)]) ?_
      refine lv_istore (lv' := [(6, .int (cd iB)), (5, .int (nI iB)), (4, .int 8), (3, .ref ac), (1, .long a2), (0, .ref aM)]) hx hb dX6_digest_59 hl (by decide) rfl (fun ls hl => ?_)
      refine lv_lload_n hx hb dX6_digest_61 rfl (lv_at hl 4 rfl) ?_
      refine lv_ldc2 hx hb hown (hts (.constantLong RX6 143 (31)) (List.mem_of_getElem? (i := 3) rfl)) dX6_digest_62 ?_
      refine lv_lmul hx hb dX6_digest_65 ?_
      refine lv_iload hx hb dX6_digest_66 (lv_at hl 0 rfl) ?_
      refine lv_i2l (v := (cd iB).toInt64) hx hb dX6_digest_68 rfl ?_
      refine lv_ladd hx hb dX6_digest_69 ?_
      refine lv_lstore_n (lv' := [(1, .long ((a2 * 31) + ((cd iB).toInt64))), (6, .int (cd iB)), (5, .int (nI iB)), (4, .int 8), (3, .ref ac), (0, .ref aM)]) hx hb dX6_digest_70 rfl hl (by decide) rfl (fun ls hl => ?_)
      refine lv_iinc (v := nI (iB + 1)) (lv' := [(5, .int (nI (iB + 1))), (1, .long ((a2 * 31) + ((cd iB).toInt64))), (6, .int (cd iB)), (4, .int 8), (3, .ref ac), (0, .ref aM)]) hx hb dX6_digest_71 hl (k := 2) rfl (nI_1 iB) (by decide) rfl (fun ls hl => ?_)
      refine lv_goto (tgt := 48) hx hb dX6_digest_74 (by decide) ?_
      exact ihB dB ((iB + 1), ((a2 * 31) + ((cd iB).toInt64))) _ _ _ (by omega) ⟨(by omega), (hspB.trans (by rfl)), hP, hD, hS, lv_sub hl [0, 3, 4, 1, 5] rfl⟩
  · skip
    have hltA : iA < 9 := by have h9 := mt (nI_leI (a := 9) (b := iA) (by omega) (by omega)).mpr h_1; omega
    obtain ⟨dA, rfl⟩ : ∃ k, dA = k + 1 := ⟨dA - 1, by omega⟩
    refine lv_lload_n hx hb dX6_digest_17 rfl (lv_at hl 1 rfl) ?_
    refine lv_ldc2 hx hb hown (hts (.constantLong RX6 143 (31)) (List.mem_of_getElem? (i := 3) rfl)) dX6_digest_18 ?_
    refine lv_lmul hx hb dX6_digest_21 ?_
    refine lv_aload_n hx hb dX6_digest_22 rfl (lv_at hl 2 rfl) ?_
    refine lv_iload_n hx hb dX6_digest_23 rfl (lv_at hl 0 rfl) ?_
    have hPc := hP.sub (ws' := (cM aM ac as_ an ah 0 bu fd fn ++ cA cyI an 121 rn)) [0, 3] rfl
    have hDc := hD.sub (ws' := (cM aM ac as_ an ah 0 bu fd fn ++ cA cyI an 121 rn)) [0, 3] (by decide) rfl
    refine ret_i (W1 := (cM aM ac as_ an ah 0 bu fd fn ++ cA cyI an 121 rn)) (W2 := (cM aM ac as_ an ah 0 bu fd fn ++ cA cyI an 121 rn)) (ws1 := (cM aM ac as_ an ah 0 bu fd fn ++ cA cyI ac 8 cd ++ cA cyI as_ 12 sw ++ cA cyI an 121 rn ++ cA cyI ah 121 ra)) (r := mcounted rn n bu (nI iA)) (run_V (q := (RX6, TX6, 8)) (n := 1) (As := [.int (nI iA)]) (rest := [.long (a1 * 31)]) ⟨hx, hb, hml, hown, hts⟩ (c_X6_counted l D cyI cyO cyL aM ac as_ an ah 0 bu fd fn rn (nI iA) n (by first | assumption | omega) (by first | assumption | omega) _) ggX6_digest_X6_counted rfl rfl rfl (hts (.methodLink RX6 101 yX6_counted) (List.mem_of_getElem? (i := 9) rfl)) (hts (.initialized RX6) (List.mem_of_getElem? (i := 12) rfl)) (hts (.instanceMethod yX6_counted) (List.mem_of_getElem? (i := 10) rfl)) (hts (.selects RX6 yX6_counted yX6_counted) (List.mem_of_getElem? (i := 11) rfl)) (by decide +kernel) ⟨Nat.le_of_ble_eq_true rfl, Nat.le_of_ble_eq_true rfl⟩ hKK hPc hDc (ci := 6) (q0 := 0) rfl rfl rfl hl.1 rfl (Nat.le_of_ble_eq_true rfl) dX6_digest_24 ⟨Nat.zero_le _, Nat.zero_le _⟩) hP hD hS hA [0, 3] rfl rfl [(true, 0), (false, 1), (false, 2), (true, 1), (false, 4)] (by decide +kernel) rfl (fun H locs hP hD hS => ?_)
    refine lv_i2l (v := (mcounted rn n bu (nI iA)).toInt64) hx hb dX6_digest_27 rfl ?_
    refine lv_ladd hx hb dX6_digest_28 ?_
    refine lv_lstore_n (lv' := [(1, .long ((a1 * 31) + ((mcounted rn n bu (nI iA)).toInt64))), (3, .int (nI iA)), (0, .ref aM)]) hx hb dX6_digest_29 rfl hl (by decide) rfl (fun ls hl => ?_)
    refine lv_iinc (v := nI (iA + 1)) (lv' := [(3, .int (nI (iA + 1))), (1, .long ((a1 * 31) + ((mcounted rn n bu (nI iA)).toInt64))), (0, .ref aM)]) hx hb dX6_digest_30 hl (k := 1) rfl (nI_1 iA) (by decide) rfl (fun ls hl => ?_)
    refine lv_goto (tgt := 11) hx hb dX6_digest_33 (by decide) ?_
    exact ihA dA ((iA + 1), ((a1 * 31) + ((mcounted rn n bu (nI iA)).toInt64))) _ _ _ (by omega) ⟨(by omega), (hspA.trans (by rfl)), hP, hD, hS, lv_sub hl [0, 1, 2] rfl⟩
