set_option maxHeartbeats 4000000 in
set_option maxRecDepth 100000 in
theorem c_X2_tally (l : Launch) (D : va_G) (cyI cyO cyL : ClassId) (aR : Nat) (aW : Nat) (aw : Nat) (af : Nat) (aG : Nat) (ao : Nat) (aB : Nat) (ab : Nat → Nat) (w : Nat → Int32) (f : Nat → Int32) (od : Nat → Int32) (g : Nat → Int32) (bc : Int32) (hr : Int32) (co : Int32) (LB : List Nat) (B : Nat → Nat → Int32) (x_ : Int32) (n : Nat) (hn : n ≤ 6) (hbc : bc = nI n) (hLB : ∀ k, k < 6 → ab k ∈ LB) (hhr : OkH hr) : cI l yX2_tally wsX2_tally ({ frames := 2, cells := 0, slots := 0, locals := 43 }) D cyI cyO cyL [.ref aR, .int x_] ((cR cyI cyO aR aW aw af aG ao aB ab w f od g bc hr co) ++ pB LB B) ((cR cyI cyO aR aW aw af aG ao aB ab w f od g bc hr co) ++ pB LB B) (tallyS x_ n ab w f B bc hr co) := by
  intro sz
  refine Met.ofW (cc := cX2_tally) (maxL := 2) (ret := (some .int)) (by decide) rfl ?_
  intro p e s m args below meth c s₁ B9 hml hv
  obtain ⟨rfl, hsz, hP, hKK, hD0⟩ := hv
  have hx := B9.exec
  have hb := B9.bytes
  have hrt := B9.returns
  have hts := atoms_spec (ws := wsX2_tally) B9.pre
  have hown : s.vm.findClass RX2 = some m.cls := findClass_of_methodNamed B9.named
  have hlocks := B9.notSynchronized
  have nw := fun {w : Cond} (h : w ∈ nw_all) => NW.use (args := ([.ref aR, .int x_] : List Value).toArray) hKK.2 h
  have iX2 : ∀ w ∈ wsX20, w ∈ wsX2_tally := fun _ h => List.mem_cons_of_mem _ (List.mem_append_left _ (List.mem_append_left _ (List.mem_append_right _ h)))
  subst hsz
  have hD := hD0.self (sz := s.heap.size)
  generalize hAe : va_A ((cR cyI cyO aR aW aw af aG ao aB ab w f od g bc hr co) ++ pB LB B) s.heap.size = A at hD ⊢
  have hA : ∀ q : Nat, s.heap.size ≤ q → A q := fun q h => by rw [← hAe]; exact Or.inr h
  have hS : va_S A s.heap s.heap [] := va_S.rf
  have hl := lv_entry ([.ref aR, .int x_]) (n := 2) (Nat.le_of_ble_eq_true rfl)
  rw [lg_entry_eq]
  generalize (lg_sl ([.ref aR, .int x_]) ++ List.replicate (2 - (lg_sl ([.ref aR, .int x_])).length) Slot.unset).toArray = ls at hl ⊢
  have hl : lv_has ls 2 [(0, .ref aR), (1, .int x_)] := hl
  refine lv_iload_n hx hb dX2_tally_0 rfl (lv_at hl 1 rfl) ?_
  rcases sw8 x_ with rfl | rfl | rfl | rfl | rfl | rfl | rfl | rfl | hs_1
  · skip
    refine lv_tableIn (off := 47) (tgt := 48) hx hb dX2_tally_1 (by decide) (by decide) (by decide) (by decide) ?_
    refine lv_aload_n hx hb dX2_tally_48 rfl (lv_at hl 0 rfl) ?_
    refine va_get (D := D) (ci := 2) (v := .int hr) (C := RX2) (T := TX2) (N := 6) hx hb hts iX2 hown hKK.1 hP 0 rfl rfl 4 (by decide) (hts (.fieldLink RX2 46 "TrolleyGang$Ring" "hour" "I") (List.mem_of_getElem? (i := 1) rfl)) (fun _ h9 => h9) rfl dX2_tally_49 ?_
    have e9 : tallyS 0 n ab w f B bc hr co = hr := (by first | with_reducible rfl | (simp only [tallyS, if_true, if_false, reduceIte, not_true_eq_false, not_false_eq_true]; done) | (simp [tallyS]; done))
    exact end_i hx hb hrt hlocks (by rw [e9]) hP hS dX2_tally_52
  · skip
    refine lv_tableIn (off := 52) (tgt := 53) hx hb dX2_tally_1 (by decide) (by decide) (by decide) (by decide) ?_
    refine lv_aload_n hx hb dX2_tally_53 rfl (lv_at hl 0 rfl) ?_
    refine va_get (D := D) (ci := 2) (v := .int hr) (C := RX2) (T := TX2) (N := 6) hx hb hts iX2 hown hKK.1 hP 0 rfl rfl 4 (by decide) (hts (.fieldLink RX2 46 "TrolleyGang$Ring" "hour" "I") (List.mem_of_getElem? (i := 1) rfl)) (fun _ h9 => h9) rfl dX2_tally_54 ?_
    have hPc := hP.sub (ws' := ([] : va_W)) [] rfl
    have hDc := hD.sub (ws' := ([] : va_W)) [] (by decide) rfl
    refine ret_iP (W1 := ([] : va_W)) (W2 := ([] : va_W)) (X1 := cR cyI cyO aR aW aw af aG ao aB ab w f od g bc hr co) (r := ntI hr) (run_SN (n := 1) (As := [.int hr]) (rest := []) ⟨hx, hb, hml, hown, hts⟩ (c_X5_isNightAt l D cyI cyO cyL hr hhr _) ggX2_tally_X5_isNightAt rfl rfl rfl nq_8 (hts (.initialized RX5) (List.mem_of_getElem? (i := 6) rfl)) (hts (.static yX5_isNightAt) (List.mem_of_getElem? (i := 5) rfl)) (by decide +kernel) ⟨Nat.le_of_ble_eq_true rfl, Nat.le_of_ble_eq_true rfl⟩ hKK hPc hDc rfl hl.1 rfl (Nat.le_of_ble_eq_true rfl) dX2_tally_57 ⟨Nat.zero_le _, Nat.zero_le _⟩) hP hD hS hA [] rfl rfl [(false, 0), (false, 1), (false, 2), (false, 3), (false, 4), (false, 5), (false, 6)] (by decide +kernel) rfl rfl (fun H locs hP hD hS => ?_)
    have hPc := hP.sub (ws' := ([] : va_W)) [] rfl
    have hDc := hD.sub (ws' := ([] : va_W)) [] (by decide) rfl
    refine ret_iP (W1 := ([] : va_W)) (W2 := ([] : va_W)) (X1 := cR cyI cyO aR aW aw af aG ao aB ab w f od g bc hr co) (r := oneI (ntI hr)) (run_SN (n := 1) (As := [.int (ntI hr)]) (rest := []) ⟨hx, hb, hml, hown, hts⟩ (c_X5_oneIf l D cyI cyO cyL (ntI hr) _) ggX2_tally_X5_oneIf rfl rfl rfl nq_3 (hts (.initialized RX5) (List.mem_of_getElem? (i := 6) rfl)) (hts (.static yX5_oneIf) (List.mem_of_getElem? (i := 12) rfl)) (by decide +kernel) ⟨Nat.le_of_ble_eq_true rfl, Nat.le_of_ble_eq_true rfl⟩ hKK hPc hDc rfl hl.1 rfl (Nat.le_of_ble_eq_true rfl) dX2_tally_60 ⟨Nat.zero_le _, Nat.zero_le _⟩) hP hD hS hA [] rfl rfl [(false, 0), (false, 1), (false, 2), (false, 3), (false, 4), (false, 5), (false, 6)] (by decide +kernel) rfl rfl (fun H locs hP hD hS => ?_)
    have e9 : tallyS 1 n ab w f B bc hr co = oneI (ntI hr) := (by first | with_reducible rfl | (simp only [tallyS, if_true, if_false, reduceIte, not_true_eq_false, not_false_eq_true]; done) | (simp [tallyS]; done))
    exact end_i hx hb hrt hlocks (by rw [e9]) hP hS dX2_tally_63
  · skip
    refine lv_tableIn (off := 63) (tgt := 64) hx hb dX2_tally_1 (by decide) (by decide) (by decide) (by decide) ?_
    refine lv_aload_n hx hb dX2_tally_64 rfl (lv_at hl 0 rfl) ?_
    refine va_get (D := D) (ci := 2) (v := .int co) (C := RX2) (T := TX2) (N := 6) hx hb hts iX2 hown hKK.1 hP 0 rfl rfl 5 (by decide) (hts (.fieldLink RX2 49 "TrolleyGang$Ring" "coins" "I") (List.mem_of_getElem? (i := 2) rfl)) (fun _ h9 => h9) rfl dX2_tally_65 ?_
    have e9 : tallyS 2 n ab w f B bc hr co = co := (by first | with_reducible rfl | (simp only [tallyS, if_true, if_false, reduceIte, not_true_eq_false, not_false_eq_true]; done) | (simp [tallyS]; done))
    exact end_i hx hb hrt hlocks (by rw [e9]) hP hS dX2_tally_68
  · skip
    refine lv_tableIn (off := 68) (tgt := 69) hx hb dX2_tally_1 (by decide) (by decide) (by decide) (by decide) ?_
    refine lv_aload_n hx hb dX2_tally_69 rfl (lv_at hl 0 rfl) ?_
    refine va_get (D := D) (ci := 2) (v := .int bc) (C := RX2) (T := TX2) (N := 6) hx hb hts iX2 hown hKK.1 hP 0 rfl rfl 3 (by decide) (hts (.fieldLink RX2 39 "TrolleyGang$Ring" "busCount" "I") (List.mem_of_getElem? (i := 3) rfl)) (fun _ h9 => h9) rfl dX2_tally_70 ?_
    have e9 : tallyS 3 n ab w f B bc hr co = bc := (by first | with_reducible rfl | (simp only [tallyS, if_true, if_false, reduceIte, not_true_eq_false, not_false_eq_true]; done) | (simp [tallyS]; done))
    exact end_i hx hb hrt hlocks (by rw [e9]) hP hS dX2_tally_73
  · skip
    refine lv_tableIn (off := 73) (tgt := 74) hx hb dX2_tally_1 (by decide) (by decide) (by decide) (by decide) ?_
    refine lv_aload_n hx hb dX2_tally_74 rfl (lv_at hl 0 rfl) ?_
    have hPc := hP.part (cx := (cR cyI cyO aR aW aw af aG ao aB ab w f od g bc hr co)) [0, 1, 2, 3, 4, 5, 6] rfl
    have hDc := hD.part (cx := (cR cyI cyO aR aW aw af aG ao aB ab w f od g bc hr co)) [0, 1, 2, 3, 4, 5, 6] (by decide) rfl
    refine ret_iB (cx := (cR cyI cyO aR aW aw af aG ao aB ab w f od g bc hr co)) (cx' := (cR cyI cyO aR aW aw af aG ao aB ab w f od g bc hr co)) (pl' := pB LB B) (X1 := cR cyI cyO aR aW aw af aG ao aB ab w f od g bc hr co) (r := brL B ab n 0 0) (run_V (q := (RX2, TX2, 6)) (n := 0) (As := []) (rest := []) ⟨hx, hb, hml, hown, hts⟩ (c_X2_busesRunning l D cyI cyO cyL aR aW aw af aG ao aB ab w f od g bc hr co LB B n hn hbc hLB _) ggX2_tally_X2_busesRunning rfl rfl rfl (hts (.methodLink RX2 162 yX2_busesRunning) (List.mem_of_getElem? (i := 14) rfl)) (hts (.initialized RX2) (List.mem_of_getElem? (i := 17) rfl)) (hts (.instanceMethod yX2_busesRunning) (List.mem_of_getElem? (i := 15) rfl)) (hts (.selects RX2 yX2_busesRunning yX2_busesRunning) (List.mem_of_getElem? (i := 16) rfl)) (by decide +kernel) ⟨Nat.le_of_ble_eq_true rfl, Nat.le_of_ble_eq_true rfl⟩ hKK hPc hDc (ci := 2) (q0 := 0) rfl rfl rfl hl.1 rfl (Nat.le_of_ble_eq_true rfl) dX2_tally_75 ⟨Nat.zero_le _, Nat.zero_le _⟩) hP hD hS hA [0, 1, 2, 3, 4, 5, 6] (by decide) rfl rfl pB_fst [(true, 0), (true, 1), (true, 2), (true, 3), (true, 4), (true, 5), (true, 6)] (by decide +kernel) rfl rfl (fun H locs hP hD hS => ?_)
    have e9 : tallyS 4 n ab w f B bc hr co = brL B ab n 0 0 := (by first | with_reducible rfl | (simp only [tallyS, if_true, if_false, reduceIte, not_true_eq_false, not_false_eq_true]; done) | (simp [tallyS]; done))
    exact end_i hx hb hrt hlocks (by rw [e9]) hP hS dX2_tally_78
  · skip
    refine lv_tableIn (off := 78) (tgt := 79) hx hb dX2_tally_1 (by decide) (by decide) (by decide) (by decide) ?_
    refine lv_aload_n hx hb dX2_tally_79 rfl (lv_at hl 0 rfl) ?_
    refine va_get (D := D) (ci := 2) (v := .ref aW) (C := RX2) (T := TX2) (N := 6) hx hb hts iX2 hown hKK.1 hP 0 rfl rfl 0 (by decide) (hts (.fieldLink RX2 12 "TrolleyGang$Ring" "wires" "LTrolleyGang$Wires;") (List.mem_of_getElem? (i := 4) rfl)) (fun _ h9 => h9) rfl dX2_tally_80 ?_
    have hPc := hP.sub (ws' := (cW cyI aW aw af w f)) [1, 2, 3] rfl
    have hDc := hD.sub (ws' := (cW cyI aW aw af w f)) [1, 2, 3] (by decide) rfl
    refine ret_iP (W1 := (cW cyI aW aw af w f)) (W2 := (cW cyI aW aw af w f)) (X1 := cR cyI cyO aR aW aw af aG ao aB ab w f od g bc hr co) (r := spdL w 24 0 0) (run_VN (q := (RX4, TX4, 2)) (n := 0) (As := []) (rest := []) ⟨hx, hb, hml, hown, hts⟩ (c_X4_spansDown l D cyI cyO cyL aW aw af w f _) ggX2_tally_X4_spansDown rfl rfl rfl nq_9 (hts (.initialized RX4) (List.mem_of_getElem? (i := 21) rfl)) (hts (.instanceMethod yX4_spansDown) (List.mem_of_getElem? (i := 20) rfl)) (hts (.selects RX4 yX4_spansDown yX4_spansDown) (List.mem_of_getElem? (i := 22) rfl)) (by decide +kernel) ⟨Nat.le_of_ble_eq_true rfl, Nat.le_of_ble_eq_true rfl⟩ hKK hPc hDc (ci := 4) (q0 := 0) rfl rfl rfl hl.1 rfl (Nat.le_of_ble_eq_true rfl) dX2_tally_83 ⟨Nat.zero_le _, Nat.zero_le _⟩) hP hD hS hA [1, 2, 3] rfl rfl [(false, 0), (true, 0), (true, 1), (true, 2), (false, 4), (false, 5), (false, 6)] (by decide +kernel) rfl rfl (fun H locs hP hD hS => ?_)
    have e9 : tallyS 5 n ab w f B bc hr co = spdL w 24 0 0 := (by first | with_reducible rfl | (simp only [tallyS, if_true, if_false, reduceIte, not_true_eq_false, not_false_eq_true]; done) | (simp [tallyS]; done))
    exact end_i hx hb hrt hlocks (by rw [e9]) hP hS dX2_tally_86
  · skip
    refine lv_tableIn (off := 86) (tgt := 87) hx hb dX2_tally_1 (by decide) (by decide) (by decide) (by decide) ?_
    refine lv_aload_n hx hb dX2_tally_87 rfl (lv_at hl 0 rfl) ?_
    refine va_get (D := D) (ci := 2) (v := .ref aW) (C := RX2) (T := TX2) (N := 6) hx hb hts iX2 hown hKK.1 hP 0 rfl rfl 0 (by decide) (hts (.fieldLink RX2 12 "TrolleyGang$Ring" "wires" "LTrolleyGang$Wires;") (List.mem_of_getElem? (i := 4) rfl)) (fun _ h9 => h9) rfl dX2_tally_88 ?_
    have hPc := hP.sub (ws' := (cW cyI aW aw af w f)) [1, 2, 3] rfl
    have hDc := hD.sub (ws' := (cW cyI aW aw af w f)) [1, 2, 3] (by decide) rfl
    refine ret_iP (W1 := (cW cyI aW aw af w f)) (W2 := (cW cyI aW aw af w f)) (X1 := cR cyI cyO aR aW aw af aG ao aB ab w f od g bc hr co) (r := sumL w 24 0 0) (run_VN (q := (RX4, TX4, 2)) (n := 0) (As := []) (rest := []) ⟨hx, hb, hml, hown, hts⟩ (c_X4_wornInAll l D cyI cyO cyL aW aw af w f _) ggX2_tally_X4_wornInAll rfl rfl rfl nq_11 (hts (.initialized RX4) (List.mem_of_getElem? (i := 21) rfl)) (hts (.instanceMethod yX4_wornInAll) (List.mem_of_getElem? (i := 29) rfl)) (hts (.selects RX4 yX4_wornInAll yX4_wornInAll) (List.mem_of_getElem? (i := 30) rfl)) (by decide +kernel) ⟨Nat.le_of_ble_eq_true rfl, Nat.le_of_ble_eq_true rfl⟩ hKK hPc hDc (ci := 4) (q0 := 0) rfl rfl rfl hl.1 rfl (Nat.le_of_ble_eq_true rfl) dX2_tally_91 ⟨Nat.zero_le _, Nat.zero_le _⟩) hP hD hS hA [1, 2, 3] rfl rfl [(false, 0), (true, 0), (true, 1), (true, 2), (false, 4), (false, 5), (false, 6)] (by decide +kernel) rfl rfl (fun H locs hP hD hS => ?_)
    have e9 : tallyS 6 n ab w f B bc hr co = sumL w 24 0 0 := (by first | with_reducible rfl | (simp only [tallyS, if_true, if_false, reduceIte, not_true_eq_false, not_false_eq_true]; done) | (simp [tallyS]; done))
    exact end_i hx hb hrt hlocks (by rw [e9]) hP hS dX2_tally_94
  · skip
    refine lv_tableIn (off := 94) (tgt := 95) hx hb dX2_tally_1 (by decide) (by decide) (by decide) (by decide) ?_
    refine lv_aload_n hx hb dX2_tally_95 rfl (lv_at hl 0 rfl) ?_
    refine va_get (D := D) (ci := 2) (v := .ref aW) (C := RX2) (T := TX2) (N := 6) hx hb hts iX2 hown hKK.1 hP 0 rfl rfl 0 (by decide) (hts (.fieldLink RX2 12 "TrolleyGang$Ring" "wires" "LTrolleyGang$Wires;") (List.mem_of_getElem? (i := 4) rfl)) (fun _ h9 => h9) rfl dX2_tally_96 ?_
    have hPc := hP.sub (ws' := (cW cyI aW aw af w f)) [1, 2, 3] rfl
    have hDc := hD.sub (ws' := (cW cyI aW aw af w f)) [1, 2, 3] (by decide) rfl
    refine ret_iP (W1 := (cW cyI aW aw af w f)) (W2 := (cW cyI aW aw af w f)) (X1 := cR cyI cyO aR aW aw af aG ao aB ab w f od g bc hr co) (r := sumL f 24 0 0) (run_VN (q := (RX4, TX4, 2)) (n := 0) (As := []) (rest := []) ⟨hx, hb, hml, hown, hts⟩ (c_X4_frostInAll l D cyI cyO cyL aW aw af w f _) ggX2_tally_X4_frostInAll rfl rfl rfl nq_12 (hts (.initialized RX4) (List.mem_of_getElem? (i := 21) rfl)) (hts (.instanceMethod yX4_frostInAll) (List.mem_of_getElem? (i := 32) rfl)) (hts (.selects RX4 yX4_frostInAll yX4_frostInAll) (List.mem_of_getElem? (i := 33) rfl)) (by decide +kernel) ⟨Nat.le_of_ble_eq_true rfl, Nat.le_of_ble_eq_true rfl⟩ hKK hPc hDc (ci := 4) (q0 := 0) rfl rfl rfl hl.1 rfl (Nat.le_of_ble_eq_true rfl) dX2_tally_99 ⟨Nat.zero_le _, Nat.zero_le _⟩) hP hD hS hA [1, 2, 3] rfl rfl [(false, 0), (true, 0), (true, 1), (true, 2), (false, 4), (false, 5), (false, 6)] (by decide +kernel) rfl rfl (fun H locs hP hD hS => ?_)
    have e9 : tallyS 7 n ab w f B bc hr co = sumL f 24 0 0 := (by first | with_reducible rfl | (simp only [tallyS, if_true, if_false, reduceIte, not_true_eq_false, not_false_eq_true]; done) | (simp [tallyS]; done))
    exact end_i hx hb hrt hlocks (by rw [e9]) hP hS dX2_tally_102
  · skip
    refine lv_tableOut (tgt := 103) hx hb dX2_tally_1 hs_1 (by decide) ?_
    refine lv_aload_n hx hb dX2_tally_103 rfl (lv_at hl 0 rfl) ?_
    have hPc := hP.part (cx := (cR cyI cyO aR aW aw af aG ao aB ab w f od g bc hr co)) [0, 1, 2, 3, 4, 5, 6] rfl
    have hDc := hD.part (cx := (cR cyI cyO aR aW aw af aG ao aB ab w f od g bc hr co)) [0, 1, 2, 3, 4, 5, 6] (by decide) rfl
    refine ret_iB (cx := (cR cyI cyO aR aW aw af aG ao aB ab w f od g bc hr co)) (cx' := (cR cyI cyO aR aW aw af aG ao aB ab w f od g bc hr co)) (pl' := pB LB B) (X1 := cR cyI cyO aR aW aw af aG ao aB ab w f od g bc hr co) (r := bsL B ab n 0 0) (run_V (q := (RX2, TX2, 6)) (n := 0) (As := []) (rest := []) ⟨hx, hb, hml, hown, hts⟩ (c_X2_hoursStuckInAll l D cyI cyO cyL aR aW aw af aG ao aB ab w f od g bc hr co LB B n hn hbc hLB _) ggX2_tally_X2_hoursStuckInAll rfl rfl rfl (hts (.methodLink RX2 175 yX2_hoursStuckInAll) (List.mem_of_getElem? (i := 36) rfl)) (hts (.initialized RX2) (List.mem_of_getElem? (i := 17) rfl)) (hts (.instanceMethod yX2_hoursStuckInAll) (List.mem_of_getElem? (i := 37) rfl)) (hts (.selects RX2 yX2_hoursStuckInAll yX2_hoursStuckInAll) (List.mem_of_getElem? (i := 38) rfl)) (by decide +kernel) ⟨Nat.le_of_ble_eq_true rfl, Nat.le_of_ble_eq_true rfl⟩ hKK hPc hDc (ci := 2) (q0 := 0) rfl rfl rfl hl.1 rfl (Nat.le_of_ble_eq_true rfl) dX2_tally_104 ⟨Nat.zero_le _, Nat.zero_le _⟩) hP hD hS hA [0, 1, 2, 3, 4, 5, 6] (by decide) rfl rfl pB_fst [(true, 0), (true, 1), (true, 2), (true, 3), (true, 4), (true, 5), (true, 6)] (by decide +kernel) rfl rfl (fun H locs hP hD hS => ?_)
    have e9 : tallyS x_ n ab w f B bc hr co = bsL B ab n 0 0 := (by first | with_reducible rfl | (simp only [tallyS, (nt8 hs_1), if_true, if_false, reduceIte, not_true_eq_false, not_false_eq_true]; done) | (simp [tallyS, (nt8 hs_1)]; done))
    exact end_i hx hb hrt hlocks (by rw [e9]) hP hS dX2_tally_107
set_option maxHeartbeats 4000000 in
set_option maxRecDepth 100000 in
theorem c_X2_copyFrom (l : Launch) (D : va_G) (cyI cyO cyL : ClassId) (aR : Nat) (aW : Nat) (aw : Nat) (af : Nat) (aG : Nat) (ao : Nat) (aB : Nat) (aR2 : Nat) (aW2 : Nat) (aw2 : Nat) (af2 : Nat) (aG2 : Nat) (ao2 : Nat) (aB2 : Nat) (ab : Nat → Nat) (w : Nat → Int32) (f : Nat → Int32) (od : Nat → Int32) (g : Nat → Int32) (bc : Int32) (hr : Int32) (co : Int32) (ab2 : Nat → Nat) (w2 : Nat → Int32) (f2 : Nat → Int32) (od2 : Nat → Int32) (g2 : Nat → Int32) (bc2 : Int32) (hr2 : Int32) (co2 : Int32) (LB : List Nat) (B : Nat → Nat → Int32) (n : Nat) (hn : n ≤ 6) (hbc : bc2 = nI n) (hLB : ∀ k, k < 6 → ab k ∈ LB) (hLB2 : ∀ k, k < 6 → ab2 k ∈ LB) (hB : OkB B) : cV l yX2_copyFrom wsX2_copyFrom ({ frames := 2, cells := 0, slots := 0, locals := 61 }) D cyI cyO cyL [.ref aR, .ref aR2] ((cR cyI cyO aR aW aw af aG ao aB ab w f od g bc hr co ++ cR cyI cyO aR2 aW2 aw2 af2 aG2 ao2 aB2 ab2 w2 f2 od2 g2 bc2 hr2 co2) ++ pB LB B) ((cR cyI cyO aR aW aw af aG ao aB ab (va_cpy w2 w 0 0 24) (va_cpy f2 f 0 0 24) (va_cpy od2 od 0 0 6) (gcp g g2) bc2 hr2 co2 ++ cR cyI cyO aR2 aW2 aw2 af2 aG2 ao2 aB2 ab2 w2 f2 od2 g2 bc2 hr2 co2) ++ pB LB (bcL ab ab2 n 0 B)) := by
  intro sz
  refine Met.ofW (cc := cX2_copyFrom) (maxL := 3) (ret := none) (by decide) rfl ?_
  intro p e s m args below meth c s₁ B9 hml hv
  obtain ⟨rfl, hsz, hP, hKK, hD0⟩ := hv
  have hx := B9.exec
  have hb := B9.bytes
  have hrt := B9.returns
  have hts := atoms_spec (ws := wsX2_copyFrom) B9.pre
  have hown : s.vm.findClass RX2 = some m.cls := findClass_of_methodNamed B9.named
  have hlocks := B9.notSynchronized
  have nw := fun {w : Cond} (h : w ∈ nw_all) => NW.use (args := ([.ref aR, .ref aR2] : List Value).toArray) hKK.2 h
  have iX2 : ∀ w ∈ wsX20, w ∈ wsX2_copyFrom := fun _ h => List.mem_cons_of_mem _ (List.mem_append_left _ (List.mem_append_left _ (List.mem_append_left _ (List.mem_append_right _ h))))
  subst hsz
  have hD := hD0.self (sz := s.heap.size)
  generalize hAe : va_A ((cR cyI cyO aR aW aw af aG ao aB ab w f od g bc hr co ++ cR cyI cyO aR2 aW2 aw2 af2 aG2 ao2 aB2 ab2 w2 f2 od2 g2 bc2 hr2 co2) ++ pB LB B) s.heap.size = A at hD ⊢
  have hA : ∀ q : Nat, s.heap.size ≤ q → A q := fun q h => by rw [← hAe]; exact Or.inr h
  have hS : va_S A s.heap s.heap [] := va_S.rf
  have hl := lv_entry ([.ref aR, .ref aR2]) (n := 3) (Nat.le_of_ble_eq_true rfl)
  rw [lg_entry_eq]
  generalize (lg_sl ([.ref aR, .ref aR2]) ++ List.replicate (3 - (lg_sl ([.ref aR, .ref aR2])).length) Slot.unset).toArray = ls at hl ⊢
  have hl : lv_has ls 3 [(0, .ref aR), (1, .ref aR2)] := hl
  refine lv_aload_n hx hb dX2_copyFrom_0 rfl (lv_at hl 0 rfl) ?_
  refine va_get (D := D) (ci := 2) (v := .ref aW) (C := RX2) (T := TX2) (N := 6) hx hb hts iX2 hown hKK.1 hP 0 rfl rfl 0 (by decide) (hts (.fieldLink RX2 12 "TrolleyGang$Ring" "wires" "LTrolleyGang$Wires;") (List.mem_of_getElem? (i := 1) rfl)) (fun _ h9 => h9) rfl dX2_copyFrom_1 ?_
  refine lv_aload_n hx hb dX2_copyFrom_4 rfl (lv_at hl 1 rfl) ?_
  refine va_get (D := D) (ci := 2) (v := .ref aW2) (C := RX2) (T := TX2) (N := 6) hx hb hts iX2 hown hKK.1 hP 7 rfl rfl 0 (by decide) (hts (.fieldLink RX2 12 "TrolleyGang$Ring" "wires" "LTrolleyGang$Wires;") (List.mem_of_getElem? (i := 1) rfl)) (fun _ h9 => h9) rfl dX2_copyFrom_5 ?_
  have hPc := hP.sub (ws' := (cW cyI aW aw af w f ++ cW cyI aW2 aw2 af2 w2 f2)) [1, 2, 3, 8, 9, 10] rfl
  have hDc := hD.sub (ws' := (cW cyI aW aw af w f ++ cW cyI aW2 aw2 af2 w2 f2)) [1, 2, 3, 8, 9, 10] (by decide) rfl
  refine ret_vP (W1 := (cW cyI aW aw af w f ++ cW cyI aW2 aw2 af2 w2 f2)) (W2 := (cW cyI aW aw af (va_cpy w2 w 0 0 24) (va_cpy f2 f 0 0 24) ++ cW cyI aW2 aw2 af2 w2 f2)) (X1 := cR cyI cyO aR aW aw af aG ao aB ab (va_cpy w2 w 0 0 24) (va_cpy f2 f 0 0 24) od g bc hr co ++ cR cyI cyO aR2 aW2 aw2 af2 aG2 ao2 aB2 ab2 w2 f2 od2 g2 bc2 hr2 co2) (run_VN (q := (RX4, TX4, 2)) (n := 1) (As := [.ref aW2]) (rest := []) ⟨hx, hb, hml, hown, hts⟩ (c_X4_copyFrom l D cyI cyO cyL aW aw af aW2 aw2 af2 w f w2 f2 _) ggX2_copyFrom_X4_copyFrom rfl rfl rfl nq_24 (hts (.initialized RX4) (List.mem_of_getElem? (i := 8) rfl)) (hts (.instanceMethod yX4_copyFrom) (List.mem_of_getElem? (i := 7) rfl)) (hts (.selects RX4 yX4_copyFrom yX4_copyFrom) (List.mem_of_getElem? (i := 9) rfl)) (by decide +kernel) ⟨Nat.le_of_ble_eq_true rfl, Nat.le_of_ble_eq_true rfl⟩ hKK hPc hDc (ci := 4) (q0 := 0) rfl rfl rfl hl.1 rfl (Nat.le_of_ble_eq_true rfl) dX2_copyFrom_8 ⟨Nat.zero_le _, Nat.zero_le _⟩) hP hD hS hA [1, 2, 3, 8, 9, 10] rfl rfl [(false, 0), (true, 0), (true, 1), (true, 2), (false, 4), (false, 5), (false, 6), (false, 7), (true, 3), (true, 4), (true, 5), (false, 11), (false, 12), (false, 13)] (by decide +kernel) rfl rfl (fun H locs hP hD hS => ?_)
  refine lv_aload_n hx hb dX2_copyFrom_11 rfl (lv_at hl 0 rfl) ?_
  refine va_get (D := D) (ci := 2) (v := .ref aG) (C := RX2) (T := TX2) (N := 6) hx hb hts iX2 hown hKK.1 hP 0 rfl rfl 1 (by decide) (hts (.fieldLink RX2 21 "TrolleyGang$Ring" "gang" "LTrolleyGang$Gang;") (List.mem_of_getElem? (i := 2) rfl)) (fun _ h9 => h9) rfl dX2_copyFrom_12 ?_
  refine lv_aload_n hx hb dX2_copyFrom_15 rfl (lv_at hl 1 rfl) ?_
  refine va_get (D := D) (ci := 2) (v := .ref aG2) (C := RX2) (T := TX2) (N := 6) hx hb hts iX2 hown hKK.1 hP 7 rfl rfl 1 (by decide) (hts (.fieldLink RX2 21 "TrolleyGang$Ring" "gang" "LTrolleyGang$Gang;") (List.mem_of_getElem? (i := 2) rfl)) (fun _ h9 => h9) rfl dX2_copyFrom_16 ?_
  have hPc := hP.sub (ws' := (cG cyI aG ao od g ++ cG cyI aG2 ao2 od2 g2)) [4, 5, 11, 12] rfl
  have hDc := hD.sub (ws' := (cG cyI aG ao od g ++ cG cyI aG2 ao2 od2 g2)) [4, 5, 11, 12] (by decide) rfl
  refine ret_vP (W1 := (cG cyI aG ao od g ++ cG cyI aG2 ao2 od2 g2)) (W2 := (cG cyI aG ao (va_cpy od2 od 0 0 6) (gcp g g2) ++ cG cyI aG2 ao2 od2 g2)) (X1 := cR cyI cyO aR aW aw af aG ao aB ab (va_cpy w2 w 0 0 24) (va_cpy f2 f 0 0 24) (va_cpy od2 od 0 0 6) (gcp g g2) bc hr co ++ cR cyI cyO aR2 aW2 aw2 af2 aG2 ao2 aB2 ab2 w2 f2 od2 g2 bc2 hr2 co2) (run_VN (q := (RX1, TX1, 6)) (n := 1) (As := [.ref aG2]) (rest := []) ⟨hx, hb, hml, hown, hts⟩ (c_X1_copyFrom l D cyI cyO cyL aG ao aG2 ao2 od g od2 g2 _) ggX2_copyFrom_X1_copyFrom rfl rfl rfl nq_25 (hts (.initialized RX1) (List.mem_of_getElem? (i := 18) rfl)) (hts (.instanceMethod yX1_copyFrom) (List.mem_of_getElem? (i := 17) rfl)) (hts (.selects RX1 yX1_copyFrom yX1_copyFrom) (List.mem_of_getElem? (i := 19) rfl)) (by decide +kernel) ⟨Nat.le_of_ble_eq_true rfl, Nat.le_of_ble_eq_true rfl⟩ hKK hPc hDc (ci := 1) (q0 := 0) rfl rfl rfl hl.1 rfl (Nat.le_of_ble_eq_true rfl) dX2_copyFrom_19 ⟨Nat.zero_le _, Nat.zero_le _⟩) hP hD hS hA [4, 5, 11, 12] rfl rfl [(false, 0), (false, 1), (false, 2), (false, 3), (true, 0), (true, 1), (false, 6), (false, 7), (false, 8), (false, 9), (false, 10), (true, 2), (true, 3), (false, 13)] (by decide +kernel) rfl rfl (fun H locs hP hD hS => ?_)
  refine lv_iconst (v := 0) hx hb dX2_copyFrom_22 (by decide) ?_
  refine lv_istore_n (lv' := [(2, .int 0), (0, .ref aR), (1, .ref aR2)]) hx hb dX2_copyFrom_23 rfl hl (by decide) rfl (fun ls hl => ?_)
  refine wloop (σ := (Nat) × (Nat → Nat → Int32)) (fun d9 x9 H9 L9 s9 => ((x9.1) + d9 = n) ∧ (bcL ab ab2 n 0 B = bcL ab ab2 d9 (x9.1) (x9.2)) ∧ (OkB (x9.2)) ∧ (va_P D vwCl ((cR cyI cyO aR aW aw af aG ao aB ab (va_cpy w2 w 0 0 24) (va_cpy f2 f 0 0 24) (va_cpy od2 od 0 0 6) (gcp g g2) bc hr co ++ cR cyI cyO aR2 aW2 aw2 af2 aG2 ao2 aB2 ab2 w2 f2 od2 g2 bc2 hr2 co2) ++ pB LB (x9.2)) H9) ∧ (va_D A ((cR cyI cyO aR aW aw af aG ao aB ab (va_cpy w2 w 0 0 24) (va_cpy f2 f 0 0 24) (va_cpy od2 od 0 0 6) (gcp g g2) bc hr co ++ cR cyI cyO aR2 aW2 aw2 af2 aG2 ao2 aB2 ab2 w2 f2 od2 g2 bc2 hr2 co2) ++ pB LB (x9.2))) ∧ (va_S A s.heap H9 L9) ∧ (lv_has s9 3 [(2, .int (nI (x9.1))), (0, .ref aR), (1, .ref aR2)])) (fun d9 x9 H locs ls g9 ih => ?_) n (0, B) _ _ _ ⟨(by omega), rfl, hB, hP, hD, hS, lv_sub hl [0, 1, 2] rfl⟩
  obtain ⟨i, B1⟩ := x9
  obtain ⟨hid, hsp, hB, hP, hD, hS, hl⟩ := g9
  obtain ⟨d, rfl⟩ : ∃ z, z = d9 := ⟨_, rfl⟩
  have hid : i + d = n := hid
  have hsp : bcL ab ab2 n 0 B = bcL ab ab2 d i B1 := hsp
  have hB : OkB B1 := hB
  have hP : va_P D vwCl ((cR cyI cyO aR aW aw af aG ao aB ab (va_cpy w2 w 0 0 24) (va_cpy f2 f 0 0 24) (va_cpy od2 od 0 0 6) (gcp g g2) bc hr co ++ cR cyI cyO aR2 aW2 aw2 af2 aG2 ao2 aB2 ab2 w2 f2 od2 g2 bc2 hr2 co2) ++ pB LB B1) H := hP
  have hD : va_D A ((cR cyI cyO aR aW aw af aG ao aB ab (va_cpy w2 w 0 0 24) (va_cpy f2 f 0 0 24) (va_cpy od2 od 0 0 6) (gcp g g2) bc hr co ++ cR cyI cyO aR2 aW2 aw2 af2 aG2 ao2 aB2 ab2 w2 f2 od2 g2 bc2 hr2 co2) ++ pB LB B1) := hD
  have hl : lv_has ls 3 [(2, .int (nI i)), (0, .ref aR), (1, .ref aR2)] := hl
  refine lv_iload_n hx hb dX2_copyFrom_24 rfl (lv_at hl 0 rfl) ?_
  refine lv_aload_n hx hb dX2_copyFrom_25 rfl (lv_at hl 2 rfl) ?_
  refine va_get (D := D) (ci := 2) (v := .int bc2) (C := RX2) (T := TX2) (N := 6) hx hb hts iX2 hown hKK.1 hP 7 rfl rfl 3 (by decide) (hts (.fieldLink RX2 39 "TrolleyGang$Ring" "busCount" "I") (List.mem_of_getElem? (i := 3) rfl)) (fun _ h9 => h9) rfl dX2_copyFrom_26 ?_
  refine lv_tope (y := nI n) hbc ?_
  refine lv_icmp_ge (tgt := 53) hx hb dX2_copyFrom_29 (by decide) (fun h_1 => ?_) (fun h_1 => ?_)
  · skip
    obtain rfl : d = 0 := by have h9 := (nI_leI (a := n) (b := i) (by omega) (by omega)).mp h_1; omega
    have hiN : i = n := by omega
    refine lv_aload_n hx hb dX2_copyFrom_53 rfl (lv_at hl 1 rfl) ?_
    refine lv_aload_n hx hb dX2_copyFrom_54 rfl (lv_at hl 2 rfl) ?_
    refine va_get (D := D) (ci := 2) (v := .int bc2) (C := RX2) (T := TX2) (N := 6) hx hb hts iX2 hown hKK.1 hP 7 rfl rfl 3 (by decide) (hts (.fieldLink RX2 39 "TrolleyGang$Ring" "busCount" "I") (List.mem_of_getElem? (i := 3) rfl)) (fun _ h9 => h9) rfl dX2_copyFrom_55 ?_
    refine va_put (D := D) (ci := 2) (v := .int bc2) (ty := .int) (C := RX2) (T := TX2) (N := 6) hx hb hts iX2 tyX2 tyX2_ok nmX2 hown hKK.1 hP hD hS 0 rfl rfl 3 (by decide) (hts (.fieldLink RX2 39 "TrolleyGang$Ring" "busCount" "I") (List.mem_of_getElem? (i := 3) rfl)) (fun _ h9 => h9) rfl (by decide +kernel) rfl rfl (Nat.le_of_ble_eq_true rfl) dX2_copyFrom_58 (fun H locs hP hD hS => ?_)
    have hP : va_P D vwCl ((cR cyI cyO aR aW aw af aG ao aB ab (va_cpy w2 w 0 0 24) (va_cpy f2 f 0 0 24) (va_cpy od2 od 0 0 6) (gcp g g2) bc2 hr co ++ cR cyI cyO aR2 aW2 aw2 af2 aG2 ao2 aB2 ab2 w2 f2 od2 g2 bc2 hr2 co2) ++ pB LB B1) H := hP
    have hD : va_D A ((cR cyI cyO aR aW aw af aG ao aB ab (va_cpy w2 w 0 0 24) (va_cpy f2 f 0 0 24) (va_cpy od2 od 0 0 6) (gcp g g2) bc2 hr co ++ cR cyI cyO aR2 aW2 aw2 af2 aG2 ao2 aB2 ab2 w2 f2 od2 g2 bc2 hr2 co2) ++ pB LB B1) := hD
    refine lv_aload_n hx hb dX2_copyFrom_61 rfl (lv_at hl 1 rfl) ?_
    refine lv_aload_n hx hb dX2_copyFrom_62 rfl (lv_at hl 2 rfl) ?_
    refine va_get (D := D) (ci := 2) (v := .int hr2) (C := RX2) (T := TX2) (N := 6) hx hb hts iX2 hown hKK.1 hP 7 rfl rfl 4 (by decide) (hts (.fieldLink RX2 46 "TrolleyGang$Ring" "hour" "I") (List.mem_of_getElem? (i := 5) rfl)) (fun _ h9 => h9) rfl dX2_copyFrom_63 ?_
    refine va_put (D := D) (ci := 2) (v := .int hr2) (ty := .int) (C := RX2) (T := TX2) (N := 6) hx hb hts iX2 tyX2 tyX2_ok nmX2 hown hKK.1 hP hD hS 0 rfl rfl 4 (by decide) (hts (.fieldLink RX2 46 "TrolleyGang$Ring" "hour" "I") (List.mem_of_getElem? (i := 5) rfl)) (fun _ h9 => h9) rfl (by decide +kernel) rfl rfl (Nat.le_of_ble_eq_true rfl) dX2_copyFrom_66 (fun H locs hP hD hS => ?_)
    have hP : va_P D vwCl ((cR cyI cyO aR aW aw af aG ao aB ab (va_cpy w2 w 0 0 24) (va_cpy f2 f 0 0 24) (va_cpy od2 od 0 0 6) (gcp g g2) bc2 hr2 co ++ cR cyI cyO aR2 aW2 aw2 af2 aG2 ao2 aB2 ab2 w2 f2 od2 g2 bc2 hr2 co2) ++ pB LB B1) H := hP
    have hD : va_D A ((cR cyI cyO aR aW aw af aG ao aB ab (va_cpy w2 w 0 0 24) (va_cpy f2 f 0 0 24) (va_cpy od2 od 0 0 6) (gcp g g2) bc2 hr2 co ++ cR cyI cyO aR2 aW2 aw2 af2 aG2 ao2 aB2 ab2 w2 f2 od2 g2 bc2 hr2 co2) ++ pB LB B1) := hD
    refine lv_aload_n hx hb dX2_copyFrom_69 rfl (lv_at hl 1 rfl) ?_
    refine lv_aload_n hx hb dX2_copyFrom_70 rfl (lv_at hl 2 rfl) ?_
    refine va_get (D := D) (ci := 2) (v := .int co2) (C := RX2) (T := TX2) (N := 6) hx hb hts iX2 hown hKK.1 hP 7 rfl rfl 5 (by decide) (hts (.fieldLink RX2 49 "TrolleyGang$Ring" "coins" "I") (List.mem_of_getElem? (i := 6) rfl)) (fun _ h9 => h9) rfl dX2_copyFrom_71 ?_
    refine va_put (D := D) (ci := 2) (v := .int co2) (ty := .int) (C := RX2) (T := TX2) (N := 6) hx hb hts iX2 tyX2 tyX2_ok nmX2 hown hKK.1 hP hD hS 0 rfl rfl 5 (by decide) (hts (.fieldLink RX2 49 "TrolleyGang$Ring" "coins" "I") (List.mem_of_getElem? (i := 6) rfl)) (fun _ h9 => h9) rfl (by decide +kernel) rfl rfl (Nat.le_of_ble_eq_true rfl) dX2_copyFrom_74 (fun H locs hP hD hS => ?_)
    have hP : va_P D vwCl ((cR cyI cyO aR aW aw af aG ao aB ab (va_cpy w2 w 0 0 24) (va_cpy f2 f 0 0 24) (va_cpy od2 od 0 0 6) (gcp g g2) bc2 hr2 co2 ++ cR cyI cyO aR2 aW2 aw2 af2 aG2 ao2 aB2 ab2 w2 f2 od2 g2 bc2 hr2 co2) ++ pB LB B1) H := hP
    have hD : va_D A ((cR cyI cyO aR aW aw af aG ao aB ab (va_cpy w2 w 0 0 24) (va_cpy f2 f 0 0 24) (va_cpy od2 od 0 0 6) (gcp g g2) bc2 hr2 co2 ++ cR cyI cyO aR2 aW2 aw2 af2 aG2 ao2 aB2 ab2 w2 f2 od2 g2 bc2 hr2 co2) ++ pB LB B1) := hD
    have e9_4 : (bcL ab ab2 n 0 B) = B1 := (by first | exact hsp | rfl)
    exact end_v hx hb hrt hlocks (by first | exact hP | (rw [e9_4]; exact hP)) hS dX2_copyFrom_77
  · skip
    have hlt : i < n := by have h9 := mt (nI_leI (a := n) (b := i) (by omega) (by omega)).mpr h_1; omega
    obtain ⟨d, rfl⟩ : ∃ k, d = k + 1 := ⟨d - 1, by omega⟩
    refine lv_aload_n hx hb dX2_copyFrom_32 rfl (lv_at hl 1 rfl) ?_
    refine va_get (D := D) (ci := 2) (v := .ref aB) (C := RX2) (T := TX2) (N := 6) hx hb hts iX2 hown hKK.1 hP 0 rfl rfl 2 (by decide) (hts (.fieldLink RX2 27 "TrolleyGang$Ring" "buses" "[LTrolleyGang$Bus;") (List.mem_of_getElem? (i := 4) rfl)) (fun _ h9 => h9) rfl dX2_copyFrom_33 ?_
    refine lv_iload_n hx hb dX2_copyFrom_36 rfl (lv_at hl 0 rfl) ?_
    refine va_aldq hx hb hKK.1 hP 6 1 rfl rfl (hin := (vp_in_nI (show i < 6 by omega) (by omega))) dX2_copyFrom_37 ?_
    refine lv_topv (y := .ref (ab i)) (by rw [nI_clamp (by omega)]; rfl) ?_
    refine lv_aload_n hx hb dX2_copyFrom_38 rfl (lv_at hl 2 rfl) ?_
    refine va_get (D := D) (ci := 2) (v := .ref aB2) (C := RX2) (T := TX2) (N := 6) hx hb hts iX2 hown hKK.1 hP 7 rfl rfl 2 (by decide) (hts (.fieldLink RX2 27 "TrolleyGang$Ring" "buses" "[LTrolleyGang$Bus;") (List.mem_of_getElem? (i := 4) rfl)) (fun _ h9 => h9) rfl dX2_copyFrom_39 ?_
    refine lv_iload_n hx hb dX2_copyFrom_42 rfl (lv_at hl 0 rfl) ?_
    refine va_aldq hx hb hKK.1 hP 13 1 rfl rfl (hin := (vp_in_nI (show i < 6 by omega) (by omega))) dX2_copyFrom_43 ?_
    refine lv_topv (y := .ref (ab2 i)) (by rw [nI_clamp (by omega)]; rfl) ?_
    have hPc := hP.part (cx := ([] : va_W)) [] rfl
    have hDc := hD.part (cx := ([] : va_W)) [] (by decide) rfl
    obtain ⟨q9, hq9⟩ := va_pl_get (X := ([] : va_W)) (f := bE B1) (hLB i (by omega))
    refine ret_vB (cx := ([] : va_W)) (cx' := ([] : va_W)) (pl' := pB LB (bcp B1 (ab i) (ab2 i))) (X1 := cR cyI cyO aR aW aw af aG ao aB ab (va_cpy w2 w 0 0 24) (va_cpy f2 f 0 0 24) (va_cpy od2 od 0 0 6) (gcp g g2) bc hr co ++ cR cyI cyO aR2 aW2 aw2 af2 aG2 ao2 aB2 ab2 w2 f2 od2 g2 bc2 hr2 co2) (run_VN (q := (RX0, TX0, 6)) (n := 1) (As := [.ref (ab2 i)]) (rest := []) ⟨hx, hb, hml, hown, hts⟩ (c_X0_copyFrom l D cyI cyO cyL LB B1 (ab i) (ab2 i) (hLB i (by omega)) (hLB2 i (by omega)) (hB _).2.1 (hB _).2.2 _) ggX2_copyFrom_X0_copyFrom rfl rfl rfl nq_26 (hts (.initialized RX0) (List.mem_of_getElem? (i := 29) rfl)) (hts (.instanceMethod yX0_copyFrom) (List.mem_of_getElem? (i := 28) rfl)) (hts (.selects RX0 yX0_copyFrom yX0_copyFrom) (List.mem_of_getElem? (i := 30) rfl)) (by decide +kernel) ⟨Nat.le_of_ble_eq_true rfl, Nat.le_of_ble_eq_true rfl⟩ hKK hPc hDc (ci := 0) (q0 := q9) rfl hq9 rfl hl.1 rfl (Nat.le_of_ble_eq_true rfl) dX2_copyFrom_44 ⟨Nat.zero_le _, Nat.zero_le _⟩) hP hD hS hA [] (by decide) rfl rfl pB_fst [(false, 0), (false, 1), (false, 2), (false, 3), (false, 4), (false, 5), (false, 6), (false, 7), (false, 8), (false, 9), (false, 10), (false, 11), (false, 12), (false, 13)] (by decide +kernel) rfl rfl (fun H locs hP hD hS => ?_)
    refine lv_iinc (v := nI (i + 1)) (lv' := [(2, .int (nI (i + 1))), (0, .ref aR), (1, .ref aR2)]) hx hb dX2_copyFrom_47 hl (k := 0) rfl (nI_1 i) (by decide) rfl (fun ls hl => ?_)
    refine lv_goto (tgt := 24) hx hb dX2_copyFrom_50 (by decide) ?_
    exact ih d ((i + 1), (bcp B1 (ab i) (ab2 i))) _ _ _ (by omega) ⟨(by omega), (hsp.trans (by first | with_reducible rfl | (simp only [bcL, h_1, if_true, if_false, reduceIte, not_true_eq_false, not_false_eq_true]; done) | (simp [bcL, h_1]; done))), (hB.cp _ _), hP, hD, hS, lv_sub hl [0, 1, 2] rfl⟩
set_option maxHeartbeats 4000000 in
set_option maxRecDepth 100000 in
theorem c_X2_letGoBy (l : Launch) (D : va_G) (cyI cyO cyL : ClassId) (aR : Nat) (aW : Nat) (aw : Nat) (af : Nat) (aG : Nat) (ao : Nat) (aB : Nat) (aT : Nat) (ac : Nat) (as_ : Nat) (ab : Nat → Nat) (w : Nat → Int32) (f : Nat → Int32) (od : Nat → Int32) (g : Nat → Int32) (bc : Int32) (hr : Int32) (co : Int32) (cd : Nat → Int32) (sw : Nat → Int32) (fd : Int32) (fn : Int32) (LB : List Nat) (B : Nat → Nat → Int32) (h_ : Nat) (n : Nat) (M_ : Nat) (hn : n ≤ 6) (hbc : bc = nI n) (hLB : ∀ k, k < 6 → ab k ∈ LB) (hok : OkQ M_ (w, f, od, g, B, co, hr)) (hM : M_ + 100 < 2 ^ 30) (hh : h_ ≤ 96) (hsw : ∀ k, sw k = -1 ∨ vp_in (sw k) 24) : cV l yX2_letGoBy wsX2_letGoBy ({ frames := 5, cells := 0, slots := 0, locals := 102 }) D cyI cyO cyL [.ref aR, .int (nI h_), .ref aT] ((cR cyI cyO aR aW aw af aG ao aB ab w f od g bc hr co ++ cT cyI aT ac as_ cd sw fd fn) ++ pB LB B) ((cR cyI cyO aR aW aw af aG ao aB ab ((hrsL cd sw fd fn ab n h_ (w, f, od, g, B, co, hr)).1) ((hrsL cd sw fd fn ab n h_ (w, f, od, g, B, co, hr)).2.1) ((hrsL cd sw fd fn ab n h_ (w, f, od, g, B, co, hr)).2.2.1) ((hrsL cd sw fd fn ab n h_ (w, f, od, g, B, co, hr)).2.2.2.1) bc ((hrsL cd sw fd fn ab n h_ (w, f, od, g, B, co, hr)).2.2.2.2.2.2) ((hrsL cd sw fd fn ab n h_ (w, f, od, g, B, co, hr)).2.2.2.2.2.1) ++ cT cyI aT ac as_ cd sw fd fn) ++ pB LB ((hrsL cd sw fd fn ab n h_ (w, f, od, g, B, co, hr)).2.2.2.2.1)) := by
  intro sz
  refine Met.ofW (cc := cX2_letGoBy) (maxL := 4) (ret := none) (by decide) rfl ?_
  intro p e s m args below meth c s₁ B9 hml hv
  obtain ⟨rfl, hsz, hP, hKK, hD0⟩ := hv
  have hx := B9.exec
  have hb := B9.bytes
  have hrt := B9.returns
  have hts := atoms_spec (ws := wsX2_letGoBy) B9.pre
  have hown : s.vm.findClass RX2 = some m.cls := findClass_of_methodNamed B9.named
  have hlocks := B9.notSynchronized
  have nw := fun {w : Cond} (h : w ∈ nw_all) => NW.use (args := ([.ref aR, .int (nI h_), .ref aT] : List Value).toArray) hKK.2 h
  subst hsz
  have hD := hD0.self (sz := s.heap.size)
  generalize hAe : va_A ((cR cyI cyO aR aW aw af aG ao aB ab w f od g bc hr co ++ cT cyI aT ac as_ cd sw fd fn) ++ pB LB B) s.heap.size = A at hD ⊢
  have hA : ∀ q : Nat, s.heap.size ≤ q → A q := fun q h => by rw [← hAe]; exact Or.inr h
  have hS : va_S A s.heap s.heap [] := va_S.rf
  have hl := lv_entry ([.ref aR, .int (nI h_), .ref aT]) (n := 4) (Nat.le_of_ble_eq_true rfl)
  rw [lg_entry_eq]
  generalize (lg_sl ([.ref aR, .int (nI h_), .ref aT]) ++ List.replicate (4 - (lg_sl ([.ref aR, .int (nI h_), .ref aT])).length) Slot.unset).toArray = ls at hl ⊢
  have hl : lv_has ls 4 [(0, .ref aR), (1, .int (nI h_)), (2, .ref aT)] := hl
  refine lv_iconst (v := 0) hx hb dX2_letGoBy_0 (by decide) ?_
  refine lv_istore_n (lv' := [(3, .int 0), (0, .ref aR), (1, .int (nI h_)), (2, .ref aT)]) hx hb dX2_letGoBy_1 rfl hl (by decide) rfl (fun ls hl => ?_)
  refine wloop (σ := (Nat) × (RS)) (fun d9 x9 H9 L9 s9 => ((x9.1) + d9 = h_) ∧ (hrsL cd sw fd fn ab n h_ (w, f, od, g, B, co, hr) = hrsL cd sw fd fn ab n d9 (x9.2)) ∧ (OkQ (M_ + (x9.1)) (x9.2)) ∧ (va_P D vwCl ((cR cyI cyO aR aW aw af aG ao aB ab (x9.2).1 (x9.2).2.1 (x9.2).2.2.1 (x9.2).2.2.2.1 bc (x9.2).2.2.2.2.2.2 (x9.2).2.2.2.2.2.1 ++ cT cyI aT ac as_ cd sw fd fn) ++ pB LB (x9.2).2.2.2.2.1) H9) ∧ (va_D A ((cR cyI cyO aR aW aw af aG ao aB ab (x9.2).1 (x9.2).2.1 (x9.2).2.2.1 (x9.2).2.2.2.1 bc (x9.2).2.2.2.2.2.2 (x9.2).2.2.2.2.2.1 ++ cT cyI aT ac as_ cd sw fd fn) ++ pB LB (x9.2).2.2.2.2.1)) ∧ (va_S A s.heap H9 L9) ∧ (lv_has s9 4 [(3, .int (nI (x9.1))), (0, .ref aR), (1, .int (nI h_)), (2, .ref aT)])) (fun d9 x9 H locs ls g9 ih => ?_) h_ (0, (w, f, od, g, B, co, hr)) _ _ _ ⟨(by omega), rfl, hok, hP, hD, hS, lv_sub hl [0, 1, 2, 3] rfl⟩
  obtain ⟨i, q⟩ := x9
  obtain ⟨hid, hsp, hq, hP, hD, hS, hl⟩ := g9
  obtain ⟨d, rfl⟩ : ∃ z, z = d9 := ⟨_, rfl⟩
  have hid : i + d = h_ := hid
  have hsp : hrsL cd sw fd fn ab n h_ (w, f, od, g, B, co, hr) = hrsL cd sw fd fn ab n d q := hsp
  have hq : OkQ (M_ + i) q := hq
  have hP : va_P D vwCl ((cR cyI cyO aR aW aw af aG ao aB ab q.1 q.2.1 q.2.2.1 q.2.2.2.1 bc q.2.2.2.2.2.2 q.2.2.2.2.2.1 ++ cT cyI aT ac as_ cd sw fd fn) ++ pB LB q.2.2.2.2.1) H := hP
  have hD : va_D A ((cR cyI cyO aR aW aw af aG ao aB ab q.1 q.2.1 q.2.2.1 q.2.2.2.1 bc q.2.2.2.2.2.2 q.2.2.2.2.2.1 ++ cT cyI aT ac as_ cd sw fd fn) ++ pB LB q.2.2.2.2.1) := hD
  have hl : lv_has ls 4 [(3, .int (nI i)), (0, .ref aR), (1, .int (nI h_)), (2, .ref aT)] := hl
  refine lv_iload_n hx hb dX2_letGoBy_2 rfl (lv_at hl 0 rfl) ?_
  refine lv_iload_n hx hb dX2_letGoBy_3 rfl (lv_at hl 2 rfl) ?_
  refine lv_icmp_ge (tgt := 18) hx hb dX2_letGoBy_4 (by decide) (fun h_1 => ?_) (fun h_1 => ?_)
  · skip
    obtain rfl : d = 0 := by have h9 := (nI_leI (a := h_) (b := i) (by omega) (by omega)).mp h_1; omega
    have hiN : i = h_ := by omega
    have e9 : hrsL cd sw fd fn ab n h_ (w, f, od, g, B, co, hr) = (q.1, q.2.1, q.2.2.1, q.2.2.2.1, q.2.2.2.2.1, q.2.2.2.2.2.1, q.2.2.2.2.2.2) := (hsp.trans rfl)
    exact end_v hx hb hrt hlocks (by rw [e9]; exact hP) hS dX2_letGoBy_18
  · skip
    have hlt : i < h_ := by have h9 := mt (nI_leI (a := h_) (b := i) (by omega) (by omega)).mpr h_1; omega
    obtain ⟨d, rfl⟩ : ∃ k, d = k + 1 := ⟨d - 1, by omega⟩
    refine lv_aload_n hx hb dX2_letGoBy_7 rfl (lv_at hl 1 rfl) ?_
    refine lv_aload_n hx hb dX2_letGoBy_8 rfl (lv_at hl 3 rfl) ?_
    have hPc := hP.part (cx := (cR cyI cyO aR aW aw af aG ao aB ab q.1 q.2.1 q.2.2.1 q.2.2.2.1 bc q.2.2.2.2.2.2 q.2.2.2.2.2.1 ++ cT cyI aT ac as_ cd sw fd fn)) [0, 1, 2, 3, 4, 5, 6, 7, 8, 9] rfl
    have hDc := hD.part (cx := (cR cyI cyO aR aW aw af aG ao aB ab q.1 q.2.1 q.2.2.1 q.2.2.2.1 bc q.2.2.2.2.2.2 q.2.2.2.2.2.1 ++ cT cyI aT ac as_ cd sw fd fn)) [0, 1, 2, 3, 4, 5, 6, 7, 8, 9] (by decide) rfl
    refine ret_vB (cx := (cR cyI cyO aR aW aw af aG ao aB ab q.1 q.2.1 q.2.2.1 q.2.2.2.1 bc q.2.2.2.2.2.2 q.2.2.2.2.2.1 ++ cT cyI aT ac as_ cd sw fd fn)) (cx' := (cR cyI cyO aR aW aw af aG ao aB ab ((hourS cd sw fd fn ab n (q.1) (q.2.1) (q.2.2.1) (q.2.2.2.1) (q.2.2.2.2.1) (q.2.2.2.2.2.1) (q.2.2.2.2.2.2)).1) ((hourS cd sw fd fn ab n (q.1) (q.2.1) (q.2.2.1) (q.2.2.2.1) (q.2.2.2.2.1) (q.2.2.2.2.2.1) (q.2.2.2.2.2.2)).2.1) ((hourS cd sw fd fn ab n (q.1) (q.2.1) (q.2.2.1) (q.2.2.2.1) (q.2.2.2.2.1) (q.2.2.2.2.2.1) (q.2.2.2.2.2.2)).2.2.1) ((hourS cd sw fd fn ab n (q.1) (q.2.1) (q.2.2.1) (q.2.2.2.1) (q.2.2.2.2.1) (q.2.2.2.2.2.1) (q.2.2.2.2.2.2)).2.2.2.1) bc ((hourS cd sw fd fn ab n (q.1) (q.2.1) (q.2.2.1) (q.2.2.2.1) (q.2.2.2.2.1) (q.2.2.2.2.2.1) (q.2.2.2.2.2.2)).2.2.2.2.2.2) ((hourS cd sw fd fn ab n (q.1) (q.2.1) (q.2.2.1) (q.2.2.2.1) (q.2.2.2.2.1) (q.2.2.2.2.2.1) (q.2.2.2.2.2.2)).2.2.2.2.2.1) ++ cT cyI aT ac as_ cd sw fd fn)) (pl' := pB LB ((hourS cd sw fd fn ab n (q.1) (q.2.1) (q.2.2.1) (q.2.2.2.1) (q.2.2.2.2.1) (q.2.2.2.2.2.1) (q.2.2.2.2.2.2)).2.2.2.2.1)) (X1 := cR cyI cyO aR aW aw af aG ao aB ab ((hourS cd sw fd fn ab n (q.1) (q.2.1) (q.2.2.1) (q.2.2.2.1) (q.2.2.2.2.1) (q.2.2.2.2.2.1) (q.2.2.2.2.2.2)).1) ((hourS cd sw fd fn ab n (q.1) (q.2.1) (q.2.2.1) (q.2.2.2.1) (q.2.2.2.2.1) (q.2.2.2.2.2.1) (q.2.2.2.2.2.2)).2.1) ((hourS cd sw fd fn ab n (q.1) (q.2.1) (q.2.2.1) (q.2.2.2.1) (q.2.2.2.2.1) (q.2.2.2.2.2.1) (q.2.2.2.2.2.2)).2.2.1) ((hourS cd sw fd fn ab n (q.1) (q.2.1) (q.2.2.1) (q.2.2.2.1) (q.2.2.2.2.1) (q.2.2.2.2.2.1) (q.2.2.2.2.2.2)).2.2.2.1) bc ((hourS cd sw fd fn ab n (q.1) (q.2.1) (q.2.2.1) (q.2.2.2.1) (q.2.2.2.2.1) (q.2.2.2.2.2.1) (q.2.2.2.2.2.2)).2.2.2.2.2.2) ((hourS cd sw fd fn ab n (q.1) (q.2.1) (q.2.2.1) (q.2.2.2.1) (q.2.2.2.2.1) (q.2.2.2.2.2.1) (q.2.2.2.2.2.2)).2.2.2.2.2.1) ++ cT cyI aT ac as_ cd sw fd fn) (run_V (q := (RX2, TX2, 6)) (n := 1) (As := [.ref aT]) (rest := []) ⟨hx, hb, hml, hown, hts⟩ (c_X2_letHourGoBy l D cyI cyO cyL aR aW aw af aG ao aB aT ac as_ ab q.1 q.2.1 q.2.2.1 q.2.2.2.1 bc q.2.2.2.2.2.2 q.2.2.2.2.2.1 cd sw fd fn LB q.2.2.2.2.1 n (by first | assumption | omega) (by first | assumption | omega) (by first | assumption | omega) hq.1 (by first | assumption | omega) _) ggX2_letGoBy_X2_letHourGoBy rfl rfl rfl (hts (.methodLink RX2 52 yX2_letHourGoBy) (List.mem_of_getElem? (i := 1) rfl)) (hts (.initialized RX2) (List.mem_of_getElem? (i := 4) rfl)) (hts (.instanceMethod yX2_letHourGoBy) (List.mem_of_getElem? (i := 2) rfl)) (hts (.selects RX2 yX2_letHourGoBy yX2_letHourGoBy) (List.mem_of_getElem? (i := 3) rfl)) (by decide +kernel) ⟨Nat.le_of_ble_eq_true rfl, Nat.le_of_ble_eq_true rfl⟩ hKK hPc hDc (ci := 2) (q0 := 0) rfl rfl rfl hl.1 rfl (Nat.le_of_ble_eq_true rfl) dX2_letGoBy_9 ⟨Nat.zero_le _, Nat.zero_le _⟩) hP hD hS hA [0, 1, 2, 3, 4, 5, 6, 7, 8, 9] (by decide) rfl rfl pB_fst [(true, 0), (true, 1), (true, 2), (true, 3), (true, 4), (true, 5), (true, 6), (true, 7), (true, 8), (true, 9)] (by decide +kernel) rfl rfl (fun H locs hP hD hS => ?_)
    refine lv_iinc (v := nI (i + 1)) (lv' := [(3, .int (nI (i + 1))), (0, .ref aR), (1, .int (nI h_)), (2, .ref aT)]) hx hb dX2_letGoBy_12 hl (k := 0) rfl (nI_1 i) (by decide) rfl (fun ls hl => ?_)
    refine lv_goto (tgt := 2) hx hb dX2_letGoBy_15 (by decide) ?_
    exact ih d ((i + 1), (hourT cd sw fd fn ab n q)) _ _ _ (by omega) ⟨(by omega), (hsp.trans rfl), (OkQ.hour (M := M_ + i) (by omega) hq), hP, hD, hS, lv_sub hl [0, 1, 2, 3] rfl⟩
