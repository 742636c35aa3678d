set_option maxHeartbeats 4000000 in
set_option maxRecDepth 100000 in
theorem c_X2_letSwanFly (l : Launch) (D : va_G) (cyI cyO cyL : ClassId) (aR : Nat) (aW : Nat) (aw : Nat) (af : Nat) (aG : Nat) (ao : Nat) (aB : Nat) (ab : Nat → Nat) (w : Nat → Int32) (f : Nat → Int32) (od : Nat → Int32) (g : Nat → Int32) (bc : Int32) (hr : Int32) (co : Int32) (s_ : Int32) (hs : s_ = -1 ∨ vp_in s_ 24) : cV l yX2_letSwanFly wsX2_letSwanFly ({ frames := 2, cells := 0, slots := 0, locals := 37 }) D cyI cyO cyL [.ref aR, .int s_] (cR cyI cyO aR aW aw af aG ao aB ab w f od g bc hr co) (cR cyI cyO aR aW aw af aG ao aB ab (swanS w s_) f od g bc hr co) := by
  intro sz
  refine Met.ofW (cc := cX2_letSwanFly) (maxL := 2) (ret := none) (by decide) rfl ?_
  intro p e s m args below meth c s₁ B9 hml hv
  obtain ⟨rfl, hsz, hP, hKK, hD0⟩ := hv
  have hx := B9.exec
  have hb := B9.bytes
  have hrt := B9.returns
  have hts := atoms_spec (ws := wsX2_letSwanFly) B9.pre
  have hown : s.vm.findClass RX2 = some m.cls := findClass_of_methodNamed B9.named
  have hlocks := B9.notSynchronized
  have nw := fun {w : Cond} (h : w ∈ nw_all) => NW.use (args := ([.ref aR, .int s_] : List Value).toArray) hKK.2 h
  have iX2 : ∀ w ∈ wsX20, w ∈ wsX2_letSwanFly := fun _ h => List.mem_cons_of_mem _ (List.mem_append_left _ (List.mem_append_right _ h))
  subst hsz
  have hD := hD0.self (sz := s.heap.size)
  generalize hAe : va_A (cR cyI cyO aR aW aw af aG ao aB ab w f od g bc hr co) s.heap.size = A at hD ⊢
  have hA : ∀ q : Nat, s.heap.size ≤ q → A q := fun q h => by rw [← hAe]; exact Or.inr h
  have hS : va_S A s.heap s.heap [] := va_S.rf
  have hl := lv_entry ([.ref aR, .int s_]) (n := 2) (Nat.le_of_ble_eq_true rfl)
  rw [lg_entry_eq]
  generalize (lg_sl ([.ref aR, .int s_]) ++ List.replicate (2 - (lg_sl ([.ref aR, .int s_])).length) Slot.unset).toArray = ls at hl ⊢
  have hl : lv_has ls 2 [(0, .ref aR), (1, .int s_)] := hl
  refine lv_iload_n hx hb dX2_letSwanFly_0 rfl (lv_at hl 1 rfl) ?_
  refine lv_iconst (v := (-1)) hx hb dX2_letSwanFly_1 (by decide) ?_
  refine lv_icmp_eq (tgt := 26) hx hb dX2_letSwanFly_2 (by decide) (fun h_1 => ?_) (fun h_1 => ?_)
  · skip
    have e9 : swanS w s_ = w := (by first | with_reducible rfl | (simp only [swanS, h_1, if_true, if_false, reduceIte, not_true_eq_false, not_false_eq_true]; done) | (simp [swanS, h_1]; done))
    exact end_v hx hb hrt hlocks (by rw [e9]; exact hP) hS dX2_letSwanFly_26
  · skip
    have hi : vp_in s_ 24 := hs.resolve_left h_1
    refine lv_aload_n hx hb dX2_letSwanFly_5 rfl (lv_at hl 0 rfl) ?_
    refine va_get (D := D) (ci := 2) (v := .ref aW) (C := RX2) (T := TX2) (N := 6) hx hb hts iX2 hown hKK.1 hP 0 rfl rfl 0 (by decide) (hts (.fieldLink RX2 12 "TrolleyGang$Ring" "wires" "LTrolleyGang$Wires;") (List.mem_of_getElem? (i := 1) rfl)) (fun _ h9 => h9) rfl dX2_letSwanFly_6 ?_
    refine lv_iload_n hx hb dX2_letSwanFly_9 rfl (lv_at hl 1 rfl) ?_
    have hPc := hP.sub (ws' := (cW cyI aW aw af w f)) [1, 2, 3] rfl
    have hDc := hD.sub (ws' := (cW cyI aW aw af w f)) [1, 2, 3] (by decide) rfl
    refine ret_i (W1 := (cW cyI aW aw af w f)) (W2 := (cW cyI aW aw af w f)) (ws1 := (cR cyI cyO aR aW aw af aG ao aB ab w f od g bc hr co)) (r := dnI w s_) (run_VN (q := (RX4, TX4, 2)) (n := 1) (As := [.int s_]) (rest := []) ⟨hx, hb, hml, hown, hts⟩ (c_X4_isDown l D cyI cyO cyL aW aw af w f s_ hi _) ggX2_letSwanFly_X4_isDown rfl rfl rfl nq_16 (hts (.initialized RX4) (List.mem_of_getElem? (i := 3) rfl)) (hts (.instanceMethod yX4_isDown) (List.mem_of_getElem? (i := 2) rfl)) (hts (.selects RX4 yX4_isDown yX4_isDown) (List.mem_of_getElem? (i := 4) rfl)) (by decide +kernel) ⟨Nat.le_of_ble_eq_true rfl, Nat.le_of_ble_eq_true rfl⟩ hKK hPc hDc (ci := 4) (q0 := 0) rfl rfl rfl hl.1 rfl (Nat.le_of_ble_eq_true rfl) dX2_letSwanFly_10 ⟨Nat.zero_le _, Nat.zero_le _⟩) hP hD hS hA [1, 2, 3] rfl rfl [(false, 0), (true, 0), (true, 1), (true, 2), (false, 4), (false, 5), (false, 6)] (by decide +kernel) rfl (fun H locs hP hD hS => ?_)
    refine lv_if_ne (tgt := 26) hx hb dX2_letSwanFly_13 (by decide) (fun h_2 => ?_) (fun h_2 => ?_)
    · skip
      have e9 : swanS w s_ = w := (by first | with_reducible rfl | (simp only [swanS, h_1, h_2, if_true, if_false, reduceIte, not_true_eq_false, not_false_eq_true]; done) | (simp [swanS, h_1, h_2]; done))
      exact end_v hx hb hrt hlocks (by rw [e9]; exact hP) hS dX2_letSwanFly_26
    · skip
      refine lv_aload_n hx hb dX2_letSwanFly_16 rfl (lv_at hl 0 rfl) ?_
      refine va_get (D := D) (ci := 2) (v := .ref aW) (C := RX2) (T := TX2) (N := 6) hx hb hts iX2 hown hKK.1 hP 0 rfl rfl 0 (by decide) (hts (.fieldLink RX2 12 "TrolleyGang$Ring" "wires" "LTrolleyGang$Wires;") (List.mem_of_getElem? (i := 1) rfl)) (fun _ h9 => h9) rfl dX2_letSwanFly_17 ?_
      refine lv_iload_n hx hb dX2_letSwanFly_20 rfl (lv_at hl 1 rfl) ?_
      refine lv_bipush (v := 25) hx hb dX2_letSwanFly_21 (by decide) ?_
      have hPc := hP.sub (ws' := (cW cyI aW aw af w f)) [1, 2, 3] rfl
      have hDc := hD.sub (ws' := (cW cyI aW aw af w f)) [1, 2, 3] (by decide) rfl
      refine ret_v (W1 := (cW cyI aW aw af w f)) (W2 := (cW cyI aW aw af (wearS w s_ 25) f)) (ws1 := (cR cyI cyO aR aW aw af aG ao aB ab (wearS w s_ 25) f od g bc hr co)) (run_VN (q := (RX4, TX4, 2)) (n := 2) (As := [.int s_, .int 25]) (rest := []) ⟨hx, hb, hml, hown, hts⟩ (c_X4_wear l D cyI cyO cyL aW aw af w f s_ 25 hi _) ggX2_letSwanFly_X4_wear rfl rfl rfl nq_17 (hts (.initialized RX4) (List.mem_of_getElem? (i := 3) rfl)) (hts (.instanceMethod yX4_wear) (List.mem_of_getElem? (i := 7) rfl)) (hts (.selects RX4 yX4_wear yX4_wear) (List.mem_of_getElem? (i := 8) rfl)) (by decide +kernel) ⟨Nat.le_of_ble_eq_true rfl, Nat.le_of_ble_eq_true rfl⟩ hKK hPc hDc (ci := 4) (q0 := 0) rfl rfl rfl hl.1 rfl (Nat.le_of_ble_eq_true rfl) dX2_letSwanFly_23 ⟨Nat.zero_le _, Nat.zero_le _⟩) hP hD hS hA [1, 2, 3] rfl rfl [(false, 0), (true, 0), (true, 1), (true, 2), (false, 4), (false, 5), (false, 6)] (by decide +kernel) rfl (fun H locs hP hD hS => ?_)
      have e9 : swanS w s_ = wearS w s_ 25 := (by first | with_reducible rfl | (simp only [swanS, h_1, h_2, if_true, if_false, reduceIte, not_true_eq_false, not_false_eq_true]; done) | (simp [swanS, h_1, h_2]; done))
      exact end_v hx hb hrt hlocks (by rw [e9]; exact hP) hS dX2_letSwanFly_26
set_option maxHeartbeats 4000000 in
set_option maxRecDepth 100000 in
theorem c_X2_drive (l : Launch) (D : va_G) (cyI cyO cyL : ClassId) (aR : Nat) (aW : Nat) (aw : Nat) (af : Nat) (aG : Nat) (ao : Nat) (aB : Nat) (ab : Nat → Nat) (w : Nat → Int32) (f : Nat → Int32) (od : Nat → Int32) (g : Nat → Int32) (bc : Int32) (hr : Int32) (co : Int32) (LB : List Nat) (B : Nat → Nat → Int32) (b : Nat) (fare : Int32) (hL_b : b ∈ LB) (hB : OkB B) : cV l yX2_drive wsX2_drive ({ frames := 2, cells := 0, slots := 0, locals := 37 }) D cyI cyO cyL [.ref aR, .ref b, .int fare] ((cR cyI cyO aR aW aw af aG ao aB ab w f od g bc hr co) ++ pB LB B) ((cR cyI cyO aR aW aw af aG ao aB ab ((driveS b fare w f B co).1) ((driveS b fare w f B co).2.1) od g bc hr ((driveS b fare w f B co).2.2.2)) ++ pB LB ((driveS b fare w f B co).2.2.1)) := by
  intro sz
  refine Met.ofW (cc := cX2_drive) (maxL := 5) (ret := none) (by decide) rfl ?_
  intro p e s m args below meth c s₁ B9 hml hv
  obtain ⟨rfl, hsz, hP, hKK, hD0⟩ := hv
  have hx := B9.exec
  have hb := B9.bytes
  have hrt := B9.returns
  have hts := atoms_spec (ws := wsX2_drive) B9.pre
  have hown : s.vm.findClass RX2 = some m.cls := findClass_of_methodNamed B9.named
  have hlocks := B9.notSynchronized
  have nw := fun {w : Cond} (h : w ∈ nw_all) => NW.use (args := ([.ref aR, .ref b, .int fare] : List Value).toArray) hKK.2 h
  have iX0 : ∀ w ∈ wsX00, w ∈ wsX2_drive := fun _ h => List.mem_cons_of_mem _ (List.mem_append_left _ (List.mem_append_left _ (List.mem_append_right _ h)))
  have iX2 : ∀ w ∈ wsX20, w ∈ wsX2_drive := fun _ h => List.mem_cons_of_mem _ (List.mem_append_left _ (List.mem_append_right _ h))
  have iX4 : ∀ w ∈ wsX40, w ∈ wsX2_drive := fun _ h => List.mem_cons_of_mem _ (List.mem_append_right _ h)
  subst hsz
  have hD := hD0.self (sz := s.heap.size)
  generalize hAe : va_A ((cR cyI cyO aR aW aw af aG ao aB ab w f od g bc hr co) ++ pB LB B) s.heap.size = A at hD ⊢
  have hA : ∀ q : Nat, s.heap.size ≤ q → A q := fun q h => by rw [← hAe]; exact Or.inr h
  have hS : va_S A s.heap s.heap [] := va_S.rf
  have hl := lv_entry ([.ref aR, .ref b, .int fare]) (n := 5) (Nat.le_of_ble_eq_true rfl)
  rw [lg_entry_eq]
  generalize (lg_sl ([.ref aR, .ref b, .int fare]) ++ List.replicate (5 - (lg_sl ([.ref aR, .ref b, .int fare])).length) Slot.unset).toArray = ls at hl ⊢
  have hl : lv_has ls 5 [(0, .ref aR), (1, .ref b), (2, .int fare)] := hl
  refine lv_aload_n hx hb dX2_drive_0 rfl (lv_at hl 1 rfl) ?_
  refine bus_getN hx hb hts iX0 hown hKK hP hL_b 2 (by decide) (nw (w := .fieldLinkNest "TrolleyGang$Ring" 103 "TrolleyGang$Bus" "runs" "Z" "TrolleyGang") nq_59) (fun _ h9 => h9) dX2_drive_1 ?_
  refine lv_if_ne (tgt := 8) hx hb dX2_drive_4 (by decide) (fun h_1 => ?_) (fun h_1 => ?_)
  · skip
    refine lv_iconst (v := 0) hx hb dX2_drive_8 (by decide) ?_
    refine lv_istore_n (lv' := [(3, .int 0), (0, .ref aR), (1, .ref b), (2, .int fare)]) hx hb dX2_drive_9 rfl hl (by decide) rfl (fun ls hl => ?_)
    refine wloop (σ := (Nat) × (Nat → Int32) × (Nat → Int32) × (Nat → Nat → Int32) × (Int32)) (fun d9 x9 H9 L9 s9 => ((x9.1) + d9 = 3) ∧ (drvL b fare 3 w f B co = drvL b fare d9 (x9.2.1) (x9.2.2.1) (x9.2.2.2.1) (x9.2.2.2.2)) ∧ (OkB (x9.2.2.2.1)) ∧ (va_P D vwCl ((cR cyI cyO aR aW aw af aG ao aB ab (x9.2.1) (x9.2.2.1) od g bc hr (x9.2.2.2.2)) ++ pB LB (x9.2.2.2.1)) H9) ∧ (va_D A ((cR cyI cyO aR aW aw af aG ao aB ab (x9.2.1) (x9.2.2.1) od g bc hr (x9.2.2.2.2)) ++ pB LB (x9.2.2.2.1))) ∧ (va_S A s.heap H9 L9) ∧ (lv_has s9 5 [(3, .int (nI (x9.1))), (0, .ref aR), (1, .ref b), (2, .int fare)])) (fun d9 x9 H locs ls g9 ih => ?_) 3 (0, w, f, B, co) _ _ _ ⟨(by omega), rfl, hB, hP, hD, hS, lv_sub hl [0, 1, 2, 3] rfl⟩
    obtain ⟨i, w1, f1, B1, c1⟩ := x9
    obtain ⟨hid, hsp, hB, hP, hD, hS, hl⟩ := g9
    obtain ⟨d, rfl⟩ : ∃ z, z = d9 := ⟨_, rfl⟩
    have hid : i + d = 3 := hid
    have hsp : drvL b fare 3 w f B co = drvL b fare d w1 f1 B1 c1 := hsp
    have hB : OkB B1 := hB
    have hP : va_P D vwCl ((cR cyI cyO aR aW aw af aG ao aB ab w1 f1 od g bc hr c1) ++ pB LB B1) H := hP
    have hD : va_D A ((cR cyI cyO aR aW aw af aG ao aB ab w1 f1 od g bc hr c1) ++ pB LB B1) := hD
    have hl : lv_has ls 5 [(3, .int (nI i)), (0, .ref aR), (1, .ref b), (2, .int fare)] := hl
    refine lv_iload_n hx hb dX2_drive_10 rfl (lv_at hl 0 rfl) ?_
    refine lv_iconst (v := 3) hx hb dX2_drive_11 (by decide) ?_
    refine lv_icmp_ge (tgt := 156) hx hb dX2_drive_12 (by decide) (fun h_2 => ?_) (fun h_2 => ?_)
    · skip
      obtain rfl : d = 0 := by have h9 := (nI_leI (a := 3) (b := i) (by omega) (by omega)).mp h_2; omega
      have e9 : driveS b fare w f B co = (w1, f1, B1, c1) := (by rw [driveS, if_neg h_1, hsp]; exact (by first | with_reducible rfl | (simp only [driveS, drvL, w1S, f1S, B1S, h_1, h_2, if_true, if_false, reduceIte, not_true_eq_false, not_false_eq_true]; done) | (simp [driveS, drvL, w1S, f1S, B1S, h_1, h_2]; done)))
      exact end_v hx hb hrt hlocks (by rw [e9]; exact hP) hS dX2_drive_156
    · skip
      have hlt : i < 3 := by have h9 := mt (nI_leI (a := 3) (b := i) (by omega) (by omega)).mpr h_2; omega
      obtain ⟨d, rfl⟩ : ∃ k, d = k + 1 := ⟨d - 1, by omega⟩
      refine lv_aload_n hx hb dX2_drive_15 rfl (lv_at hl 2 rfl) ?_
      refine bus_getN hx hb hts iX0 hown hKK hP hL_b 0 (by decide) (nw (w := .fieldLinkNest "TrolleyGang$Ring" 107 "TrolleyGang$Bus" "at" "I" "TrolleyGang") nq_55) (fun _ h9 => h9) dX2_drive_16 ?_
      refine lv_iconst (v := 1) hx hb dX2_drive_19 (by decide) ?_
      refine lv_iadd hx hb dX2_drive_20 ?_
      refine lv_bipush (v := 24) hx hb dX2_drive_21 (by decide) ?_
      refine lv_irem hx hb dX2_drive_23 (by decide) ?_
      refine lv_tope (y := ir ((B1 b 0) + 1) 24) rfl ?_
      refine lv_tope (y := nxS B1 b) rfl ?_
      refine lv_istore (lv' := [(4, .int (nxS B1 b)), (3, .int (nI i)), (0, .ref aR), (1, .ref b), (2, .int fare)]) hx hb dX2_drive_24 hl (by decide) rfl (fun ls hl => ?_)
      refine lv_aload_n hx hb dX2_drive_26 rfl (lv_at hl 2 rfl) ?_
      refine va_get (D := D) (ci := 2) (v := .ref aW) (C := RX2) (T := TX2) (N := 6) hx hb hts iX2 hown hKK.1 hP 0 rfl rfl 0 (by decide) (hts (.fieldLink RX2 12 "TrolleyGang$Ring" "wires" "LTrolleyGang$Wires;") (List.mem_of_getElem? (i := 1) rfl)) (fun _ h9 => h9) rfl dX2_drive_27 ?_
      refine lv_iload hx hb dX2_drive_30 (lv_at hl 0 rfl) ?_
      have hPc := hP.sub (ws' := (cW cyI aW aw af w1 f1)) [1, 2, 3] rfl
      have hDc := hD.sub (ws' := (cW cyI aW aw af w1 f1)) [1, 2, 3] (by decide) rfl
      refine ret_iP (W1 := (cW cyI aW aw af w1 f1)) (W2 := (cW cyI aW aw af w1 f1)) (X1 := cR cyI cyO aR aW aw af aG ao aB ab w1 f1 od g bc hr c1) (r := dnI w1 (nxS B1 b)) (run_VN (q := (RX4, TX4, 2)) (n := 1) (As := [.int (nxS B1 b)]) (rest := []) ⟨hx, hb, hml, hown, hts⟩ (c_X4_isDown l D cyI cyO cyL aW aw af w1 f1 (nxS B1 b) (hB.nx b) _) ggX2_drive_X4_isDown rfl rfl rfl nq_16 (hts (.initialized RX4) (List.mem_of_getElem? (i := 4) rfl)) (hts (.instanceMethod yX4_isDown) (List.mem_of_getElem? (i := 3) rfl)) (hts (.selects RX4 yX4_isDown yX4_isDown) (List.mem_of_getElem? (i := 5) rfl)) (by decide +kernel) ⟨Nat.le_of_ble_eq_true rfl, Nat.le_of_ble_eq_true rfl⟩ hKK hPc hDc (ci := 4) (q0 := 0) rfl rfl rfl hl.1 rfl (Nat.le_of_ble_eq_true rfl) dX2_drive_32 ⟨Nat.zero_le _, Nat.zero_le _⟩) hP hD hS hA [1, 2, 3] rfl rfl [(false, 0), (true, 0), (true, 1), (true, 2), (false, 4), (false, 5), (false, 6)] (by decide +kernel) rfl rfl (fun H locs hP hD hS => ?_)
      refine lv_if_eq (tgt := 49) hx hb dX2_drive_35 (by decide) (fun h_3 => ?_) (fun h_3 => ?_)
      · skip
        refine lv_aload_n hx hb dX2_drive_49 rfl (lv_at hl 3 rfl) ?_
        refine lv_iload hx hb dX2_drive_50 (lv_at hl 0 rfl) ?_
        refine bus_putN hx hb hts iX0 hown hKK hP hD hS hL_b 0 (by decide) (nw (w := .fieldLinkNest "TrolleyGang$Ring" 107 "TrolleyGang$Bus" "at" "I" "TrolleyGang") nq_55) (fun _ h9 => h9) rfl (ty := .int) (v := nxS B1 b) (by decide +kernel) rfl rfl dX2_drive_52 (fun H locs hP hD hS => ?_)
        have hP : va_P D vwCl ((cR cyI cyO aR aW aw af aG ao aB ab w1 f1 od g bc hr c1) ++ pB LB (up2 B1 b 0 (nxS B1 b))) H := hP
        have hD : va_D A ((cR cyI cyO aR aW aw af aG ao aB ab w1 f1 od g bc hr c1) ++ pB LB (up2 B1 b 0 (nxS B1 b))) := hD
        refine lv_aload_n hx hb dX2_drive_55 rfl (lv_at hl 3 rfl) ?_
        refine lv_dup hx hb dX2_drive_56 rfl ?_
        refine bus_getN hx hb hts iX0 hown hKK hP hL_b 3 (by decide) (nw (w := .fieldLinkNest "TrolleyGang$Ring" 113 "TrolleyGang$Bus" "spansInAll" "I" "TrolleyGang") nq_61) (fun _ h9 => h9) dX2_drive_57 ?_
        refine lv_tope (y := B1 b 3) rfl ?_
        refine lv_iconst (v := 1) hx hb dX2_drive_60 (by decide) ?_
        refine lv_iadd hx hb dX2_drive_61 ?_
        refine bus_putN hx hb hts iX0 hown hKK hP hD hS hL_b 3 (by decide) (nw (w := .fieldLinkNest "TrolleyGang$Ring" 113 "TrolleyGang$Bus" "spansInAll" "I" "TrolleyGang") nq_61) (fun _ h9 => h9) rfl (ty := .int) (v := (B1 b 3) + 1) (by decide +kernel) rfl rfl dX2_drive_62 (fun H locs hP hD hS => ?_)
        have hP : va_P D vwCl ((cR cyI cyO aR aW aw af aG ao aB ab w1 f1 od g bc hr c1) ++ pB LB (up2 (up2 B1 b 0 (nxS B1 b)) b 3 ((B1 b 3) + 1))) H := hP
        have hD : va_D A ((cR cyI cyO aR aW aw af aG ao aB ab w1 f1 od g bc hr c1) ++ pB LB (up2 (up2 B1 b 0 (nxS B1 b)) b 3 ((B1 b 3) + 1))) := hD
        refine lv_aload_n hx hb dX2_drive_65 rfl (lv_at hl 3 rfl) ?_
        refine lv_dup hx hb dX2_drive_66 rfl ?_
        refine bus_getN hx hb hts iX0 hown hKK hP hL_b 4 (by decide) (nw (w := .fieldLinkNest "TrolleyGang$Ring" 116 "TrolleyGang$Bus" "faresInAll" "I" "TrolleyGang") nq_63) (fun _ h9 => h9) dX2_drive_67 ?_
        refine lv_tope (y := B1 b 4) rfl ?_
        refine lv_iload_n hx hb dX2_drive_70 rfl (lv_at hl 4 rfl) ?_
        refine lv_iadd hx hb dX2_drive_71 ?_
        refine bus_putN hx hb hts iX0 hown hKK hP hD hS hL_b 4 (by decide) (nw (w := .fieldLinkNest "TrolleyGang$Ring" 116 "TrolleyGang$Bus" "faresInAll" "I" "TrolleyGang") nq_63) (fun _ h9 => h9) rfl (ty := .int) (v := (B1 b 4) + fare) (by decide +kernel) rfl rfl dX2_drive_72 (fun H locs hP hD hS => ?_)
        have hP : va_P D vwCl ((cR cyI cyO aR aW aw af aG ao aB ab w1 f1 od g bc hr c1) ++ pB LB (up2 (up2 (up2 B1 b 0 (nxS B1 b)) b 3 ((B1 b 3) + 1)) b 4 ((B1 b 4) + fare))) H := hP
        have hD : va_D A ((cR cyI cyO aR aW aw af aG ao aB ab w1 f1 od g bc hr c1) ++ pB LB (up2 (up2 (up2 B1 b 0 (nxS B1 b)) b 3 ((B1 b 3) + 1)) b 4 ((B1 b 4) + fare))) := hD
        refine lv_aload_n hx hb dX2_drive_75 rfl (lv_at hl 2 rfl) ?_
        refine lv_dup hx hb dX2_drive_76 rfl ?_
        refine va_get (D := D) (ci := 2) (v := .int c1) (C := RX2) (T := TX2) (N := 6) hx hb hts iX2 hown hKK.1 hP 0 rfl rfl 5 (by decide) (hts (.fieldLink RX2 49 "TrolleyGang$Ring" "coins" "I") (List.mem_of_getElem? (i := 2) rfl)) (fun _ h9 => h9) rfl dX2_drive_77 ?_
        refine lv_iload_n hx hb dX2_drive_80 rfl (lv_at hl 4 rfl) ?_
        refine lv_iadd hx hb dX2_drive_81 ?_
        refine va_put (D := D) (ci := 2) (v := .int (c1 + fare)) (ty := .int) (C := RX2) (T := TX2) (N := 6) hx hb hts iX2 tyX2 tyX2_ok nmX2 hown hKK.1 hP hD hS 0 rfl rfl 5 (by decide) (hts (.fieldLink RX2 49 "TrolleyGang$Ring" "coins" "I") (List.mem_of_getElem? (i := 2) rfl)) (fun _ h9 => h9) rfl (by decide +kernel) rfl rfl (Nat.le_of_ble_eq_true rfl) dX2_drive_82 (fun H locs hP hD hS => ?_)
        have hP : va_P D vwCl ((cR cyI cyO aR aW aw af aG ao aB ab w1 f1 od g bc hr (c1 + fare)) ++ pB LB (up2 (up2 (up2 B1 b 0 (nxS B1 b)) b 3 ((B1 b 3) + 1)) b 4 ((B1 b 4) + fare))) H := hP
        have hD : va_D A ((cR cyI cyO aR aW aw af aG ao aB ab w1 f1 od g bc hr (c1 + fare)) ++ pB LB (up2 (up2 (up2 B1 b 0 (nxS B1 b)) b 3 ((B1 b 3) + 1)) b 4 ((B1 b 4) + fare))) := hD
        refine lv_aload_n hx hb dX2_drive_85 rfl (lv_at hl 3 rfl) ?_
        refine bus_getN hx hb hts iX0 hown hKK hP hL_b 1 (by decide) (nw (w := .fieldLinkNest "TrolleyGang$Ring" 119 "TrolleyGang$Bus" "hasScraper" "Z" "TrolleyGang") nq_57) (fun _ h9 => h9) dX2_drive_86 ?_
        refine lv_tope (y := B1 b 1) rfl ?_
        refine lv_if_eq (tgt := 103) hx hb dX2_drive_89 (by decide) (fun h_4 => ?_) (fun h_4 => ?_)
        · skip
          refine lv_aload_n hx hb dX2_drive_103 rfl (lv_at hl 2 rfl) ?_
          refine va_get (D := D) (ci := 2) (v := .ref aW) (C := RX2) (T := TX2) (N := 6) hx hb hts iX2 hown hKK.1 hP 0 rfl rfl 0 (by decide) (hts (.fieldLink RX2 12 "TrolleyGang$Ring" "wires" "LTrolleyGang$Wires;") (List.mem_of_getElem? (i := 1) rfl)) (fun _ h9 => h9) rfl dX2_drive_104 ?_
          refine lv_iload hx hb dX2_drive_107 (lv_at hl 0 rfl) ?_
          refine lv_aload_n hx hb dX2_drive_109 rfl (lv_at hl 3 rfl) ?_
          refine bus_getN hx hb hts iX0 hown hKK hP hL_b 1 (by decide) (nw (w := .fieldLinkNest "TrolleyGang$Ring" 119 "TrolleyGang$Bus" "hasScraper" "Z" "TrolleyGang") nq_57) (fun _ h9 => h9) dX2_drive_110 ?_
          refine lv_tope (y := B1 b 1) rfl ?_
          refine lv_if_eq (tgt := 120) hx hb dX2_drive_113 (by decide) (fun _ => ?_) (fun h9 => absurd h_4 h9)
          refine lv_iconst (v := 1) hx hb dX2_drive_120 (by decide) ?_
          refine lv_aload_n hx hb dX2_drive_121 rfl (lv_at hl 2 rfl) ?_
          refine va_get (D := D) (ci := 2) (v := .ref aW) (C := RX2) (T := TX2) (N := 6) hx hb hts iX2 hown hKK.1 hP 0 rfl rfl 0 (by decide) (hts (.fieldLink RX2 12 "TrolleyGang$Ring" "wires" "LTrolleyGang$Wires;") (List.mem_of_getElem? (i := 1) rfl)) (fun _ h9 => h9) rfl dX2_drive_122 ?_
          refine va_getN (D := D) (ci := 4) (v := .ref af) (C := RX4) (T := TX4) (N := 2) hx hb hts iX4 hown hKK.1 hP 1 rfl rfl 1 (by decide) (nw (w := .fieldLinkNest "TrolleyGang$Ring" 122 "TrolleyGang$Wires" "frost" "[I" "TrolleyGang") nq_39) (fun _ h9 => h9) rfl dX2_drive_125 ?_
          refine lv_iload hx hb dX2_drive_128 (lv_at hl 0 rfl) ?_
          refine va_iald hx hb hKK.1 hP 3 0 rfl rfl (hin := (hB.nx b)) dX2_drive_130 ?_
          refine lv_iconst (v := 2) hx hb dX2_drive_131 (by decide) ?_
          refine lv_idiv hx hb dX2_drive_132 (by decide) ?_
          refine lv_iadd hx hb dX2_drive_133 ?_
          have hPc := hP.sub (ws' := (cW cyI aW aw af w1 f1)) [1, 2, 3] rfl
          have hDc := hD.sub (ws' := (cW cyI aW aw af w1 f1)) [1, 2, 3] (by decide) rfl
          refine ret_vP (W1 := (cW cyI aW aw af w1 f1)) (W2 := (cW cyI aW aw af (wearS w1 (nxS B1 b) (1 + ((f1 (nxS B1 b).toNatClampNeg) / 2))) f1)) (X1 := cR cyI cyO aR aW aw af aG ao aB ab (wearS w1 (nxS B1 b) (1 + ((f1 (nxS B1 b).toNatClampNeg) / 2))) f1 od g bc hr (c1 + fare)) (run_VN (q := (RX4, TX4, 2)) (n := 2) (As := [.int (nxS B1 b), .int (1 + ((f1 (nxS B1 b).toNatClampNeg) / 2))]) (rest := []) ⟨hx, hb, hml, hown, hts⟩ (c_X4_wear l D cyI cyO cyL aW aw af w1 f1 (nxS B1 b) (1 + ((f1 (nxS B1 b).toNatClampNeg) / 2)) (hB.nx b) _) ggX2_drive_X4_wear rfl rfl rfl nq_17 (hts (.initialized RX4) (List.mem_of_getElem? (i := 4) rfl)) (hts (.instanceMethod yX4_wear) (List.mem_of_getElem? (i := 8) rfl)) (hts (.selects RX4 yX4_wear yX4_wear) (List.mem_of_getElem? (i := 9) rfl)) (by decide +kernel) ⟨Nat.le_of_ble_eq_true rfl, Nat.le_of_ble_eq_true rfl⟩ hKK hPc hDc (ci := 4) (q0 := 0) rfl rfl rfl hl.1 rfl (Nat.le_of_ble_eq_true rfl) dX2_drive_134 ⟨Nat.zero_le _, Nat.zero_le _⟩) hP hD hS hA [1, 2, 3] rfl rfl [(false, 0), (true, 0), (true, 1), (true, 2), (false, 4), (false, 5), (false, 6)] (by decide +kernel) rfl rfl (fun H locs hP hD hS => ?_)
          refine lv_aload_n hx hb dX2_drive_137 rfl (lv_at hl 2 rfl) ?_
          refine va_get (D := D) (ci := 2) (v := .ref aW) (C := RX2) (T := TX2) (N := 6) hx hb hts iX2 hown hKK.1 hP 0 rfl rfl 0 (by decide) (hts (.fieldLink RX2 12 "TrolleyGang$Ring" "wires" "LTrolleyGang$Wires;") (List.mem_of_getElem? (i := 1) rfl)) (fun _ h9 => h9) rfl dX2_drive_138 ?_
          refine lv_iload hx hb dX2_drive_141 (lv_at hl 0 rfl) ?_
          have hPc := hP.sub (ws' := (cW cyI aW aw af (wearS w1 (nxS B1 b) (1 + ((f1 (nxS B1 b).toNatClampNeg) / 2))) f1)) [1, 2, 3] rfl
          have hDc := hD.sub (ws' := (cW cyI aW aw af (wearS w1 (nxS B1 b) (1 + ((f1 (nxS B1 b).toNatClampNeg) / 2))) f1)) [1, 2, 3] (by decide) rfl
          refine ret_iP (W1 := (cW cyI aW aw af (wearS w1 (nxS B1 b) (1 + ((f1 (nxS B1 b).toNatClampNeg) / 2))) f1)) (W2 := (cW cyI aW aw af (wearS w1 (nxS B1 b) (1 + ((f1 (nxS B1 b).toNatClampNeg) / 2))) f1)) (X1 := cR cyI cyO aR aW aw af aG ao aB ab (wearS w1 (nxS B1 b) (1 + ((f1 (nxS B1 b).toNatClampNeg) / 2))) f1 od g bc hr (c1 + fare)) (r := dnI (wearS w1 (nxS B1 b) (1 + ((f1 (nxS B1 b).toNatClampNeg) / 2))) (nxS B1 b)) (run_VN (q := (RX4, TX4, 2)) (n := 1) (As := [.int (nxS B1 b)]) (rest := []) ⟨hx, hb, hml, hown, hts⟩ (c_X4_isDown l D cyI cyO cyL aW aw af (wearS w1 (nxS B1 b) (1 + ((f1 (nxS B1 b).toNatClampNeg) / 2))) f1 (nxS B1 b) (hB.nx b) _) ggX2_drive_X4_isDown rfl rfl rfl nq_16 (hts (.initialized RX4) (List.mem_of_getElem? (i := 4) rfl)) (hts (.instanceMethod yX4_isDown) (List.mem_of_getElem? (i := 3) rfl)) (hts (.selects RX4 yX4_isDown yX4_isDown) (List.mem_of_getElem? (i := 5) rfl)) (by decide +kernel) ⟨Nat.le_of_ble_eq_true rfl, Nat.le_of_ble_eq_true rfl⟩ hKK hPc hDc (ci := 4) (q0 := 0) rfl rfl rfl hl.1 rfl (Nat.le_of_ble_eq_true rfl) dX2_drive_143 ⟨Nat.zero_le _, Nat.zero_le _⟩) hP hD hS hA [1, 2, 3] rfl rfl [(false, 0), (true, 0), (true, 1), (true, 2), (false, 4), (false, 5), (false, 6)] (by decide +kernel) rfl rfl (fun H locs hP hD hS => ?_)
          refine lv_if_eq (tgt := 150) hx hb dX2_drive_146 (by decide) (fun h_5 => ?_) (fun h_5 => ?_)
          · skip
            refine lv_iinc (v := nI (i + 1)) (lv' := [(3, .int (nI (i + 1))), (4, .int (nxS B1 b)), (0, .ref aR), (1, .ref b), (2, .int fare)]) hx hb dX2_drive_150 hl (k := 1) rfl (nI_1 i) (by decide) rfl (fun ls hl => ?_)
            refine lv_goto (tgt := 10) hx hb dX2_drive_153 (by decide) ?_
            exact ih d ((i + 1), (wearS w1 (nxS B1 b) (1 + ((f1 (nxS B1 b).toNatClampNeg) / 2))), f1, (up2 (up2 (up2 B1 b 0 (nxS B1 b)) b 3 ((B1 b 3) + 1)) b 4 ((B1 b 4) + fare)), (c1 + fare)) _ _ _ (by omega) ⟨(by omega), (hsp.trans (by first | with_reducible rfl | (simp only [driveS, drvL, w1S, f1S, B1S, h_1, h_2, h_3, h_4, h_5, if_true, if_false, reduceIte, not_true_eq_false, not_false_eq_true]; done) | (simp [driveS, drvL, w1S, f1S, B1S, h_1, h_2, h_3, h_4, h_5]; done))), (hB.b1 b fare), hP, hD, hS, lv_sub hl [0, 2, 3, 4] rfl⟩
          · skip
            have e9 : driveS b fare w f B co = (wearS w1 (nxS B1 b) (1 + ((f1 (nxS B1 b).toNatClampNeg) / 2)), f1, (up2 (up2 (up2 B1 b 0 (nxS B1 b)) b 3 ((B1 b 3) + 1)) b 4 ((B1 b 4) + fare)), c1 + fare) := (by rw [driveS, if_neg h_1, hsp]; exact (by first | with_reducible rfl | (simp only [driveS, drvL, w1S, f1S, B1S, h_1, h_2, h_3, h_4, h_5, if_true, if_false, reduceIte, not_true_eq_false, not_false_eq_true]; done) | (simp [driveS, drvL, w1S, f1S, B1S, h_1, h_2, h_3, h_4, h_5]; done)))
            exact end_v hx hb hrt hlocks (by rw [e9]; exact hP) hS dX2_drive_149
        · skip
          refine lv_aload_n hx hb dX2_drive_92 rfl (lv_at hl 2 rfl) ?_
          refine va_get (D := D) (ci := 2) (v := .ref aW) (C := RX2) (T := TX2) (N := 6) hx hb hts iX2 hown hKK.1 hP 0 rfl rfl 0 (by decide) (hts (.fieldLink RX2 12 "TrolleyGang$Ring" "wires" "LTrolleyGang$Wires;") (List.mem_of_getElem? (i := 1) rfl)) (fun _ h9 => h9) rfl dX2_drive_93 ?_
          refine va_getN (D := D) (ci := 4) (v := .ref af) (C := RX4) (T := TX4) (N := 2) hx hb hts iX4 hown hKK.1 hP 1 rfl rfl 1 (by decide) (nw (w := .fieldLinkNest "TrolleyGang$Ring" 122 "TrolleyGang$Wires" "frost" "[I" "TrolleyGang") nq_39) (fun _ h9 => h9) rfl dX2_drive_96 ?_
          refine lv_iload hx hb dX2_drive_99 (lv_at hl 0 rfl) ?_
          refine lv_iconst (v := 0) hx hb dX2_drive_101 (by decide) ?_
          refine va_iast hx hb hKK.1 hP hD hS 3 0 rfl rfl (hin := (hB.nx b)) dX2_drive_102 (fun H locs hP hD hS => ?_)
          have hP : va_P D vwCl ((cR cyI cyO aR aW aw af aG ao aB ab w1 (upd f1 ((nxS B1 b).toNatClampNeg) 0) od g bc hr (c1 + fare)) ++ pB LB (up2 (up2 (up2 B1 b 0 (nxS B1 b)) b 3 ((B1 b 3) + 1)) b 4 ((B1 b 4) + fare))) H := hP
          have hD : va_D A ((cR cyI cyO aR aW aw af aG ao aB ab w1 (upd f1 ((nxS B1 b).toNatClampNeg) 0) od g bc hr (c1 + fare)) ++ pB LB (up2 (up2 (up2 B1 b 0 (nxS B1 b)) b 3 ((B1 b 3) + 1)) b 4 ((B1 b 4) + fare))) := hD
          refine lv_aload_n hx hb dX2_drive_103 rfl (lv_at hl 2 rfl) ?_
          refine va_get (D := D) (ci := 2) (v := .ref aW) (C := RX2) (T := TX2) (N := 6) hx hb hts iX2 hown hKK.1 hP 0 rfl rfl 0 (by decide) (hts (.fieldLink RX2 12 "TrolleyGang$Ring" "wires" "LTrolleyGang$Wires;") (List.mem_of_getElem? (i := 1) rfl)) (fun _ h9 => h9) rfl dX2_drive_104 ?_
          refine lv_iload hx hb dX2_drive_107 (lv_at hl 0 rfl) ?_
          refine lv_aload_n hx hb dX2_drive_109 rfl (lv_at hl 3 rfl) ?_
          refine bus_getN hx hb hts iX0 hown hKK hP hL_b 1 (by decide) (nw (w := .fieldLinkNest "TrolleyGang$Ring" 119 "TrolleyGang$Bus" "hasScraper" "Z" "TrolleyGang") nq_57) (fun _ h9 => h9) dX2_drive_110 ?_
          refine lv_tope (y := B1 b 1) rfl ?_
          refine lv_if_eq (tgt := 120) hx hb dX2_drive_113 (by decide) (fun h9 => absurd h9 h_4) (fun _ => ?_)
          refine lv_iconst (v := 2) hx hb dX2_drive_116 (by decide) ?_
          refine lv_goto (tgt := 134) hx hb dX2_drive_117 (by decide) ?_
          have hPc := hP.sub (ws' := (cW cyI aW aw af w1 (upd f1 ((nxS B1 b).toNatClampNeg) 0))) [1, 2, 3] rfl
          have hDc := hD.sub (ws' := (cW cyI aW aw af w1 (upd f1 ((nxS B1 b).toNatClampNeg) 0))) [1, 2, 3] (by decide) rfl
          refine ret_vP (W1 := (cW cyI aW aw af w1 (upd f1 ((nxS B1 b).toNatClampNeg) 0))) (W2 := (cW cyI aW aw af (wearS w1 (nxS B1 b) 2) (upd f1 ((nxS B1 b).toNatClampNeg) 0))) (X1 := cR cyI cyO aR aW aw af aG ao aB ab (wearS w1 (nxS B1 b) 2) (upd f1 ((nxS B1 b).toNatClampNeg) 0) od g bc hr (c1 + fare)) (run_VN (q := (RX4, TX4, 2)) (n := 2) (As := [.int (nxS B1 b), .int 2]) (rest := []) ⟨hx, hb, hml, hown, hts⟩ (c_X4_wear l D cyI cyO cyL aW aw af w1 (upd f1 ((nxS B1 b).toNatClampNeg) 0) (nxS B1 b) 2 (hB.nx b) _) ggX2_drive_X4_wear rfl rfl rfl nq_17 (hts (.initialized RX4) (List.mem_of_getElem? (i := 4) rfl)) (hts (.instanceMethod yX4_wear) (List.mem_of_getElem? (i := 8) rfl)) (hts (.selects RX4 yX4_wear yX4_wear) (List.mem_of_getElem? (i := 9) rfl)) (by decide +kernel) ⟨Nat.le_of_ble_eq_true rfl, Nat.le_of_ble_eq_true rfl⟩ hKK hPc hDc (ci := 4) (q0 := 0) rfl rfl rfl hl.1 rfl (Nat.le_of_ble_eq_true rfl) dX2_drive_134 ⟨Nat.zero_le _, Nat.zero_le _⟩) hP hD hS hA [1, 2, 3] rfl rfl [(false, 0), (true, 0), (true, 1), (true, 2), (false, 4), (false, 5), (false, 6)] (by decide +kernel) rfl rfl (fun H locs hP hD hS => ?_)
          refine lv_aload_n hx hb dX2_drive_137 rfl (lv_at hl 2 rfl) ?_
          refine va_get (D := D) (ci := 2) (v := .ref aW) (C := RX2) (T := TX2) (N := 6) hx hb hts iX2 hown hKK.1 hP 0 rfl rfl 0 (by decide) (hts (.fieldLink RX2 12 "TrolleyGang$Ring" "wires" "LTrolleyGang$Wires;") (List.mem_of_getElem? (i := 1) rfl)) (fun _ h9 => h9) rfl dX2_drive_138 ?_
          refine lv_iload hx hb dX2_drive_141 (lv_at hl 0 rfl) ?_
          have hPc := hP.sub (ws' := (cW cyI aW aw af (wearS w1 (nxS B1 b) 2) (upd f1 ((nxS B1 b).toNatClampNeg) 0))) [1, 2, 3] rfl
          have hDc := hD.sub (ws' := (cW cyI aW aw af (wearS w1 (nxS B1 b) 2) (upd f1 ((nxS B1 b).toNatClampNeg) 0))) [1, 2, 3] (by decide) rfl
          refine ret_iP (W1 := (cW cyI aW aw af (wearS w1 (nxS B1 b) 2) (upd f1 ((nxS B1 b).toNatClampNeg) 0))) (W2 := (cW cyI aW aw af (wearS w1 (nxS B1 b) 2) (upd f1 ((nxS B1 b).toNatClampNeg) 0))) (X1 := cR cyI cyO aR aW aw af aG ao aB ab (wearS w1 (nxS B1 b) 2) (upd f1 ((nxS B1 b).toNatClampNeg) 0) od g bc hr (c1 + fare)) (r := dnI (wearS w1 (nxS B1 b) 2) (nxS B1 b)) (run_VN (q := (RX4, TX4, 2)) (n := 1) (As := [.int (nxS B1 b)]) (rest := []) ⟨hx, hb, hml, hown, hts⟩ (c_X4_isDown l D cyI cyO cyL aW aw af (wearS w1 (nxS B1 b) 2) (upd f1 ((nxS B1 b).toNatClampNeg) 0) (nxS B1 b) (hB.nx b) _) ggX2_drive_X4_isDown rfl rfl rfl nq_16 (hts (.initialized RX4) (List.mem_of_getElem? (i := 4) rfl)) (hts (.instanceMethod yX4_isDown) (List.mem_of_getElem? (i := 3) rfl)) (hts (.selects RX4 yX4_isDown yX4_isDown) (List.mem_of_getElem? (i := 5) rfl)) (by decide +kernel) ⟨Nat.le_of_ble_eq_true rfl, Nat.le_of_ble_eq_true rfl⟩ hKK hPc hDc (ci := 4) (q0 := 0) rfl rfl rfl hl.1 rfl (Nat.le_of_ble_eq_true rfl) dX2_drive_143 ⟨Nat.zero_le _, Nat.zero_le _⟩) hP hD hS hA [1, 2, 3] rfl rfl [(false, 0), (true, 0), (true, 1), (true, 2), (false, 4), (false, 5), (false, 6)] (by decide +kernel) rfl rfl (fun H locs hP hD hS => ?_)
          refine lv_if_eq (tgt := 150) hx hb dX2_drive_146 (by decide) (fun h_6 => ?_) (fun h_6 => ?_)
          · skip
            refine lv_iinc (v := nI (i + 1)) (lv' := [(3, .int (nI (i + 1))), (4, .int (nxS B1 b)), (0, .ref aR), (1, .ref b), (2, .int fare)]) hx hb dX2_drive_150 hl (k := 1) rfl (nI_1 i) (by decide) rfl (fun ls hl => ?_)
            refine lv_goto (tgt := 10) hx hb dX2_drive_153 (by decide) ?_
            exact ih d ((i + 1), (wearS w1 (nxS B1 b) 2), (upd f1 ((nxS B1 b).toNatClampNeg) 0), (up2 (up2 (up2 B1 b 0 (nxS B1 b)) b 3 ((B1 b 3) + 1)) b 4 ((B1 b 4) + fare)), (c1 + fare)) _ _ _ (by omega) ⟨(by omega), (hsp.trans (by first | with_reducible rfl | (simp only [driveS, drvL, w1S, f1S, B1S, h_1, h_2, h_3, h_4, h_6, if_true, if_false, reduceIte, not_true_eq_false, not_false_eq_true]; done) | (simp [driveS, drvL, w1S, f1S, B1S, h_1, h_2, h_3, h_4, h_6]; done))), (hB.b1 b fare), hP, hD, hS, lv_sub hl [0, 2, 3, 4] rfl⟩
          · skip
            have e9 : driveS b fare w f B co = (wearS w1 (nxS B1 b) 2, upd f1 ((nxS B1 b).toNatClampNeg) 0, (up2 (up2 (up2 B1 b 0 (nxS B1 b)) b 3 ((B1 b 3) + 1)) b 4 ((B1 b 4) + fare)), c1 + fare) := (by rw [driveS, if_neg h_1, hsp]; exact (by first | with_reducible rfl | (simp only [driveS, drvL, w1S, f1S, B1S, h_1, h_2, h_3, h_4, h_6, if_true, if_false, reduceIte, not_true_eq_false, not_false_eq_true]; done) | (simp [driveS, drvL, w1S, f1S, B1S, h_1, h_2, h_3, h_4, h_6]; done)))
            exact end_v hx hb hrt hlocks (by rw [e9]; exact hP) hS dX2_drive_149
      · skip
        refine lv_aload_n hx hb dX2_drive_38 rfl (lv_at hl 3 rfl) ?_
        refine lv_dup hx hb dX2_drive_39 rfl ?_
        refine bus_getN hx hb hts iX0 hown hKK hP hL_b 5 (by decide) (nw (w := .fieldLinkNest "TrolleyGang$Ring" 110 "TrolleyGang$Bus" "hoursStuck" "I" "TrolleyGang") nq_65) (fun _ h9 => h9) dX2_drive_40 ?_
        refine lv_iconst (v := 1) hx hb dX2_drive_43 (by decide) ?_
        refine lv_iadd hx hb dX2_drive_44 ?_
        refine bus_putN hx hb hts iX0 hown hKK hP hD hS hL_b 5 (by decide) (nw (w := .fieldLinkNest "TrolleyGang$Ring" 110 "TrolleyGang$Bus" "hoursStuck" "I" "TrolleyGang") nq_65) (fun _ h9 => h9) rfl (ty := .int) (v := (B1 b 5) + 1) (by decide +kernel) rfl rfl dX2_drive_45 (fun H locs hP hD hS => ?_)
        have hP : va_P D vwCl ((cR cyI cyO aR aW aw af aG ao aB ab w1 f1 od g bc hr c1) ++ pB LB (up2 B1 b 5 ((B1 b 5) + 1))) H := hP
        have hD : va_D A ((cR cyI cyO aR aW aw af aG ao aB ab w1 f1 od g bc hr c1) ++ pB LB (up2 B1 b 5 ((B1 b 5) + 1))) := hD
        have e9 : driveS b fare w f B co = (w1, f1, (up2 B1 b 5 ((B1 b 5) + 1)), c1) := (by rw [driveS, if_neg h_1, hsp]; exact (by first | with_reducible rfl | (simp only [driveS, drvL, w1S, f1S, B1S, h_1, h_2, h_3, if_true, if_false, reduceIte, not_true_eq_false, not_false_eq_true]; done) | (simp [driveS, drvL, w1S, f1S, B1S, h_1, h_2, h_3]; done)))
        exact end_v hx hb hrt hlocks (by rw [e9]; exact hP) hS dX2_drive_48
  · skip
    have e9 : driveS b fare w f B co = (w, f, B, co) := (by rw [driveS, if_pos h_1])
    exact end_v hx hb hrt hlocks (by rw [e9]; exact hP) hS dX2_drive_7
set_option maxHeartbeats 4000000 in
set_option maxRecDepth 100000 in
theorem c_X2_isOrderDoneByWorkAt (l : Launch) (D : va_G) (cyI cyO cyL : ClassId) (aR : Nat) (aW : Nat) (aw : Nat) (af : Nat) (aG : Nat) (ao : Nat) (aB : Nat) (ab : Nat → Nat) (w : Nat → Int32) (f : Nat → Int32) (od : Nat → Int32) (g : Nat → Int32) (bc : Int32) (hr : Int32) (co : Int32) (s_ : Int32) (hi : vp_in s_ 24) : cI l yX2_isOrderDoneByWorkAt wsX2_isOrderDoneByWorkAt ({ frames := 2, cells := 0, slots := 0, locals := 37 }) D cyI cyO cyL [.ref aR, .int s_] (cR cyI cyO aR aW aw af aG ao aB ab w f od g bc hr co) (cR cyI cyO aR aW aw af aG ao aB ab ((iodS w g s_).2.1) f od ((iodS w g s_).2.2) bc hr co) ((iodS w g s_).1) := by
  intro sz
  refine Met.ofW (cc := cX2_isOrderDoneByWorkAt) (maxL := 2) (ret := (some .boolean)) (by decide) rfl ?_
  intro p e s m args below meth c s₁ B9 hml hv
  obtain ⟨rfl, hsz, hP, hKK, hD0⟩ := hv
  have hx := B9.exec
  have hb := B9.bytes
  have hrt := B9.returns
  have hts := atoms_spec (ws := wsX2_isOrderDoneByWorkAt) B9.pre
  have hown : s.vm.findClass RX2 = some m.cls := findClass_of_methodNamed B9.named
  have hlocks := B9.notSynchronized
  have nw := fun {w : Cond} (h : w ∈ nw_all) => NW.use (args := ([.ref aR, .int s_] : List Value).toArray) hKK.2 h
  have iX1 : ∀ w ∈ wsX10, w ∈ wsX2_isOrderDoneByWorkAt := fun _ h => List.mem_cons_of_mem _ (List.mem_append_right _ h)
  have iX2 : ∀ w ∈ wsX20, w ∈ wsX2_isOrderDoneByWorkAt := fun _ h => List.mem_cons_of_mem _ (List.mem_append_left _ (List.mem_append_left _ (List.mem_append_right _ h)))
  have iX4 : ∀ w ∈ wsX40, w ∈ wsX2_isOrderDoneByWorkAt := fun _ h => List.mem_cons_of_mem _ (List.mem_append_left _ (List.mem_append_right _ h))
  subst hsz
  have hD := hD0.self (sz := s.heap.size)
  generalize hAe : va_A (cR cyI cyO aR aW aw af aG ao aB ab w f od g bc hr co) s.heap.size = A at hD ⊢
  have hA : ∀ q : Nat, s.heap.size ≤ q → A q := fun q h => by rw [← hAe]; exact Or.inr h
  have hS : va_S A s.heap s.heap [] := va_S.rf
  have hl := lv_entry ([.ref aR, .int s_]) (n := 2) (Nat.le_of_ble_eq_true rfl)
  rw [lg_entry_eq]
  generalize (lg_sl ([.ref aR, .int s_]) ++ List.replicate (2 - (lg_sl ([.ref aR, .int s_])).length) Slot.unset).toArray = ls at hl ⊢
  have hl : lv_has ls 2 [(0, .ref aR), (1, .int s_)] := hl
  refine lv_aload_n hx hb dX2_isOrderDoneByWorkAt_0 rfl (lv_at hl 0 rfl) ?_
  refine va_get (D := D) (ci := 2) (v := .ref aW) (C := RX2) (T := TX2) (N := 6) hx hb hts iX2 hown hKK.1 hP 0 rfl rfl 0 (by decide) (hts (.fieldLink RX2 12 "TrolleyGang$Ring" "wires" "LTrolleyGang$Wires;") (List.mem_of_getElem? (i := 1) rfl)) (fun _ h9 => h9) rfl dX2_isOrderDoneByWorkAt_1 ?_
  refine lv_iload_n hx hb dX2_isOrderDoneByWorkAt_4 rfl (lv_at hl 1 rfl) ?_
  have hPc := hP.sub (ws' := (cW cyI aW aw af w f)) [1, 2, 3] rfl
  have hDc := hD.sub (ws' := (cW cyI aW aw af w f)) [1, 2, 3] (by decide) rfl
  refine ret_i (W1 := (cW cyI aW aw af w f)) (W2 := (cW cyI aW aw af w f)) (ws1 := (cR cyI cyO aR aW aw af aG ao aB ab w f od g bc hr co)) (r := dnI w s_) (run_VN (q := (RX4, TX4, 2)) (n := 1) (As := [.int s_]) (rest := []) ⟨hx, hb, hml, hown, hts⟩ (c_X4_isDown l D cyI cyO cyL aW aw af w f s_ (by first | assumption | omega) _) ggX2_isOrderDoneByWorkAt_X4_isDown rfl rfl rfl nq_16 (hts (.initialized RX4) (List.mem_of_getElem? (i := 4) rfl)) (hts (.instanceMethod yX4_isDown) (List.mem_of_getElem? (i := 3) rfl)) (hts (.selects RX4 yX4_isDown yX4_isDown) (List.mem_of_getElem? (i := 5) rfl)) (by decide +kernel) ⟨Nat.le_of_ble_eq_true rfl, Nat.le_of_ble_eq_true rfl⟩ hKK hPc hDc (ci := 4) (q0 := 0) rfl rfl rfl hl.1 rfl (Nat.le_of_ble_eq_true rfl) dX2_isOrderDoneByWorkAt_5 ⟨Nat.zero_le _, Nat.zero_le _⟩) hP hD hS hA [1, 2, 3] rfl rfl [(false, 0), (true, 0), (true, 1), (true, 2), (false, 4), (false, 5), (false, 6)] (by decide +kernel) rfl (fun H locs hP hD hS => ?_)
  refine lv_if_ne (tgt := 41) hx hb dX2_isOrderDoneByWorkAt_8 (by decide) (fun h_1 => ?_) (fun h_1 => ?_)
  · skip
    refine lv_aload_n hx hb dX2_isOrderDoneByWorkAt_41 rfl (lv_at hl 0 rfl) ?_
    refine va_get (D := D) (ci := 2) (v := .ref aG) (C := RX2) (T := TX2) (N := 6) hx hb hts iX2 hown hKK.1 hP 0 rfl rfl 1 (by decide) (hts (.fieldLink RX2 21 "TrolleyGang$Ring" "gang" "LTrolleyGang$Gang;") (List.mem_of_getElem? (i := 2) rfl)) (fun _ h9 => h9) rfl dX2_isOrderDoneByWorkAt_42 ?_
    refine va_getN (D := D) (ci := 1) (v := .int (g 2)) (C := RX1) (T := TX1) (N := 6) hx hb hts iX1 hown hKK.1 hP 4 rfl rfl 3 (by decide) (nw (w := .fieldLinkNest "TrolleyGang$Ring" 135 "TrolleyGang$Gang" "worksAtFirst" "I" "TrolleyGang") nq_48) (fun _ h9 => h9) rfl dX2_isOrderDoneByWorkAt_45 ?_
    refine lv_iconst (v := 2) hx hb dX2_isOrderDoneByWorkAt_48 (by decide) ?_
    refine lv_icmp_ge (tgt := 54) hx hb dX2_isOrderDoneByWorkAt_49 (by decide) (fun h_2 => ?_) (fun h_2 => ?_)
    · skip
      refine lv_aload_n hx hb dX2_isOrderDoneByWorkAt_54 rfl (lv_at hl 0 rfl) ?_
      refine va_get (D := D) (ci := 2) (v := .ref aW) (C := RX2) (T := TX2) (N := 6) hx hb hts iX2 hown hKK.1 hP 0 rfl rfl 0 (by decide) (hts (.fieldLink RX2 12 "TrolleyGang$Ring" "wires" "LTrolleyGang$Wires;") (List.mem_of_getElem? (i := 1) rfl)) (fun _ h9 => h9) rfl dX2_isOrderDoneByWorkAt_55 ?_
      refine lv_iload_n hx hb dX2_isOrderDoneByWorkAt_58 rfl (lv_at hl 1 rfl) ?_
      have hPc := hP.sub (ws' := (cW cyI aW aw af w f)) [1, 2, 3] rfl
      have hDc := hD.sub (ws' := (cW cyI aW aw af w f)) [1, 2, 3] (by decide) rfl
      refine ret_v (W1 := (cW cyI aW aw af w f)) (W2 := (cW cyI aW aw af (putS w s_) f)) (ws1 := (cR cyI cyO aR aW aw af aG ao aB ab (putS w s_) f od g bc hr co)) (run_VN (q := (RX4, TX4, 2)) (n := 1) (As := [.int s_]) (rest := []) ⟨hx, hb, hml, hown, hts⟩ (c_X4_putUp l D cyI cyO cyL aW aw af w f s_ (by first | assumption | omega) _) ggX2_isOrderDoneByWorkAt_X4_putUp rfl rfl rfl nq_21 (hts (.initialized RX4) (List.mem_of_getElem? (i := 4) rfl)) (hts (.instanceMethod yX4_putUp) (List.mem_of_getElem? (i := 15) rfl)) (hts (.selects RX4 yX4_putUp yX4_putUp) (List.mem_of_getElem? (i := 16) rfl)) (by decide +kernel) ⟨Nat.le_of_ble_eq_true rfl, Nat.le_of_ble_eq_true rfl⟩ hKK hPc hDc (ci := 4) (q0 := 0) rfl rfl rfl hl.1 rfl (Nat.le_of_ble_eq_true rfl) dX2_isOrderDoneByWorkAt_59 ⟨Nat.zero_le _, Nat.zero_le _⟩) hP hD hS hA [1, 2, 3] rfl rfl [(false, 0), (true, 0), (true, 1), (true, 2), (false, 4), (false, 5), (false, 6)] (by decide +kernel) rfl (fun H locs hP hD hS => ?_)
      refine lv_aload_n hx hb dX2_isOrderDoneByWorkAt_62 rfl (lv_at hl 0 rfl) ?_
      refine va_get (D := D) (ci := 2) (v := .ref aG) (C := RX2) (T := TX2) (N := 6) hx hb hts iX2 hown hKK.1 hP 0 rfl rfl 1 (by decide) (hts (.fieldLink RX2 21 "TrolleyGang$Ring" "gang" "LTrolleyGang$Gang;") (List.mem_of_getElem? (i := 2) rfl)) (fun _ h9 => h9) rfl dX2_isOrderDoneByWorkAt_63 ?_
      refine lv_dup hx hb dX2_isOrderDoneByWorkAt_66 rfl ?_
      refine va_getN (D := D) (ci := 1) (v := .int (g 4)) (C := RX1) (T := TX1) (N := 6) hx hb hts iX1 hown hKK.1 hP 4 rfl rfl 5 (by decide) (nw (w := .fieldLinkNest "TrolleyGang$Ring" 156 "TrolleyGang$Gang" "putUpInAll" "I" "TrolleyGang") nq_52) (fun _ h9 => h9) rfl dX2_isOrderDoneByWorkAt_67 ?_
      refine lv_iconst (v := 1) hx hb dX2_isOrderDoneByWorkAt_70 (by decide) ?_
      refine lv_iadd hx hb dX2_isOrderDoneByWorkAt_71 ?_
      refine va_putN (D := D) (ci := 1) (v := .int ((g 4) + 1)) (ty := .int) (C := RX1) (T := TX1) (N := 6) hx hb hts iX1 tyX1 tyX1_ok nmX1 hown hKK.1 hP hD hS 4 rfl rfl 5 (by decide) (nw (w := .fieldLinkNest "TrolleyGang$Ring" 156 "TrolleyGang$Gang" "putUpInAll" "I" "TrolleyGang") nq_52) (fun _ h9 => h9) rfl (by decide +kernel) rfl rfl (Nat.le_of_ble_eq_true rfl) dX2_isOrderDoneByWorkAt_72 (fun H locs hP hD hS => ?_)
      have hP : va_P D vwCl (cR cyI cyO aR aW aw af aG ao aB ab (putS w s_) f od (upd g 4 ((g 4) + 1)) bc hr co) H := hP
      have hD : va_D A (cR cyI cyO aR aW aw af aG ao aB ab (putS w s_) f od (upd g 4 ((g 4) + 1)) bc hr co) := hD
      refine lv_iconst (v := 1) hx hb dX2_isOrderDoneByWorkAt_75 (by decide) ?_
      have e9 : iodS w g s_ = (1, putS w s_, (upd g 4 ((g 4) + 1))) := (by first | with_reducible rfl | (simp only [iodS, h_1, h_2, if_true, if_false, reduceIte, not_true_eq_false, not_false_eq_true]; done) | (simp [iodS, h_1, h_2]; done))
      exact end_z hx hb hrt hlocks (Or.inr rfl) (by rw [e9]) (by rw [e9]; exact hP) hS dX2_isOrderDoneByWorkAt_76
    · skip
      refine lv_iconst (v := 0) hx hb dX2_isOrderDoneByWorkAt_52 (by decide) ?_
      have e9 : iodS w g s_ = (0, w, g) := (by first | with_reducible rfl | (simp only [iodS, h_1, h_2, if_true, if_false, reduceIte, not_true_eq_false, not_false_eq_true]; done) | (simp [iodS, h_1, h_2]; done))
      exact end_z hx hb hrt hlocks (Or.inl rfl) (by rw [e9]) (by rw [e9]; exact hP) hS dX2_isOrderDoneByWorkAt_53
  · skip
    refine lv_aload_n hx hb dX2_isOrderDoneByWorkAt_11 rfl (lv_at hl 0 rfl) ?_
    refine va_get (D := D) (ci := 2) (v := .ref aW) (C := RX2) (T := TX2) (N := 6) hx hb hts iX2 hown hKK.1 hP 0 rfl rfl 0 (by decide) (hts (.fieldLink RX2 12 "TrolleyGang$Ring" "wires" "LTrolleyGang$Wires;") (List.mem_of_getElem? (i := 1) rfl)) (fun _ h9 => h9) rfl dX2_isOrderDoneByWorkAt_12 ?_
    refine lv_iload_n hx hb dX2_isOrderDoneByWorkAt_15 rfl (lv_at hl 1 rfl) ?_
    refine lv_bipush (v := 30) hx hb dX2_isOrderDoneByWorkAt_16 (by decide) ?_
    have hPc := hP.sub (ws' := (cW cyI aW aw af w f)) [1, 2, 3] rfl
    have hDc := hD.sub (ws' := (cW cyI aW aw af w f)) [1, 2, 3] (by decide) rfl
    refine ret_v (W1 := (cW cyI aW aw af w f)) (W2 := (cW cyI aW aw af (mendS w s_ 30) f)) (ws1 := (cR cyI cyO aR aW aw af aG ao aB ab (mendS w s_ 30) f od g bc hr co)) (run_VN (q := (RX4, TX4, 2)) (n := 2) (As := [.int s_, .int 30]) (rest := []) ⟨hx, hb, hml, hown, hts⟩ (c_X4_mend l D cyI cyO cyL aW aw af w f s_ 30 (by first | assumption | omega) _) ggX2_isOrderDoneByWorkAt_X4_mend rfl rfl rfl nq_20 (hts (.initialized RX4) (List.mem_of_getElem? (i := 4) rfl)) (hts (.instanceMethod yX4_mend) (List.mem_of_getElem? (i := 8) rfl)) (hts (.selects RX4 yX4_mend yX4_mend) (List.mem_of_getElem? (i := 9) rfl)) (by decide +kernel) ⟨Nat.le_of_ble_eq_true rfl, Nat.le_of_ble_eq_true rfl⟩ hKK hPc hDc (ci := 4) (q0 := 0) rfl rfl rfl hl.1 rfl (Nat.le_of_ble_eq_true rfl) dX2_isOrderDoneByWorkAt_18 ⟨Nat.zero_le _, Nat.zero_le _⟩) hP hD hS hA [1, 2, 3] rfl rfl [(false, 0), (true, 0), (true, 1), (true, 2), (false, 4), (false, 5), (false, 6)] (by decide +kernel) rfl (fun H locs hP hD hS => ?_)
    refine lv_aload_n hx hb dX2_isOrderDoneByWorkAt_21 rfl (lv_at hl 0 rfl) ?_
    refine va_get (D := D) (ci := 2) (v := .ref aW) (C := RX2) (T := TX2) (N := 6) hx hb hts iX2 hown hKK.1 hP 0 rfl rfl 0 (by decide) (hts (.fieldLink RX2 12 "TrolleyGang$Ring" "wires" "LTrolleyGang$Wires;") (List.mem_of_getElem? (i := 1) rfl)) (fun _ h9 => h9) rfl dX2_isOrderDoneByWorkAt_22 ?_
    refine va_getN (D := D) (ci := 4) (v := .ref aw) (C := RX4) (T := TX4) (N := 2) hx hb hts iX4 hown hKK.1 hP 1 rfl rfl 0 (by decide) (nw (w := .fieldLinkNest "TrolleyGang$Ring" 150 "TrolleyGang$Wires" "worn" "[I" "TrolleyGang") nq_37) (fun _ h9 => h9) rfl dX2_isOrderDoneByWorkAt_25 ?_
    refine lv_iload_n hx hb dX2_isOrderDoneByWorkAt_28 rfl (lv_at hl 1 rfl) ?_
    refine va_iald hx hb hKK.1 hP 2 0 rfl rfl (hin := hi) dX2_isOrderDoneByWorkAt_29 ?_
    refine lv_bipush (v := 30) hx hb dX2_isOrderDoneByWorkAt_30 (by decide) ?_
    refine lv_icmp_ge (tgt := 39) hx hb dX2_isOrderDoneByWorkAt_32 (by decide) (fun h_3 => ?_) (fun h_3 => ?_)
    · skip
      refine lv_iconst (v := 0) hx hb dX2_isOrderDoneByWorkAt_39 (by decide) ?_
      have e9 : iodS w g s_ = (0, mendS w s_ 30, g) := (by first | with_reducible rfl | (simp only [iodS, h_1, h_3, if_true, if_false, reduceIte, not_true_eq_false, not_false_eq_true]; done) | (simp [iodS, h_1, h_3]; done))
      exact end_z hx hb hrt hlocks (by first | exact Or.inl rfl | exact Or.inr rfl) (by rw [e9]) (by rw [e9]; exact hP) hS dX2_isOrderDoneByWorkAt_40
    · skip
      refine lv_iconst (v := 1) hx hb dX2_isOrderDoneByWorkAt_35 (by decide) ?_
      refine lv_goto (tgt := 40) hx hb dX2_isOrderDoneByWorkAt_36 (by decide) ?_
      have e9 : iodS w g s_ = (1, mendS w s_ 30, g) := (by first | with_reducible rfl | (simp only [iodS, h_1, h_3, if_true, if_false, reduceIte, not_true_eq_false, not_false_eq_true]; done) | (simp [iodS, h_1, h_3]; done))
      exact end_z hx hb hrt hlocks (by first | exact Or.inl rfl | exact Or.inr rfl) (by rw [e9]) (by rw [e9]; exact hP) hS dX2_isOrderDoneByWorkAt_40
set_option maxHeartbeats 4000000 in
set_option maxRecDepth 100000 in
theorem c_X2_letGangWork (l : Launch) (D : va_G) (cyI cyO cyL : ClassId) (aR : Nat) (aW : Nat) (aw : Nat) (af : Nat) (aG : Nat) (ao : Nat) (aB : Nat) (ab : Nat → Nat) (w : Nat → Int32) (f : Nat → Int32) (od : Nat → Int32) (g : Nat → Int32) (bc : Int32) (hr : Int32) (co : Int32) (n : Nat) (hn : n ≤ 6) (hoc : g 0 = nI n) (ha : vp_in (g 1) 24) (ho : vp_in (od 0) 24) : cV l yX2_letGangWork wsX2_letGangWork ({ frames := 3, cells := 0, slots := 0, locals := 58 }) D cyI cyO cyL [.ref aR] (cR cyI cyO aR aW aw af aG ao aB ab w f od g bc hr co) (cR cyI cyO aR aW aw af aG ao aB ab ((gwS n w od g co).1) f ((gwS n w od g co).2.1) ((gwS n w od g co).2.2.1) bc hr ((gwS n w od g co).2.2.2)) := by
  intro sz
  refine Met.ofW (cc := cX2_letGangWork) (maxL := 1) (ret := none) (by decide) rfl ?_
  intro p e s m args below meth c s₁ B9 hml hv
  obtain ⟨rfl, hsz, hP, hKK, hD0⟩ := hv
  have hx := B9.exec
  have hb := B9.bytes
  have hrt := B9.returns
  have hts := atoms_spec (ws := wsX2_letGangWork) B9.pre
  have hown : s.vm.findClass RX2 = some m.cls := findClass_of_methodNamed B9.named
  have hlocks := B9.notSynchronized
  have nw := fun {w : Cond} (h : w ∈ nw_all) => NW.use (args := ([.ref aR] : List Value).toArray) hKK.2 h
  have iX1 : ∀ w ∈ wsX10, w ∈ wsX2_letGangWork := fun _ h => List.mem_cons_of_mem _ (List.mem_append_left _ (List.mem_append_right _ h))
  have iX2 : ∀ w ∈ wsX20, w ∈ wsX2_letGangWork := fun _ h => List.mem_cons_of_mem _ (List.mem_append_left _ (List.mem_append_left _ (List.mem_append_right _ h)))
  subst hsz
  have hD := hD0.self (sz := s.heap.size)
  generalize hAe : va_A (cR cyI cyO aR aW aw af aG ao aB ab w f od g bc hr co) s.heap.size = A at hD ⊢
  have hA : ∀ q : Nat, s.heap.size ≤ q → A q := fun q h => by rw [← hAe]; exact Or.inr h
  have hS : va_S A s.heap s.heap [] := va_S.rf
  have hl := lv_entry ([.ref aR]) (n := 1) (Nat.le_of_ble_eq_true rfl)
  rw [lg_entry_eq]
  generalize (lg_sl ([.ref aR]) ++ List.replicate (1 - (lg_sl ([.ref aR])).length) Slot.unset).toArray = ls at hl ⊢
  have hl : lv_has ls 1 [(0, .ref aR)] := hl
  refine lv_aload_n hx hb dX2_letGangWork_0 rfl (lv_at hl 0 rfl) ?_
  refine va_get (D := D) (ci := 2) (v := .ref aG) (C := RX2) (T := TX2) (N := 6) hx hb hts iX2 hown hKK.1 hP 0 rfl rfl 1 (by decide) (hts (.fieldLink RX2 21 "TrolleyGang$Ring" "gang" "LTrolleyGang$Gang;") (List.mem_of_getElem? (i := 1) rfl)) (fun _ h9 => h9) rfl dX2_letGangWork_1 ?_
  refine va_getN (D := D) (ci := 1) (v := .int (g 0)) (C := RX1) (T := TX1) (N := 6) hx hb hts iX1 hown hKK.1 hP 4 rfl rfl 1 (by decide) (nw (w := .fieldLinkNest "TrolleyGang$Ring" 125 "TrolleyGang$Gang" "orderCount" "I" "TrolleyGang") nq_44) (fun _ h9 => h9) rfl dX2_letGangWork_4 ?_
  refine lv_if_ne (tgt := 11) hx hb dX2_letGangWork_7 (by decide) (fun h_1 => ?_) (fun h_1 => ?_)
  · skip
    have hp0 : 0 < n := Nat.pos_of_ne_zero fun e9 => h_1 (by rw [hoc, e9]; rfl)
    refine lv_aload_n hx hb dX2_letGangWork_11 rfl (lv_at hl 0 rfl) ?_
    refine va_get (D := D) (ci := 2) (v := .ref aG) (C := RX2) (T := TX2) (N := 6) hx hb hts iX2 hown hKK.1 hP 0 rfl rfl 1 (by decide) (hts (.fieldLink RX2 21 "TrolleyGang$Ring" "gang" "LTrolleyGang$Gang;") (List.mem_of_getElem? (i := 1) rfl)) (fun _ h9 => h9) rfl dX2_letGangWork_12 ?_
    have hPc := hP.sub (ws' := (cG cyI aG ao od g)) [4, 5] rfl
    have hDc := hD.sub (ws' := (cG cyI aG ao od g)) [4, 5] (by decide) rfl
    refine ret_v (W1 := (cG cyI aG ao od g)) (W2 := (cG cyI aG ao od (goS od g))) (ws1 := (cR cyI cyO aR aW aw af aG ao aB ab w f od (goS od g) bc hr co)) (run_VN (q := (RX1, TX1, 6)) (n := 0) (As := []) (rest := []) ⟨hx, hb, hml, hown, hts⟩ (c_X1_goToFirst l D cyI cyO cyL aG ao od g _) ggX2_letGangWork_X1_goToFirst rfl rfl rfl nq_19 (hts (.initialized RX1) (List.mem_of_getElem? (i := 4) rfl)) (hts (.instanceMethod yX1_goToFirst) (List.mem_of_getElem? (i := 3) rfl)) (hts (.selects RX1 yX1_goToFirst yX1_goToFirst) (List.mem_of_getElem? (i := 5) rfl)) (by decide +kernel) ⟨Nat.le_of_ble_eq_true rfl, Nat.le_of_ble_eq_true rfl⟩ hKK hPc hDc (ci := 1) (q0 := 0) rfl rfl rfl hl.1 rfl (Nat.le_of_ble_eq_true rfl) dX2_letGangWork_15 ⟨Nat.zero_le _, Nat.zero_le _⟩) hP hD hS hA [4, 5] rfl rfl [(false, 0), (false, 1), (false, 2), (false, 3), (true, 0), (true, 1), (false, 6)] (by decide +kernel) rfl (fun H locs hP hD hS => ?_)
    refine lv_aload_n hx hb dX2_letGangWork_18 rfl (lv_at hl 0 rfl) ?_
    refine va_get (D := D) (ci := 2) (v := .ref aG) (C := RX2) (T := TX2) (N := 6) hx hb hts iX2 hown hKK.1 hP 0 rfl rfl 1 (by decide) (hts (.fieldLink RX2 21 "TrolleyGang$Ring" "gang" "LTrolleyGang$Gang;") (List.mem_of_getElem? (i := 1) rfl)) (fun _ h9 => h9) rfl dX2_letGangWork_19 ?_
    refine va_getN (D := D) (ci := 1) (v := .int ((goS od g) 1)) (C := RX1) (T := TX1) (N := 6) hx hb hts iX1 hown hKK.1 hP 4 rfl rfl 2 (by decide) (nw (w := .fieldLinkNest "TrolleyGang$Ring" 131 "TrolleyGang$Gang" "at" "I" "TrolleyGang") nq_46) (fun _ h9 => h9) rfl dX2_letGangWork_22 ?_
    refine lv_aload_n hx hb dX2_letGangWork_25 rfl (lv_at hl 0 rfl) ?_
    refine va_get (D := D) (ci := 2) (v := .ref aG) (C := RX2) (T := TX2) (N := 6) hx hb hts iX2 hown hKK.1 hP 0 rfl rfl 1 (by decide) (hts (.fieldLink RX2 21 "TrolleyGang$Ring" "gang" "LTrolleyGang$Gang;") (List.mem_of_getElem? (i := 1) rfl)) (fun _ h9 => h9) rfl dX2_letGangWork_26 ?_
    refine va_getN (D := D) (ci := 1) (v := .ref ao) (C := RX1) (T := TX1) (N := 6) hx hb hts iX1 hown hKK.1 hP 4 rfl rfl 0 (by decide) (nw (w := .fieldLinkNest "TrolleyGang$Ring" 132 "TrolleyGang$Gang" "orders" "[I" "TrolleyGang") nq_42) (fun _ h9 => h9) rfl dX2_letGangWork_29 ?_
    refine lv_iconst (v := 0) hx hb dX2_letGangWork_32 (by decide) ?_
    refine va_iald hx hb hKK.1 hP 5 0 rfl rfl (hin := (vp_in_nI (n := 0) (by omega) (by omega))) dX2_letGangWork_33 ?_
    refine lv_tope (y := od 0) rfl ?_
    refine lv_icmp_eq (tgt := 38) hx hb dX2_letGangWork_34 (by decide) (fun h_2 => ?_) (fun h_2 => ?_)
    · skip
      refine lv_aload_n hx hb dX2_letGangWork_38 rfl (lv_at hl 0 rfl) ?_
      refine lv_dup hx hb dX2_letGangWork_39 rfl ?_
      refine va_get (D := D) (ci := 2) (v := .int co) (C := RX2) (T := TX2) (N := 6) hx hb hts iX2 hown hKK.1 hP 0 rfl rfl 5 (by decide) (hts (.fieldLink RX2 49 "TrolleyGang$Ring" "coins" "I") (List.mem_of_getElem? (i := 2) rfl)) (fun _ h9 => h9) rfl dX2_letGangWork_40 ?_
      refine lv_iconst (v := 2) hx hb dX2_letGangWork_43 (by decide) ?_
      refine lv_isub hx hb dX2_letGangWork_44 ?_
      refine va_put (D := D) (ci := 2) (v := .int (co - 2)) (ty := .int) (C := RX2) (T := TX2) (N := 6) hx hb hts iX2 tyX2 tyX2_ok nmX2 hown hKK.1 hP hD hS 0 rfl rfl 5 (by decide) (hts (.fieldLink RX2 49 "TrolleyGang$Ring" "coins" "I") (List.mem_of_getElem? (i := 2) rfl)) (fun _ h9 => h9) rfl (by decide +kernel) rfl rfl (Nat.le_of_ble_eq_true rfl) dX2_letGangWork_45 (fun H locs hP hD hS => ?_)
      have hP : va_P D vwCl (cR cyI cyO aR aW aw af aG ao aB ab w f od (goS od g) bc hr (co - 2)) H := hP
      have hD : va_D A (cR cyI cyO aR aW aw af aG ao aB ab w f od (goS od g) bc hr (co - 2)) := hD
      refine lv_aload_n hx hb dX2_letGangWork_48 rfl (lv_at hl 0 rfl) ?_
      refine va_get (D := D) (ci := 2) (v := .ref aG) (C := RX2) (T := TX2) (N := 6) hx hb hts iX2 hown hKK.1 hP 0 rfl rfl 1 (by decide) (hts (.fieldLink RX2 21 "TrolleyGang$Ring" "gang" "LTrolleyGang$Gang;") (List.mem_of_getElem? (i := 1) rfl)) (fun _ h9 => h9) rfl dX2_letGangWork_49 ?_
      refine lv_dup hx hb dX2_letGangWork_52 rfl ?_
      refine va_getN (D := D) (ci := 1) (v := .int ((goS od g) 2)) (C := RX1) (T := TX1) (N := 6) hx hb hts iX1 hown hKK.1 hP 4 rfl rfl 3 (by decide) (nw (w := .fieldLinkNest "TrolleyGang$Ring" 135 "TrolleyGang$Gang" "worksAtFirst" "I" "TrolleyGang") nq_48) (fun _ h9 => h9) rfl dX2_letGangWork_53 ?_
      refine lv_iconst (v := 1) hx hb dX2_letGangWork_56 (by decide) ?_
      refine lv_iadd hx hb dX2_letGangWork_57 ?_
      refine va_putN (D := D) (ci := 1) (v := .int (((goS od g) 2) + 1)) (ty := .int) (C := RX1) (T := TX1) (N := 6) hx hb hts iX1 tyX1 tyX1_ok nmX1 hown hKK.1 hP hD hS 4 rfl rfl 3 (by decide) (nw (w := .fieldLinkNest "TrolleyGang$Ring" 135 "TrolleyGang$Gang" "worksAtFirst" "I" "TrolleyGang") nq_48) (fun _ h9 => h9) rfl (by decide +kernel) rfl rfl (Nat.le_of_ble_eq_true rfl) dX2_letGangWork_58 (fun H locs hP hD hS => ?_)
      have hP : va_P D vwCl (cR cyI cyO aR aW aw af aG ao aB ab w f od (upd (goS od g) 2 (((goS od g) 2) + 1)) bc hr (co - 2)) H := hP
      have hD : va_D A (cR cyI cyO aR aW aw af aG ao aB ab w f od (upd (goS od g) 2 (((goS od g) 2) + 1)) bc hr (co - 2)) := hD
      refine lv_aload_n hx hb dX2_letGangWork_61 rfl (lv_at hl 0 rfl) ?_
      refine va_get (D := D) (ci := 2) (v := .ref aG) (C := RX2) (T := TX2) (N := 6) hx hb hts iX2 hown hKK.1 hP 0 rfl rfl 1 (by decide) (hts (.fieldLink RX2 21 "TrolleyGang$Ring" "gang" "LTrolleyGang$Gang;") (List.mem_of_getElem? (i := 1) rfl)) (fun _ h9 => h9) rfl dX2_letGangWork_62 ?_
      refine lv_dup hx hb dX2_letGangWork_65 rfl ?_
      refine va_getN (D := D) (ci := 1) (v := .int ((goS od g) 3)) (C := RX1) (T := TX1) (N := 6) hx hb hts iX1 hown hKK.1 hP 4 rfl rfl 4 (by decide) (nw (w := .fieldLinkNest "TrolleyGang$Ring" 138 "TrolleyGang$Gang" "worksInAll" "I" "TrolleyGang") nq_50) (fun _ h9 => h9) rfl dX2_letGangWork_66 ?_
      refine lv_iconst (v := 1) hx hb dX2_letGangWork_69 (by decide) ?_
      refine lv_iadd hx hb dX2_letGangWork_70 ?_
      refine va_putN (D := D) (ci := 1) (v := .int (((goS od g) 3) + 1)) (ty := .int) (C := RX1) (T := TX1) (N := 6) hx hb hts iX1 tyX1 tyX1_ok nmX1 hown hKK.1 hP hD hS 4 rfl rfl 4 (by decide) (nw (w := .fieldLinkNest "TrolleyGang$Ring" 138 "TrolleyGang$Gang" "worksInAll" "I" "TrolleyGang") nq_50) (fun _ h9 => h9) rfl (by decide +kernel) rfl rfl (Nat.le_of_ble_eq_true rfl) dX2_letGangWork_71 (fun H locs hP hD hS => ?_)
      have hP : va_P D vwCl (cR cyI cyO aR aW aw af aG ao aB ab w f od (upd (upd (goS od g) 2 (((goS od g) 2) + 1)) 3 (((goS od g) 3) + 1)) bc hr (co - 2)) H := hP
      have hD : va_D A (cR cyI cyO aR aW aw af aG ao aB ab w f od (upd (upd (goS od g) 2 (((goS od g) 2) + 1)) 3 (((goS od g) 3) + 1)) bc hr (co - 2)) := hD
      refine lv_aload_n hx hb dX2_letGangWork_74 rfl (lv_at hl 0 rfl) ?_
      refine lv_aload_n hx hb dX2_letGangWork_75 rfl (lv_at hl 0 rfl) ?_
      refine va_get (D := D) (ci := 2) (v := .ref aG) (C := RX2) (T := TX2) (N := 6) hx hb hts iX2 hown hKK.1 hP 0 rfl rfl 1 (by decide) (hts (.fieldLink RX2 21 "TrolleyGang$Ring" "gang" "LTrolleyGang$Gang;") (List.mem_of_getElem? (i := 1) rfl)) (fun _ h9 => h9) rfl dX2_letGangWork_76 ?_
      refine va_getN (D := D) (ci := 1) (v := .int ((goS od g) 1)) (C := RX1) (T := TX1) (N := 6) hx hb hts iX1 hown hKK.1 hP 4 rfl rfl 2 (by decide) (nw (w := .fieldLinkNest "TrolleyGang$Ring" 131 "TrolleyGang$Gang" "at" "I" "TrolleyGang") nq_46) (fun _ h9 => h9) rfl dX2_letGangWork_79 ?_
      have hPc := hP.sub (ws' := (cR cyI cyO aR aW aw af aG ao aB ab w f od (upd (upd (goS od g) 2 (((goS od g) 2) + 1)) 3 (((goS od g) 3) + 1)) bc hr (co - 2))) [0, 1, 2, 3, 4, 5, 6] rfl
      have hDc := hD.sub (ws' := (cR cyI cyO aR aW aw af aG ao aB ab w f od (upd (upd (goS od g) 2 (((goS od g) 2) + 1)) 3 (((goS od g) 3) + 1)) bc hr (co - 2))) [0, 1, 2, 3, 4, 5, 6] (by decide) rfl
      refine ret_i (W1 := (cR cyI cyO aR aW aw af aG ao aB ab w f od (upd (upd (goS od g) 2 (((goS od g) 2) + 1)) 3 (((goS od g) 3) + 1)) bc hr (co - 2))) (W2 := (cR cyI cyO aR aW aw af aG ao aB ab ((iodS w (upd (upd (goS od g) 2 (((goS od g) 2) + 1)) 3 (((goS od g) 3) + 1)) ((goS od g) 1)).2.1) f od ((iodS w (upd (upd (goS od g) 2 (((goS od g) 2) + 1)) 3 (((goS od g) 3) + 1)) ((goS od g) 1)).2.2) bc hr (co - 2))) (ws1 := (cR cyI cyO aR aW aw af aG ao aB ab ((iodS w (upd (upd (goS od g) 2 (((goS od g) 2) + 1)) 3 (((goS od g) 3) + 1)) ((goS od g) 1)).2.1) f od ((iodS w (upd (upd (goS od g) 2 (((goS od g) 2) + 1)) 3 (((goS od g) 3) + 1)) ((goS od g) 1)).2.2) bc hr (co - 2))) (r := (iodS w (upd (upd (goS od g) 2 (((goS od g) 2) + 1)) 3 (((goS od g) 3) + 1)) ((goS od g) 1)).1) (run_V (q := (RX2, TX2, 6)) (n := 1) (As := [.int ((goS od g) 1)]) (rest := []) ⟨hx, hb, hml, hown, hts⟩ (c_X2_isOrderDoneByWorkAt l D cyI cyO cyL aR aW aw af aG ao aB ab w f od (upd (upd (goS od g) 2 (((goS od g) 2) + 1)) 3 (((goS od g) 3) + 1)) bc hr (co - 2) ((goS od g) 1) (go_in ha ho) _) ggX2_letGangWork_X2_isOrderDoneByWorkAt rfl rfl rfl (hts (.methodLink RX2 141 yX2_isOrderDoneByWorkAt) (List.mem_of_getElem? (i := 17) rfl)) (hts (.initialized RX2) (List.mem_of_getElem? (i := 20) rfl)) (hts (.instanceMethod yX2_isOrderDoneByWorkAt) (List.mem_of_getElem? (i := 18) rfl)) (hts (.selects RX2 yX2_isOrderDoneByWorkAt yX2_isOrderDoneByWorkAt) (List.mem_of_getElem? (i := 19) rfl)) (by decide +kernel) ⟨Nat.le_of_ble_eq_true rfl, Nat.le_of_ble_eq_true rfl⟩ hKK hPc hDc (ci := 2) (q0 := 0) rfl rfl rfl hl.1 rfl (Nat.le_of_ble_eq_true rfl) dX2_letGangWork_82 ⟨Nat.zero_le _, Nat.zero_le _⟩) hP hD hS hA [0, 1, 2, 3, 4, 5, 6] rfl rfl [(true, 0), (true, 1), (true, 2), (true, 3), (true, 4), (true, 5), (true, 6)] (by decide +kernel) rfl (fun H locs hP hD hS => ?_)
      refine lv_if_eq (tgt := 96) hx hb dX2_letGangWork_85 (by decide) (fun h_3 => ?_) (fun h_3 => ?_)
      · skip
        have e9 : gwS n w od g co = ((iodS w (upd (upd (goS od g) 2 (((goS od g) 2) + 1)) 3 (((goS od g) 3) + 1)) ((goS od g) 1)).2.1, od, ((iodS w (upd (upd (goS od g) 2 (((goS od g) 2) + 1)) 3 (((goS od g) 3) + 1)) ((goS od g) 1)).2.2), co - 2) := (by unfold gwS; rw [if_neg h_1, if_pos h_2]; first | exact if_pos h_3 | exact if_neg h_3)
        exact end_v hx hb hrt hlocks (by rw [e9]; exact hP) hS dX2_letGangWork_96
      · skip
        refine lv_aload_n hx hb dX2_letGangWork_88 rfl (lv_at hl 0 rfl) ?_
        refine va_get (D := D) (ci := 2) (v := .ref aG) (C := RX2) (T := TX2) (N := 6) hx hb hts iX2 hown hKK.1 hP 0 rfl rfl 1 (by decide) (hts (.fieldLink RX2 21 "TrolleyGang$Ring" "gang" "LTrolleyGang$Gang;") (List.mem_of_getElem? (i := 1) rfl)) (fun _ h9 => h9) rfl dX2_letGangWork_89 ?_
        refine lv_iconst (v := 0) hx hb dX2_letGangWork_92 (by decide) ?_
        have hPc := hP.sub (ws' := (cG cyI aG ao od ((iodS w (upd (upd (goS od g) 2 (((goS od g) 2) + 1)) 3 (((goS od g) 3) + 1)) ((goS od g) 1)).2.2))) [4, 5] rfl
        have hDc := hD.sub (ws' := (cG cyI aG ao od ((iodS w (upd (upd (goS od g) 2 (((goS od g) 2) + 1)) 3 (((goS od g) 3) + 1)) ((goS od g) 1)).2.2))) [4, 5] (by decide) rfl
        refine ret_v (W1 := (cG cyI aG ao od ((iodS w (upd (upd (goS od g) 2 (((goS od g) 2) + 1)) 3 (((goS od g) 3) + 1)) ((goS od g) 1)).2.2))) (W2 := (cG cyI aG ao ((takeS od ((iodS w (upd (upd (goS od g) 2 (((goS od g) 2) + 1)) 3 (((goS od g) 3) + 1)) ((goS od g) 1)).2.2) 0 n).1) ((takeS od ((iodS w (upd (upd (goS od g) 2 (((goS od g) 2) + 1)) 3 (((goS od g) 3) + 1)) ((goS od g) 1)).2.2) 0 n).2))) (ws1 := (cR cyI cyO aR aW aw af aG ao aB ab ((iodS w (upd (upd (goS od g) 2 (((goS od g) 2) + 1)) 3 (((goS od g) 3) + 1)) ((goS od g) 1)).2.1) f ((takeS od ((iodS w (upd (upd (goS od g) 2 (((goS od g) 2) + 1)) 3 (((goS od g) 3) + 1)) ((goS od g) 1)).2.2) 0 n).1) ((takeS od ((iodS w (upd (upd (goS od g) 2 (((goS od g) 2) + 1)) 3 (((goS od g) 3) + 1)) ((goS od g) 1)).2.2) 0 n).2) bc hr (co - 2))) (run_VN (q := (RX1, TX1, 6)) (n := 1) (As := [.int 0]) (rest := []) ⟨hx, hb, hml, hown, hts⟩ (c_X1_takeOut l D cyI cyO cyL aG ao od ((iodS w (upd (upd (goS od g) 2 (((goS od g) 2) + 1)) 3 (((goS od g) 3) + 1)) ((goS od g) 1)).2.2) 0 n hn ((iod_g0 _ _ _).trans hoc) hp0 _) ggX2_letGangWork_X1_takeOut rfl rfl rfl nq_22 (hts (.initialized RX1) (List.mem_of_getElem? (i := 4) rfl)) (hts (.instanceMethod yX1_takeOut) (List.mem_of_getElem? (i := 37) rfl)) (hts (.selects RX1 yX1_takeOut yX1_takeOut) (List.mem_of_getElem? (i := 38) rfl)) (by decide +kernel) ⟨Nat.le_of_ble_eq_true rfl, Nat.le_of_ble_eq_true rfl⟩ hKK hPc hDc (ci := 1) (q0 := 0) rfl rfl rfl hl.1 rfl (Nat.le_of_ble_eq_true rfl) dX2_letGangWork_93 ⟨Nat.zero_le _, Nat.zero_le _⟩) hP hD hS hA [4, 5] rfl rfl [(false, 0), (false, 1), (false, 2), (false, 3), (true, 0), (true, 1), (false, 6)] (by decide +kernel) rfl (fun H locs hP hD hS => ?_)
        have e9 : gwS n w od g co = ((iodS w (upd (upd (goS od g) 2 (((goS od g) 2) + 1)) 3 (((goS od g) 3) + 1)) ((goS od g) 1)).2.1, (takeS od ((iodS w (upd (upd (goS od g) 2 (((goS od g) 2) + 1)) 3 (((goS od g) 3) + 1)) ((goS od g) 1)).2.2) 0 n).1, ((takeS od ((iodS w (upd (upd (goS od g) 2 (((goS od g) 2) + 1)) 3 (((goS od g) 3) + 1)) ((goS od g) 1)).2.2) 0 n).2), co - 2) := (by unfold gwS; rw [if_neg h_1, if_pos h_2]; first | exact if_pos h_3 | exact if_neg h_3)
        exact end_v hx hb hrt hlocks (by rw [e9]; exact hP) hS dX2_letGangWork_96
    · skip
      have e9 : gwS n w od g co = (w, od, (goS od g), co) := (by first | with_reducible rfl | (simp only [gwS, g2S, h_1, h_2, if_true, if_false, reduceIte, not_true_eq_false, not_false_eq_true]; done) | (simp [gwS, g2S, h_1, h_2]; done))
      exact end_v hx hb hrt hlocks (by rw [e9]; exact hP) hS dX2_letGangWork_37
  · skip
    have e9 : gwS n w od g co = (w, od, g, co) := (by first | with_reducible rfl | (simp only [gwS, g2S, h_1, if_true, if_false, reduceIte, not_true_eq_false, not_false_eq_true]; done) | (simp [gwS, g2S, h_1]; done))
    exact end_v hx hb hrt hlocks (by rw [e9]; exact hP) hS dX2_letGangWork_10
set_option maxHeartbeats 4000000 in
set_option maxRecDepth 100000 in
theorem c_X2_busesAt (l : Launch) (D : va_G) (cyI cyO cyL : ClassId) (aR : Nat) (aW : Nat) (aw : Nat) (af : Nat) (aG : Nat) (ao : Nat) (aB : Nat) (ab : Nat → Nat) (w : Nat → Int32) (f : Nat → Int32) (od : Nat → Int32) (g : Nat → Int32) (bc : Int32) (hr : Int32) (co : Int32) (LB : List Nat) (B : Nat → Nat → Int32) (x_ : Int32) (n : Nat) (hn : n ≤ 6) (hbc : bc = nI n) (hLB : ∀ k, k < 6 → ab k ∈ LB) : cI l yX2_busesAt wsX2_busesAt ({ frames := 1, cells := 0, slots := 0, locals := 20 }) D cyI cyO cyL [.ref aR, .int x_] ((cR cyI cyO aR aW aw af aG ao aB ab w f od g bc hr co) ++ pB LB B) ((cR cyI cyO aR aW aw af aG ao aB ab w f od g bc hr co) ++ pB LB B) (baL B ab x_ n 0 0) := by
  intro sz
  refine Met.ofW (cc := cX2_busesAt) (maxL := 4) (ret := (some .int)) (by decide) rfl ?_
  intro p e s m args below meth c s₁ B9 hml hv
  obtain ⟨rfl, hsz, hP, hKK, hD0⟩ := hv
  have hx := B9.exec
  have hb := B9.bytes
  have hrt := B9.returns
  have hts := atoms_spec (ws := wsX2_busesAt) B9.pre
  have hown : s.vm.findClass RX2 = some m.cls := findClass_of_methodNamed B9.named
  have hlocks := B9.notSynchronized
  have nw := fun {w : Cond} (h : w ∈ nw_all) => NW.use (args := ([.ref aR, .int x_] : List Value).toArray) hKK.2 h
  have iX0 : ∀ w ∈ wsX00, w ∈ wsX2_busesAt := fun _ h => List.mem_cons_of_mem _ (List.mem_append_right _ h)
  have iX2 : ∀ w ∈ wsX20, w ∈ wsX2_busesAt := fun _ h => List.mem_cons_of_mem _ (List.mem_append_left _ (List.mem_append_right _ h))
  subst hsz
  have hD := hD0.self (sz := s.heap.size)
  generalize hAe : va_A ((cR cyI cyO aR aW aw af aG ao aB ab w f od g bc hr co) ++ pB LB B) s.heap.size = A at hD ⊢
  have hA : ∀ q : Nat, s.heap.size ≤ q → A q := fun q h => by rw [← hAe]; exact Or.inr h
  have hS : va_S A s.heap s.heap [] := va_S.rf
  have hl := lv_entry ([.ref aR, .int x_]) (n := 4) (Nat.le_of_ble_eq_true rfl)
  rw [lg_entry_eq]
  generalize (lg_sl ([.ref aR, .int x_]) ++ List.replicate (4 - (lg_sl ([.ref aR, .int x_])).length) Slot.unset).toArray = ls at hl ⊢
  have hl : lv_has ls 4 [(0, .ref aR), (1, .int x_)] := hl
  refine lv_iconst (v := 0) hx hb dX2_busesAt_0 (by decide) ?_
  refine lv_istore_n (lv' := [(2, .int 0), (0, .ref aR), (1, .int x_)]) hx hb dX2_busesAt_1 rfl hl (by decide) rfl (fun ls hl => ?_)
  refine lv_iconst (v := 0) hx hb dX2_busesAt_2 (by decide) ?_
  refine lv_istore_n (lv' := [(3, .int 0), (2, .int 0), (0, .ref aR), (1, .int x_)]) hx hb dX2_busesAt_3 rfl hl (by decide) rfl (fun ls hl => ?_)
  refine wloop (σ := (Nat) × (Int32)) (fun d9 x9 H9 L9 s9 => ((x9.1) + d9 = n) ∧ (baL B ab x_ n 0 0 = baL B ab x_ d9 (x9.1) (x9.2)) ∧ (va_P D vwCl ((cR cyI cyO aR aW aw af aG ao aB ab w f od g bc hr co) ++ pB LB B) H9) ∧ (va_D A ((cR cyI cyO aR aW aw af aG ao aB ab w f od g bc hr co) ++ pB LB B)) ∧ (va_S A s.heap H9 L9) ∧ (lv_has s9 4 [(3, .int (nI (x9.1))), (2, .int (x9.2)), (0, .ref aR), (1, .int x_)])) (fun d9 x9 H locs ls g9 ih => ?_) n (0, 0) _ _ _ ⟨(by omega), rfl, hP, hD, hS, lv_sub hl [0, 1, 2, 3] rfl⟩
  obtain ⟨i, a1⟩ := x9
  obtain ⟨hid, hsp, hP, hD, hS, hl⟩ := g9
  obtain ⟨d, rfl⟩ : ∃ z, z = d9 := ⟨_, rfl⟩
  have hid : i + d = n := hid
  have hsp : baL B ab x_ n 0 0 = baL B ab x_ d i a1 := hsp
  have hP : va_P D vwCl ((cR cyI cyO aR aW aw af aG ao aB ab w f od g bc hr co) ++ pB LB B) H := hP
  have hD : va_D A ((cR cyI cyO aR aW aw af aG ao aB ab w f od g bc hr co) ++ pB LB B) := hD
  have hl : lv_has ls 4 [(3, .int (nI i)), (2, .int a1), (0, .ref aR), (1, .int x_)] := hl
  refine lv_iload_n hx hb dX2_busesAt_4 rfl (lv_at hl 0 rfl) ?_
  refine lv_aload_n hx hb dX2_busesAt_5 rfl (lv_at hl 2 rfl) ?_
  refine va_get (D := D) (ci := 2) (v := .int bc) (C := RX2) (T := TX2) (N := 6) hx hb hts iX2 hown hKK.1 hP 0 rfl rfl 3 (by decide) (hts (.fieldLink RX2 39 "TrolleyGang$Ring" "busCount" "I") (List.mem_of_getElem? (i := 1) rfl)) (fun _ h9 => h9) rfl dX2_busesAt_6 ?_
  refine lv_tope (y := nI n) hbc ?_
  refine lv_icmp_ge (tgt := 42) hx hb dX2_busesAt_9 (by decide) (fun h_1 => ?_) (fun h_1 => ?_)
  · skip
    obtain rfl : d = 0 := by have h9 := (nI_leI (a := n) (b := i) (by omega) (by omega)).mp h_1; omega
    have hiN : i = n := by omega
    refine lv_iload_n hx hb dX2_busesAt_42 rfl (lv_at hl 1 rfl) ?_
    have e9 : baL B ab x_ n 0 0 = a1 := (hsp.trans (by first | with_reducible rfl | (simp only [baL, h_1, if_true, if_false, reduceIte, not_true_eq_false, not_false_eq_true]; done) | (simp [baL, h_1]; done)))
    exact end_i hx hb hrt hlocks (by rw [e9]) hP hS dX2_busesAt_43
  · skip
    have hlt : i < n := by have h9 := mt (nI_leI (a := n) (b := i) (by omega) (by omega)).mpr h_1; omega
    obtain ⟨d, rfl⟩ : ∃ k, d = k + 1 := ⟨d - 1, by omega⟩
    refine lv_iload_n hx hb dX2_busesAt_12 rfl (lv_at hl 1 rfl) ?_
    refine lv_aload_n hx hb dX2_busesAt_13 rfl (lv_at hl 2 rfl) ?_
    refine va_get (D := D) (ci := 2) (v := .ref aB) (C := RX2) (T := TX2) (N := 6) hx hb hts iX2 hown hKK.1 hP 0 rfl rfl 2 (by decide) (hts (.fieldLink RX2 27 "TrolleyGang$Ring" "buses" "[LTrolleyGang$Bus;") (List.mem_of_getElem? (i := 2) rfl)) (fun _ h9 => h9) rfl dX2_busesAt_14 ?_
    refine lv_iload_n hx hb dX2_busesAt_17 rfl (lv_at hl 0 rfl) ?_
    refine va_aldq hx hb hKK.1 hP 6 1 rfl rfl (hin := (vp_in_nI (show i < 6 by omega) (by omega))) dX2_busesAt_18 ?_
    refine lv_topv (y := .ref (ab i)) (by rw [nI_clamp (by omega)]; rfl) ?_
    refine bus_getN hx hb hts iX0 hown hKK hP (hLB i (by omega)) 0 (by decide) (nw (w := .fieldLinkNest "TrolleyGang$Ring" 107 "TrolleyGang$Bus" "at" "I" "TrolleyGang") nq_55) (fun _ h9 => h9) dX2_busesAt_19 ?_
    refine lv_iload_n hx hb dX2_busesAt_22 rfl (lv_at hl 3 rfl) ?_
    refine lv_icmp_ne (tgt := 30) hx hb dX2_busesAt_23 (by decide) (fun h_2 => ?_) (fun h_2 => ?_)
    · skip
      refine lv_iconst (v := 0) hx hb dX2_busesAt_30 (by decide) ?_
      have hPc := hP.sub (ws' := ([] : va_W)) [] rfl
      have hDc := hD.sub (ws' := ([] : va_W)) [] (by decide) rfl
      refine ret_iP (W1 := ([] : va_W)) (W2 := ([] : va_W)) (X1 := cR cyI cyO aR aW aw af aG ao aB ab w f od g bc hr co) (r := oneI 0) (run_SN (n := 1) (As := [.int 0]) (rest := [.int a1]) ⟨hx, hb, hml, hown, hts⟩ (c_X5_oneIf l D cyI cyO cyL 0 _) ggX2_busesAt_X5_oneIf rfl rfl rfl nq_3 (hts (.initialized RX5) (List.mem_of_getElem? (i := 4) rfl)) (hts (.static yX5_oneIf) (List.mem_of_getElem? (i := 3) rfl)) (by decide +kernel) ⟨Nat.le_of_ble_eq_true rfl, Nat.le_of_ble_eq_true rfl⟩ hKK hPc hDc rfl hl.1 rfl (Nat.le_of_ble_eq_true rfl) dX2_busesAt_31 ⟨Nat.zero_le _, Nat.zero_le _⟩) hP hD hS hA [] rfl rfl [(false, 0), (false, 1), (false, 2), (false, 3), (false, 4), (false, 5), (false, 6)] (by decide +kernel) rfl rfl (fun H locs hP hD hS => ?_)
      refine lv_iadd hx hb dX2_busesAt_34 ?_
      refine lv_istore_n (lv' := [(2, .int (a1 + (oneI 0))), (3, .int (nI i)), (0, .ref aR), (1, .int x_)]) hx hb dX2_busesAt_35 rfl hl (by decide) rfl (fun ls hl => ?_)
      refine lv_iinc (v := nI (i + 1)) (lv' := [(3, .int (nI (i + 1))), (2, .int (a1 + (oneI 0))), (0, .ref aR), (1, .int x_)]) hx hb dX2_busesAt_36 hl (k := 1) rfl (nI_1 i) (by decide) rfl (fun ls hl => ?_)
      refine lv_goto (tgt := 4) hx hb dX2_busesAt_39 (by decide) ?_
      exact ih d ((i + 1), (a1 + (oneI 0))) _ _ _ (by omega) ⟨(by omega), (hsp.trans (by first | with_reducible rfl | (simp only [baL, h_1, h_2, if_true, if_false, reduceIte, not_true_eq_false, not_false_eq_true]; done) | (simp [baL, h_1, h_2]; done))), hP, hD, hS, lv_sub hl [0, 1, 2, 3] rfl⟩
    · skip
      refine lv_iconst (v := 1) hx hb dX2_busesAt_26 (by decide) ?_
      refine lv_goto (tgt := 31) hx hb dX2_busesAt_27 (by decide) ?_
      have hPc := hP.sub (ws' := ([] : va_W)) [] rfl
      have hDc := hD.sub (ws' := ([] : va_W)) [] (by decide) rfl
      refine ret_iP (W1 := ([] : va_W)) (W2 := ([] : va_W)) (X1 := cR cyI cyO aR aW aw af aG ao aB ab w f od g bc hr co) (r := oneI 1) (run_SN (n := 1) (As := [.int 1]) (rest := [.int a1]) ⟨hx, hb, hml, hown, hts⟩ (c_X5_oneIf l D cyI cyO cyL 1 _) ggX2_busesAt_X5_oneIf rfl rfl rfl nq_3 (hts (.initialized RX5) (List.mem_of_getElem? (i := 4) rfl)) (hts (.static yX5_oneIf) (List.mem_of_getElem? (i := 3) rfl)) (by decide +kernel) ⟨Nat.le_of_ble_eq_true rfl, Nat.le_of_ble_eq_true rfl⟩ hKK hPc hDc rfl hl.1 rfl (Nat.le_of_ble_eq_true rfl) dX2_busesAt_31 ⟨Nat.zero_le _, Nat.zero_le _⟩) hP hD hS hA [] rfl rfl [(false, 0), (false, 1), (false, 2), (false, 3), (false, 4), (false, 5), (false, 6)] (by decide +kernel) rfl rfl (fun H locs hP hD hS => ?_)
      refine lv_iadd hx hb dX2_busesAt_34 ?_
      refine lv_istore_n (lv' := [(2, .int (a1 + (oneI 1))), (3, .int (nI i)), (0, .ref aR), (1, .int x_)]) hx hb dX2_busesAt_35 rfl hl (by decide) rfl (fun ls hl => ?_)
      refine lv_iinc (v := nI (i + 1)) (lv' := [(3, .int (nI (i + 1))), (2, .int (a1 + (oneI 1))), (0, .ref aR), (1, .int x_)]) hx hb dX2_busesAt_36 hl (k := 1) rfl (nI_1 i) (by decide) rfl (fun ls hl => ?_)
      refine lv_goto (tgt := 4) hx hb dX2_busesAt_39 (by decide) ?_
      exact ih d ((i + 1), (a1 + (oneI 1))) _ _ _ (by omega) ⟨(by omega), (hsp.trans (by first | with_reducible rfl | (simp only [baL, h_1, h_2, if_true, if_false, reduceIte, not_true_eq_false, not_false_eq_true]; done) | (simp [baL, h_1, h_2]; done))), hP, hD, hS, lv_sub hl [0, 1, 2, 3] rfl⟩
set_option maxHeartbeats 4000000 in
set_option maxRecDepth 100000 in
theorem c_X2_busesRunning (l : Launch) (D : va_G) (cyI cyO cyL : ClassId) (aR : Nat) (aW : Nat) (aw : Nat) (af : Nat) (aG : Nat) (ao : Nat) (aB : Nat) (ab : Nat → Nat) (w : Nat → Int32) (f : Nat → Int32) (od : Nat → Int32) (g : Nat → Int32) (bc : Int32) (hr : Int32) (co : Int32) (LB : List Nat) (B : Nat → Nat → Int32) (n : Nat) (hn : n ≤ 6) (hbc : bc = nI n) (hLB : ∀ k, k < 6 → ab k ∈ LB) : cI l yX2_busesRunning wsX2_busesRunning ({ frames := 1, cells := 0, slots := 0, locals := 20 }) D cyI cyO cyL [.ref aR] ((cR cyI cyO aR aW aw af aG ao aB ab w f od g bc hr co) ++ pB LB B) ((cR cyI cyO aR aW aw af aG ao aB ab w f od g bc hr co) ++ pB LB B) (brL B ab n 0 0) := by
  intro sz
  refine Met.ofW (cc := cX2_busesRunning) (maxL := 3) (ret := (some .int)) (by decide) rfl ?_
  intro p e s m args below meth c s₁ B9 hml hv
  obtain ⟨rfl, hsz, hP, hKK, hD0⟩ := hv
  have hx := B9.exec
  have hb := B9.bytes
  have hrt := B9.returns
  have hts := atoms_spec (ws := wsX2_busesRunning) B9.pre
  have hown : s.vm.findClass RX2 = some m.cls := findClass_of_methodNamed B9.named
  have hlocks := B9.notSynchronized
  have nw := fun {w : Cond} (h : w ∈ nw_all) => NW.use (args := ([.ref aR] : List Value).toArray) hKK.2 h
  have iX0 : ∀ w ∈ wsX00, w ∈ wsX2_busesRunning := fun _ h => List.mem_cons_of_mem _ (List.mem_append_right _ h)
  have iX2 : ∀ w ∈ wsX20, w ∈ wsX2_busesRunning := fun _ h => List.mem_cons_of_mem _ (List.mem_append_left _ (List.mem_append_right _ h))
  subst hsz
  have hD := hD0.self (sz := s.heap.size)
  generalize hAe : va_A ((cR cyI cyO aR aW aw af aG ao aB ab w f od g bc hr co) ++ pB LB B) s.heap.size = A at hD ⊢
  have hA : ∀ q : Nat, s.heap.size ≤ q → A q := fun q h => by rw [← hAe]; exact Or.inr h
  have hS : va_S A s.heap s.heap [] := va_S.rf
  have hl := lv_entry ([.ref aR]) (n := 3) (Nat.le_of_ble_eq_true rfl)
  rw [lg_entry_eq]
  generalize (lg_sl ([.ref aR]) ++ List.replicate (3 - (lg_sl ([.ref aR])).length) Slot.unset).toArray = ls at hl ⊢
  have hl : lv_has ls 3 [(0, .ref aR)] := hl
  refine lv_iconst (v := 0) hx hb dX2_busesRunning_0 (by decide) ?_
  refine lv_istore_n (lv' := [(1, .int 0), (0, .ref aR)]) hx hb dX2_busesRunning_1 rfl hl (by decide) rfl (fun ls hl => ?_)
  refine lv_iconst (v := 0) hx hb dX2_busesRunning_2 (by decide) ?_
  refine lv_istore_n (lv' := [(2, .int 0), (1, .int 0), (0, .ref aR)]) hx hb dX2_busesRunning_3 rfl hl (by decide) rfl (fun ls hl => ?_)
  refine wloop (σ := (Nat) × (Int32)) (fun d9 x9 H9 L9 s9 => ((x9.1) + d9 = n) ∧ (brL B ab n 0 0 = brL B ab d9 (x9.1) (x9.2)) ∧ (va_P D vwCl ((cR cyI cyO aR aW aw af aG ao aB ab w f od g bc hr co) ++ pB LB B) H9) ∧ (va_D A ((cR cyI cyO aR aW aw af aG ao aB ab w f od g bc hr co) ++ pB LB B)) ∧ (va_S A s.heap H9 L9) ∧ (lv_has s9 3 [(2, .int (nI (x9.1))), (1, .int (x9.2)), (0, .ref aR)])) (fun d9 x9 H locs ls g9 ih => ?_) n (0, 0) _ _ _ ⟨(by omega), rfl, hP, hD, hS, lv_sub hl [0, 1, 2] rfl⟩
  obtain ⟨i, a1⟩ := x9
  obtain ⟨hid, hsp, hP, hD, hS, hl⟩ := g9
  obtain ⟨d, rfl⟩ : ∃ z, z = d9 := ⟨_, rfl⟩
  have hid : i + d = n := hid
  have hsp : brL B ab n 0 0 = brL B ab d i a1 := hsp
  have hP : va_P D vwCl ((cR cyI cyO aR aW aw af aG ao aB ab w f od g bc hr co) ++ pB LB B) H := hP
  have hD : va_D A ((cR cyI cyO aR aW aw af aG ao aB ab w f od g bc hr co) ++ pB LB B) := hD
  have hl : lv_has ls 3 [(2, .int (nI i)), (1, .int a1), (0, .ref aR)] := hl
  refine lv_iload_n hx hb dX2_busesRunning_4 rfl (lv_at hl 0 rfl) ?_
  refine lv_aload_n hx hb dX2_busesRunning_5 rfl (lv_at hl 2 rfl) ?_
  refine va_get (D := D) (ci := 2) (v := .int bc) (C := RX2) (T := TX2) (N := 6) hx hb hts iX2 hown hKK.1 hP 0 rfl rfl 3 (by decide) (hts (.fieldLink RX2 39 "TrolleyGang$Ring" "busCount" "I") (List.mem_of_getElem? (i := 1) rfl)) (fun _ h9 => h9) rfl dX2_busesRunning_6 ?_
  refine lv_tope (y := nI n) hbc ?_
  refine lv_icmp_ge (tgt := 33) hx hb dX2_busesRunning_9 (by decide) (fun h_1 => ?_) (fun h_1 => ?_)
  · skip
    obtain rfl : d = 0 := by have h9 := (nI_leI (a := n) (b := i) (by omega) (by omega)).mp h_1; omega
    have hiN : i = n := by omega
    refine lv_iload_n hx hb dX2_busesRunning_33 rfl (lv_at hl 1 rfl) ?_
    have e9 : brL B ab n 0 0 = a1 := (hsp.trans (by first | with_reducible rfl | (simp only [brL, h_1, if_true, if_false, reduceIte, not_true_eq_false, not_false_eq_true]; done) | (simp [brL, h_1]; done)))
    exact end_i hx hb hrt hlocks (by rw [e9]) hP hS dX2_busesRunning_34
  · skip
    have hlt : i < n := by have h9 := mt (nI_leI (a := n) (b := i) (by omega) (by omega)).mpr h_1; omega
    obtain ⟨d, rfl⟩ : ∃ k, d = k + 1 := ⟨d - 1, by omega⟩
    refine lv_iload_n hx hb dX2_busesRunning_12 rfl (lv_at hl 1 rfl) ?_
    refine lv_aload_n hx hb dX2_busesRunning_13 rfl (lv_at hl 2 rfl) ?_
    refine va_get (D := D) (ci := 2) (v := .ref aB) (C := RX2) (T := TX2) (N := 6) hx hb hts iX2 hown hKK.1 hP 0 rfl rfl 2 (by decide) (hts (.fieldLink RX2 27 "TrolleyGang$Ring" "buses" "[LTrolleyGang$Bus;") (List.mem_of_getElem? (i := 2) rfl)) (fun _ h9 => h9) rfl dX2_busesRunning_14 ?_
    refine lv_iload_n hx hb dX2_busesRunning_17 rfl (lv_at hl 0 rfl) ?_
    refine va_aldq hx hb hKK.1 hP 6 1 rfl rfl (hin := (vp_in_nI (show i < 6 by omega) (by omega))) dX2_busesRunning_18 ?_
    refine lv_topv (y := .ref (ab i)) (by rw [nI_clamp (by omega)]; rfl) ?_
    refine bus_getN hx hb hts iX0 hown hKK hP (hLB i (by omega)) 2 (by decide) (nw (w := .fieldLinkNest "TrolleyGang$Ring" 103 "TrolleyGang$Bus" "runs" "Z" "TrolleyGang") nq_59) (fun _ h9 => h9) dX2_busesRunning_19 ?_
    have hPc := hP.sub (ws' := ([] : va_W)) [] rfl
    have hDc := hD.sub (ws' := ([] : va_W)) [] (by decide) rfl
    refine ret_iP (W1 := ([] : va_W)) (W2 := ([] : va_W)) (X1 := cR cyI cyO aR aW aw af aG ao aB ab w f od g bc hr co) (r := oneI (B (ab i) 2)) (run_SN (n := 1) (As := [.int (B (ab i) 2)]) (rest := [.int a1]) ⟨hx, hb, hml, hown, hts⟩ (c_X5_oneIf l D cyI cyO cyL (B (ab i) 2) _) ggX2_busesRunning_X5_oneIf rfl rfl rfl nq_3 (hts (.initialized RX5) (List.mem_of_getElem? (i := 4) rfl)) (hts (.static yX5_oneIf) (List.mem_of_getElem? (i := 3) rfl)) (by decide +kernel) ⟨Nat.le_of_ble_eq_true rfl, Nat.le_of_ble_eq_true rfl⟩ hKK hPc hDc rfl hl.1 rfl (Nat.le_of_ble_eq_true rfl) dX2_busesRunning_22 ⟨Nat.zero_le _, Nat.zero_le _⟩) hP hD hS hA [] rfl rfl [(false, 0), (false, 1), (false, 2), (false, 3), (false, 4), (false, 5), (false, 6)] (by decide +kernel) rfl rfl (fun H locs hP hD hS => ?_)
    refine lv_iadd hx hb dX2_busesRunning_25 ?_
    refine lv_istore_n (lv' := [(1, .int (a1 + (oneI (B (ab i) 2)))), (2, .int (nI i)), (0, .ref aR)]) hx hb dX2_busesRunning_26 rfl hl (by decide) rfl (fun ls hl => ?_)
    refine lv_iinc (v := nI (i + 1)) (lv' := [(2, .int (nI (i + 1))), (1, .int (a1 + (oneI (B (ab i) 2)))), (0, .ref aR)]) hx hb dX2_busesRunning_27 hl (k := 1) rfl (nI_1 i) (by decide) rfl (fun ls hl => ?_)
    refine lv_goto (tgt := 4) hx hb dX2_busesRunning_30 (by decide) ?_
    exact ih d ((i + 1), (a1 + (oneI (B (ab i) 2)))) _ _ _ (by omega) ⟨(by omega), (hsp.trans (by first | with_reducible rfl | (simp only [brL, h_1, if_true, if_false, reduceIte, not_true_eq_false, not_false_eq_true]; done) | (simp [brL, h_1]; done))), hP, hD, hS, lv_sub hl [0, 1, 2] rfl⟩
set_option maxHeartbeats 4000000 in
set_option maxRecDepth 100000 in
theorem c_X2_hoursStuckInAll (l : Launch) (D : va_G) (cyI cyO cyL : ClassId) (aR : Nat) (aW : Nat) (aw : Nat) (af : Nat) (aG : Nat) (ao : Nat) (aB : Nat) (ab : Nat → Nat) (w : Nat → Int32) (f : Nat → Int32) (od : Nat → Int32) (g : Nat → Int32) (bc : Int32) (hr : Int32) (co : Int32) (LB : List Nat) (B : Nat → Nat → Int32) (n : Nat) (hn : n ≤ 6) (hbc : bc = nI n) (hLB : ∀ k, k < 6 → ab k ∈ LB) : cI l yX2_hoursStuckInAll wsX2_hoursStuckInAll ({ frames := 0, cells := 0, slots := 0, locals := 0 }) D cyI cyO cyL [.ref aR] ((cR cyI cyO aR aW aw af aG ao aB ab w f od g bc hr co) ++ pB LB B) ((cR cyI cyO aR aW aw af aG ao aB ab w f od g bc hr co) ++ pB LB B) (bsL B ab n 0 0) := by
  intro sz
  refine Met.ofW (cc := cX2_hoursStuckInAll) (maxL := 3) (ret := (some .int)) (by decide) rfl ?_
  intro p e s m args below meth c s₁ B9 hml hv
  obtain ⟨rfl, hsz, hP, hKK, hD0⟩ := hv
  have hx := B9.exec
  have hb := B9.bytes
  have hrt := B9.returns
  have hts := atoms_spec (ws := wsX2_hoursStuckInAll) B9.pre
  have hown : s.vm.findClass RX2 = some m.cls := findClass_of_methodNamed B9.named
  have hlocks := B9.notSynchronized
  have nw := fun {w : Cond} (h : w ∈ nw_all) => NW.use (args := ([.ref aR] : List Value).toArray) hKK.2 h
  have iX0 : ∀ w ∈ wsX00, w ∈ wsX2_hoursStuckInAll := fun _ h => List.mem_cons_of_mem _ (List.mem_append_right _ h)
  have iX2 : ∀ w ∈ wsX20, w ∈ wsX2_hoursStuckInAll := fun _ h => List.mem_cons_of_mem _ (List.mem_append_left _ (List.mem_append_right _ h))
  subst hsz
  have hD := hD0.self (sz := s.heap.size)
  generalize hAe : va_A ((cR cyI cyO aR aW aw af aG ao aB ab w f od g bc hr co) ++ pB LB B) s.heap.size = A at hD ⊢
  have hA : ∀ q : Nat, s.heap.size ≤ q → A q := fun q h => by rw [← hAe]; exact Or.inr h
  have hS : va_S A s.heap s.heap [] := va_S.rf
  have hl := lv_entry ([.ref aR]) (n := 3) (Nat.le_of_ble_eq_true rfl)
  rw [lg_entry_eq]
  generalize (lg_sl ([.ref aR]) ++ List.replicate (3 - (lg_sl ([.ref aR])).length) Slot.unset).toArray = ls at hl ⊢
  have hl : lv_has ls 3 [(0, .ref aR)] := hl
  refine lv_iconst (v := 0) hx hb dX2_hoursStuckInAll_0 (by decide) ?_
  refine lv_istore_n (lv' := [(1, .int 0), (0, .ref aR)]) hx hb dX2_hoursStuckInAll_1 rfl hl (by decide) rfl (fun ls hl => ?_)
  refine lv_iconst (v := 0) hx hb dX2_hoursStuckInAll_2 (by decide) ?_
  refine lv_istore_n (lv' := [(2, .int 0), (1, .int 0), (0, .ref aR)]) hx hb dX2_hoursStuckInAll_3 rfl hl (by decide) rfl (fun ls hl => ?_)
  refine wloop (σ := (Nat) × (Int32)) (fun d9 x9 H9 L9 s9 => ((x9.1) + d9 = n) ∧ (bsL B ab n 0 0 = bsL B ab d9 (x9.1) (x9.2)) ∧ (va_P D vwCl ((cR cyI cyO aR aW aw af aG ao aB ab w f od g bc hr co) ++ pB LB B) H9) ∧ (va_D A ((cR cyI cyO aR aW aw af aG ao aB ab w f od g bc hr co) ++ pB LB B)) ∧ (va_S A s.heap H9 L9) ∧ (lv_has s9 3 [(2, .int (nI (x9.1))), (1, .int (x9.2)), (0, .ref aR)])) (fun d9 x9 H locs ls g9 ih => ?_) n (0, 0) _ _ _ ⟨(by omega), rfl, hP, hD, hS, lv_sub hl [0, 1, 2] rfl⟩
  obtain ⟨i, a1⟩ := x9
  obtain ⟨hid, hsp, hP, hD, hS, hl⟩ := g9
  obtain ⟨d, rfl⟩ : ∃ z, z = d9 := ⟨_, rfl⟩
  have hid : i + d = n := hid
  have hsp : bsL B ab n 0 0 = bsL B ab d i a1 := hsp
  have hP : va_P D vwCl ((cR cyI cyO aR aW aw af aG ao aB ab w f od g bc hr co) ++ pB LB B) H := hP
  have hD : va_D A ((cR cyI cyO aR aW aw af aG ao aB ab w f od g bc hr co) ++ pB LB B) := hD
  have hl : lv_has ls 3 [(2, .int (nI i)), (1, .int a1), (0, .ref aR)] := hl
  refine lv_iload_n hx hb dX2_hoursStuckInAll_4 rfl (lv_at hl 0 rfl) ?_
  refine lv_aload_n hx hb dX2_hoursStuckInAll_5 rfl (lv_at hl 2 rfl) ?_
  refine va_get (D := D) (ci := 2) (v := .int bc) (C := RX2) (T := TX2) (N := 6) hx hb hts iX2 hown hKK.1 hP 0 rfl rfl 3 (by decide) (hts (.fieldLink RX2 39 "TrolleyGang$Ring" "busCount" "I") (List.mem_of_getElem? (i := 1) rfl)) (fun _ h9 => h9) rfl dX2_hoursStuckInAll_6 ?_
  refine lv_tope (y := nI n) hbc ?_
  refine lv_icmp_ge (tgt := 30) hx hb dX2_hoursStuckInAll_9 (by decide) (fun h_1 => ?_) (fun h_1 => ?_)
  · skip
    obtain rfl : d = 0 := by have h9 := (nI_leI (a := n) (b := i) (by omega) (by omega)).mp h_1; omega
    have hiN : i = n := by omega
    refine lv_iload_n hx hb dX2_hoursStuckInAll_30 rfl (lv_at hl 1 rfl) ?_
    have e9 : bsL B ab n 0 0 = a1 := (hsp.trans (by first | with_reducible rfl | (simp only [bsL, h_1, if_true, if_false, reduceIte, not_true_eq_false, not_false_eq_true]; done) | (simp [bsL, h_1]; done)))
    exact end_i hx hb hrt hlocks (by rw [e9]) hP hS dX2_hoursStuckInAll_31
  · skip
    have hlt : i < n := by have h9 := mt (nI_leI (a := n) (b := i) (by omega) (by omega)).mpr h_1; omega
    obtain ⟨d, rfl⟩ : ∃ k, d = k + 1 := ⟨d - 1, by omega⟩
    refine lv_iload_n hx hb dX2_hoursStuckInAll_12 rfl (lv_at hl 1 rfl) ?_
    refine lv_aload_n hx hb dX2_hoursStuckInAll_13 rfl (lv_at hl 2 rfl) ?_
    refine va_get (D := D) (ci := 2) (v := .ref aB) (C := RX2) (T := TX2) (N := 6) hx hb hts iX2 hown hKK.1 hP 0 rfl rfl 2 (by decide) (hts (.fieldLink RX2 27 "TrolleyGang$Ring" "buses" "[LTrolleyGang$Bus;") (List.mem_of_getElem? (i := 2) rfl)) (fun _ h9 => h9) rfl dX2_hoursStuckInAll_14 ?_
    refine lv_iload_n hx hb dX2_hoursStuckInAll_17 rfl (lv_at hl 0 rfl) ?_
    refine va_aldq hx hb hKK.1 hP 6 1 rfl rfl (hin := (vp_in_nI (show i < 6 by omega) (by omega))) dX2_hoursStuckInAll_18 ?_
    refine lv_topv (y := .ref (ab i)) (by rw [nI_clamp (by omega)]; rfl) ?_
    refine bus_getN hx hb hts iX0 hown hKK hP (hLB i (by omega)) 5 (by decide) (nw (w := .fieldLinkNest "TrolleyGang$Ring" 110 "TrolleyGang$Bus" "hoursStuck" "I" "TrolleyGang") nq_65) (fun _ h9 => h9) dX2_hoursStuckInAll_19 ?_
    refine lv_iadd hx hb dX2_hoursStuckInAll_22 ?_
    refine lv_istore_n (lv' := [(1, .int (a1 + (B (ab i) 5))), (2, .int (nI i)), (0, .ref aR)]) hx hb dX2_hoursStuckInAll_23 rfl hl (by decide) rfl (fun ls hl => ?_)
    refine lv_iinc (v := nI (i + 1)) (lv' := [(2, .int (nI (i + 1))), (1, .int (a1 + (B (ab i) 5))), (0, .ref aR)]) hx hb dX2_hoursStuckInAll_24 hl (k := 1) rfl (nI_1 i) (by decide) rfl (fun ls hl => ?_)
    refine lv_goto (tgt := 4) hx hb dX2_hoursStuckInAll_27 (by decide) ?_
    exact ih d ((i + 1), (a1 + (B (ab i) 5))) _ _ _ (by omega) ⟨(by omega), (hsp.trans (by first | with_reducible rfl | (simp only [bsL, h_1, if_true, if_false, reduceIte, not_true_eq_false, not_false_eq_true]; done) | (simp [bsL, h_1]; done))), hP, hD, hS, lv_sub hl [0, 1, 2] rfl⟩
