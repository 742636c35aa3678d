set_option maxHeartbeats 4000000 in
set_option maxRecDepth 100000 in
theorem c_X2_letHourGoBy (l : Launch) (D : va_G) (cyI cyO cyL : ClassId) (aR : Nat) (aW : Nat) (aw : Nat) (af : Nat) (aG : Nat) (ao : Nat) (aB : Nat) (aT : Nat) (ac : Nat) (as_ : Nat) (ab : Nat → Nat) (w : Nat → Int32) (f : Nat → Int32) (od : Nat → Int32) (g : Nat → Int32) (bc : Int32) (hr : Int32) (co : Int32) (cd : Nat → Int32) (sw : Nat → Int32) (fd : Int32) (fn : Int32) (LB : List Nat) (B : Nat → Nat → Int32) (n : Nat) (hn : n ≤ 6) (hbc : bc = nI n) (hLB : ∀ k, k < 6 → ab k ∈ LB) (hok : OkR od g B hr) (hsw : ∀ k, sw k = -1 ∨ vp_in (sw k) 24) : cV l yX2_letHourGoBy wsX2_letHourGoBy ({ frames := 4, cells := 0, slots := 0, locals := 78 }) D cyI cyO cyL [.ref aR, .ref aT] ((cR cyI cyO aR aW aw af aG ao aB ab w f od g bc hr co ++ cT cyI aT ac as_ cd sw fd fn) ++ pB LB B) ((cR cyI cyO aR aW aw af aG ao aB ab ((hourS cd sw fd fn ab n w f od g B co hr).1) ((hourS cd sw fd fn ab n w f od g B co hr).2.1) ((hourS cd sw fd fn ab n w f od g B co hr).2.2.1) ((hourS cd sw fd fn ab n w f od g B co hr).2.2.2.1) bc ((hourS cd sw fd fn ab n w f od g B co hr).2.2.2.2.2.2) ((hourS cd sw fd fn ab n w f od g B co hr).2.2.2.2.2.1) ++ cT cyI aT ac as_ cd sw fd fn) ++ pB LB ((hourS cd sw fd fn ab n w f od g B co hr).2.2.2.2.1)) := by
  intro sz
  refine Met.ofW (cc := cX2_letHourGoBy) (maxL := 5) (ret := none) (by decide) rfl ?_
  intro p e s m args below meth c s₁ B9 hml hv
  obtain ⟨rfl, hsz, hP, hKK, hD0⟩ := hv
  have hx := B9.exec
  have hb := B9.bytes
  have hrt := B9.returns
  have hts := atoms_spec (ws := wsX2_letHourGoBy) B9.pre
  have hown : s.vm.findClass RX2 = some m.cls := findClass_of_methodNamed B9.named
  have hlocks := B9.notSynchronized
  have nw := fun {w : Cond} (h : w ∈ nw_all) => NW.use (args := ([.ref aR, .ref aT] : List Value).toArray) hKK.2 h
  have iX2 : ∀ w ∈ wsX20, w ∈ wsX2_letHourGoBy := fun _ h => List.mem_cons_of_mem _ (List.mem_append_left _ (List.mem_append_left _ (List.mem_append_left _ (List.mem_append_left _ (List.mem_append_right _ h)))))
  have iX3 : ∀ w ∈ wsX30, w ∈ wsX2_letHourGoBy := fun _ h => List.mem_cons_of_mem _ (List.mem_append_left _ (List.mem_append_left _ (List.mem_append_left _ (List.mem_append_right _ h))))
  subst hsz
  have hD := hD0.self (sz := s.heap.size)
  generalize hAe : va_A ((cR cyI cyO aR aW aw af aG ao aB ab w f od g bc hr co ++ cT cyI aT ac as_ cd sw fd fn) ++ pB LB B) s.heap.size = A at hD ⊢
  have hA : ∀ q : Nat, s.heap.size ≤ q → A q := fun q h => by rw [← hAe]; exact Or.inr h
  have hS : va_S A s.heap s.heap [] := va_S.rf
  have hl := lv_entry ([.ref aR, .ref aT]) (n := 5) (Nat.le_of_ble_eq_true rfl)
  rw [lg_entry_eq]
  generalize (lg_sl ([.ref aR, .ref aT]) ++ List.replicate (5 - (lg_sl ([.ref aR, .ref aT])).length) Slot.unset).toArray = ls at hl ⊢
  have hl : lv_has ls 5 [(0, .ref aR), (1, .ref aT)] := hl
  obtain ⟨m, hm, hom⟩ := hok.1
  refine lv_aload_n hx hb dX2_letHourGoBy_0 rfl (lv_at hl 0 rfl) ?_
  refine va_get (D := D) (ci := 2) (v := .int hr) (C := RX2) (T := TX2) (N := 6) hx hb hts iX2 hown hKK.1 hP 0 rfl rfl 4 (by decide) (hts (.fieldLink RX2 46 "TrolleyGang$Ring" "hour" "I") (List.mem_of_getElem? (i := 1) rfl)) (fun _ h9 => h9) rfl dX2_letHourGoBy_1 ?_
  have hPc := hP.sub (ws' := ([] : va_W)) [] rfl
  have hDc := hD.sub (ws' := ([] : va_W)) [] (by decide) rfl
  refine ret_iP (W1 := ([] : va_W)) (W2 := ([] : va_W)) (X1 := cR cyI cyO aR aW aw af aG ao aB ab w f od g bc hr co ++ cT cyI aT ac as_ cd sw fd fn) (r := ntI hr) (run_SN (n := 1) (As := [.int hr]) (rest := []) ⟨hx, hb, hml, hown, hts⟩ (c_X5_isNightAt l D cyI cyO cyL hr hok.2.2.2.2 _) ggX2_letHourGoBy_X5_isNightAt rfl rfl rfl nq_8 (hts (.initialized RX5) (List.mem_of_getElem? (i := 6) rfl)) (hts (.static yX5_isNightAt) (List.mem_of_getElem? (i := 5) rfl)) (by decide +kernel) ⟨Nat.le_of_ble_eq_true rfl, Nat.le_of_ble_eq_true rfl⟩ hKK hPc hDc rfl hl.1 rfl (Nat.le_of_ble_eq_true rfl) dX2_letHourGoBy_4 ⟨Nat.zero_le _, Nat.zero_le _⟩) hP hD hS hA [] rfl rfl [(false, 0), (false, 1), (false, 2), (false, 3), (false, 4), (false, 5), (false, 6), (false, 7), (false, 8), (false, 9)] (by decide +kernel) rfl rfl (fun H locs hP hD hS => ?_)
  refine lv_istore_n (lv' := [(2, .int (ntI hr)), (0, .ref aR), (1, .ref aT)]) hx hb dX2_letHourGoBy_7 rfl hl (by decide) rfl (fun ls hl => ?_)
  refine lv_iload_n hx hb dX2_letHourGoBy_8 rfl (lv_at hl 0 rfl) ?_
  refine wjoin (σ := (Nat → Int32)) (tgt := 43) (st1 := fun x9 => []) (fun x9 H9 L9 s9 => (x9 = frS cd hr f) ∧ (va_P D vwCl ((cR cyI cyO aR aW aw af aG ao aB ab w x9 od g bc hr co ++ cT cyI aT ac as_ cd sw fd fn) ++ pB LB B) H9) ∧ (va_D A ((cR cyI cyO aR aW aw af aG ao aB ab w x9 od g bc hr co ++ cT cyI aT ac as_ cd sw fd fn) ++ pB LB B)) ∧ (va_S A s.heap H9 L9) ∧ (lv_has s9 5 [(2, .int (ntI hr)), (0, .ref aR), (1, .ref aT)])) (fun KJ => ?_) (fun x9 H locs ls g9 => ?_)
  · skip
    refine lv_if_eq (tgt := 36) hx hb dX2_letHourGoBy_9 (by decide) (fun h_1 => ?_) (fun h_1 => ?_)
    · skip
      refine lv_aload_n hx hb dX2_letHourGoBy_36 rfl (lv_at hl 1 rfl) ?_
      refine va_get (D := D) (ci := 2) (v := .ref aW) (C := RX2) (T := TX2) (N := 6) hx hb hts iX2 hown hKK.1 hP 0 rfl rfl 0 (by decide) (hts (.fieldLink RX2 12 "TrolleyGang$Ring" "wires" "LTrolleyGang$Wires;") (List.mem_of_getElem? (i := 2) rfl)) (fun _ h9 => h9) rfl dX2_letHourGoBy_37 ?_
      have hPc := hP.sub (ws' := (cW cyI aW aw af w f)) [1, 2, 3] rfl
      have hDc := hD.sub (ws' := (cW cyI aW aw af w f)) [1, 2, 3] (by decide) rfl
      refine ret_vP (W1 := (cW cyI aW aw af w f)) (W2 := (cW cyI aW aw af w (thwL 24 0 f))) (X1 := cR cyI cyO aR aW aw af aG ao aB ab w (thwL 24 0 f) od g bc hr co ++ cT cyI aT ac as_ cd sw fd fn) (run_VN (q := (RX4, TX4, 2)) (n := 0) (As := []) (rest := []) ⟨hx, hb, hml, hown, hts⟩ (c_X4_thaw l D cyI cyO cyL aW aw af w f _) ggX2_letHourGoBy_X4_thaw rfl rfl rfl nq_15 (hts (.initialized RX4) (List.mem_of_getElem? (i := 14) rfl)) (hts (.instanceMethod yX4_thaw) (List.mem_of_getElem? (i := 22) rfl)) (hts (.selects RX4 yX4_thaw yX4_thaw) (List.mem_of_getElem? (i := 23) rfl)) (by decide +kernel) ⟨Nat.le_of_ble_eq_true rfl, Nat.le_of_ble_eq_true rfl⟩ hKK hPc hDc (ci := 4) (q0 := 0) rfl rfl rfl hl.1 rfl (Nat.le_of_ble_eq_true rfl) dX2_letHourGoBy_40 ⟨Nat.zero_le _, Nat.zero_le _⟩) hP hD hS hA [1, 2, 3] rfl rfl [(false, 0), (true, 0), (true, 1), (true, 2), (false, 4), (false, 5), (false, 6), (false, 7), (false, 8), (false, 9)] (by decide +kernel) rfl rfl (fun H locs hP hD hS => ?_)
      exact KJ (thwL 24 0 f) _ _ _ ⟨(by first | exact (if_pos h_1).symm | exact (if_neg h_1).symm), hP, hD, hS, lv_sub hl [0, 1, 2] rfl⟩
    · skip
      refine lv_aload_n hx hb dX2_letHourGoBy_12 rfl (lv_at hl 1 rfl) ?_
      refine va_get (D := D) (ci := 2) (v := .ref aW) (C := RX2) (T := TX2) (N := 6) hx hb hts iX2 hown hKK.1 hP 0 rfl rfl 0 (by decide) (hts (.fieldLink RX2 12 "TrolleyGang$Ring" "wires" "LTrolleyGang$Wires;") (List.mem_of_getElem? (i := 2) rfl)) (fun _ h9 => h9) rfl dX2_letHourGoBy_13 ?_
      refine lv_aload_n hx hb dX2_letHourGoBy_16 rfl (lv_at hl 2 rfl) ?_
      refine va_getN (D := D) (ci := 3) (v := .ref ac) (C := RX3) (T := TX3) (N := 4) hx hb hts iX3 hown hKK.1 hP 7 rfl rfl 0 (by decide) (nw (w := .fieldLinkNest "TrolleyGang$Ring" 60 "TrolleyGang$Tables" "colds" "[I" "TrolleyGang") nq_30) (fun _ h9 => h9) rfl dX2_letHourGoBy_17 ?_
      refine lv_aload_n hx hb dX2_letHourGoBy_20 rfl (lv_at hl 1 rfl) ?_
      refine va_get (D := D) (ci := 2) (v := .int hr) (C := RX2) (T := TX2) (N := 6) hx hb hts iX2 hown hKK.1 hP 0 rfl rfl 4 (by decide) (hts (.fieldLink RX2 46 "TrolleyGang$Ring" "hour" "I") (List.mem_of_getElem? (i := 1) rfl)) (fun _ h9 => h9) rfl dX2_letHourGoBy_21 ?_
      refine lv_bipush (v := 8) hx hb dX2_letHourGoBy_24 (by decide) ?_
      have hPc := hP.sub (ws' := ([] : va_W)) [] rfl
      have hDc := hD.sub (ws' := ([] : va_W)) [] (by decide) rfl
      refine ret_iP (W1 := ([] : va_W)) (W2 := ([] : va_W)) (X1 := cR cyI cyO aR aW aw af aG ao aB ab w f od g bc hr co ++ cT cyI aT ac as_ cd sw fd fn) (r := ir hr 8) (run_S (n := 2) (As := [.int hr, .int 8]) (rest := [.ref ac, .ref aW]) ⟨hx, hb, hml, hown, hts⟩ (c_J9_floorMod_7cf53 l D cyI cyO cyL hr 8 (by decide) (fmod_h8 hok.2.2.2.2) _) ggX2_letHourGoBy_J9_floorMod_7cf53 rfl rfl rfl (hts (.methodLink RX2 66 yJ9_floorMod_7cf53) (List.mem_of_getElem? (i := 12) rfl)) (hts (.initialized RJ9) (List.mem_of_getElem? (i := 10) rfl)) (hts (.static yJ9_floorMod_7cf53) (List.mem_of_getElem? (i := 9) rfl)) (by decide +kernel) ⟨Nat.le_of_ble_eq_true rfl, Nat.le_of_ble_eq_true rfl⟩ hKK hPc hDc rfl hl.1 rfl (Nat.le_of_ble_eq_true rfl) dX2_letHourGoBy_26 ⟨Nat.zero_le _, Nat.zero_le _⟩) hP hD hS hA [] rfl rfl [(false, 0), (false, 1), (false, 2), (false, 3), (false, 4), (false, 5), (false, 6), (false, 7), (false, 8), (false, 9)] (by decide +kernel) rfl rfl (fun H locs hP hD hS => ?_)
      refine va_iald hx hb hKK.1 hP 8 0 rfl rfl (hin := (ir_in8 hok.2.2.2.2)) dX2_letHourGoBy_29 ?_
      have hPc := hP.sub (ws' := (cW cyI aW aw af w f)) [1, 2, 3] rfl
      have hDc := hD.sub (ws' := (cW cyI aW aw af w f)) [1, 2, 3] (by decide) rfl
      refine ret_vP (W1 := (cW cyI aW aw af w f)) (W2 := (cW cyI aW aw af w (frzL (cd (ir hr 8).toNatClampNeg) 24 0 f))) (X1 := cR cyI cyO aR aW aw af aG ao aB ab w (frzL (cd (ir hr 8).toNatClampNeg) 24 0 f) od g bc hr co ++ cT cyI aT ac as_ cd sw fd fn) (run_VN (q := (RX4, TX4, 2)) (n := 1) (As := [.int (cd (ir hr 8).toNatClampNeg)]) (rest := []) ⟨hx, hb, hml, hown, hts⟩ (c_X4_freeze l D cyI cyO cyL aW aw af w f (cd (ir hr 8).toNatClampNeg) _) ggX2_letHourGoBy_X4_freeze rfl rfl rfl nq_14 (hts (.initialized RX4) (List.mem_of_getElem? (i := 14) rfl)) (hts (.instanceMethod yX4_freeze) (List.mem_of_getElem? (i := 13) rfl)) (hts (.selects RX4 yX4_freeze yX4_freeze) (List.mem_of_getElem? (i := 15) rfl)) (by decide +kernel) ⟨Nat.le_of_ble_eq_true rfl, Nat.le_of_ble_eq_true rfl⟩ hKK hPc hDc (ci := 4) (q0 := 0) rfl rfl rfl hl.1 rfl (Nat.le_of_ble_eq_true rfl) dX2_letHourGoBy_30 ⟨Nat.zero_le _, Nat.zero_le _⟩) hP hD hS hA [1, 2, 3] rfl rfl [(false, 0), (true, 0), (true, 1), (true, 2), (false, 4), (false, 5), (false, 6), (false, 7), (false, 8), (false, 9)] (by decide +kernel) rfl rfl (fun H locs hP hD hS => ?_)
      refine lv_goto (tgt := 43) hx hb dX2_letHourGoBy_33 (by decide) ?_
      exact KJ (frzL (cd (ir hr 8).toNatClampNeg) 24 0 f) _ _ _ ⟨(by first | exact (if_pos h_1).symm | exact (if_neg h_1).symm), hP, hD, hS, lv_sub hl [0, 1, 2] rfl⟩
  · skip
    obtain ⟨f1, rfl⟩ : ∃ z, z = x9 := ⟨_, rfl⟩
    obtain ⟨hf, hP, hD, hS, hl⟩ := g9
    have hf : f1 = frS cd hr f := hf
    have hP : va_P D vwCl ((cR cyI cyO aR aW aw af aG ao aB ab w f1 od g bc hr co ++ cT cyI aT ac as_ cd sw fd fn) ++ pB LB B) H := hP
    have hD : va_D A ((cR cyI cyO aR aW aw af aG ao aB ab w f1 od g bc hr co ++ cT cyI aT ac as_ cd sw fd fn) ++ pB LB B) := hD
    have hl : lv_has ls 5 [(2, .int (ntI hr)), (0, .ref aR), (1, .ref aT)] := hl
    refine lv_aload_n hx hb dX2_letHourGoBy_43 rfl (lv_at hl 1 rfl) ?_
    refine lv_aload_n hx hb dX2_letHourGoBy_44 rfl (lv_at hl 2 rfl) ?_
    refine va_getN (D := D) (ci := 3) (v := .ref as_) (C := RX3) (T := TX3) (N := 4) hx hb hts iX3 hown hKK.1 hP 7 rfl rfl 1 (by decide) (nw (w := .fieldLinkNest "TrolleyGang$Ring" 79 "TrolleyGang$Tables" "swans" "[I" "TrolleyGang") nq_32) (fun _ h9 => h9) rfl dX2_letHourGoBy_45 ?_
    refine lv_aload_n hx hb dX2_letHourGoBy_48 rfl (lv_at hl 1 rfl) ?_
    refine va_get (D := D) (ci := 2) (v := .int hr) (C := RX2) (T := TX2) (N := 6) hx hb hts iX2 hown hKK.1 hP 0 rfl rfl 4 (by decide) (hts (.fieldLink RX2 46 "TrolleyGang$Ring" "hour" "I") (List.mem_of_getElem? (i := 1) rfl)) (fun _ h9 => h9) rfl dX2_letHourGoBy_49 ?_
    refine lv_bipush (v := 12) hx hb dX2_letHourGoBy_52 (by decide) ?_
    have hPc := hP.sub (ws' := ([] : va_W)) [] rfl
    have hDc := hD.sub (ws' := ([] : va_W)) [] (by decide) rfl
    refine ret_iP (W1 := ([] : va_W)) (W2 := ([] : va_W)) (X1 := cR cyI cyO aR aW aw af aG ao aB ab w f1 od g bc hr co ++ cT cyI aT ac as_ cd sw fd fn) (r := ir hr 12) (run_S (n := 2) (As := [.int hr, .int 12]) (rest := [.ref as_, .ref aR]) ⟨hx, hb, hml, hown, hts⟩ (c_J9_floorMod_7cf53 l D cyI cyO cyL hr 12 (by decide) (fmod_h12 hok.2.2.2.2) _) ggX2_letHourGoBy_J9_floorMod_7cf53 rfl rfl rfl (hts (.methodLink RX2 66 yJ9_floorMod_7cf53) (List.mem_of_getElem? (i := 12) rfl)) (hts (.initialized RJ9) (List.mem_of_getElem? (i := 10) rfl)) (hts (.static yJ9_floorMod_7cf53) (List.mem_of_getElem? (i := 9) rfl)) (by decide +kernel) ⟨Nat.le_of_ble_eq_true rfl, Nat.le_of_ble_eq_true rfl⟩ hKK hPc hDc rfl hl.1 rfl (Nat.le_of_ble_eq_true rfl) dX2_letHourGoBy_54 ⟨Nat.zero_le _, Nat.zero_le _⟩) hP hD hS hA [] rfl rfl [(false, 0), (false, 1), (false, 2), (false, 3), (false, 4), (false, 5), (false, 6), (false, 7), (false, 8), (false, 9)] (by decide +kernel) rfl rfl (fun H locs hP hD hS => ?_)
    refine va_iald hx hb hKK.1 hP 9 0 rfl rfl (hin := (ir_in12 hok.2.2.2.2)) dX2_letHourGoBy_57 ?_
    have hPc := hP.sub (ws' := (cR cyI cyO aR aW aw af aG ao aB ab w f1 od g bc hr co)) [0, 1, 2, 3, 4, 5, 6] rfl
    have hDc := hD.sub (ws' := (cR cyI cyO aR aW aw af aG ao aB ab w f1 od g bc hr co)) [0, 1, 2, 3, 4, 5, 6] (by decide) rfl
    refine ret_vP (W1 := (cR cyI cyO aR aW aw af aG ao aB ab w f1 od g bc hr co)) (W2 := (cR cyI cyO aR aW aw af aG ao aB ab (swanS w (sw (ir hr 12).toNatClampNeg)) f1 od g bc hr co)) (X1 := cR cyI cyO aR aW aw af aG ao aB ab (swanS w (sw (ir hr 12).toNatClampNeg)) f1 od g bc hr co ++ cT cyI aT ac as_ cd sw fd fn) (run_V (q := (RX2, TX2, 6)) (n := 1) (As := [.int (sw (ir hr 12).toNatClampNeg)]) (rest := []) ⟨hx, hb, hml, hown, hts⟩ (c_X2_letSwanFly l D cyI cyO cyL aR aW aw af aG ao aB ab w f1 od g bc hr co (sw (ir hr 12).toNatClampNeg) (hsw _) _) ggX2_letHourGoBy_X2_letSwanFly rfl rfl rfl (hts (.methodLink RX2 82 yX2_letSwanFly) (List.mem_of_getElem? (i := 28) rfl)) (hts (.initialized RX2) (List.mem_of_getElem? (i := 31) rfl)) (hts (.instanceMethod yX2_letSwanFly) (List.mem_of_getElem? (i := 29) rfl)) (hts (.selects RX2 yX2_letSwanFly yX2_letSwanFly) (List.mem_of_getElem? (i := 30) rfl)) (by decide +kernel) ⟨Nat.le_of_ble_eq_true rfl, Nat.le_of_ble_eq_true rfl⟩ hKK hPc hDc (ci := 2) (q0 := 0) rfl rfl rfl hl.1 rfl (Nat.le_of_ble_eq_true rfl) dX2_letHourGoBy_58 ⟨Nat.zero_le _, Nat.zero_le _⟩) hP hD hS hA [0, 1, 2, 3, 4, 5, 6] rfl rfl [(true, 0), (true, 1), (true, 2), (true, 3), (true, 4), (true, 5), (true, 6), (false, 7), (false, 8), (false, 9)] (by decide +kernel) rfl rfl (fun H locs hP hD hS => ?_)
    refine lv_aload_n hx hb dX2_letHourGoBy_61 rfl (lv_at hl 2 rfl) ?_
    refine lv_iload_n hx hb dX2_letHourGoBy_62 rfl (lv_at hl 0 rfl) ?_
    have hPc := hP.sub (ws' := (cT cyI aT ac as_ cd sw fd fn)) [7, 8, 9] rfl
    have hDc := hD.sub (ws' := (cT cyI aT ac as_ cd sw fd fn)) [7, 8, 9] (by decide) rfl
    refine ret_iP (W1 := (cT cyI aT ac as_ cd sw fd fn)) (W2 := (cT cyI aT ac as_ cd sw fd fn)) (X1 := cR cyI cyO aR aW aw af aG ao aB ab (swanS w (sw (ir hr 12).toNatClampNeg)) f1 od g bc hr co ++ cT cyI aT ac as_ cd sw fd fn) (r := fareS (ntI hr) fd fn) (run_VN (q := (RX3, TX3, 4)) (n := 1) (As := [.int (ntI hr)]) (rest := []) ⟨hx, hb, hml, hown, hts⟩ (c_X3_fare l D cyI cyO cyL aT ac as_ cd sw fd fn (ntI hr) _) ggX2_letHourGoBy_X3_fare rfl rfl rfl nq_18 (hts (.initialized RX3) (List.mem_of_getElem? (i := 41) rfl)) (hts (.instanceMethod yX3_fare) (List.mem_of_getElem? (i := 40) rfl)) (hts (.selects RX3 yX3_fare yX3_fare) (List.mem_of_getElem? (i := 42) rfl)) (by decide +kernel) ⟨Nat.le_of_ble_eq_true rfl, Nat.le_of_ble_eq_true rfl⟩ hKK hPc hDc (ci := 3) (q0 := 0) rfl rfl rfl hl.1 rfl (Nat.le_of_ble_eq_true rfl) dX2_letHourGoBy_63 ⟨Nat.zero_le _, Nat.zero_le _⟩) hP hD hS hA [7, 8, 9] rfl rfl [(false, 0), (false, 1), (false, 2), (false, 3), (false, 4), (false, 5), (false, 6), (true, 0), (true, 1), (true, 2)] (by decide +kernel) rfl rfl (fun H locs hP hD hS => ?_)
    refine lv_istore_n (lv' := [(3, .int (fareS (ntI hr) fd fn)), (2, .int (ntI hr)), (0, .ref aR), (1, .ref aT)]) hx hb dX2_letHourGoBy_66 rfl hl (by decide) rfl (fun ls hl => ?_)
    refine lv_iconst (v := 0) hx hb dX2_letHourGoBy_67 (by decide) ?_
    refine lv_istore (lv' := [(4, .int 0), (3, .int (fareS (ntI hr) fd fn)), (2, .int (ntI hr)), (0, .ref aR), (1, .ref aT)]) hx hb dX2_letHourGoBy_68 hl (by decide) rfl (fun ls hl => ?_)
    refine wloop (σ := (Nat) × (Nat → Int32) × (Nat → Int32) × (Nat → Nat → Int32) × (Int32)) (fun d9 x9 H9 L9 s9 => ((x9.1) + d9 = n) ∧ (busL ab (fareS (ntI hr) fd fn) n 0 (swanS w (sw (ir hr 12).toNatClampNeg)) f1 B co = busL ab (fareS (ntI hr) fd fn) d9 (x9.1) (x9.2.1) (x9.2.2.1) (x9.2.2.2.1) (x9.2.2.2.2)) ∧ (OkB (x9.2.2.2.1)) ∧ (va_P D vwCl ((cR cyI cyO aR aW aw af aG ao aB ab (x9.2.1) (x9.2.2.1) od g bc hr (x9.2.2.2.2) ++ cT cyI aT ac as_ cd sw fd fn) ++ pB LB (x9.2.2.2.1)) H9) ∧ (va_D A ((cR cyI cyO aR aW aw af aG ao aB ab (x9.2.1) (x9.2.2.1) od g bc hr (x9.2.2.2.2) ++ cT cyI aT ac as_ cd sw fd fn) ++ pB LB (x9.2.2.2.1))) ∧ (va_S A s.heap H9 L9) ∧ (lv_has s9 5 [(4, .int (nI (x9.1))), (3, .int (fareS (ntI hr) fd fn)), (2, .int (ntI hr)), (0, .ref aR), (1, .ref aT)])) (fun d9 x9 H locs ls g9 ih => ?_) n (0, swanS w (sw (ir hr 12).toNatClampNeg), f1, B, co) _ _ _ ⟨(by omega), rfl, hok.2.2.2.1, hP, hD, hS, lv_sub hl [0, 1, 2, 3, 4] rfl⟩
    obtain ⟨i, w2, f2, B2, c2⟩ := x9
    obtain ⟨hid, hsp, hB, hP, hD, hS, hl⟩ := g9
    obtain ⟨d, rfl⟩ : ∃ z, z = d9 := ⟨_, rfl⟩
    have hid : i + d = n := hid
    have hsp : busL ab (fareS (ntI hr) fd fn) n 0 (swanS w (sw (ir hr 12).toNatClampNeg)) f1 B co = busL ab (fareS (ntI hr) fd fn) d i w2 f2 B2 c2 := hsp
    have hB : OkB B2 := hB
    have hP : va_P D vwCl ((cR cyI cyO aR aW aw af aG ao aB ab w2 f2 od g bc hr c2 ++ cT cyI aT ac as_ cd sw fd fn) ++ pB LB B2) H := hP
    have hD : va_D A ((cR cyI cyO aR aW aw af aG ao aB ab w2 f2 od g bc hr c2 ++ cT cyI aT ac as_ cd sw fd fn) ++ pB LB B2) := hD
    have hl : lv_has ls 5 [(4, .int (nI i)), (3, .int (fareS (ntI hr) fd fn)), (2, .int (ntI hr)), (0, .ref aR), (1, .ref aT)] := hl
    refine lv_iload hx hb dX2_letHourGoBy_70 (lv_at hl 0 rfl) ?_
    refine lv_aload_n hx hb dX2_letHourGoBy_72 rfl (lv_at hl 3 rfl) ?_
    refine va_get (D := D) (ci := 2) (v := .int bc) (C := RX2) (T := TX2) (N := 6) hx hb hts iX2 hown hKK.1 hP 0 rfl rfl 3 (by decide) (hts (.fieldLink RX2 39 "TrolleyGang$Ring" "busCount" "I") (List.mem_of_getElem? (i := 3) rfl)) (fun _ h9 => h9) rfl dX2_letHourGoBy_73 ?_
    refine lv_tope (y := nI n) hbc ?_
    refine lv_icmp_ge (tgt := 97) hx hb dX2_letHourGoBy_76 (by decide) (fun h_2 => ?_) (fun h_2 => ?_)
    · skip
      obtain rfl : d = 0 := by have h9 := (nI_leI (a := n) (b := i) (by omega) (by omega)).mp h_2; omega
      have hiN : i = n := by omega
      refine lv_aload_n hx hb dX2_letHourGoBy_97 rfl (lv_at hl 3 rfl) ?_
      have hPc := hP.sub (ws' := (cR cyI cyO aR aW aw af aG ao aB ab w2 f2 od g bc hr c2)) [0, 1, 2, 3, 4, 5, 6] rfl
      have hDc := hD.sub (ws' := (cR cyI cyO aR aW aw af aG ao aB ab w2 f2 od g bc hr c2)) [0, 1, 2, 3, 4, 5, 6] (by decide) rfl
      refine ret_vP (W1 := (cR cyI cyO aR aW aw af aG ao aB ab w2 f2 od g bc hr c2)) (W2 := (cR cyI cyO aR aW aw af aG ao aB ab ((gwS m w2 od g c2).1) f2 ((gwS m w2 od g c2).2.1) ((gwS m w2 od g c2).2.2.1) bc hr ((gwS m w2 od g c2).2.2.2))) (X1 := cR cyI cyO aR aW aw af aG ao aB ab ((gwS m w2 od g c2).1) f2 ((gwS m w2 od g c2).2.1) ((gwS m w2 od g c2).2.2.1) bc hr ((gwS m w2 od g c2).2.2.2) ++ cT cyI aT ac as_ cd sw fd fn) (run_V (q := (RX2, TX2, 6)) (n := 0) (As := []) (rest := []) ⟨hx, hb, hml, hown, hts⟩ (c_X2_letGangWork l D cyI cyO cyL aR aW aw af aG ao aB ab w2 f2 od g bc hr c2 m hm hom hok.2.1 (hok.2.2.1 0) _) ggX2_letHourGoBy_X2_letGangWork rfl rfl rfl (hts (.methodLink RX2 93 yX2_letGangWork) (List.mem_of_getElem? (i := 51) rfl)) (hts (.initialized RX2) (List.mem_of_getElem? (i := 31) rfl)) (hts (.instanceMethod yX2_letGangWork) (List.mem_of_getElem? (i := 52) rfl)) (hts (.selects RX2 yX2_letGangWork yX2_letGangWork) (List.mem_of_getElem? (i := 53) rfl)) (by decide +kernel) ⟨Nat.le_of_ble_eq_true rfl, Nat.le_of_ble_eq_true rfl⟩ hKK hPc hDc (ci := 2) (q0 := 0) rfl rfl rfl hl.1 rfl (Nat.le_of_ble_eq_true rfl) dX2_letHourGoBy_98 ⟨Nat.zero_le _, Nat.zero_le _⟩) hP hD hS hA [0, 1, 2, 3, 4, 5, 6] rfl rfl [(true, 0), (true, 1), (true, 2), (true, 3), (true, 4), (true, 5), (true, 6), (false, 7), (false, 8), (false, 9)] (by decide +kernel) rfl rfl (fun H locs hP hD hS => ?_)
      refine lv_aload_n hx hb dX2_letHourGoBy_101 rfl (lv_at hl 3 rfl) ?_
      refine lv_dup hx hb dX2_letHourGoBy_102 rfl ?_
      refine va_get (D := D) (ci := 2) (v := .int hr) (C := RX2) (T := TX2) (N := 6) hx hb hts iX2 hown hKK.1 hP 0 rfl rfl 4 (by decide) (hts (.fieldLink RX2 46 "TrolleyGang$Ring" "hour" "I") (List.mem_of_getElem? (i := 1) rfl)) (fun _ h9 => h9) rfl dX2_letHourGoBy_103 ?_
      refine lv_iconst (v := 1) hx hb dX2_letHourGoBy_106 (by decide) ?_
      refine lv_iadd hx hb dX2_letHourGoBy_107 ?_
      refine va_put (D := D) (ci := 2) (v := .int (hr + 1)) (ty := .int) (C := RX2) (T := TX2) (N := 6) hx hb hts iX2 tyX2 tyX2_ok nmX2 hown hKK.1 hP hD hS 0 rfl rfl 4 (by decide) (hts (.fieldLink RX2 46 "TrolleyGang$Ring" "hour" "I") (List.mem_of_getElem? (i := 1) rfl)) (fun _ h9 => h9) rfl (by decide +kernel) rfl rfl (Nat.le_of_ble_eq_true rfl) dX2_letHourGoBy_108 (fun H locs hP hD hS => ?_)
      have hP : va_P D vwCl ((cR cyI cyO aR aW aw af aG ao aB ab ((gwS m w2 od g c2).1) f2 ((gwS m w2 od g c2).2.1) ((gwS m w2 od g c2).2.2.1) bc (hr + 1) ((gwS m w2 od g c2).2.2.2) ++ cT cyI aT ac as_ cd sw fd fn) ++ pB LB B2) H := hP
      have hD : va_D A ((cR cyI cyO aR aW aw af aG ao aB ab ((gwS m w2 od g c2).1) f2 ((gwS m w2 od g c2).2.1) ((gwS m w2 od g c2).2.2.1) bc (hr + 1) ((gwS m w2 od g c2).2.2.2) ++ cT cyI aT ac as_ cd sw fd fn) ++ pB LB B2) := hD
      have e9 : hourS cd sw fd fn ab n w f od g B co hr = ((gwS m w2 od g c2).1, f2, (gwS m w2 od g c2).2.1, ((gwS m w2 od g c2).2.2.1), B2, (gwS m w2 od g c2).2.2.2, hr + 1) := (by unfold hourS; rw [← hf]; rw [show (g 0).toNatClampNeg = m from by rw [hom, nI_clamp (by omega)]]; dsimp only; rw [hsp]; rfl)
      exact end_v hx hb hrt hlocks (by rw [e9]; exact hP) hS dX2_letHourGoBy_111
    · skip
      have hlt : i < n := by have h9 := mt (nI_leI (a := n) (b := i) (by omega) (by omega)).mpr h_2; omega
      obtain ⟨d, rfl⟩ : ∃ k, d = k + 1 := ⟨d - 1, by omega⟩
      refine lv_aload_n hx hb dX2_letHourGoBy_79 rfl (lv_at hl 3 rfl) ?_
      refine lv_aload_n hx hb dX2_letHourGoBy_80 rfl (lv_at hl 3 rfl) ?_
      refine va_get (D := D) (ci := 2) (v := .ref aB) (C := RX2) (T := TX2) (N := 6) hx hb hts iX2 hown hKK.1 hP 0 rfl rfl 2 (by decide) (hts (.fieldLink RX2 27 "TrolleyGang$Ring" "buses" "[LTrolleyGang$Bus;") (List.mem_of_getElem? (i := 4) rfl)) (fun _ h9 => h9) rfl dX2_letHourGoBy_81 ?_
      refine lv_iload hx hb dX2_letHourGoBy_84 (lv_at hl 0 rfl) ?_
      refine va_aldq hx hb hKK.1 hP 6 1 rfl rfl (hin := (vp_in_nI (show i < 6 by omega) (by omega))) dX2_letHourGoBy_86 ?_
      refine lv_topv (y := .ref (ab i)) (by rw [nI_clamp (by omega)]; rfl) ?_
      refine lv_iload_n hx hb dX2_letHourGoBy_87 rfl (lv_at hl 1 rfl) ?_
      have hPc := hP.part (cx := (cR cyI cyO aR aW aw af aG ao aB ab w2 f2 od g bc hr c2)) [0, 1, 2, 3, 4, 5, 6] rfl
      have hDc := hD.part (cx := (cR cyI cyO aR aW aw af aG ao aB ab w2 f2 od g bc hr c2)) [0, 1, 2, 3, 4, 5, 6] (by decide) rfl
      refine ret_vB (cx := (cR cyI cyO aR aW aw af aG ao aB ab w2 f2 od g bc hr c2)) (cx' := (cR cyI cyO aR aW aw af aG ao aB ab ((driveS (ab i) (fareS (ntI hr) fd fn) w2 f2 B2 c2).1) ((driveS (ab i) (fareS (ntI hr) fd fn) w2 f2 B2 c2).2.1) od g bc hr ((driveS (ab i) (fareS (ntI hr) fd fn) w2 f2 B2 c2).2.2.2))) (pl' := pB LB ((driveS (ab i) (fareS (ntI hr) fd fn) w2 f2 B2 c2).2.2.1)) (X1 := cR cyI cyO aR aW aw af aG ao aB ab ((driveS (ab i) (fareS (ntI hr) fd fn) w2 f2 B2 c2).1) ((driveS (ab i) (fareS (ntI hr) fd fn) w2 f2 B2 c2).2.1) od g bc hr ((driveS (ab i) (fareS (ntI hr) fd fn) w2 f2 B2 c2).2.2.2) ++ cT cyI aT ac as_ cd sw fd fn) (run_V (q := (RX2, TX2, 6)) (n := 2) (As := [.ref (ab i), .int (fareS (ntI hr) fd fn)]) (rest := []) ⟨hx, hb, hml, hown, hts⟩ (c_X2_drive l D cyI cyO cyL aR aW aw af aG ao aB ab w2 f2 od g bc hr c2 LB B2 (ab i) (fareS (ntI hr) fd fn) (hLB i (by omega)) hB _) ggX2_letHourGoBy_X2_drive rfl rfl rfl (hts (.methodLink RX2 89 yX2_drive) (List.mem_of_getElem? (i := 46) rfl)) (hts (.initialized RX2) (List.mem_of_getElem? (i := 31) rfl)) (hts (.instanceMethod yX2_drive) (List.mem_of_getElem? (i := 47) rfl)) (hts (.selects RX2 yX2_drive yX2_drive) (List.mem_of_getElem? (i := 48) rfl)) (by decide +kernel) ⟨Nat.le_of_ble_eq_true rfl, Nat.le_of_ble_eq_true rfl⟩ hKK hPc hDc (ci := 2) (q0 := 0) rfl rfl rfl hl.1 rfl (Nat.le_of_ble_eq_true rfl) dX2_letHourGoBy_88 ⟨Nat.zero_le _, Nat.zero_le _⟩) hP hD hS hA [0, 1, 2, 3, 4, 5, 6] (by decide) rfl rfl pB_fst [(true, 0), (true, 1), (true, 2), (true, 3), (true, 4), (true, 5), (true, 6), (false, 7), (false, 8), (false, 9)] (by decide +kernel) rfl rfl (fun H locs hP hD hS => ?_)
      refine lv_iinc (v := nI (i + 1)) (lv' := [(4, .int (nI (i + 1))), (3, .int (fareS (ntI hr) fd fn)), (2, .int (ntI hr)), (0, .ref aR), (1, .ref aT)]) hx hb dX2_letHourGoBy_91 hl (k := 0) rfl (nI_1 i) (by decide) rfl (fun ls hl => ?_)
      refine lv_goto (tgt := 70) hx hb dX2_letHourGoBy_94 (by decide) ?_
      exact ih d ((i + 1), ((driveS (ab i) (fareS (ntI hr) fd fn) w2 f2 B2 c2).1), ((driveS (ab i) (fareS (ntI hr) fd fn) w2 f2 B2 c2).2.1), ((driveS (ab i) (fareS (ntI hr) fd fn) w2 f2 B2 c2).2.2.1), ((driveS (ab i) (fareS (ntI hr) fd fn) w2 f2 B2 c2).2.2.2)) _ _ _ (by omega) ⟨(by omega), (hsp.trans (by first | with_reducible rfl | (simp only [busL, h_2, if_true, if_false, reduceIte, not_true_eq_false, not_false_eq_true]; done) | (simp [busL, h_2]; done))), (hB.drive _ _ _ _ _), hP, hD, hS, lv_sub hl [0, 1, 2, 3, 4] rfl⟩
