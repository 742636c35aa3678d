set_option maxHeartbeats 4000000 in
set_option maxRecDepth 100000 in
theorem c_X5_advise (l : Launch) (D : va_G) (cyI cyO cyL : ClassId) (aX : Nat) (aT : Nat) (aR0 : Nat) (aR1 : Nat) (ac : Nat) (as_ : Nat) (aW0 : Nat) (aw0 : Nat) (af0 : Nat) (aG0 : Nat) (ao0 : Nat) (aB0 : Nat) (aW1 : Nat) (aw1 : Nat) (af1 : Nat) (aG1 : Nat) (ao1 : Nat) (aB1 : Nat) (cd : Nat → Int32) (sw : Nat → Int32) (fd : Int32) (fn : Int32) (ab0 : Nat → Nat) (w0 : Nat → Int32) (f0 : Nat → Int32) (od0 : Nat → Int32) (g0 : Nat → Int32) (bc0 : Int32) (hr0 : Int32) (co0 : Int32) (ab1 : Nat → Nat) (w1 : Nat → Int32) (f1 : Nat → Int32) (od1 : Nat → Int32) (g1 : Nat → Int32) (bc1 : Int32) (hr1 : Int32) (co1 : Int32) (LB : List Nat) (B : Nat → Nat → Int32) (h_ : Nat) (n : Nat) (M_ : Nat) (hn : n ≤ 6) (hbc : bc0 = nI n) (hLB0 : ∀ k, k < 6 → ab0 k ∈ LB) (hLB1 : ∀ k, k < 6 → ab1 k ∈ LB) (hok : OkQ M_ (w0, f0, od0, g0, B, co0, hr0)) (ho1 : ∀ k, vp_in (od1 k) 24) (hM : M_ + 300 < 2 ^ 30) (hsw : ∀ k, sw k = -1 ∨ vp_in (sw k) 24) (hh1 : 1 ≤ h_) (hh2 : h_ ≤ 48) : cI l yX5_advise wsX5_advise ({ frames := 7, cells := 0, slots := 0, locals := 147 }) D cyI cyO cyL [.ref aX, .int (nI h_)] ((cX aX aT aR0 aR1 ++ cT cyI aT ac as_ cd sw fd fn ++ cR cyI cyO aR0 aW0 aw0 af0 aG0 ao0 aB0 ab0 w0 f0 od0 g0 bc0 hr0 co0 ++ cR cyI cyO aR1 aW1 aw1 af1 aG1 ao1 aB1 ab1 w1 f1 od1 g1 bc1 hr1 co1) ++ pB LB B) ((cX aX aT aR0 aR1 ++ cT cyI aT ac as_ cd sw fd fn ++ cR cyI cyO aR0 aW0 aw0 af0 aG0 ao0 aB0 ab0 w0 f0 od0 g0 bc0 hr0 co0 ++ cR cyI cyO aR1 aW1 aw1 af1 aG1 ao1 aB1 ab1 (((advL (fun z => cwR cd sw fd fn n ab0 ab1 w0 f0 od0 g0 co0 hr0 z h_) 24 0 (-1) (cwR cd sw fd fn n ab0 ab1 w0 f0 od0 g0 co0 hr0 (-1) h_ (w1, f1, od1, g1, B, co1, hr1)).2.2.2.2.2.1 (cwR cd sw fd fn n ab0 ab1 w0 f0 od0 g0 co0 hr0 (-1) h_ (w1, f1, od1, g1, B, co1, hr1))).2).1) (((advL (fun z => cwR cd sw fd fn n ab0 ab1 w0 f0 od0 g0 co0 hr0 z h_) 24 0 (-1) (cwR cd sw fd fn n ab0 ab1 w0 f0 od0 g0 co0 hr0 (-1) h_ (w1, f1, od1, g1, B, co1, hr1)).2.2.2.2.2.1 (cwR cd sw fd fn n ab0 ab1 w0 f0 od0 g0 co0 hr0 (-1) h_ (w1, f1, od1, g1, B, co1, hr1))).2).2.1) (((advL (fun z => cwR cd sw fd fn n ab0 ab1 w0 f0 od0 g0 co0 hr0 z h_) 24 0 (-1) (cwR cd sw fd fn n ab0 ab1 w0 f0 od0 g0 co0 hr0 (-1) h_ (w1, f1, od1, g1, B, co1, hr1)).2.2.2.2.2.1 (cwR cd sw fd fn n ab0 ab1 w0 f0 od0 g0 co0 hr0 (-1) h_ (w1, f1, od1, g1, B, co1, hr1))).2).2.2.1) (((advL (fun z => cwR cd sw fd fn n ab0 ab1 w0 f0 od0 g0 co0 hr0 z h_) 24 0 (-1) (cwR cd sw fd fn n ab0 ab1 w0 f0 od0 g0 co0 hr0 (-1) h_ (w1, f1, od1, g1, B, co1, hr1)).2.2.2.2.2.1 (cwR cd sw fd fn n ab0 ab1 w0 f0 od0 g0 co0 hr0 (-1) h_ (w1, f1, od1, g1, B, co1, hr1))).2).2.2.2.1) bc0 (((advL (fun z => cwR cd sw fd fn n ab0 ab1 w0 f0 od0 g0 co0 hr0 z h_) 24 0 (-1) (cwR cd sw fd fn n ab0 ab1 w0 f0 od0 g0 co0 hr0 (-1) h_ (w1, f1, od1, g1, B, co1, hr1)).2.2.2.2.2.1 (cwR cd sw fd fn n ab0 ab1 w0 f0 od0 g0 co0 hr0 (-1) h_ (w1, f1, od1, g1, B, co1, hr1))).2).2.2.2.2.2.2) (((advL (fun z => cwR cd sw fd fn n ab0 ab1 w0 f0 od0 g0 co0 hr0 z h_) 24 0 (-1) (cwR cd sw fd fn n ab0 ab1 w0 f0 od0 g0 co0 hr0 (-1) h_ (w1, f1, od1, g1, B, co1, hr1)).2.2.2.2.2.1 (cwR cd sw fd fn n ab0 ab1 w0 f0 od0 g0 co0 hr0 (-1) h_ (w1, f1, od1, g1, B, co1, hr1))).2).2.2.2.2.2.1)) ++ pB LB (((advL (fun z => cwR cd sw fd fn n ab0 ab1 w0 f0 od0 g0 co0 hr0 z h_) 24 0 (-1) (cwR cd sw fd fn n ab0 ab1 w0 f0 od0 g0 co0 hr0 (-1) h_ (w1, f1, od1, g1, B, co1, hr1)).2.2.2.2.2.1 (cwR cd sw fd fn n ab0 ab1 w0 f0 od0 g0 co0 hr0 (-1) h_ (w1, f1, od1, g1, B, co1, hr1))).2).2.2.2.2.1)) ((advL (fun z => cwR cd sw fd fn n ab0 ab1 w0 f0 od0 g0 co0 hr0 z h_) 24 0 (-1) (cwR cd sw fd fn n ab0 ab1 w0 f0 od0 g0 co0 hr0 (-1) h_ (w1, f1, od1, g1, B, co1, hr1)).2.2.2.2.2.1 (cwR cd sw fd fn n ab0 ab1 w0 f0 od0 g0 co0 hr0 (-1) h_ (w1, f1, od1, g1, B, co1, hr1))).1) := by
  intro sz
  refine Met.ofW (cc := cX5_advise) (maxL := 6) (ret := (some .int)) (by decide) rfl ?_
  intro p e s m args below meth c s₁ B9 hml hv
  obtain ⟨rfl, hsz, hP, hKK, hD0⟩ := hv
  have hx := B9.exec
  have hb := B9.bytes
  have hrt := B9.returns
  have hts := atoms_spec (ws := wsX5_advise) B9.pre
  have hown : s.vm.findClass RX5 = some m.cls := findClass_of_methodNamed B9.named
  have hlocks := B9.notSynchronized
  have nw := fun {w : Cond} (h : w ∈ nw_all) => NW.use (args := ([.ref aX, .int (nI h_)] : List Value).toArray) hKK.2 h
  subst hsz
  have hD := hD0.self (sz := s.heap.size)
  generalize hAe : va_A ((cX aX aT aR0 aR1 ++ cT cyI aT ac as_ cd sw fd fn ++ cR cyI cyO aR0 aW0 aw0 af0 aG0 ao0 aB0 ab0 w0 f0 od0 g0 bc0 hr0 co0 ++ cR cyI cyO aR1 aW1 aw1 af1 aG1 ao1 aB1 ab1 w1 f1 od1 g1 bc1 hr1 co1) ++ pB LB B) s.heap.size = A at hD ⊢
  have hA : ∀ q : Nat, s.heap.size ≤ q → A q := fun q h => by rw [← hAe]; exact Or.inr h
  have hS : va_S A s.heap s.heap [] := va_S.rf
  have hl := lv_entry ([.ref aX, .int (nI h_)]) (n := 6) (Nat.le_of_ble_eq_true rfl)
  rw [lg_entry_eq]
  generalize (lg_sl ([.ref aX, .int (nI h_)]) ++ List.replicate (6 - (lg_sl ([.ref aX, .int (nI h_)])).length) Slot.unset).toArray = ls at hl ⊢
  have hl : lv_has ls 6 [(0, .ref aX), (1, .int (nI h_))] := hl
  refine lv_iload_n hx hb dX5_advise_0 rfl (lv_at hl 1 rfl) ?_
  refine lv_bipush (v := 48) hx hb dX5_advise_1 (by decide) ?_
  have hPc := hP.sub (ws' := ([] : va_W)) [] rfl
  have hDc := hD.sub (ws' := ([] : va_W)) [] (by decide) rfl
  refine ret_vP (W1 := ([] : va_W)) (W2 := ([] : va_W)) (X1 := cX aX aT aR0 aR1 ++ cT cyI aT ac as_ cd sw fd fn ++ cR cyI cyO aR0 aW0 aw0 af0 aG0 ao0 aB0 ab0 w0 f0 od0 g0 bc0 hr0 co0 ++ cR cyI cyO aR1 aW1 aw1 af1 aG1 ao1 aB1 ab1 w1 f1 od1 g1 bc1 hr1 co1) (run_S (n := 2) (As := [.int (nI h_), .int 48]) (rest := []) ⟨hx, hb, hml, hown, hts⟩ (c_X5_checkHours l D cyI cyO cyL (nI h_) 48 (nI_nlt (a := h_) (b := 1) hh1 (by omega)) (nI_le (a := h_) (b := 48) hh2 (by omega)) _) ggX5_advise_X5_checkHours rfl rfl rfl (hts (.methodLink RX5 179 yX5_checkHours) (List.mem_of_getElem? (i := 1) rfl)) (hts (.initialized RX5) (List.mem_of_getElem? (i := 3) rfl)) (hts (.static yX5_checkHours) (List.mem_of_getElem? (i := 2) rfl)) (by decide +kernel) ⟨Nat.le_of_ble_eq_true rfl, Nat.le_of_ble_eq_true rfl⟩ hKK hPc hDc rfl hl.1 rfl (Nat.le_of_ble_eq_true rfl) dX5_advise_3 ⟨Nat.zero_le _, Nat.zero_le _⟩) hP hD hS hA [] rfl rfl [(false, 0), (false, 1), (false, 2), (false, 3), (false, 4), (false, 5), (false, 6), (false, 7), (false, 8), (false, 9), (false, 10), (false, 11), (false, 12), (false, 13), (false, 14), (false, 15), (false, 16), (false, 17)] (by decide +kernel) rfl rfl (fun H locs hP hD hS => ?_)
  refine lv_iconst (v := (-1)) hx hb dX5_advise_6 (by decide) ?_
  refine lv_istore_n (lv' := [(2, .int (-1)), (0, .ref aX), (1, .int (nI h_))]) hx hb dX5_advise_7 rfl hl (by decide) rfl (fun ls hl => ?_)
  refine lv_aload_n hx hb dX5_advise_8 rfl (lv_at hl 1 rfl) ?_
  refine lv_iconst (v := (-1)) hx hb dX5_advise_9 (by decide) ?_
  refine lv_iload_n hx hb dX5_advise_10 rfl (lv_at hl 2 rfl) ?_
  have hPc := hP.part (cx := (cX aX aT aR0 aR1 ++ cT cyI aT ac as_ cd sw fd fn ++ cR cyI cyO aR0 aW0 aw0 af0 aG0 ao0 aB0 ab0 w0 f0 od0 g0 bc0 hr0 co0 ++ cR cyI cyO aR1 aW1 aw1 af1 aG1 ao1 aB1 ab1 w1 f1 od1 g1 bc1 hr1 co1)) [0, 1, 2, 3, 4, 5, 6, 7, 8, 9, 10, 11, 12, 13, 14, 15, 16, 17] rfl
  have hDc := hD.part (cx := (cX aX aT aR0 aR1 ++ cT cyI aT ac as_ cd sw fd fn ++ cR cyI cyO aR0 aW0 aw0 af0 aG0 ao0 aB0 ab0 w0 f0 od0 g0 bc0 hr0 co0 ++ cR cyI cyO aR1 aW1 aw1 af1 aG1 ao1 aB1 ab1 w1 f1 od1 g1 bc1 hr1 co1)) [0, 1, 2, 3, 4, 5, 6, 7, 8, 9, 10, 11, 12, 13, 14, 15, 16, 17] (by decide) rfl
  refine ret_iB (cx := (cX aX aT aR0 aR1 ++ cT cyI aT ac as_ cd sw fd fn ++ cR cyI cyO aR0 aW0 aw0 af0 aG0 ao0 aB0 ab0 w0 f0 od0 g0 bc0 hr0 co0 ++ cR cyI cyO aR1 aW1 aw1 af1 aG1 ao1 aB1 ab1 w1 f1 od1 g1 bc1 hr1 co1)) (cx' := (cX aX aT aR0 aR1 ++ cT cyI aT ac as_ cd sw fd fn ++ cR cyI cyO aR0 aW0 aw0 af0 aG0 ao0 aB0 ab0 w0 f0 od0 g0 bc0 hr0 co0 ++ cR cyI cyO aR1 aW1 aw1 af1 aG1 ao1 aB1 ab1 ((cwR cd sw fd fn n ab0 ab1 w0 f0 od0 g0 co0 hr0 (-1) h_ (w1, f1, od1, g1, B, co1, hr1)).1) ((cwR cd sw fd fn n ab0 ab1 w0 f0 od0 g0 co0 hr0 (-1) h_ (w1, f1, od1, g1, B, co1, hr1)).2.1) ((cwR cd sw fd fn n ab0 ab1 w0 f0 od0 g0 co0 hr0 (-1) h_ (w1, f1, od1, g1, B, co1, hr1)).2.2.1) ((cwR cd sw fd fn n ab0 ab1 w0 f0 od0 g0 co0 hr0 (-1) h_ (w1, f1, od1, g1, B, co1, hr1)).2.2.2.1) bc0 ((cwR cd sw fd fn n ab0 ab1 w0 f0 od0 g0 co0 hr0 (-1) h_ (w1, f1, od1, g1, B, co1, hr1)).2.2.2.2.2.2) ((cwR cd sw fd fn n ab0 ab1 w0 f0 od0 g0 co0 hr0 (-1) h_ (w1, f1, od1, g1, B, co1, hr1)).2.2.2.2.2.1))) (pl' := pB LB ((cwR cd sw fd fn n ab0 ab1 w0 f0 od0 g0 co0 hr0 (-1) h_ (w1, f1, od1, g1, B, co1, hr1)).2.2.2.2.1)) (X1 := cX aX aT aR0 aR1 ++ cT cyI aT ac as_ cd sw fd fn ++ cR cyI cyO aR0 aW0 aw0 af0 aG0 ao0 aB0 ab0 w0 f0 od0 g0 bc0 hr0 co0 ++ cR cyI cyO aR1 aW1 aw1 af1 aG1 ao1 aB1 ab1 ((cwR cd sw fd fn n ab0 ab1 w0 f0 od0 g0 co0 hr0 (-1) h_ (w1, f1, od1, g1, B, co1, hr1)).1) ((cwR cd sw fd fn n ab0 ab1 w0 f0 od0 g0 co0 hr0 (-1) h_ (w1, f1, od1, g1, B, co1, hr1)).2.1) ((cwR cd sw fd fn n ab0 ab1 w0 f0 od0 g0 co0 hr0 (-1) h_ (w1, f1, od1, g1, B, co1, hr1)).2.2.1) ((cwR cd sw fd fn n ab0 ab1 w0 f0 od0 g0 co0 hr0 (-1) h_ (w1, f1, od1, g1, B, co1, hr1)).2.2.2.1) bc0 ((cwR cd sw fd fn n ab0 ab1 w0 f0 od0 g0 co0 hr0 (-1) h_ (w1, f1, od1, g1, B, co1, hr1)).2.2.2.2.2.2) ((cwR cd sw fd fn n ab0 ab1 w0 f0 od0 g0 co0 hr0 (-1) h_ (w1, f1, od1, g1, B, co1, hr1)).2.2.2.2.2.1)) (r := (cwR cd sw fd fn n ab0 ab1 w0 f0 od0 g0 co0 hr0 (-1) h_ (w1, f1, od1, g1, B, co1, hr1)).2.2.2.2.2.1) (run_V (q := (RX5, TX5, 3)) (n := 2) (As := [.int (-1), .int (nI h_)]) (rest := []) ⟨hx, hb, hml, hown, hts⟩ (c_X5_coinsWithOnlyOrder l D cyI cyO cyL aX aT aR0 aR1 ac as_ aW0 aw0 af0 aG0 ao0 aB0 aW1 aw1 af1 aG1 ao1 aB1 cd sw fd fn ab0 w0 f0 od0 g0 bc0 hr0 co0 ab1 w1 f1 od1 g1 bc1 hr1 co1 LB B (-1) h_ n M_ hn hbc hLB0 hLB1 hok ho1 hM hsw (Or.inl rfl) hh2 _) ggX5_advise_X5_coinsWithOnlyOrder rfl rfl rfl (hts (.methodLink RX5 195 yX5_coinsWithOnlyOrder) (List.mem_of_getElem? (i := 7) rfl)) (hts (.initialized RX5) (List.mem_of_getElem? (i := 3) rfl)) (hts (.instanceMethod yX5_coinsWithOnlyOrder) (List.mem_of_getElem? (i := 8) rfl)) (hts (.selects RX5 yX5_coinsWithOnlyOrder yX5_coinsWithOnlyOrder) (List.mem_of_getElem? (i := 9) rfl)) (by decide +kernel) ⟨Nat.le_of_ble_eq_true rfl, Nat.le_of_ble_eq_true rfl⟩ hKK hPc hDc (ci := 5) (q0 := 0) rfl rfl rfl hl.1 rfl (Nat.le_of_ble_eq_true rfl) dX5_advise_11 ⟨Nat.zero_le _, Nat.zero_le _⟩) hP hD hS hA [0, 1, 2, 3, 4, 5, 6, 7, 8, 9, 10, 11, 12, 13, 14, 15, 16, 17] (by decide) rfl rfl pB_fst [(true, 0), (true, 1), (true, 2), (true, 3), (true, 4), (true, 5), (true, 6), (true, 7), (true, 8), (true, 9), (true, 10), (true, 11), (true, 12), (true, 13), (true, 14), (true, 15), (true, 16), (true, 17)] (by decide +kernel) rfl rfl (fun H locs hP hD hS => ?_)
  refine lv_istore_n (lv' := [(3, .int ((cwR cd sw fd fn n ab0 ab1 w0 f0 od0 g0 co0 hr0 (-1) h_ (w1, f1, od1, g1, B, co1, hr1)).2.2.2.2.2.1)), (2, .int (-1)), (0, .ref aX), (1, .int (nI h_))]) hx hb dX5_advise_14 rfl hl (by decide) rfl (fun ls hl => ?_)
  refine lv_iconst (v := 0) hx hb dX5_advise_15 (by decide) ?_
  refine lv_istore (lv' := [(4, .int 0), (3, .int ((cwR cd sw fd fn n ab0 ab1 w0 f0 od0 g0 co0 hr0 (-1) h_ (w1, f1, od1, g1, B, co1, hr1)).2.2.2.2.2.1)), (2, .int (-1)), (0, .ref aX), (1, .int (nI h_))]) hx hb dX5_advise_16 hl (by decide) rfl (fun ls hl => ?_)
  refine wloop (σ := (Nat) × (Int32) × (Int32) × (RS)) (fun d9 x9 H9 L9 s9 => ((x9.1) + d9 = 24) ∧ (advL (fun z => cwR cd sw fd fn n ab0 ab1 w0 f0 od0 g0 co0 hr0 z h_) 24 0 (-1) (cwR cd sw fd fn n ab0 ab1 w0 f0 od0 g0 co0 hr0 (-1) h_ (w1, f1, od1, g1, B, co1, hr1)).2.2.2.2.2.1 (cwR cd sw fd fn n ab0 ab1 w0 f0 od0 g0 co0 hr0 (-1) h_ (w1, f1, od1, g1, B, co1, hr1)) = advL (fun z => cwR cd sw fd fn n ab0 ab1 w0 f0 od0 g0 co0 hr0 z h_) d9 (x9.1) (x9.2.1) (x9.2.2.1) (x9.2.2.2)) ∧ (OkQ (M_ + h_) (x9.2.2.2)) ∧ (va_P D vwCl ((cX aX aT aR0 aR1 ++ cT cyI aT ac as_ cd sw fd fn ++ cR cyI cyO aR0 aW0 aw0 af0 aG0 ao0 aB0 ab0 w0 f0 od0 g0 bc0 hr0 co0 ++ cR cyI cyO aR1 aW1 aw1 af1 aG1 ao1 aB1 ab1 (x9.2.2.2).1 (x9.2.2.2).2.1 (x9.2.2.2).2.2.1 (x9.2.2.2).2.2.2.1 bc0 (x9.2.2.2).2.2.2.2.2.2 (x9.2.2.2).2.2.2.2.2.1) ++ pB LB (x9.2.2.2).2.2.2.2.1) H9) ∧ (va_D A ((cX aX aT aR0 aR1 ++ cT cyI aT ac as_ cd sw fd fn ++ cR cyI cyO aR0 aW0 aw0 af0 aG0 ao0 aB0 ab0 w0 f0 od0 g0 bc0 hr0 co0 ++ cR cyI cyO aR1 aW1 aw1 af1 aG1 ao1 aB1 ab1 (x9.2.2.2).1 (x9.2.2.2).2.1 (x9.2.2.2).2.2.1 (x9.2.2.2).2.2.2.1 bc0 (x9.2.2.2).2.2.2.2.2.2 (x9.2.2.2).2.2.2.2.2.1) ++ pB LB (x9.2.2.2).2.2.2.2.1)) ∧ (va_S A s.heap H9 L9) ∧ (lv_has s9 6 [(4, .int (nI (x9.1))), (3, .int (x9.2.2.1)), (2, .int (x9.2.1)), (0, .ref aX), (1, .int (nI h_))])) (fun d9 x9 H locs ls g9 ih => ?_) 24 (0, (-1), (cwR cd sw fd fn n ab0 ab1 w0 f0 od0 g0 co0 hr0 (-1) h_ (w1, f1, od1, g1, B, co1, hr1)).2.2.2.2.2.1, cwR cd sw fd fn n ab0 ab1 w0 f0 od0 g0 co0 hr0 (-1) h_ (w1, f1, od1, g1, B, co1, hr1)) _ _ _ ⟨(by omega), rfl, (OkQ.hrs h_ M_ _ (by omega) (hvR_ok (cpR_ok hok ho1) (Or.inl rfl))), hP, hD, hS, lv_sub hl [0, 1, 2, 3, 4] rfl⟩
  obtain ⟨i, b1, m1, q⟩ := x9
  obtain ⟨hid, hsp, hq, hP, hD, hS, hl⟩ := g9
  obtain ⟨d, rfl⟩ : ∃ z, z = d9 := ⟨_, rfl⟩
  have hid : i + d = 24 := hid
  have hsp : advL (fun z => cwR cd sw fd fn n ab0 ab1 w0 f0 od0 g0 co0 hr0 z h_) 24 0 (-1) (cwR cd sw fd fn n ab0 ab1 w0 f0 od0 g0 co0 hr0 (-1) h_ (w1, f1, od1, g1, B, co1, hr1)).2.2.2.2.2.1 (cwR cd sw fd fn n ab0 ab1 w0 f0 od0 g0 co0 hr0 (-1) h_ (w1, f1, od1, g1, B, co1, hr1)) = advL (fun z => cwR cd sw fd fn n ab0 ab1 w0 f0 od0 g0 co0 hr0 z h_) d i b1 m1 q := hsp
  have hq : OkQ (M_ + h_) q := hq
  have hP : va_P D vwCl ((cX aX aT aR0 aR1 ++ cT cyI aT ac as_ cd sw fd fn ++ cR cyI cyO aR0 aW0 aw0 af0 aG0 ao0 aB0 ab0 w0 f0 od0 g0 bc0 hr0 co0 ++ cR cyI cyO aR1 aW1 aw1 af1 aG1 ao1 aB1 ab1 q.1 q.2.1 q.2.2.1 q.2.2.2.1 bc0 q.2.2.2.2.2.2 q.2.2.2.2.2.1) ++ pB LB q.2.2.2.2.1) H := hP
  have hD : va_D A ((cX aX aT aR0 aR1 ++ cT cyI aT ac as_ cd sw fd fn ++ cR cyI cyO aR0 aW0 aw0 af0 aG0 ao0 aB0 ab0 w0 f0 od0 g0 bc0 hr0 co0 ++ cR cyI cyO aR1 aW1 aw1 af1 aG1 ao1 aB1 ab1 q.1 q.2.1 q.2.2.1 q.2.2.2.1 bc0 q.2.2.2.2.2.2 q.2.2.2.2.2.1) ++ pB LB q.2.2.2.2.1) := hD
  have hl : lv_has ls 6 [(4, .int (nI i)), (3, .int m1), (2, .int b1), (0, .ref aX), (1, .int (nI h_))] := hl
  refine lv_iload hx hb dX5_advise_18 (lv_at hl 0 rfl) ?_
  refine lv_bipush (v := 24) hx hb dX5_advise_20 (by decide) ?_
  refine lv_icmp_ge (tgt := 52) hx hb dX5_advise_22 (by decide) (fun h_1 => ?_) (fun h_1 => ?_)
  · skip
    obtain rfl : d = 0 := by have h9 := (nI_leI (a := 24) (b := i) (by omega) (by omega)).mp h_1; omega
    have hiN : i = 24 := by omega
    refine lv_iload_n hx hb dX5_advise_52 rfl (lv_at hl 2 rfl) ?_
    have e9_0 : ((advL (fun z => cwR cd sw fd fn n ab0 ab1 w0 f0 od0 g0 co0 hr0 z h_) 24 0 (-1) (cwR cd sw fd fn n ab0 ab1 w0 f0 od0 g0 co0 hr0 (-1) h_ (w1, f1, od1, g1, B, co1, hr1)).2.2.2.2.2.1 (cwR cd sw fd fn n ab0 ab1 w0 f0 od0 g0 co0 hr0 (-1) h_ (w1, f1, od1, g1, B, co1, hr1))).1) = b1 := (by rw [hsp]; rfl)
    have e9_1 : (((advL (fun z => cwR cd sw fd fn n ab0 ab1 w0 f0 od0 g0 co0 hr0 z h_) 24 0 (-1) (cwR cd sw fd fn n ab0 ab1 w0 f0 od0 g0 co0 hr0 (-1) h_ (w1, f1, od1, g1, B, co1, hr1)).2.2.2.2.2.1 (cwR cd sw fd fn n ab0 ab1 w0 f0 od0 g0 co0 hr0 (-1) h_ (w1, f1, od1, g1, B, co1, hr1))).2).1) = q.1 := (by rw [hsp]; rfl)
    have e9_2 : (((advL (fun z => cwR cd sw fd fn n ab0 ab1 w0 f0 od0 g0 co0 hr0 z h_) 24 0 (-1) (cwR cd sw fd fn n ab0 ab1 w0 f0 od0 g0 co0 hr0 (-1) h_ (w1, f1, od1, g1, B, co1, hr1)).2.2.2.2.2.1 (cwR cd sw fd fn n ab0 ab1 w0 f0 od0 g0 co0 hr0 (-1) h_ (w1, f1, od1, g1, B, co1, hr1))).2).2.1) = q.2.1 := (by rw [hsp]; rfl)
    have e9_3 : (((advL (fun z => cwR cd sw fd fn n ab0 ab1 w0 f0 od0 g0 co0 hr0 z h_) 24 0 (-1) (cwR cd sw fd fn n ab0 ab1 w0 f0 od0 g0 co0 hr0 (-1) h_ (w1, f1, od1, g1, B, co1, hr1)).2.2.2.2.2.1 (cwR cd sw fd fn n ab0 ab1 w0 f0 od0 g0 co0 hr0 (-1) h_ (w1, f1, od1, g1, B, co1, hr1))).2).2.2.1) = q.2.2.1 := (by rw [hsp]; rfl)
    have e9_4 : (((advL (fun z => cwR cd sw fd fn n ab0 ab1 w0 f0 od0 g0 co0 hr0 z h_) 24 0 (-1) (cwR cd sw fd fn n ab0 ab1 w0 f0 od0 g0 co0 hr0 (-1) h_ (w1, f1, od1, g1, B, co1, hr1)).2.2.2.2.2.1 (cwR cd sw fd fn n ab0 ab1 w0 f0 od0 g0 co0 hr0 (-1) h_ (w1, f1, od1, g1, B, co1, hr1))).2).2.2.2.1) = q.2.2.2.1 := (by rw [hsp]; rfl)
    have e9_5 : (((advL (fun z => cwR cd sw fd fn n ab0 ab1 w0 f0 od0 g0 co0 hr0 z h_) 24 0 (-1) (cwR cd sw fd fn n ab0 ab1 w0 f0 od0 g0 co0 hr0 (-1) h_ (w1, f1, od1, g1, B, co1, hr1)).2.2.2.2.2.1 (cwR cd sw fd fn n ab0 ab1 w0 f0 od0 g0 co0 hr0 (-1) h_ (w1, f1, od1, g1, B, co1, hr1))).2).2.2.2.2.1) = q.2.2.2.2.1 := (by rw [hsp]; rfl)
    have e9_6 : (((advL (fun z => cwR cd sw fd fn n ab0 ab1 w0 f0 od0 g0 co0 hr0 z h_) 24 0 (-1) (cwR cd sw fd fn n ab0 ab1 w0 f0 od0 g0 co0 hr0 (-1) h_ (w1, f1, od1, g1, B, co1, hr1)).2.2.2.2.2.1 (cwR cd sw fd fn n ab0 ab1 w0 f0 od0 g0 co0 hr0 (-1) h_ (w1, f1, od1, g1, B, co1, hr1))).2).2.2.2.2.2.1) = q.2.2.2.2.2.1 := (by rw [hsp]; rfl)
    have e9_7 : (((advL (fun z => cwR cd sw fd fn n ab0 ab1 w0 f0 od0 g0 co0 hr0 z h_) 24 0 (-1) (cwR cd sw fd fn n ab0 ab1 w0 f0 od0 g0 co0 hr0 (-1) h_ (w1, f1, od1, g1, B, co1, hr1)).2.2.2.2.2.1 (cwR cd sw fd fn n ab0 ab1 w0 f0 od0 g0 co0 hr0 (-1) h_ (w1, f1, od1, g1, B, co1, hr1))).2).2.2.2.2.2.2) = q.2.2.2.2.2.2 := (by rw [hsp]; rfl)
    exact end_i hx hb hrt hlocks e9_0.symm (by first | exact hP | (rw [e9_1, e9_2, e9_3, e9_4, e9_5, e9_6, e9_7]; exact hP)) hS dX5_advise_53
  · skip
    have hlt : i < 24 := by have h9 := mt (nI_leI (a := 24) (b := i) (by omega) (by omega)).mpr h_1; omega
    obtain ⟨d, rfl⟩ : ∃ k, d = k + 1 := ⟨d - 1, by omega⟩
    refine lv_aload_n hx hb dX5_advise_25 rfl (lv_at hl 3 rfl) ?_
    refine lv_iload hx hb dX5_advise_26 (lv_at hl 0 rfl) ?_
    refine lv_iload_n hx hb dX5_advise_28 rfl (lv_at hl 4 rfl) ?_
    have hPc := hP.part (cx := (cX aX aT aR0 aR1 ++ cT cyI aT ac as_ cd sw fd fn ++ cR cyI cyO aR0 aW0 aw0 af0 aG0 ao0 aB0 ab0 w0 f0 od0 g0 bc0 hr0 co0 ++ cR cyI cyO aR1 aW1 aw1 af1 aG1 ao1 aB1 ab1 q.1 q.2.1 q.2.2.1 q.2.2.2.1 bc0 q.2.2.2.2.2.2 q.2.2.2.2.2.1)) [0, 1, 2, 3, 4, 5, 6, 7, 8, 9, 10, 11, 12, 13, 14, 15, 16, 17] rfl
    have hDc := hD.part (cx := (cX aX aT aR0 aR1 ++ cT cyI aT ac as_ cd sw fd fn ++ cR cyI cyO aR0 aW0 aw0 af0 aG0 ao0 aB0 ab0 w0 f0 od0 g0 bc0 hr0 co0 ++ cR cyI cyO aR1 aW1 aw1 af1 aG1 ao1 aB1 ab1 q.1 q.2.1 q.2.2.1 q.2.2.2.1 bc0 q.2.2.2.2.2.2 q.2.2.2.2.2.1)) [0, 1, 2, 3, 4, 5, 6, 7, 8, 9, 10, 11, 12, 13, 14, 15, 16, 17] (by decide) rfl
    refine ret_iB (cx := (cX aX aT aR0 aR1 ++ cT cyI aT ac as_ cd sw fd fn ++ cR cyI cyO aR0 aW0 aw0 af0 aG0 ao0 aB0 ab0 w0 f0 od0 g0 bc0 hr0 co0 ++ cR cyI cyO aR1 aW1 aw1 af1 aG1 ao1 aB1 ab1 q.1 q.2.1 q.2.2.1 q.2.2.2.1 bc0 q.2.2.2.2.2.2 q.2.2.2.2.2.1)) (cx' := (cX aX aT aR0 aR1 ++ cT cyI aT ac as_ cd sw fd fn ++ cR cyI cyO aR0 aW0 aw0 af0 aG0 ao0 aB0 ab0 w0 f0 od0 g0 bc0 hr0 co0 ++ cR cyI cyO aR1 aW1 aw1 af1 aG1 ao1 aB1 ab1 ((cwR cd sw fd fn n ab0 ab1 w0 f0 od0 g0 co0 hr0 (nI i) h_ ((q.1), (q.2.1), (q.2.2.1), (q.2.2.2.1), (q.2.2.2.2.1), (q.2.2.2.2.2.1), (q.2.2.2.2.2.2))).1) ((cwR cd sw fd fn n ab0 ab1 w0 f0 od0 g0 co0 hr0 (nI i) h_ ((q.1), (q.2.1), (q.2.2.1), (q.2.2.2.1), (q.2.2.2.2.1), (q.2.2.2.2.2.1), (q.2.2.2.2.2.2))).2.1) ((cwR cd sw fd fn n ab0 ab1 w0 f0 od0 g0 co0 hr0 (nI i) h_ ((q.1), (q.2.1), (q.2.2.1), (q.2.2.2.1), (q.2.2.2.2.1), (q.2.2.2.2.2.1), (q.2.2.2.2.2.2))).2.2.1) ((cwR cd sw fd fn n ab0 ab1 w0 f0 od0 g0 co0 hr0 (nI i) h_ ((q.1), (q.2.1), (q.2.2.1), (q.2.2.2.1), (q.2.2.2.2.1), (q.2.2.2.2.2.1), (q.2.2.2.2.2.2))).2.2.2.1) bc0 ((cwR cd sw fd fn n ab0 ab1 w0 f0 od0 g0 co0 hr0 (nI i) h_ ((q.1), (q.2.1), (q.2.2.1), (q.2.2.2.1), (q.2.2.2.2.1), (q.2.2.2.2.2.1), (q.2.2.2.2.2.2))).2.2.2.2.2.2) ((cwR cd sw fd fn n ab0 ab1 w0 f0 od0 g0 co0 hr0 (nI i) h_ ((q.1), (q.2.1), (q.2.2.1), (q.2.2.2.1), (q.2.2.2.2.1), (q.2.2.2.2.2.1), (q.2.2.2.2.2.2))).2.2.2.2.2.1))) (pl' := pB LB ((cwR cd sw fd fn n ab0 ab1 w0 f0 od0 g0 co0 hr0 (nI i) h_ ((q.1), (q.2.1), (q.2.2.1), (q.2.2.2.1), (q.2.2.2.2.1), (q.2.2.2.2.2.1), (q.2.2.2.2.2.2))).2.2.2.2.1)) (X1 := cX aX aT aR0 aR1 ++ cT cyI aT ac as_ cd sw fd fn ++ cR cyI cyO aR0 aW0 aw0 af0 aG0 ao0 aB0 ab0 w0 f0 od0 g0 bc0 hr0 co0 ++ cR cyI cyO aR1 aW1 aw1 af1 aG1 ao1 aB1 ab1 ((cwR cd sw fd fn n ab0 ab1 w0 f0 od0 g0 co0 hr0 (nI i) h_ ((q.1), (q.2.1), (q.2.2.1), (q.2.2.2.1), (q.2.2.2.2.1), (q.2.2.2.2.2.1), (q.2.2.2.2.2.2))).1) ((cwR cd sw fd fn n ab0 ab1 w0 f0 od0 g0 co0 hr0 (nI i) h_ ((q.1), (q.2.1), (q.2.2.1), (q.2.2.2.1), (q.2.2.2.2.1), (q.2.2.2.2.2.1), (q.2.2.2.2.2.2))).2.1) ((cwR cd sw fd fn n ab0 ab1 w0 f0 od0 g0 co0 hr0 (nI i) h_ ((q.1), (q.2.1), (q.2.2.1), (q.2.2.2.1), (q.2.2.2.2.1), (q.2.2.2.2.2.1), (q.2.2.2.2.2.2))).2.2.1) ((cwR cd sw fd fn n ab0 ab1 w0 f0 od0 g0 co0 hr0 (nI i) h_ ((q.1), (q.2.1), (q.2.2.1), (q.2.2.2.1), (q.2.2.2.2.1), (q.2.2.2.2.2.1), (q.2.2.2.2.2.2))).2.2.2.1) bc0 ((cwR cd sw fd fn n ab0 ab1 w0 f0 od0 g0 co0 hr0 (nI i) h_ ((q.1), (q.2.1), (q.2.2.1), (q.2.2.2.1), (q.2.2.2.2.1), (q.2.2.2.2.2.1), (q.2.2.2.2.2.2))).2.2.2.2.2.2) ((cwR cd sw fd fn n ab0 ab1 w0 f0 od0 g0 co0 hr0 (nI i) h_ ((q.1), (q.2.1), (q.2.2.1), (q.2.2.2.1), (q.2.2.2.2.1), (q.2.2.2.2.2.1), (q.2.2.2.2.2.2))).2.2.2.2.2.1)) (r := (cwR cd sw fd fn n ab0 ab1 w0 f0 od0 g0 co0 hr0 (nI i) h_ ((q.1), (q.2.1), (q.2.2.1), (q.2.2.2.1), (q.2.2.2.2.1), (q.2.2.2.2.2.1), (q.2.2.2.2.2.2))).2.2.2.2.2.1) (run_V (q := (RX5, TX5, 3)) (n := 2) (As := [.int (nI i), .int (nI h_)]) (rest := []) ⟨hx, hb, hml, hown, hts⟩ (c_X5_coinsWithOnlyOrder l D cyI cyO cyL aX aT aR0 aR1 ac as_ aW0 aw0 af0 aG0 ao0 aB0 aW1 aw1 af1 aG1 ao1 aB1 cd sw fd fn ab0 w0 f0 od0 g0 bc0 hr0 co0 ab1 q.1 q.2.1 q.2.2.1 q.2.2.2.1 bc0 q.2.2.2.2.2.2 q.2.2.2.2.2.1 LB q.2.2.2.2.1 (nI i) h_ n M_ hn hbc hLB0 hLB1 (okB1 hok hq) hq.1.2.2.1 hM hsw (Or.inr (vp_in_nI hlt (by omega))) hh2 _) ggX5_advise_X5_coinsWithOnlyOrder rfl rfl rfl (hts (.methodLink RX5 195 yX5_coinsWithOnlyOrder) (List.mem_of_getElem? (i := 7) rfl)) (hts (.initialized RX5) (List.mem_of_getElem? (i := 3) rfl)) (hts (.instanceMethod yX5_coinsWithOnlyOrder) (List.mem_of_getElem? (i := 8) rfl)) (hts (.selects RX5 yX5_coinsWithOnlyOrder yX5_coinsWithOnlyOrder) (List.mem_of_getElem? (i := 9) rfl)) (by decide +kernel) ⟨Nat.le_of_ble_eq_true rfl, Nat.le_of_ble_eq_true rfl⟩ hKK hPc hDc (ci := 5) (q0 := 0) rfl rfl rfl hl.1 rfl (Nat.le_of_ble_eq_true rfl) dX5_advise_29 ⟨Nat.zero_le _, Nat.zero_le _⟩) hP hD hS hA [0, 1, 2, 3, 4, 5, 6, 7, 8, 9, 10, 11, 12, 13, 14, 15, 16, 17] (by decide) rfl rfl pB_fst [(true, 0), (true, 1), (true, 2), (true, 3), (true, 4), (true, 5), (true, 6), (true, 7), (true, 8), (true, 9), (true, 10), (true, 11), (true, 12), (true, 13), (true, 14), (true, 15), (true, 16), (true, 17)] (by decide +kernel) rfl rfl (fun H locs hP hD hS => ?_)
    refine lv_istore (lv' := [(5, .int ((cwR cd sw fd fn n ab0 ab1 w0 f0 od0 g0 co0 hr0 (nI i) h_ ((q.1), (q.2.1), (q.2.2.1), (q.2.2.2.1), (q.2.2.2.2.1), (q.2.2.2.2.2.1), (q.2.2.2.2.2.2))).2.2.2.2.2.1)), (4, .int (nI i)), (3, .int m1), (2, .int b1), (0, .ref aX), (1, .int (nI h_))]) hx hb dX5_advise_32 hl (by decide) rfl (fun ls hl => ?_)
    refine lv_iload hx hb dX5_advise_34 (lv_at hl 0 rfl) ?_
    refine lv_iload_n hx hb dX5_advise_36 rfl (lv_at hl 2 rfl) ?_
    refine lv_icmp_le (tgt := 46) hx hb dX5_advise_37 (by decide) (fun h_2 => ?_) (fun h_2 => ?_)
    · skip
      refine lv_iinc (v := nI (i + 1)) (lv' := [(4, .int (nI (i + 1))), (5, .int ((cwR cd sw fd fn n ab0 ab1 w0 f0 od0 g0 co0 hr0 (nI i) h_ ((q.1), (q.2.1), (q.2.2.1), (q.2.2.2.1), (q.2.2.2.2.1), (q.2.2.2.2.2.1), (q.2.2.2.2.2.2))).2.2.2.2.2.1)), (3, .int m1), (2, .int b1), (0, .ref aX), (1, .int (nI h_))]) hx hb dX5_advise_46 hl (k := 1) rfl (nI_1 i) (by decide) rfl (fun ls hl => ?_)
      refine lv_goto (tgt := 18) hx hb dX5_advise_49 (by decide) ?_
      exact ih d ((i + 1), b1, m1, (cwR cd sw fd fn n ab0 ab1 w0 f0 od0 g0 co0 hr0 (nI i) h_ q)) _ _ _ (by omega) ⟨(by omega), (hsp.trans (by simp only [advL]; first | rw [if_pos h_2] | rw [if_neg h_2])), (OkQ.hrs h_ M_ _ (by omega) (hvR_ok (cpR_ok (okB1 hok hq) hq.1.2.2.1) (Or.inr (vp_in_nI hlt (by omega))))), hP, hD, hS, lv_sub hl [0, 2, 3, 4, 5] rfl⟩
    · skip
      refine lv_iload hx hb dX5_advise_40 (lv_at hl 0 rfl) ?_
      refine lv_istore_n (lv' := [(3, .int ((cwR cd sw fd fn n ab0 ab1 w0 f0 od0 g0 co0 hr0 (nI i) h_ ((q.1), (q.2.1), (q.2.2.1), (q.2.2.2.1), (q.2.2.2.2.1), (q.2.2.2.2.2.1), (q.2.2.2.2.2.2))).2.2.2.2.2.1)), (5, .int ((cwR cd sw fd fn n ab0 ab1 w0 f0 od0 g0 co0 hr0 (nI i) h_ ((q.1), (q.2.1), (q.2.2.1), (q.2.2.2.1), (q.2.2.2.2.1), (q.2.2.2.2.2.1), (q.2.2.2.2.2.2))).2.2.2.2.2.1)), (4, .int (nI i)), (2, .int b1), (0, .ref aX), (1, .int (nI h_))]) hx hb dX5_advise_42 rfl hl (by decide) rfl (fun ls hl => ?_)
      refine lv_iload hx hb dX5_advise_43 (lv_at hl 2 rfl) ?_
      refine lv_istore_n (lv' := [(2, .int (nI i)), (3, .int ((cwR cd sw fd fn n ab0 ab1 w0 f0 od0 g0 co0 hr0 (nI i) h_ ((q.1), (q.2.1), (q.2.2.1), (q.2.2.2.1), (q.2.2.2.2.1), (q.2.2.2.2.2.1), (q.2.2.2.2.2.2))).2.2.2.2.2.1)), (5, .int ((cwR cd sw fd fn n ab0 ab1 w0 f0 od0 g0 co0 hr0 (nI i) h_ ((q.1), (q.2.1), (q.2.2.1), (q.2.2.2.1), (q.2.2.2.2.1), (q.2.2.2.2.2.1), (q.2.2.2.2.2.2))).2.2.2.2.2.1)), (4, .int (nI i)), (0, .ref aX), (1, .int (nI h_))]) hx hb dX5_advise_45 rfl hl (by decide) rfl (fun ls hl => ?_)
      refine lv_iinc (v := nI (i + 1)) (lv' := [(4, .int (nI (i + 1))), (2, .int (nI i)), (3, .int ((cwR cd sw fd fn n ab0 ab1 w0 f0 od0 g0 co0 hr0 (nI i) h_ ((q.1), (q.2.1), (q.2.2.1), (q.2.2.2.1), (q.2.2.2.2.1), (q.2.2.2.2.2.1), (q.2.2.2.2.2.2))).2.2.2.2.2.1)), (5, .int ((cwR cd sw fd fn n ab0 ab1 w0 f0 od0 g0 co0 hr0 (nI i) h_ ((q.1), (q.2.1), (q.2.2.1), (q.2.2.2.1), (q.2.2.2.2.1), (q.2.2.2.2.2.1), (q.2.2.2.2.2.2))).2.2.2.2.2.1)), (0, .ref aX), (1, .int (nI h_))]) hx hb dX5_advise_46 hl (k := 3) rfl (nI_1 i) (by decide) rfl (fun ls hl => ?_)
      refine lv_goto (tgt := 18) hx hb dX5_advise_49 (by decide) ?_
      exact ih d ((i + 1), (nI i), ((cwR cd sw fd fn n ab0 ab1 w0 f0 od0 g0 co0 hr0 (nI i) h_ ((q.1), (q.2.1), (q.2.2.1), (q.2.2.2.1), (q.2.2.2.2.1), (q.2.2.2.2.2.1), (q.2.2.2.2.2.2))).2.2.2.2.2.1), (cwR cd sw fd fn n ab0 ab1 w0 f0 od0 g0 co0 hr0 (nI i) h_ q)) _ _ _ (by omega) ⟨(by omega), (hsp.trans (by simp only [advL]; first | rw [if_pos h_2] | rw [if_neg h_2])), (OkQ.hrs h_ M_ _ (by omega) (hvR_ok (cpR_ok (okB1 hok hq) hq.1.2.2.1) (Or.inr (vp_in_nI hlt (by omega))))), hP, hD, hS, lv_sub hl [0, 2, 1, 4, 5] rfl⟩
set_option maxHeartbeats 4000000 in
set_option maxRecDepth 100000 in
theorem c_X5_digestOfTables (l : Launch) (D : va_G) (cyI cyO cyL : ClassId) (aX : Nat) (aT : Nat) (aR0 : Nat) (aR1 : Nat) (ac : Nat) (as_ : Nat) (cd : Nat → Int32) (sw : Nat → Int32) (fd : Int32) (fn : Int32) (a_ : Int64) : cL l yX5_digestOfTables wsX5_digestOfTables ({ frames := 0, cells := 0, slots := 0, locals := 0 }) D cyI cyO cyL [.ref aX, .long a_] (cX aX aT aR0 aR1 ++ cT cyI aT ac as_ cd sw fd fn) (cX aX aT aR0 aR1 ++ cT cyI aT ac as_ cd sw fd fn) (dgT cd sw fd fn a_) := by
  intro sz
  refine Met.ofW (cc := cX5_digestOfTables) (maxL := 6) (ret := (some .long)) (by decide) rfl ?_
  intro p e s m args below meth c s₁ B9 hml hv
  obtain ⟨rfl, hsz, hP, hKK, hD0⟩ := hv
  have hx := B9.exec
  have hb := B9.bytes
  have hrt := B9.returns
  have hts := atoms_spec (ws := wsX5_digestOfTables) B9.pre
  have hown : s.vm.findClass RX5 = some m.cls := findClass_of_methodNamed B9.named
  have hlocks := B9.notSynchronized
  have nw := fun {w : Cond} (h : w ∈ nw_all) => NW.use (args := ([.ref aX, .long a_] : List Value).toArray) hKK.2 h
  have iX3 : ∀ w ∈ wsX30, w ∈ wsX5_digestOfTables := fun _ h => List.mem_cons_of_mem _ (List.mem_append_right _ h)
  have iX5 : ∀ w ∈ wsX50, w ∈ wsX5_digestOfTables := fun _ h => List.mem_cons_of_mem _ (List.mem_append_left _ (List.mem_append_right _ h))
  subst hsz
  have hD := hD0.self (sz := s.heap.size)
  generalize hAe : va_A (cX aX aT aR0 aR1 ++ cT cyI aT ac as_ cd sw fd fn) s.heap.size = A at hD ⊢
  have hA : ∀ q : Nat, s.heap.size ≤ q → A q := fun q h => by rw [← hAe]; exact Or.inr h
  have hS : va_S A s.heap s.heap [] := va_S.rf
  have hl := lv_entry ([.ref aX, .long a_]) (n := 6) (Nat.le_of_ble_eq_true rfl)
  rw [lg_entry_eq]
  generalize (lg_sl ([.ref aX, .long a_]) ++ List.replicate (6 - (lg_sl ([.ref aX, .long a_])).length) Slot.unset).toArray = ls at hl ⊢
  have hl : lv_has ls 6 [(0, .ref aX), (1, .long a_)] := hl
  refine lv_lload_n hx hb dX5_digestOfTables_0 rfl (lv_at hl 1 rfl) ?_
  refine lv_lstore_n (lv' := [(3, .long a_), (0, .ref aX), (1, .long a_)]) hx hb dX5_digestOfTables_1 rfl hl (by decide) rfl (fun ls hl => ?_)
  refine lv_iconst (v := 0) hx hb dX5_digestOfTables_2 (by decide) ?_
  refine lv_istore (lv' := [(5, .int 0), (3, .long a_), (0, .ref aX), (1, .long a_)]) hx hb dX5_digestOfTables_3 hl (by decide) rfl (fun ls hl => ?_)
  refine wloop (σ := (Nat) × (Int64)) (fun d9 x9 H9 L9 s9 => ((x9.1) + d9 = 8) ∧ (dgL cd 8 0 a_ = dgL cd d9 (x9.1) (x9.2)) ∧ (va_P D vwCl (cX aX aT aR0 aR1 ++ cT cyI aT ac as_ cd sw fd fn) H9) ∧ (va_D A (cX aX aT aR0 aR1 ++ cT cyI aT ac as_ cd sw fd fn)) ∧ (va_S A s.heap H9 L9) ∧ (lv_has s9 6 [(5, .int (nI (x9.1))), (3, .long (x9.2)), (0, .ref aX), (1, .long a_)])) (fun d9 x9 H locs ls g9 ihA => ?_) 8 (0, a_) _ _ _ ⟨(by omega), rfl, hP, hD, hS, lv_sub hl [0, 1, 2, 3] rfl⟩
  obtain ⟨iA, a1⟩ := x9
  obtain ⟨hidA, hspA, hP, hD, hS, hl⟩ := g9
  obtain ⟨dA, rfl⟩ : ∃ z, z = d9 := ⟨_, rfl⟩
  have hidA : iA + dA = 8 := hidA
  have hspA : dgL cd 8 0 a_ = dgL cd dA iA a1 := hspA
  have hP : va_P D vwCl (cX aX aT aR0 aR1 ++ cT cyI aT ac as_ cd sw fd fn) H := hP
  have hD : va_D A (cX aX aT aR0 aR1 ++ cT cyI aT ac as_ cd sw fd fn) := hD
  have hl : lv_has ls 6 [(5, .int (nI iA)), (3, .long a1), (0, .ref aX), (1, .long a_)] := hl
  refine lv_iload hx hb dX5_digestOfTables_5 (lv_at hl 0 rfl) ?_
  refine lv_bipush (v := 8) hx hb dX5_digestOfTables_7 (by decide) ?_
  refine lv_icmp_ge (tgt := 36) hx hb dX5_digestOfTables_9 (by decide) (fun h_1 => ?_) (fun h_1 => ?_)
  · skip
    obtain rfl : dA = 0 := by have h9 := (nI_leI (a := 8) (b := iA) (by omega) (by omega)).mp h_1; omega
    have hiNA : iA = 8 := by omega
    have hA : dgL cd 8 0 a_ = a1 := hspA
    refine lv_iconst (v := 0) hx hb dX5_digestOfTables_36 (by decide) ?_
    refine lv_istore (lv' := [(5, .int 0), (3, .long a1), (0, .ref aX), (1, .long a_)]) hx hb dX5_digestOfTables_37 hl (by decide) rfl (fun ls hl => ?_)
    refine wloop (σ := (Nat) × (Int64)) (fun d9 x9 H9 L9 s9 => ((x9.1) + d9 = 12) ∧ (dgL sw 12 0 a1 = dgL sw d9 (x9.1) (x9.2)) ∧ (va_P D vwCl (cX aX aT aR0 aR1 ++ cT cyI aT ac as_ cd sw fd fn) H9) ∧ (va_D A (cX aX aT aR0 aR1 ++ cT cyI aT ac as_ cd sw fd fn)) ∧ (va_S A s.heap H9 L9) ∧ (lv_has s9 6 [(5, .int (nI (x9.1))), (3, .long (x9.2)), (0, .ref aX), (1, .long a_)])) (fun d9 x9 H locs ls g9 ihB => ?_) 12 (0, a1) _ _ _ ⟨(by omega), rfl, hP, hD, hS, lv_sub hl [0, 1, 2, 3] rfl⟩
    obtain ⟨iB, a2⟩ := x9
    obtain ⟨hidB, hspB, hP, hD, hS, hl⟩ := g9
    obtain ⟨dB, rfl⟩ : ∃ z, z = d9 := ⟨_, rfl⟩
    have hidB : iB + dB = 12 := hidB
    have hspB : dgL sw 12 0 a1 = dgL sw dB iB a2 := hspB
    have hP : va_P D vwCl (cX aX aT aR0 aR1 ++ cT cyI aT ac as_ cd sw fd fn) H := hP
    have hD : va_D A (cX aX aT aR0 aR1 ++ cT cyI aT ac as_ cd sw fd fn) := hD
    have hl : lv_has ls 6 [(5, .int (nI iB)), (3, .long a2), (0, .ref aX), (1, .long a_)] := hl
    refine lv_iload hx hb dX5_digestOfTables_39 (lv_at hl 0 rfl) ?_
    refine lv_bipush (v := 12) hx hb dX5_digestOfTables_41 (by decide) ?_
    refine lv_icmp_ge (tgt := 70) hx hb dX5_digestOfTables_43 (by decide) (fun h_2 => ?_) (fun h_2 => ?_)
    · skip
      obtain rfl : dB = 0 := by have h9 := (nI_leI (a := 12) (b := iB) (by omega) (by omega)).mp h_2; omega
      have hiNB : iB = 12 := by omega
      have hB2 : dgL sw 12 0 a1 = a2 := hspB
      refine lv_lload_n hx hb dX5_digestOfTables_70 rfl (lv_at hl 1 rfl) ?_
      refine lv_ldc2 hx hb hown (hts (.constantLong RX5 206 (31)) (List.mem_of_getElem? (i := 1) rfl)) dX5_digestOfTables_71 ?_
      refine lv_lmul hx hb dX5_digestOfTables_74 ?_
      refine lv_aload_n hx hb dX5_digestOfTables_75 rfl (lv_at hl 2 rfl) ?_
      refine va_get (D := D) (ci := 5) (v := .ref aT) (C := RX5) (T := TX5) (N := 3) hx hb hts iX5 hown hKK.1 hP 0 rfl rfl 0 (by decide) (hts (.fieldLink RX5 10 "TrolleyGang" "tables" "LTrolleyGang$Tables;") (List.mem_of_getElem? (i := 2) rfl)) (fun _ h9 => h9) rfl dX5_digestOfTables_76 ?_
      refine va_getN (D := D) (ci := 3) (v := .int fd) (C := RX3) (T := TX3) (N := 4) hx hb hts iX3 hown hKK.1 hP 1 rfl rfl 2 (by decide) (nw (w := .fieldLinkNest "TrolleyGang" 59 "TrolleyGang$Tables" "fareByDay" "I" "TrolleyGang") nq_33) (fun _ h9 => h9) rfl dX5_digestOfTables_79 ?_
      refine lv_i2l (v := fd.toInt64) hx hb dX5_digestOfTables_82 rfl ?_
      refine lv_ladd hx hb dX5_digestOfTables_83 ?_
      refine lv_lstore_n (lv' := [(3, .long ((a2 * 31) + fd.toInt64)), (5, .int (nI iB)), (0, .ref aX), (1, .long a_)]) hx hb dX5_digestOfTables_84 rfl hl (by decide) rfl (fun ls hl => ?_)
      refine lv_lload_n hx hb dX5_digestOfTables_85 rfl (lv_at hl 0 rfl) ?_
      refine lv_ldc2 hx hb hown (hts (.constantLong RX5 206 (31)) (List.mem_of_getElem? (i := 1) rfl)) dX5_digestOfTables_86 ?_
      refine lv_lmul hx hb dX5_digestOfTables_89 ?_
      refine lv_aload_n hx hb dX5_digestOfTables_90 rfl (lv_at hl 2 rfl) ?_
      refine va_get (D := D) (ci := 5) (v := .ref aT) (C := RX5) (T := TX5) (N := 3) hx hb hts iX5 hown hKK.1 hP 0 rfl rfl 0 (by decide) (hts (.fieldLink RX5 10 "TrolleyGang" "tables" "LTrolleyGang$Tables;") (List.mem_of_getElem? (i := 2) rfl)) (fun _ h9 => h9) rfl dX5_digestOfTables_91 ?_
      refine va_getN (D := D) (ci := 3) (v := .int fn) (C := RX3) (T := TX3) (N := 4) hx hb hts iX3 hown hKK.1 hP 1 rfl rfl 3 (by decide) (nw (w := .fieldLinkNest "TrolleyGang" 55 "TrolleyGang$Tables" "fareByNight" "I" "TrolleyGang") nq_34) (fun _ h9 => h9) rfl dX5_digestOfTables_94 ?_
      refine lv_i2l (v := fn.toInt64) hx hb dX5_digestOfTables_97 rfl ?_
      refine lv_ladd hx hb dX5_digestOfTables_98 ?_
      have e9 : dgT cd sw fd fn a_ = (((a2 * 31) + fd.toInt64) * 31) + fn.toInt64 := (by rw [dgT, hA, hB2])
      exact end_l hx hb hrt hlocks (by rw [e9]) hP hS dX5_digestOfTables_99
    · skip
      have hltB : iB < 12 := by have h9 := mt (nI_leI (a := 12) (b := iB) (by omega) (by omega)).mpr h_2; omega
      obtain ⟨dB, rfl⟩ : ∃ k, dB = k + 1 := ⟨dB - 1, by omega⟩
      refine lv_lload_n hx hb dX5_digestOfTables_46 rfl (lv_at hl 1 rfl) ?_
      refine lv_ldc2 hx hb hown (hts (.constantLong RX5 206 (31)) (List.mem_of_getElem? (i := 1) rfl)) dX5_digestOfTables_47 ?_
      refine lv_lmul hx hb dX5_digestOfTables_50 ?_
      refine lv_aload_n hx hb dX5_digestOfTables_51 rfl (lv_at hl 2 rfl) ?_
      refine va_get (D := D) (ci := 5) (v := .ref aT) (C := RX5) (T := TX5) (N := 3) hx hb hts iX5 hown hKK.1 hP 0 rfl rfl 0 (by decide) (hts (.fieldLink RX5 10 "TrolleyGang" "tables" "LTrolleyGang$Tables;") (List.mem_of_getElem? (i := 2) rfl)) (fun _ h9 => h9) rfl dX5_digestOfTables_52 ?_
      refine va_getN (D := D) (ci := 3) (v := .ref as_) (C := RX3) (T := TX3) (N := 4) hx hb hts iX3 hown hKK.1 hP 1 rfl rfl 1 (by decide) (nw (w := .fieldLinkNest "TrolleyGang" 46 "TrolleyGang$Tables" "swans" "[I" "TrolleyGang") nq_31) (fun _ h9 => h9) rfl dX5_digestOfTables_55 ?_
      refine lv_iload hx hb dX5_digestOfTables_58 (lv_at hl 0 rfl) ?_
      refine va_iald hx hb hKK.1 hP 3 0 rfl rfl (hin := (vp_in_nI hltB (by omega))) dX5_digestOfTables_60 ?_
      refine lv_tope (y := sw iB) (by rw [nI_clamp (by omega)]) ?_
      refine lv_i2l (v := (sw iB).toInt64) hx hb dX5_digestOfTables_61 rfl ?_
      refine lv_ladd hx hb dX5_digestOfTables_62 ?_
      refine lv_lstore_n (lv' := [(3, .long ((a2 * 31) + ((sw iB).toInt64))), (5, .int (nI iB)), (0, .ref aX), (1, .long a_)]) hx hb dX5_digestOfTables_63 rfl hl (by decide) rfl (fun ls hl => ?_)
      refine lv_iinc (v := nI (iB + 1)) (lv' := [(5, .int (nI (iB + 1))), (3, .long ((a2 * 31) + ((sw iB).toInt64))), (0, .ref aX), (1, .long a_)]) hx hb dX5_digestOfTables_64 hl (k := 1) rfl (nI_1 iB) (by decide) rfl (fun ls hl => ?_)
      refine lv_goto (tgt := 39) hx hb dX5_digestOfTables_67 (by decide) ?_
      exact ihB dB ((iB + 1), ((a2 * 31) + ((sw iB).toInt64))) _ _ _ (by omega) ⟨(by omega), (hspB.trans (by rfl)), hP, hD, hS, lv_sub hl [0, 1, 2, 3] rfl⟩
  · skip
    have hltA : iA < 8 := by have h9 := mt (nI_leI (a := 8) (b := iA) (by omega) (by omega)).mpr h_1; omega
    obtain ⟨dA, rfl⟩ : ∃ k, dA = k + 1 := ⟨dA - 1, by omega⟩
    refine lv_lload_n hx hb dX5_digestOfTables_12 rfl (lv_at hl 1 rfl) ?_
    refine lv_ldc2 hx hb hown (hts (.constantLong RX5 206 (31)) (List.mem_of_getElem? (i := 1) rfl)) dX5_digestOfTables_13 ?_
    refine lv_lmul hx hb dX5_digestOfTables_16 ?_
    refine lv_aload_n hx hb dX5_digestOfTables_17 rfl (lv_at hl 2 rfl) ?_
    refine va_get (D := D) (ci := 5) (v := .ref aT) (C := RX5) (T := TX5) (N := 3) hx hb hts iX5 hown hKK.1 hP 0 rfl rfl 0 (by decide) (hts (.fieldLink RX5 10 "TrolleyGang" "tables" "LTrolleyGang$Tables;") (List.mem_of_getElem? (i := 2) rfl)) (fun _ h9 => h9) rfl dX5_digestOfTables_18 ?_
    refine va_getN (D := D) (ci := 3) (v := .ref ac) (C := RX3) (T := TX3) (N := 4) hx hb hts iX3 hown hKK.1 hP 1 rfl rfl 0 (by decide) (nw (w := .fieldLinkNest "TrolleyGang" 38 "TrolleyGang$Tables" "colds" "[I" "TrolleyGang") nq_29) (fun _ h9 => h9) rfl dX5_digestOfTables_21 ?_
    refine lv_iload hx hb dX5_digestOfTables_24 (lv_at hl 0 rfl) ?_
    refine va_iald hx hb hKK.1 hP 2 0 rfl rfl (hin := (vp_in_nI hltA (by omega))) dX5_digestOfTables_26 ?_
    refine lv_tope (y := cd iA) (by rw [nI_clamp (by omega)]) ?_
    refine lv_i2l (v := (cd iA).toInt64) hx hb dX5_digestOfTables_27 rfl ?_
    refine lv_ladd hx hb dX5_digestOfTables_28 ?_
    refine lv_lstore_n (lv' := [(3, .long ((a1 * 31) + ((cd iA).toInt64))), (5, .int (nI iA)), (0, .ref aX), (1, .long a_)]) hx hb dX5_digestOfTables_29 rfl hl (by decide) rfl (fun ls hl => ?_)
    refine lv_iinc (v := nI (iA + 1)) (lv' := [(5, .int (nI (iA + 1))), (3, .long ((a1 * 31) + ((cd iA).toInt64))), (0, .ref aX), (1, .long a_)]) hx hb dX5_digestOfTables_30 hl (k := 1) rfl (nI_1 iA) (by decide) rfl (fun ls hl => ?_)
    refine lv_goto (tgt := 5) hx hb dX5_digestOfTables_33 (by decide) ?_
    exact ihA dA ((iA + 1), ((a1 * 31) + ((cd iA).toInt64))) _ _ _ (by omega) ⟨(by omega), (hspA.trans (by rfl)), hP, hD, hS, lv_sub hl [0, 1, 2, 3] rfl⟩
set_option maxHeartbeats 4000000 in
set_option maxRecDepth 100000 in
theorem c_X5_digest (l : Launch) (D : va_G) (cyI cyO cyL : ClassId) (aX : Nat) (aT : Nat) (aR0 : Nat) (aR1 : Nat) (ac : Nat) (as_ : Nat) (aW0 : Nat) (aw0 : Nat) (af0 : Nat) (aG0 : Nat) (ao0 : Nat) (aB0 : Nat) (aW1 : Nat) (aw1 : Nat) (af1 : Nat) (aG1 : Nat) (ao1 : Nat) (aB1 : Nat) (cd : Nat → Int32) (sw : Nat → Int32) (fd : Int32) (fn : Int32) (ab0 : Nat → Nat) (w0 : Nat → Int32) (f0 : Nat → Int32) (od0 : Nat → Int32) (g0 : Nat → Int32) (bc0 : Int32) (hr0 : Int32) (co0 : Int32) (ab1 : Nat → Nat) (w1 : Nat → Int32) (f1 : Nat → Int32) (od1 : Nat → Int32) (g1 : Nat → Int32) (bc1 : Int32) (hr1 : Int32) (co1 : Int32) (LB : List Nat) (B : Nat → Nat → Int32) (n : Nat) (o_ : Nat) (hn : n ≤ 6) (hbc : bc0 = nI n) (hLB0 : ∀ k, k < 6 → ab0 k ∈ LB) (hm : o_ ≤ 6) (hoc : g0 0 = nI o_) (hB : OkB B) (hhr : OkH hr0) : cL l yX5_digest wsX5_digest ({ frames := 4, cells := 0, slots := 0, locals := 85 }) D cyI cyO cyL [.ref aX] ((cX aX aT aR0 aR1 ++ cT cyI aT ac as_ cd sw fd fn ++ cR cyI cyO aR0 aW0 aw0 af0 aG0 ao0 aB0 ab0 w0 f0 od0 g0 bc0 hr0 co0 ++ cR cyI cyO aR1 aW1 aw1 af1 aG1 ao1 aB1 ab1 w1 f1 od1 g1 bc1 hr1 co1) ++ pB LB B) ((cX aX aT aR0 aR1 ++ cT cyI aT ac as_ cd sw fd fn ++ cR cyI cyO aR0 aW0 aw0 af0 aG0 ao0 aB0 ab0 w0 f0 od0 g0 bc0 hr0 co0 ++ cR cyI cyO aR1 aW1 aw1 af1 aG1 ao1 aB1 ab1 w1 f1 od1 g1 bc1 hr1 co1) ++ pB LB B) (dg2 (fun y z => toldS (nI z) B (ab0 (nI y).toNatClampNeg) w0) 7 n 0 (dg2 (fun y z => spanS (nI y) (nI z) n o_ ab0 w0 f0 od0 B) 5 24 0 (dgL (fun z => gangS (nI z) od0 g0) 7 0 (dgT cd sw fd fn (dgL (fun z => tallyS (nI z) n ab0 w0 f0 B bc0 hr0 co0) 9 0 1301))))) := by
  intro sz
  refine Met.ofW (cc := cX5_digest) (maxL := 5) (ret := (some .long)) (by decide) rfl ?_
  intro p e s m args below meth c s₁ B9 hml hv
  obtain ⟨rfl, hsz, hP, hKK, hD0⟩ := hv
  have hx := B9.exec
  have hb := B9.bytes
  have hrt := B9.returns
  have hts := atoms_spec (ws := wsX5_digest) B9.pre
  have hown : s.vm.findClass RX5 = some m.cls := findClass_of_methodNamed B9.named
  have hlocks := B9.notSynchronized
  have nw := fun {w : Cond} (h : w ∈ nw_all) => NW.use (args := ([.ref aX] : List Value).toArray) hKK.2 h
  have iX2 : ∀ w ∈ wsX20, w ∈ wsX5_digest := fun _ h => List.mem_cons_of_mem _ (List.mem_append_left _ (List.mem_append_left _ (List.mem_append_left _ (List.mem_append_left _ (List.mem_append_left _ (List.mem_append_right _ h))))))
  have iX5 : ∀ w ∈ wsX50, w ∈ wsX5_digest := fun _ h => List.mem_cons_of_mem _ (List.mem_append_left _ (List.mem_append_left _ (List.mem_append_left _ (List.mem_append_left _ (List.mem_append_left _ (List.mem_append_left _ (List.mem_append_right _ h)))))))
  subst hsz
  have hD := hD0.self (sz := s.heap.size)
  generalize hAe : va_A ((cX aX aT aR0 aR1 ++ cT cyI aT ac as_ cd sw fd fn ++ cR cyI cyO aR0 aW0 aw0 af0 aG0 ao0 aB0 ab0 w0 f0 od0 g0 bc0 hr0 co0 ++ cR cyI cyO aR1 aW1 aw1 af1 aG1 ao1 aB1 ab1 w1 f1 od1 g1 bc1 hr1 co1) ++ pB LB B) s.heap.size = A at hD ⊢
  have hA : ∀ q : Nat, s.heap.size ≤ q → A q := fun q h => by rw [← hAe]; exact Or.inr h
  have hS : va_S A s.heap s.heap [] := va_S.rf
  have hl := lv_entry ([.ref aX]) (n := 5) (Nat.le_of_ble_eq_true rfl)
  rw [lg_entry_eq]
  generalize (lg_sl ([.ref aX]) ++ List.replicate (5 - (lg_sl ([.ref aX])).length) Slot.unset).toArray = ls at hl ⊢
  have hl : lv_has ls 5 [(0, .ref aX)] := hl
  refine lv_ldc2 hx hb hown (hts (.constantLong RX5 204 (1301)) (List.mem_of_getElem? (i := 1) rfl)) dX5_digest_0 ?_
  refine lv_lstore_n (lv' := [(1, .long 1301), (0, .ref aX)]) hx hb dX5_digest_3 rfl hl (by decide) rfl (fun ls hl => ?_)
  refine lv_iconst (v := 0) hx hb dX5_digest_4 (by decide) ?_
  refine lv_istore_n (lv' := [(3, .int 0), (1, .long 1301), (0, .ref aX)]) hx hb dX5_digest_5 rfl hl (by decide) rfl (fun ls hl => ?_)
  refine wloop (σ := (Nat) × (Int64)) (fun d9 x9 H9 L9 s9 => ((x9.1) + d9 = 9) ∧ (dgL (fun z => tallyS (nI z) n ab0 w0 f0 B bc0 hr0 co0) 9 0 1301 = dgL (fun z => tallyS (nI z) n ab0 w0 f0 B bc0 hr0 co0) d9 (x9.1) (x9.2)) ∧ (va_P D vwCl ((cX aX aT aR0 aR1 ++ cT cyI aT ac as_ cd sw fd fn ++ cR cyI cyO aR0 aW0 aw0 af0 aG0 ao0 aB0 ab0 w0 f0 od0 g0 bc0 hr0 co0 ++ cR cyI cyO aR1 aW1 aw1 af1 aG1 ao1 aB1 ab1 w1 f1 od1 g1 bc1 hr1 co1) ++ pB LB B) H9) ∧ (va_D A ((cX aX aT aR0 aR1 ++ cT cyI aT ac as_ cd sw fd fn ++ cR cyI cyO aR0 aW0 aw0 af0 aG0 ao0 aB0 ab0 w0 f0 od0 g0 bc0 hr0 co0 ++ cR cyI cyO aR1 aW1 aw1 af1 aG1 ao1 aB1 ab1 w1 f1 od1 g1 bc1 hr1 co1) ++ pB LB B)) ∧ (va_S A s.heap H9 L9) ∧ (lv_has s9 5 [(3, .int (nI (x9.1))), (1, .long (x9.2)), (0, .ref aX)])) (fun d9 x9 H locs ls g9 ihA => ?_) 9 (0, 1301) _ _ _ ⟨(by omega), rfl, hP, hD, hS, lv_sub hl [0, 1, 2] rfl⟩
  obtain ⟨iA, a1⟩ := x9
  obtain ⟨hidA, hspA, hP, hD, hS, hl⟩ := g9
  obtain ⟨dA, rfl⟩ : ∃ z, z = d9 := ⟨_, rfl⟩
  have hidA : iA + dA = 9 := hidA
  have hspA : dgL (fun z => tallyS (nI z) n ab0 w0 f0 B bc0 hr0 co0) 9 0 1301 = dgL (fun z => tallyS (nI z) n ab0 w0 f0 B bc0 hr0 co0) dA iA a1 := hspA
  have hP : va_P D vwCl ((cX aX aT aR0 aR1 ++ cT cyI aT ac as_ cd sw fd fn ++ cR cyI cyO aR0 aW0 aw0 af0 aG0 ao0 aB0 ab0 w0 f0 od0 g0 bc0 hr0 co0 ++ cR cyI cyO aR1 aW1 aw1 af1 aG1 ao1 aB1 ab1 w1 f1 od1 g1 bc1 hr1 co1) ++ pB LB B) H := hP
  have hD : va_D A ((cX aX aT aR0 aR1 ++ cT cyI aT ac as_ cd sw fd fn ++ cR cyI cyO aR0 aW0 aw0 af0 aG0 ao0 aB0 ab0 w0 f0 od0 g0 bc0 hr0 co0 ++ cR cyI cyO aR1 aW1 aw1 af1 aG1 ao1 aB1 ab1 w1 f1 od1 g1 bc1 hr1 co1) ++ pB LB B) := hD
  have hl : lv_has ls 5 [(3, .int (nI iA)), (1, .long a1), (0, .ref aX)] := hl
  refine lv_iload_n hx hb dX5_digest_6 rfl (lv_at hl 0 rfl) ?_
  refine lv_bipush (v := 9) hx hb dX5_digest_7 (by decide) ?_
  refine lv_icmp_ge (tgt := 31) hx hb dX5_digest_9 (by decide) (fun h_1 => ?_) (fun h_1 => ?_)
  · skip
    obtain rfl : dA = 0 := by have h9 := (nI_leI (a := 9) (b := iA) (by omega) (by omega)).mp h_1; omega
    have hiNA : iA = 9 := by omega
    have hA1 : dgL (fun z => tallyS (nI z) n ab0 w0 f0 B bc0 hr0 co0) 9 0 1301 = a1 := hspA
    refine lv_aload_n hx hb dX5_digest_31 rfl (lv_at hl 2 rfl) ?_
    refine lv_lload_n hx hb dX5_digest_32 rfl (lv_at hl 1 rfl) ?_
    have hPc := hP.sub (ws' := (cX aX aT aR0 aR1 ++ cT cyI aT ac as_ cd sw fd fn)) [0, 1, 2, 3] rfl
    have hDc := hD.sub (ws' := (cX aX aT aR0 aR1 ++ cT cyI aT ac as_ cd sw fd fn)) [0, 1, 2, 3] (by decide) rfl
    refine ret_lP (W1 := (cX aX aT aR0 aR1 ++ cT cyI aT ac as_ cd sw fd fn)) (W2 := (cX aX aT aR0 aR1 ++ cT cyI aT ac as_ cd sw fd fn)) (X1 := cX aX aT aR0 aR1 ++ cT cyI aT ac as_ cd sw fd fn ++ cR cyI cyO aR0 aW0 aw0 af0 aG0 ao0 aB0 ab0 w0 f0 od0 g0 bc0 hr0 co0 ++ cR cyI cyO aR1 aW1 aw1 af1 aG1 ao1 aB1 ab1 w1 f1 od1 g1 bc1 hr1 co1) (r := dgT cd sw fd fn a1) (run_V (q := (RX5, TX5, 3)) (n := 1) (As := [.long a1]) (rest := []) ⟨hx, hb, hml, hown, hts⟩ (c_X5_digestOfTables l D cyI cyO cyL aX aT aR0 aR1 ac as_ cd sw fd fn a1 _) ggX5_digest_X5_digestOfTables rfl rfl rfl (hts (.methodLink RX5 211 yX5_digestOfTables) (List.mem_of_getElem? (i := 55) rfl)) (hts (.initialized RX5) (List.mem_of_getElem? (i := 7) rfl)) (hts (.instanceMethod yX5_digestOfTables) (List.mem_of_getElem? (i := 56) rfl)) (hts (.selects RX5 yX5_digestOfTables yX5_digestOfTables) (List.mem_of_getElem? (i := 57) rfl)) (by decide +kernel) ⟨Nat.le_of_ble_eq_true rfl, Nat.le_of_ble_eq_true rfl⟩ hKK hPc hDc (ci := 5) (q0 := 0) rfl rfl rfl hl.1 rfl (Nat.le_of_ble_eq_true rfl) dX5_digest_33 ⟨Nat.zero_le _, Nat.zero_le _⟩) hP hD hS hA [0, 1, 2, 3] rfl rfl [(true, 0), (true, 1), (true, 2), (true, 3), (false, 4), (false, 5), (false, 6), (false, 7), (false, 8), (false, 9), (false, 10), (false, 11), (false, 12), (false, 13), (false, 14), (false, 15), (false, 16), (false, 17)] (by decide +kernel) rfl rfl (fun H locs hP hD hS => ?_)
    refine lv_lstore_n (lv' := [(1, .long (dgT cd sw fd fn a1)), (3, .int (nI iA)), (0, .ref aX)]) hx hb dX5_digest_36 rfl hl (by decide) rfl (fun ls hl => ?_)
    refine lv_iconst (v := 0) hx hb dX5_digest_37 (by decide) ?_
    refine lv_istore_n (lv' := [(3, .int 0), (1, .long (dgT cd sw fd fn a1)), (0, .ref aX)]) hx hb dX5_digest_38 rfl hl (by decide) rfl (fun ls hl => ?_)
    refine wloop (σ := (Nat) × (Int64)) (fun d9 x9 H9 L9 s9 => ((x9.1) + d9 = 7) ∧ (dgL (fun z => gangS (nI z) od0 g0) 7 0 (dgT cd sw fd fn a1) = dgL (fun z => gangS (nI z) od0 g0) d9 (x9.1) (x9.2)) ∧ (va_P D vwCl ((cX aX aT aR0 aR1 ++ cT cyI aT ac as_ cd sw fd fn ++ cR cyI cyO aR0 aW0 aw0 af0 aG0 ao0 aB0 ab0 w0 f0 od0 g0 bc0 hr0 co0 ++ cR cyI cyO aR1 aW1 aw1 af1 aG1 ao1 aB1 ab1 w1 f1 od1 g1 bc1 hr1 co1) ++ pB LB B) H9) ∧ (va_D A ((cX aX aT aR0 aR1 ++ cT cyI aT ac as_ cd sw fd fn ++ cR cyI cyO aR0 aW0 aw0 af0 aG0 ao0 aB0 ab0 w0 f0 od0 g0 bc0 hr0 co0 ++ cR cyI cyO aR1 aW1 aw1 af1 aG1 ao1 aB1 ab1 w1 f1 od1 g1 bc1 hr1 co1) ++ pB LB B)) ∧ (va_S A s.heap H9 L9) ∧ (lv_has s9 5 [(3, .int (nI (x9.1))), (1, .long (x9.2)), (0, .ref aX)])) (fun d9 x9 H locs ls g9 ihB => ?_) 7 (0, dgT cd sw fd fn a1) _ _ _ ⟨(by omega), rfl, hP, hD, hS, lv_sub hl [0, 1, 2] rfl⟩
    obtain ⟨iB, a2⟩ := x9
    obtain ⟨hidB, hspB, hP, hD, hS, hl⟩ := g9
    obtain ⟨dB, rfl⟩ : ∃ z, z = d9 := ⟨_, rfl⟩
    have hidB : iB + dB = 7 := hidB
    have hspB : dgL (fun z => gangS (nI z) od0 g0) 7 0 (dgT cd sw fd fn a1) = dgL (fun z => gangS (nI z) od0 g0) dB iB a2 := hspB
    have hP : va_P D vwCl ((cX aX aT aR0 aR1 ++ cT cyI aT ac as_ cd sw fd fn ++ cR cyI cyO aR0 aW0 aw0 af0 aG0 ao0 aB0 ab0 w0 f0 od0 g0 bc0 hr0 co0 ++ cR cyI cyO aR1 aW1 aw1 af1 aG1 ao1 aB1 ab1 w1 f1 od1 g1 bc1 hr1 co1) ++ pB LB B) H := hP
    have hD : va_D A ((cX aX aT aR0 aR1 ++ cT cyI aT ac as_ cd sw fd fn ++ cR cyI cyO aR0 aW0 aw0 af0 aG0 ao0 aB0 ab0 w0 f0 od0 g0 bc0 hr0 co0 ++ cR cyI cyO aR1 aW1 aw1 af1 aG1 ao1 aB1 ab1 w1 f1 od1 g1 bc1 hr1 co1) ++ pB LB B) := hD
    have hl : lv_has ls 5 [(3, .int (nI iB)), (1, .long a2), (0, .ref aX)] := hl
    refine lv_iload_n hx hb dX5_digest_39 rfl (lv_at hl 0 rfl) ?_
    refine lv_bipush (v := 7) hx hb dX5_digest_40 (by decide) ?_
    refine lv_icmp_ge (tgt := 64) hx hb dX5_digest_42 (by decide) (fun h_2 => ?_) (fun h_2 => ?_)
    · skip
      obtain rfl : dB = 0 := by have h9 := (nI_leI (a := 7) (b := iB) (by omega) (by omega)).mp h_2; omega
      have hiNB : iB = 7 := by omega
      have hB1 : dgL (fun z => gangS (nI z) od0 g0) 7 0 (dgT cd sw fd fn a1) = a2 := hspB
      refine lv_iconst (v := 0) hx hb dX5_digest_64 (by decide) ?_
      refine lv_istore_n (lv' := [(3, .int 0), (1, .long a2), (0, .ref aX)]) hx hb dX5_digest_65 rfl hl (by decide) rfl (fun ls hl => ?_)
      refine wloop (σ := (Nat) × (Int64)) (fun d9 x9 H9 L9 s9 => ((x9.1) + d9 = 24) ∧ (dg2 (fun y z => spanS (nI y) (nI z) n o_ ab0 w0 f0 od0 B) 5 24 0 a2 = dg2 (fun y z => spanS (nI y) (nI z) n o_ ab0 w0 f0 od0 B) 5 d9 (x9.1) (x9.2)) ∧ (va_P D vwCl ((cX aX aT aR0 aR1 ++ cT cyI aT ac as_ cd sw fd fn ++ cR cyI cyO aR0 aW0 aw0 af0 aG0 ao0 aB0 ab0 w0 f0 od0 g0 bc0 hr0 co0 ++ cR cyI cyO aR1 aW1 aw1 af1 aG1 ao1 aB1 ab1 w1 f1 od1 g1 bc1 hr1 co1) ++ pB LB B) H9) ∧ (va_D A ((cX aX aT aR0 aR1 ++ cT cyI aT ac as_ cd sw fd fn ++ cR cyI cyO aR0 aW0 aw0 af0 aG0 ao0 aB0 ab0 w0 f0 od0 g0 bc0 hr0 co0 ++ cR cyI cyO aR1 aW1 aw1 af1 aG1 ao1 aB1 ab1 w1 f1 od1 g1 bc1 hr1 co1) ++ pB LB B)) ∧ (va_S A s.heap H9 L9) ∧ (lv_has s9 5 [(3, .int (nI (x9.1))), (1, .long (x9.2)), (0, .ref aX)])) (fun d9 x9 H locs ls g9 ihC => ?_) 24 (0, a2) _ _ _ ⟨(by omega), rfl, hP, hD, hS, lv_sub hl [0, 1, 2] rfl⟩
      obtain ⟨iC, a3⟩ := x9
      obtain ⟨hidC, hspC, hP, hD, hS, hl⟩ := g9
      obtain ⟨dC, rfl⟩ : ∃ z, z = d9 := ⟨_, rfl⟩
      have hidC : iC + dC = 24 := hidC
      have hspC : dg2 (fun y z => spanS (nI y) (nI z) n o_ ab0 w0 f0 od0 B) 5 24 0 a2 = dg2 (fun y z => spanS (nI y) (nI z) n o_ ab0 w0 f0 od0 B) 5 dC iC a3 := hspC
      have hP : va_P D vwCl ((cX aX aT aR0 aR1 ++ cT cyI aT ac as_ cd sw fd fn ++ cR cyI cyO aR0 aW0 aw0 af0 aG0 ao0 aB0 ab0 w0 f0 od0 g0 bc0 hr0 co0 ++ cR cyI cyO aR1 aW1 aw1 af1 aG1 ao1 aB1 ab1 w1 f1 od1 g1 bc1 hr1 co1) ++ pB LB B) H := hP
      have hD : va_D A ((cX aX aT aR0 aR1 ++ cT cyI aT ac as_ cd sw fd fn ++ cR cyI cyO aR0 aW0 aw0 af0 aG0 ao0 aB0 ab0 w0 f0 od0 g0 bc0 hr0 co0 ++ cR cyI cyO aR1 aW1 aw1 af1 aG1 ao1 aB1 ab1 w1 f1 od1 g1 bc1 hr1 co1) ++ pB LB B) := hD
      have hl : lv_has ls 5 [(3, .int (nI iC)), (1, .long a3), (0, .ref aX)] := hl
      refine lv_iload_n hx hb dX5_digest_66 rfl (lv_at hl 0 rfl) ?_
      refine lv_bipush (v := 24) hx hb dX5_digest_67 (by decide) ?_
      refine lv_icmp_ge (tgt := 108) hx hb dX5_digest_69 (by decide) (fun h_3 => ?_) (fun h_3 => ?_)
      · skip
        obtain rfl : dC = 0 := by have h9 := (nI_leI (a := 24) (b := iC) (by omega) (by omega)).mp h_3; omega
        have hiNC : iC = 24 := by omega
        have hC1 : dg2 (fun y z => spanS (nI y) (nI z) n o_ ab0 w0 f0 od0 B) 5 24 0 a2 = a3 := hspC
        refine lv_iconst (v := 0) hx hb dX5_digest_108 (by decide) ?_
        refine lv_istore_n (lv' := [(3, .int 0), (1, .long a3), (0, .ref aX)]) hx hb dX5_digest_109 rfl hl (by decide) rfl (fun ls hl => ?_)
        refine wloop (σ := (Nat) × (Int64)) (fun d9 x9 H9 L9 s9 => ((x9.1) + d9 = n) ∧ (dg2 (fun y z => toldS (nI z) B (ab0 (nI y).toNatClampNeg) w0) 7 n 0 a3 = dg2 (fun y z => toldS (nI z) B (ab0 (nI y).toNatClampNeg) w0) 7 d9 (x9.1) (x9.2)) ∧ (va_P D vwCl ((cX aX aT aR0 aR1 ++ cT cyI aT ac as_ cd sw fd fn ++ cR cyI cyO aR0 aW0 aw0 af0 aG0 ao0 aB0 ab0 w0 f0 od0 g0 bc0 hr0 co0 ++ cR cyI cyO aR1 aW1 aw1 af1 aG1 ao1 aB1 ab1 w1 f1 od1 g1 bc1 hr1 co1) ++ pB LB B) H9) ∧ (va_D A ((cX aX aT aR0 aR1 ++ cT cyI aT ac as_ cd sw fd fn ++ cR cyI cyO aR0 aW0 aw0 af0 aG0 ao0 aB0 ab0 w0 f0 od0 g0 bc0 hr0 co0 ++ cR cyI cyO aR1 aW1 aw1 af1 aG1 ao1 aB1 ab1 w1 f1 od1 g1 bc1 hr1 co1) ++ pB LB B)) ∧ (va_S A s.heap H9 L9) ∧ (lv_has s9 5 [(3, .int (nI (x9.1))), (1, .long (x9.2)), (0, .ref aX)])) (fun d9 x9 H locs ls g9 ihE => ?_) n (0, a3) _ _ _ ⟨(by omega), rfl, hP, hD, hS, lv_sub hl [0, 1, 2] rfl⟩
        obtain ⟨iE, a5⟩ := x9
        obtain ⟨hidE, hspE, hP, hD, hS, hl⟩ := g9
        obtain ⟨dE, rfl⟩ : ∃ z, z = d9 := ⟨_, rfl⟩
        have hidE : iE + dE = n := hidE
        have hspE : dg2 (fun y z => toldS (nI z) B (ab0 (nI y).toNatClampNeg) w0) 7 n 0 a3 = dg2 (fun y z => toldS (nI z) B (ab0 (nI y).toNatClampNeg) w0) 7 dE iE a5 := hspE
        have hP : va_P D vwCl ((cX aX aT aR0 aR1 ++ cT cyI aT ac as_ cd sw fd fn ++ cR cyI cyO aR0 aW0 aw0 af0 aG0 ao0 aB0 ab0 w0 f0 od0 g0 bc0 hr0 co0 ++ cR cyI cyO aR1 aW1 aw1 af1 aG1 ao1 aB1 ab1 w1 f1 od1 g1 bc1 hr1 co1) ++ pB LB B) H := hP
        have hD : va_D A ((cX aX aT aR0 aR1 ++ cT cyI aT ac as_ cd sw fd fn ++ cR cyI cyO aR0 aW0 aw0 af0 aG0 ao0 aB0 ab0 w0 f0 od0 g0 bc0 hr0 co0 ++ cR cyI cyO aR1 aW1 aw1 af1 aG1 ao1 aB1 ab1 w1 f1 od1 g1 bc1 hr1 co1) ++ pB LB B) := hD
        have hl : lv_has ls 5 [(3, .int (nI iE)), (1, .long a5), (0, .ref aX)] := hl
        refine lv_iload_n hx hb dX5_digest_110 rfl (lv_at hl 0 rfl) ?_
        refine lv_aload_n hx hb dX5_digest_111 rfl (lv_at hl 2 rfl) ?_
        refine va_get (D := D) (ci := 5) (v := .ref aR0) (C := RX5) (T := TX5) (N := 3) hx hb hts iX5 hown hKK.1 hP 0 rfl rfl 1 (by decide) (hts (.fieldLink RX5 19 "TrolleyGang" "now" "LTrolleyGang$Ring;") (List.mem_of_getElem? (i := 3) rfl)) (fun _ h9 => h9) rfl dX5_digest_112 ?_
        refine va_getN (D := D) (ci := 2) (v := .int bc0) (C := RX2) (T := TX2) (N := 6) hx hb hts iX2 hown hKK.1 hP 4 rfl rfl 3 (by decide) (nw (w := .fieldLinkNest "TrolleyGang" 66 "TrolleyGang$Ring" "busCount" "I" "TrolleyGang") nq_70) (fun _ h9 => h9) rfl dX5_digest_115 ?_
        refine lv_tope (y := nI n) hbc ?_
        refine lv_icmp_ge (tgt := 158) hx hb dX5_digest_118 (by decide) (fun h_4 => ?_) (fun h_4 => ?_)
        · skip
          obtain rfl : dE = 0 := by have h9 := (nI_leI (a := n) (b := iE) (by omega) (by omega)).mp h_4; omega
          have hiNE : iE = n := by omega
          have hE1 : dg2 (fun y z => toldS (nI z) B (ab0 (nI y).toNatClampNeg) w0) 7 n 0 a3 = a5 := hspE
          refine lv_lload_n hx hb dX5_digest_158 rfl (lv_at hl 1 rfl) ?_
          have e9 : dg2 (fun y z => toldS (nI z) B (ab0 (nI y).toNatClampNeg) w0) 7 n 0 (dg2 (fun y z => spanS (nI y) (nI z) n o_ ab0 w0 f0 od0 B) 5 24 0 (dgL (fun z => gangS (nI z) od0 g0) 7 0 (dgT cd sw fd fn (dgL (fun z => tallyS (nI z) n ab0 w0 f0 B bc0 hr0 co0) 9 0 1301)))) = a5 := (by rw [hA1, hB1, hC1, hE1])
          exact end_l hx hb hrt hlocks (by rw [e9]) hP hS dX5_digest_159
        · skip
          have hltE : iE < n := by have h9 := mt (nI_leI (a := n) (b := iE) (by omega) (by omega)).mpr h_4; omega
          obtain ⟨dE, rfl⟩ : ∃ k, dE = k + 1 := ⟨dE - 1, by omega⟩
          refine lv_iconst (v := 0) hx hb dX5_digest_121 (by decide) ?_
          refine lv_istore (lv' := [(4, .int 0), (3, .int (nI iE)), (1, .long a5), (0, .ref aX)]) hx hb dX5_digest_122 hl (by decide) rfl (fun ls hl => ?_)
          refine wloop (σ := (Nat) × (Int64)) (fun d9 x9 H9 L9 s9 => ((x9.1) + d9 = 7) ∧ (dgL ((fun y z => toldS (nI z) B (ab0 (nI y).toNatClampNeg) w0) iE) 7 0 a5 = dgL ((fun y z => toldS (nI z) B (ab0 (nI y).toNatClampNeg) w0) iE) d9 (x9.1) (x9.2)) ∧ (va_P D vwCl ((cX aX aT aR0 aR1 ++ cT cyI aT ac as_ cd sw fd fn ++ cR cyI cyO aR0 aW0 aw0 af0 aG0 ao0 aB0 ab0 w0 f0 od0 g0 bc0 hr0 co0 ++ cR cyI cyO aR1 aW1 aw1 af1 aG1 ao1 aB1 ab1 w1 f1 od1 g1 bc1 hr1 co1) ++ pB LB B) H9) ∧ (va_D A ((cX aX aT aR0 aR1 ++ cT cyI aT ac as_ cd sw fd fn ++ cR cyI cyO aR0 aW0 aw0 af0 aG0 ao0 aB0 ab0 w0 f0 od0 g0 bc0 hr0 co0 ++ cR cyI cyO aR1 aW1 aw1 af1 aG1 ao1 aB1 ab1 w1 f1 od1 g1 bc1 hr1 co1) ++ pB LB B)) ∧ (va_S A s.heap H9 L9) ∧ (lv_has s9 5 [(4, .int (nI (x9.1))), (3, .int (nI iE)), (1, .long (x9.2)), (0, .ref aX)])) (fun d9 x9 H locs ls g9 ihF => ?_) 7 (0, a5) _ _ _ ⟨(by omega), rfl, hP, hD, hS, lv_sub hl [0, 1, 2, 3] rfl⟩
          obtain ⟨iF, a6⟩ := x9
          obtain ⟨hidF, hspF, hP, hD, hS, hl⟩ := g9
          obtain ⟨dF, rfl⟩ : ∃ z, z = d9 := ⟨_, rfl⟩
          have hidF : iF + dF = 7 := hidF
          have hspF : dgL ((fun y z => toldS (nI z) B (ab0 (nI y).toNatClampNeg) w0) iE) 7 0 a5 = dgL ((fun y z => toldS (nI z) B (ab0 (nI y).toNatClampNeg) w0) iE) dF iF a6 := hspF
          have hP : va_P D vwCl ((cX aX aT aR0 aR1 ++ cT cyI aT ac as_ cd sw fd fn ++ cR cyI cyO aR0 aW0 aw0 af0 aG0 ao0 aB0 ab0 w0 f0 od0 g0 bc0 hr0 co0 ++ cR cyI cyO aR1 aW1 aw1 af1 aG1 ao1 aB1 ab1 w1 f1 od1 g1 bc1 hr1 co1) ++ pB LB B) H := hP
          have hD : va_D A ((cX aX aT aR0 aR1 ++ cT cyI aT ac as_ cd sw fd fn ++ cR cyI cyO aR0 aW0 aw0 af0 aG0 ao0 aB0 ab0 w0 f0 od0 g0 bc0 hr0 co0 ++ cR cyI cyO aR1 aW1 aw1 af1 aG1 ao1 aB1 ab1 w1 f1 od1 g1 bc1 hr1 co1) ++ pB LB B) := hD
          have hl : lv_has ls 5 [(4, .int (nI iF)), (3, .int (nI iE)), (1, .long a6), (0, .ref aX)] := hl
          refine lv_iload hx hb dX5_digest_124 (lv_at hl 0 rfl) ?_
          refine lv_bipush (v := 7) hx hb dX5_digest_126 (by decide) ?_
          refine lv_icmp_ge (tgt := 152) hx hb dX5_digest_128 (by decide) (fun h_5 => ?_) (fun h_5 => ?_)
          · skip
            obtain rfl : dF = 0 := by have h9 := (nI_leI (a := 7) (b := iF) (by omega) (by omega)).mp h_5; omega
            have hiNF : iF = 7 := by omega
            have hF1 : dgL ((fun y z => toldS (nI z) B (ab0 (nI y).toNatClampNeg) w0) iE) 7 0 a5 = a6 := hspF
            refine lv_iinc (v := nI (iE + 1)) (lv' := [(3, .int (nI (iE + 1))), (4, .int (nI iF)), (1, .long a6), (0, .ref aX)]) hx hb dX5_digest_152 hl (k := 1) rfl (nI_1 iE) (by decide) rfl (fun ls hl => ?_)
            refine lv_goto (tgt := 110) hx hb dX5_digest_155 (by decide) ?_
            exact ihE dE ((iE + 1), a6) _ _ _ (by omega) ⟨(by omega), (hspE.trans (by rw [← hF1]; rfl)), hP, hD, hS, lv_sub hl [0, 2, 3] rfl⟩
          · skip
            have hltF : iF < 7 := by have h9 := mt (nI_leI (a := 7) (b := iF) (by omega) (by omega)).mpr h_5; omega
            obtain ⟨dF, rfl⟩ : ∃ k, dF = k + 1 := ⟨dF - 1, by omega⟩
            refine lv_lload_n hx hb dX5_digest_131 rfl (lv_at hl 2 rfl) ?_
            refine lv_ldc2 hx hb hown (hts (.constantLong RX5 206 (31)) (List.mem_of_getElem? (i := 2) rfl)) dX5_digest_132 ?_
            refine lv_lmul hx hb dX5_digest_135 ?_
            refine lv_aload_n hx hb dX5_digest_136 rfl (lv_at hl 3 rfl) ?_
            refine lv_iload_n hx hb dX5_digest_137 rfl (lv_at hl 1 rfl) ?_
            refine lv_iload hx hb dX5_digest_138 (lv_at hl 0 rfl) ?_
            have hPc := hP.part (cx := (cX aX aT aR0 aR1 ++ cT cyI aT ac as_ cd sw fd fn ++ cR cyI cyO aR0 aW0 aw0 af0 aG0 ao0 aB0 ab0 w0 f0 od0 g0 bc0 hr0 co0 ++ cR cyI cyO aR1 aW1 aw1 af1 aG1 ao1 aB1 ab1 w1 f1 od1 g1 bc1 hr1 co1)) [0, 1, 2, 3, 4, 5, 6, 7, 8, 9, 10, 11, 12, 13, 14, 15, 16, 17] rfl
            have hDc := hD.part (cx := (cX aX aT aR0 aR1 ++ cT cyI aT ac as_ cd sw fd fn ++ cR cyI cyO aR0 aW0 aw0 af0 aG0 ao0 aB0 ab0 w0 f0 od0 g0 bc0 hr0 co0 ++ cR cyI cyO aR1 aW1 aw1 af1 aG1 ao1 aB1 ab1 w1 f1 od1 g1 bc1 hr1 co1)) [0, 1, 2, 3, 4, 5, 6, 7, 8, 9, 10, 11, 12, 13, 14, 15, 16, 17] (by decide) rfl
            refine ret_iB (cx := (cX aX aT aR0 aR1 ++ cT cyI aT ac as_ cd sw fd fn ++ cR cyI cyO aR0 aW0 aw0 af0 aG0 ao0 aB0 ab0 w0 f0 od0 g0 bc0 hr0 co0 ++ cR cyI cyO aR1 aW1 aw1 af1 aG1 ao1 aB1 ab1 w1 f1 od1 g1 bc1 hr1 co1)) (cx' := (cX aX aT aR0 aR1 ++ cT cyI aT ac as_ cd sw fd fn ++ cR cyI cyO aR0 aW0 aw0 af0 aG0 ao0 aB0 ab0 w0 f0 od0 g0 bc0 hr0 co0 ++ cR cyI cyO aR1 aW1 aw1 af1 aG1 ao1 aB1 ab1 w1 f1 od1 g1 bc1 hr1 co1)) (pl' := pB LB B) (X1 := cX aX aT aR0 aR1 ++ cT cyI aT ac as_ cd sw fd fn ++ cR cyI cyO aR0 aW0 aw0 af0 aG0 ao0 aB0 ab0 w0 f0 od0 g0 bc0 hr0 co0 ++ cR cyI cyO aR1 aW1 aw1 af1 aG1 ao1 aB1 ab1 w1 f1 od1 g1 bc1 hr1 co1) (r := toldS (nI iF) B (ab0 (nI iE).toNatClampNeg) w0) (run_V (q := (RX5, TX5, 3)) (n := 2) (As := [.int (nI iE), .int (nI iF)]) (rest := [.long (a6 * 31)]) ⟨hx, hb, hml, hown, hts⟩ (c_X5_told l D cyI cyO cyL aX aT aR0 aR1 ac as_ aW0 aw0 af0 aG0 ao0 aB0 aW1 aw1 af1 aG1 ao1 aB1 cd sw fd fn ab0 w0 f0 od0 g0 bc0 hr0 co0 ab1 w1 f1 od1 g1 bc1 hr1 co1 LB B (nI iE) (nI iF) (nI_pos (by omega)) (by rw [hbc]; exact nI_lt hltE (by omega)) (vp_in_nI (show iE < 6 by omega) (by omega)) hLB0 hB (nI_pos (by omega)) (nI_lt hltF (by decide)) _) ggX5_digest_X5_told rfl rfl rfl (hts (.methodLink RX5 220 yX5_told) (List.mem_of_getElem? (i := 93) rfl)) (hts (.initialized RX5) (List.mem_of_getElem? (i := 7) rfl)) (hts (.instanceMethod yX5_told) (List.mem_of_getElem? (i := 94) rfl)) (hts (.selects RX5 yX5_told yX5_told) (List.mem_of_getElem? (i := 95) rfl)) (by decide +kernel) ⟨Nat.le_of_ble_eq_true rfl, Nat.le_of_ble_eq_true rfl⟩ hKK hPc hDc (ci := 5) (q0 := 0) rfl rfl rfl hl.1 rfl (Nat.le_of_ble_eq_true rfl) dX5_digest_140 ⟨Nat.zero_le _, Nat.zero_le _⟩) hP hD hS hA [0, 1, 2, 3, 4, 5, 6, 7, 8, 9, 10, 11, 12, 13, 14, 15, 16, 17] (by decide) rfl rfl pB_fst [(true, 0), (true, 1), (true, 2), (true, 3), (true, 4), (true, 5), (true, 6), (true, 7), (true, 8), (true, 9), (true, 10), (true, 11), (true, 12), (true, 13), (true, 14), (true, 15), (true, 16), (true, 17)] (by decide +kernel) rfl rfl (fun H locs hP hD hS => ?_)
            refine lv_i2l (v := (toldS (nI iF) B (ab0 (nI iE).toNatClampNeg) w0).toInt64) hx hb dX5_digest_143 rfl ?_
            refine lv_ladd hx hb dX5_digest_144 ?_
            refine lv_lstore_n (lv' := [(1, .long ((a6 * 31) + ((toldS (nI iF) B (ab0 (nI iE).toNatClampNeg) w0).toInt64))), (4, .int (nI iF)), (3, .int (nI iE)), (0, .ref aX)]) hx hb dX5_digest_145 rfl hl (by decide) rfl (fun ls hl => ?_)
            refine lv_iinc (v := nI (iF + 1)) (lv' := [(4, .int (nI (iF + 1))), (1, .long ((a6 * 31) + ((toldS (nI iF) B (ab0 (nI iE).toNatClampNeg) w0).toInt64))), (3, .int (nI iE)), (0, .ref aX)]) hx hb dX5_digest_146 hl (k := 1) rfl (nI_1 iF) (by decide) rfl (fun ls hl => ?_)
            refine lv_goto (tgt := 124) hx hb dX5_digest_149 (by decide) ?_
            exact ihF dF ((iF + 1), ((a6 * 31) + ((toldS (nI iF) B (ab0 (nI iE).toNatClampNeg) w0).toInt64))) _ _ _ (by omega) ⟨(by omega), (hspF.trans (by rfl)), hP, hD, hS, lv_sub hl [0, 2, 1, 3] rfl⟩
      · skip
        have hltC : iC < 24 := by have h9 := mt (nI_leI (a := 24) (b := iC) (by omega) (by omega)).mpr h_3; omega
        obtain ⟨dC, rfl⟩ : ∃ k, dC = k + 1 := ⟨dC - 1, by omega⟩
        refine lv_iconst (v := 0) hx hb dX5_digest_72 (by decide) ?_
        refine lv_istore (lv' := [(4, .int 0), (3, .int (nI iC)), (1, .long a3), (0, .ref aX)]) hx hb dX5_digest_73 hl (by decide) rfl (fun ls hl => ?_)
        refine wloop (σ := (Nat) × (Int64)) (fun d9 x9 H9 L9 s9 => ((x9.1) + d9 = 5) ∧ (dgL ((fun y z => spanS (nI y) (nI z) n o_ ab0 w0 f0 od0 B) iC) 5 0 a3 = dgL ((fun y z => spanS (nI y) (nI z) n o_ ab0 w0 f0 od0 B) iC) d9 (x9.1) (x9.2)) ∧ (va_P D vwCl ((cX aX aT aR0 aR1 ++ cT cyI aT ac as_ cd sw fd fn ++ cR cyI cyO aR0 aW0 aw0 af0 aG0 ao0 aB0 ab0 w0 f0 od0 g0 bc0 hr0 co0 ++ cR cyI cyO aR1 aW1 aw1 af1 aG1 ao1 aB1 ab1 w1 f1 od1 g1 bc1 hr1 co1) ++ pB LB B) H9) ∧ (va_D A ((cX aX aT aR0 aR1 ++ cT cyI aT ac as_ cd sw fd fn ++ cR cyI cyO aR0 aW0 aw0 af0 aG0 ao0 aB0 ab0 w0 f0 od0 g0 bc0 hr0 co0 ++ cR cyI cyO aR1 aW1 aw1 af1 aG1 ao1 aB1 ab1 w1 f1 od1 g1 bc1 hr1 co1) ++ pB LB B)) ∧ (va_S A s.heap H9 L9) ∧ (lv_has s9 5 [(4, .int (nI (x9.1))), (3, .int (nI iC)), (1, .long (x9.2)), (0, .ref aX)])) (fun d9 x9 H locs ls g9 ihD => ?_) 5 (0, a3) _ _ _ ⟨(by omega), rfl, hP, hD, hS, lv_sub hl [0, 1, 2, 3] rfl⟩
        obtain ⟨iD, a4⟩ := x9
        obtain ⟨hidD, hspD, hP, hD, hS, hl⟩ := g9
        obtain ⟨dD, rfl⟩ : ∃ z, z = d9 := ⟨_, rfl⟩
        have hidD : iD + dD = 5 := hidD
        have hspD : dgL ((fun y z => spanS (nI y) (nI z) n o_ ab0 w0 f0 od0 B) iC) 5 0 a3 = dgL ((fun y z => spanS (nI y) (nI z) n o_ ab0 w0 f0 od0 B) iC) dD iD a4 := hspD
        have hP : va_P D vwCl ((cX aX aT aR0 aR1 ++ cT cyI aT ac as_ cd sw fd fn ++ cR cyI cyO aR0 aW0 aw0 af0 aG0 ao0 aB0 ab0 w0 f0 od0 g0 bc0 hr0 co0 ++ cR cyI cyO aR1 aW1 aw1 af1 aG1 ao1 aB1 ab1 w1 f1 od1 g1 bc1 hr1 co1) ++ pB LB B) H := hP
        have hD : va_D A ((cX aX aT aR0 aR1 ++ cT cyI aT ac as_ cd sw fd fn ++ cR cyI cyO aR0 aW0 aw0 af0 aG0 ao0 aB0 ab0 w0 f0 od0 g0 bc0 hr0 co0 ++ cR cyI cyO aR1 aW1 aw1 af1 aG1 ao1 aB1 ab1 w1 f1 od1 g1 bc1 hr1 co1) ++ pB LB B) := hD
        have hl : lv_has ls 5 [(4, .int (nI iD)), (3, .int (nI iC)), (1, .long a4), (0, .ref aX)] := hl
        refine lv_iload hx hb dX5_digest_75 (lv_at hl 0 rfl) ?_
        refine lv_iconst (v := 5) hx hb dX5_digest_77 (by decide) ?_
        refine lv_icmp_ge (tgt := 102) hx hb dX5_digest_78 (by decide) (fun h_6 => ?_) (fun h_6 => ?_)
        · skip
          obtain rfl : dD = 0 := by have h9 := (nI_leI (a := 5) (b := iD) (by omega) (by omega)).mp h_6; omega
          have hiND : iD = 5 := by omega
          have hD1 : dgL ((fun y z => spanS (nI y) (nI z) n o_ ab0 w0 f0 od0 B) iC) 5 0 a3 = a4 := hspD
          refine lv_iinc (v := nI (iC + 1)) (lv' := [(3, .int (nI (iC + 1))), (4, .int (nI iD)), (1, .long a4), (0, .ref aX)]) hx hb dX5_digest_102 hl (k := 1) rfl (nI_1 iC) (by decide) rfl (fun ls hl => ?_)
          refine lv_goto (tgt := 66) hx hb dX5_digest_105 (by decide) ?_
          exact ihC dC ((iC + 1), a4) _ _ _ (by omega) ⟨(by omega), (hspC.trans (by rw [← hD1]; rfl)), hP, hD, hS, lv_sub hl [0, 2, 3] rfl⟩
        · skip
          have hltD : iD < 5 := by have h9 := mt (nI_leI (a := 5) (b := iD) (by omega) (by omega)).mpr h_6; omega
          obtain ⟨dD, rfl⟩ : ∃ k, dD = k + 1 := ⟨dD - 1, by omega⟩
          refine lv_lload_n hx hb dX5_digest_81 rfl (lv_at hl 2 rfl) ?_
          refine lv_ldc2 hx hb hown (hts (.constantLong RX5 206 (31)) (List.mem_of_getElem? (i := 2) rfl)) dX5_digest_82 ?_
          refine lv_lmul hx hb dX5_digest_85 ?_
          refine lv_aload_n hx hb dX5_digest_86 rfl (lv_at hl 3 rfl) ?_
          refine lv_iload_n hx hb dX5_digest_87 rfl (lv_at hl 1 rfl) ?_
          refine lv_iload hx hb dX5_digest_88 (lv_at hl 0 rfl) ?_
          have hPc := hP.part (cx := (cX aX aT aR0 aR1 ++ cT cyI aT ac as_ cd sw fd fn ++ cR cyI cyO aR0 aW0 aw0 af0 aG0 ao0 aB0 ab0 w0 f0 od0 g0 bc0 hr0 co0 ++ cR cyI cyO aR1 aW1 aw1 af1 aG1 ao1 aB1 ab1 w1 f1 od1 g1 bc1 hr1 co1)) [0, 1, 2, 3, 4, 5, 6, 7, 8, 9, 10, 11, 12, 13, 14, 15, 16, 17] rfl
          have hDc := hD.part (cx := (cX aX aT aR0 aR1 ++ cT cyI aT ac as_ cd sw fd fn ++ cR cyI cyO aR0 aW0 aw0 af0 aG0 ao0 aB0 ab0 w0 f0 od0 g0 bc0 hr0 co0 ++ cR cyI cyO aR1 aW1 aw1 af1 aG1 ao1 aB1 ab1 w1 f1 od1 g1 bc1 hr1 co1)) [0, 1, 2, 3, 4, 5, 6, 7, 8, 9, 10, 11, 12, 13, 14, 15, 16, 17] (by decide) rfl
          refine ret_iB (cx := (cX aX aT aR0 aR1 ++ cT cyI aT ac as_ cd sw fd fn ++ cR cyI cyO aR0 aW0 aw0 af0 aG0 ao0 aB0 ab0 w0 f0 od0 g0 bc0 hr0 co0 ++ cR cyI cyO aR1 aW1 aw1 af1 aG1 ao1 aB1 ab1 w1 f1 od1 g1 bc1 hr1 co1)) (cx' := (cX aX aT aR0 aR1 ++ cT cyI aT ac as_ cd sw fd fn ++ cR cyI cyO aR0 aW0 aw0 af0 aG0 ao0 aB0 ab0 w0 f0 od0 g0 bc0 hr0 co0 ++ cR cyI cyO aR1 aW1 aw1 af1 aG1 ao1 aB1 ab1 w1 f1 od1 g1 bc1 hr1 co1)) (pl' := pB LB B) (X1 := cX aX aT aR0 aR1 ++ cT cyI aT ac as_ cd sw fd fn ++ cR cyI cyO aR0 aW0 aw0 af0 aG0 ao0 aB0 ab0 w0 f0 od0 g0 bc0 hr0 co0 ++ cR cyI cyO aR1 aW1 aw1 af1 aG1 ao1 aB1 ab1 w1 f1 od1 g1 bc1 hr1 co1) (r := spanS (nI iC) (nI iD) n o_ ab0 w0 f0 od0 B) (run_V (q := (RX5, TX5, 3)) (n := 2) (As := [.int (nI iC), .int (nI iD)]) (rest := [.long (a4 * 31)]) ⟨hx, hb, hml, hown, hts⟩ (c_X5_span l D cyI cyO cyL aX aT aR0 aR1 ac as_ aW0 aw0 af0 aG0 ao0 aB0 aW1 aw1 af1 aG1 ao1 aB1 cd sw fd fn ab0 w0 f0 od0 g0 bc0 hr0 co0 ab1 w1 f1 od1 g1 bc1 hr1 co1 LB B (nI iC) (nI iD) n o_ (vp_in_nI hltC (by omega)) (nI_pos (by omega)) (nI_lt hltD (by decide)) hn hbc hLB0 hm hoc _) ggX5_digest_X5_span rfl rfl rfl (hts (.methodLink RX5 217 yX5_span) (List.mem_of_getElem? (i := 79) rfl)) (hts (.initialized RX5) (List.mem_of_getElem? (i := 7) rfl)) (hts (.instanceMethod yX5_span) (List.mem_of_getElem? (i := 80) rfl)) (hts (.selects RX5 yX5_span yX5_span) (List.mem_of_getElem? (i := 81) rfl)) (by decide +kernel) ⟨Nat.le_of_ble_eq_true rfl, Nat.le_of_ble_eq_true rfl⟩ hKK hPc hDc (ci := 5) (q0 := 0) rfl rfl rfl hl.1 rfl (Nat.le_of_ble_eq_true rfl) dX5_digest_90 ⟨Nat.zero_le _, Nat.zero_le _⟩) hP hD hS hA [0, 1, 2, 3, 4, 5, 6, 7, 8, 9, 10, 11, 12, 13, 14, 15, 16, 17] (by decide) rfl rfl pB_fst [(true, 0), (true, 1), (true, 2), (true, 3), (true, 4), (true, 5), (true, 6), (true, 7), (true, 8), (true, 9), (true, 10), (true, 11), (true, 12), (true, 13), (true, 14), (true, 15), (true, 16), (true, 17)] (by decide +kernel) rfl rfl (fun H locs hP hD hS => ?_)
          refine lv_i2l (v := (spanS (nI iC) (nI iD) n o_ ab0 w0 f0 od0 B).toInt64) hx hb dX5_digest_93 rfl ?_
          refine lv_ladd hx hb dX5_digest_94 ?_
          refine lv_lstore_n (lv' := [(1, .long ((a4 * 31) + ((spanS (nI iC) (nI iD) n o_ ab0 w0 f0 od0 B).toInt64))), (4, .int (nI iD)), (3, .int (nI iC)), (0, .ref aX)]) hx hb dX5_digest_95 rfl hl (by decide) rfl (fun ls hl => ?_)
          refine lv_iinc (v := nI (iD + 1)) (lv' := [(4, .int (nI (iD + 1))), (1, .long ((a4 * 31) + ((spanS (nI iC) (nI iD) n o_ ab0 w0 f0 od0 B).toInt64))), (3, .int (nI iC)), (0, .ref aX)]) hx hb dX5_digest_96 hl (k := 1) rfl (nI_1 iD) (by decide) rfl (fun ls hl => ?_)
          refine lv_goto (tgt := 75) hx hb dX5_digest_99 (by decide) ?_
          exact ihD dD ((iD + 1), ((a4 * 31) + ((spanS (nI iC) (nI iD) n o_ ab0 w0 f0 od0 B).toInt64))) _ _ _ (by omega) ⟨(by omega), (hspD.trans (by rfl)), hP, hD, hS, lv_sub hl [0, 2, 1, 3] rfl⟩
    · skip
      have hltB : iB < 7 := by have h9 := mt (nI_leI (a := 7) (b := iB) (by omega) (by omega)).mpr h_2; omega
      obtain ⟨dB, rfl⟩ : ∃ k, dB = k + 1 := ⟨dB - 1, by omega⟩
      refine lv_lload_n hx hb dX5_digest_45 rfl (lv_at hl 1 rfl) ?_
      refine lv_ldc2 hx hb hown (hts (.constantLong RX5 206 (31)) (List.mem_of_getElem? (i := 2) rfl)) dX5_digest_46 ?_
      refine lv_lmul hx hb dX5_digest_49 ?_
      refine lv_aload_n hx hb dX5_digest_50 rfl (lv_at hl 2 rfl) ?_
      refine lv_iload_n hx hb dX5_digest_51 rfl (lv_at hl 0 rfl) ?_
      have hPc := hP.part (cx := (cX aX aT aR0 aR1 ++ cT cyI aT ac as_ cd sw fd fn ++ cR cyI cyO aR0 aW0 aw0 af0 aG0 ao0 aB0 ab0 w0 f0 od0 g0 bc0 hr0 co0 ++ cR cyI cyO aR1 aW1 aw1 af1 aG1 ao1 aB1 ab1 w1 f1 od1 g1 bc1 hr1 co1)) [0, 1, 2, 3, 4, 5, 6, 7, 8, 9, 10, 11, 12, 13, 14, 15, 16, 17] rfl
      have hDc := hD.part (cx := (cX aX aT aR0 aR1 ++ cT cyI aT ac as_ cd sw fd fn ++ cR cyI cyO aR0 aW0 aw0 af0 aG0 ao0 aB0 ab0 w0 f0 od0 g0 bc0 hr0 co0 ++ cR cyI cyO aR1 aW1 aw1 af1 aG1 ao1 aB1 ab1 w1 f1 od1 g1 bc1 hr1 co1)) [0, 1, 2, 3, 4, 5, 6, 7, 8, 9, 10, 11, 12, 13, 14, 15, 16, 17] (by decide) rfl
      refine ret_iB (cx := (cX aX aT aR0 aR1 ++ cT cyI aT ac as_ cd sw fd fn ++ cR cyI cyO aR0 aW0 aw0 af0 aG0 ao0 aB0 ab0 w0 f0 od0 g0 bc0 hr0 co0 ++ cR cyI cyO aR1 aW1 aw1 af1 aG1 ao1 aB1 ab1 w1 f1 od1 g1 bc1 hr1 co1)) (cx' := (cX aX aT aR0 aR1 ++ cT cyI aT ac as_ cd sw fd fn ++ cR cyI cyO aR0 aW0 aw0 af0 aG0 ao0 aB0 ab0 w0 f0 od0 g0 bc0 hr0 co0 ++ cR cyI cyO aR1 aW1 aw1 af1 aG1 ao1 aB1 ab1 w1 f1 od1 g1 bc1 hr1 co1)) (pl' := pB LB B) (X1 := cX aX aT aR0 aR1 ++ cT cyI aT ac as_ cd sw fd fn ++ cR cyI cyO aR0 aW0 aw0 af0 aG0 ao0 aB0 ab0 w0 f0 od0 g0 bc0 hr0 co0 ++ cR cyI cyO aR1 aW1 aw1 af1 aG1 ao1 aB1 ab1 w1 f1 od1 g1 bc1 hr1 co1) (r := gangS (nI iB) od0 g0) (run_V (q := (RX5, TX5, 3)) (n := 1) (As := [.int (nI iB)]) (rest := [.long (a2 * 31)]) ⟨hx, hb, hml, hown, hts⟩ (c_X5_gang l D cyI cyO cyL aX aT aR0 aR1 ac as_ aW0 aw0 af0 aG0 ao0 aB0 aW1 aw1 af1 aG1 ao1 aB1 cd sw fd fn ab0 w0 f0 od0 g0 bc0 hr0 co0 ab1 w1 f1 od1 g1 bc1 hr1 co1 LB B (nI iB) (nI_pos (by omega)) (nI_lt hltB (by decide)) _) ggX5_digest_X5_gang rfl rfl rfl (hts (.methodLink RX5 215 yX5_gang) (List.mem_of_getElem? (i := 60) rfl)) (hts (.initialized RX5) (List.mem_of_getElem? (i := 7) rfl)) (hts (.instanceMethod yX5_gang) (List.mem_of_getElem? (i := 61) rfl)) (hts (.selects RX5 yX5_gang yX5_gang) (List.mem_of_getElem? (i := 62) rfl)) (by decide +kernel) ⟨Nat.le_of_ble_eq_true rfl, Nat.le_of_ble_eq_true rfl⟩ hKK hPc hDc (ci := 5) (q0 := 0) rfl rfl rfl hl.1 rfl (Nat.le_of_ble_eq_true rfl) dX5_digest_52 ⟨Nat.zero_le _, Nat.zero_le _⟩) hP hD hS hA [0, 1, 2, 3, 4, 5, 6, 7, 8, 9, 10, 11, 12, 13, 14, 15, 16, 17] (by decide) rfl rfl pB_fst [(true, 0), (true, 1), (true, 2), (true, 3), (true, 4), (true, 5), (true, 6), (true, 7), (true, 8), (true, 9), (true, 10), (true, 11), (true, 12), (true, 13), (true, 14), (true, 15), (true, 16), (true, 17)] (by decide +kernel) rfl rfl (fun H locs hP hD hS => ?_)
      refine lv_i2l (v := (gangS (nI iB) od0 g0).toInt64) hx hb dX5_digest_55 rfl ?_
      refine lv_ladd hx hb dX5_digest_56 ?_
      refine lv_lstore_n (lv' := [(1, .long ((a2 * 31) + ((gangS (nI iB) od0 g0).toInt64))), (3, .int (nI iB)), (0, .ref aX)]) hx hb dX5_digest_57 rfl hl (by decide) rfl (fun ls hl => ?_)
      refine lv_iinc (v := nI (iB + 1)) (lv' := [(3, .int (nI (iB + 1))), (1, .long ((a2 * 31) + ((gangS (nI iB) od0 g0).toInt64))), (0, .ref aX)]) hx hb dX5_digest_58 hl (k := 1) rfl (nI_1 iB) (by decide) rfl (fun ls hl => ?_)
      refine lv_goto (tgt := 39) hx hb dX5_digest_61 (by decide) ?_
      exact ihB dB ((iB + 1), ((a2 * 31) + ((gangS (nI iB) od0 g0).toInt64))) _ _ _ (by omega) ⟨(by omega), (hspB.trans (by rfl)), hP, hD, hS, lv_sub hl [0, 1, 2] rfl⟩
  · skip
    have hltA : iA < 9 := by have h9 := mt (nI_leI (a := 9) (b := iA) (by omega) (by omega)).mpr h_1; omega
    obtain ⟨dA, rfl⟩ : ∃ k, dA = k + 1 := ⟨dA - 1, by omega⟩
    refine lv_lload_n hx hb dX5_digest_12 rfl (lv_at hl 1 rfl) ?_
    refine lv_ldc2 hx hb hown (hts (.constantLong RX5 206 (31)) (List.mem_of_getElem? (i := 2) rfl)) dX5_digest_13 ?_
    refine lv_lmul hx hb dX5_digest_16 ?_
    refine lv_aload_n hx hb dX5_digest_17 rfl (lv_at hl 2 rfl) ?_
    refine lv_iload_n hx hb dX5_digest_18 rfl (lv_at hl 0 rfl) ?_
    have hPc := hP.part (cx := (cX aX aT aR0 aR1 ++ cT cyI aT ac as_ cd sw fd fn ++ cR cyI cyO aR0 aW0 aw0 af0 aG0 ao0 aB0 ab0 w0 f0 od0 g0 bc0 hr0 co0 ++ cR cyI cyO aR1 aW1 aw1 af1 aG1 ao1 aB1 ab1 w1 f1 od1 g1 bc1 hr1 co1)) [0, 1, 2, 3, 4, 5, 6, 7, 8, 9, 10, 11, 12, 13, 14, 15, 16, 17] rfl
    have hDc := hD.part (cx := (cX aX aT aR0 aR1 ++ cT cyI aT ac as_ cd sw fd fn ++ cR cyI cyO aR0 aW0 aw0 af0 aG0 ao0 aB0 ab0 w0 f0 od0 g0 bc0 hr0 co0 ++ cR cyI cyO aR1 aW1 aw1 af1 aG1 ao1 aB1 ab1 w1 f1 od1 g1 bc1 hr1 co1)) [0, 1, 2, 3, 4, 5, 6, 7, 8, 9, 10, 11, 12, 13, 14, 15, 16, 17] (by decide) rfl
    refine ret_iB (cx := (cX aX aT aR0 aR1 ++ cT cyI aT ac as_ cd sw fd fn ++ cR cyI cyO aR0 aW0 aw0 af0 aG0 ao0 aB0 ab0 w0 f0 od0 g0 bc0 hr0 co0 ++ cR cyI cyO aR1 aW1 aw1 af1 aG1 ao1 aB1 ab1 w1 f1 od1 g1 bc1 hr1 co1)) (cx' := (cX aX aT aR0 aR1 ++ cT cyI aT ac as_ cd sw fd fn ++ cR cyI cyO aR0 aW0 aw0 af0 aG0 ao0 aB0 ab0 w0 f0 od0 g0 bc0 hr0 co0 ++ cR cyI cyO aR1 aW1 aw1 af1 aG1 ao1 aB1 ab1 w1 f1 od1 g1 bc1 hr1 co1)) (pl' := pB LB B) (X1 := cX aX aT aR0 aR1 ++ cT cyI aT ac as_ cd sw fd fn ++ cR cyI cyO aR0 aW0 aw0 af0 aG0 ao0 aB0 ab0 w0 f0 od0 g0 bc0 hr0 co0 ++ cR cyI cyO aR1 aW1 aw1 af1 aG1 ao1 aB1 ab1 w1 f1 od1 g1 bc1 hr1 co1) (r := tallyS (nI iA) n ab0 w0 f0 B bc0 hr0 co0) (run_V (q := (RX5, TX5, 3)) (n := 1) (As := [.int (nI iA)]) (rest := [.long (a1 * 31)]) ⟨hx, hb, hml, hown, hts⟩ (c_X5_count l D cyI cyO cyL aX aT aR0 aR1 ac as_ aW0 aw0 af0 aG0 ao0 aB0 aW1 aw1 af1 aG1 ao1 aB1 cd sw fd fn ab0 w0 f0 od0 g0 bc0 hr0 co0 ab1 w1 f1 od1 g1 bc1 hr1 co1 LB B (nI iA) n (nI_pos (by omega)) (nI_lt hltA (by decide)) hn hbc hLB0 hhr _) ggX5_digest_X5_count rfl rfl rfl (hts (.methodLink RX5 208 yX5_count) (List.mem_of_getElem? (i := 4) rfl)) (hts (.initialized RX5) (List.mem_of_getElem? (i := 7) rfl)) (hts (.instanceMethod yX5_count) (List.mem_of_getElem? (i := 5) rfl)) (hts (.selects RX5 yX5_count yX5_count) (List.mem_of_getElem? (i := 6) rfl)) (by decide +kernel) ⟨Nat.le_of_ble_eq_true rfl, Nat.le_of_ble_eq_true rfl⟩ hKK hPc hDc (ci := 5) (q0 := 0) rfl rfl rfl hl.1 rfl (Nat.le_of_ble_eq_true rfl) dX5_digest_19 ⟨Nat.zero_le _, Nat.zero_le _⟩) hP hD hS hA [0, 1, 2, 3, 4, 5, 6, 7, 8, 9, 10, 11, 12, 13, 14, 15, 16, 17] (by decide) rfl rfl pB_fst [(true, 0), (true, 1), (true, 2), (true, 3), (true, 4), (true, 5), (true, 6), (true, 7), (true, 8), (true, 9), (true, 10), (true, 11), (true, 12), (true, 13), (true, 14), (true, 15), (true, 16), (true, 17)] (by decide +kernel) rfl rfl (fun H locs hP hD hS => ?_)
    refine lv_i2l (v := (tallyS (nI iA) n ab0 w0 f0 B bc0 hr0 co0).toInt64) hx hb dX5_digest_22 rfl ?_
    refine lv_ladd hx hb dX5_digest_23 ?_
    refine lv_lstore_n (lv' := [(1, .long ((a1 * 31) + ((tallyS (nI iA) n ab0 w0 f0 B bc0 hr0 co0).toInt64))), (3, .int (nI iA)), (0, .ref aX)]) hx hb dX5_digest_24 rfl hl (by decide) rfl (fun ls hl => ?_)
    refine lv_iinc (v := nI (iA + 1)) (lv' := [(3, .int (nI (iA + 1))), (1, .long ((a1 * 31) + ((tallyS (nI iA) n ab0 w0 f0 B bc0 hr0 co0).toInt64))), (0, .ref aX)]) hx hb dX5_digest_25 hl (k := 1) rfl (nI_1 iA) (by decide) rfl (fun ls hl => ?_)
    refine lv_goto (tgt := 6) hx hb dX5_digest_28 (by decide) ?_
    exact ihA dA ((iA + 1), ((a1 * 31) + ((tallyS (nI iA) n ab0 w0 f0 B bc0 hr0 co0).toInt64))) _ _ _ (by omega) ⟨(by omega), (hspA.trans (by rfl)), hP, hD, hS, lv_sub hl [0, 1, 2] rfl⟩
