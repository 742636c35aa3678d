/-! throwing roads of the calls -/
theorem vp_ofle {x : Int32} {N : Nat} (h0 : ¬ x < 0) (h1 : x ≤ nI N) (hN : N + 1 < 2 ^ 31) : vp_in x (N + 1) := by
  rw [vp_in_iff]
  rw [Int32.lt_iff_toInt_lt] at h0
  rw [Int32.le_iff_toInt_le, nI_toInt (by omega)] at h1
  have e : (0 : Int32).toInt = 0 := rfl
  rw [e] at h0
  omega
theorem sw_of {x : Int32} (h0 : ¬ x < -1) (h1 : x < 24) : x = -1 ∨ vp_in x 24 := by
  rw [vp_in_iff]
  rw [Int32.lt_iff_toInt_lt] at h0 h1
  have e : (-1 : Int32).toInt = -1 := rfl
  have e2 : (24 : Int32).toInt = 24 := rfl
  rw [e] at h0
  rw [e2] at h1
  by_cases h : x.toInt = -1
  · exact Or.inl (Int32.toInt_inj.mp (h.trans e.symm))
  · right
    omega
set_option maxHeartbeats 4000000 in
set_option maxRecDepth 100000 in
theorem b_setCold_1 (l : Launch) (D : va_G) (cyI cyO cyL : ClassId) (aX : Nat) (aT : Nat) (aR0 : Nat) (aR1 : Nat) (ac : Nat) (as_ : Nat) (aW0 : Nat) (aw0 : Nat) (af0 : Nat) (aG0 : Nat) (ao0 : Nat) (aB0 : Nat) (aW1 : Nat) (aw1 : Nat) (af1 : Nat) (aG1 : Nat) (ao1 : Nat) (aB1 : Nat) (cd : Nat → Int32) (sw : Nat → Int32) (fd : Int32) (fn : Int32) (ab0 : Nat → Nat) (w0 : Nat → Int32) (f0 : Nat → Int32) (od0 : Nat → Int32) (g0 : Nat → Int32) (bc0 : Int32) (hr0 : Int32) (co0 : Int32) (ab1 : Nat → Nat) (w1 : Nat → Int32) (f1 : Nat → Int32) (od1 : Nat → Int32) (g1 : Nat → Int32) (bc1 : Int32) (hr1 : Int32) (co1 : Int32) (LB : List Nat) (B : Nat → Nat → Int32) (h_ : Int32) (c_ : Int32) (hh : ¬ vp_in h_ 8) (hlf : l.stackTraces = false) : cB l yX5_setCold wsX5_setCold ({ frames := 6, cells := 1, slots := 6, locals := 82 }) D cyI cyO cyL [.ref aX, .int h_, .int c_] ((cX aX aT aR0 aR1 ++ cT cyI aT ac as_ cd sw fd fn ++ cR cyI cyO aR0 aW0 aw0 af0 aG0 ao0 aB0 ab0 w0 f0 od0 g0 bc0 hr0 co0 ++ cR cyI cyO aR1 aW1 aw1 af1 aG1 ao1 aB1 ab1 w1 f1 od1 g1 bc1 hr1 co1) ++ pB LB B) IOOB := by
  intro sz
  refine vx_ofW (cc := cX5_setCold) (maxL := 4) (ret := (some .int)) (by decide) rfl ?_
  intro p e s m args below meth c s₁ B9 hml ht9 hv
  obtain ⟨rfl, hsz, hP, hKK, hXE, hD0⟩ := hv
  have hx := B9.exec
  have hb := B9.bytes
  have hrt := B9.returns
  have hts := atoms_spec (ws := wsX5_setCold) B9.pre
  have hown : s.vm.findClass RX5 = some m.cls := findClass_of_methodNamed B9.named
  have hlocks := B9.notSynchronized
  have nw := fun {w : Cond} (h : w ∈ nw_all) => NW.use (args := ([.ref aX, .int h_, .int c_] : List Value).toArray) hKK.2 h
  subst hsz
  have hD := hD0.self (sz := s.heap.size)
  generalize hAe : va_A ((cX aX aT aR0 aR1 ++ cT cyI aT ac as_ cd sw fd fn ++ cR cyI cyO aR0 aW0 aw0 af0 aG0 ao0 aB0 ab0 w0 f0 od0 g0 bc0 hr0 co0 ++ cR cyI cyO aR1 aW1 aw1 af1 aG1 ao1 aB1 ab1 w1 f1 od1 g1 bc1 hr1 co1) ++ pB LB B) s.heap.size = A at hD hXE ⊢
  have hA : ∀ q : Nat, s.heap.size ≤ q → A q := fun q h => by rw [← hAe]; exact Or.inr h
  have hS : va_S A s.heap s.heap [] := va_S.rf
  have hl := lv_entry ([.ref aX, .int h_, .int c_]) (n := 4) (Nat.le_of_ble_eq_true rfl)
  rw [lg_entry_eq]
  generalize (lg_sl ([.ref aX, .int h_, .int c_]) ++ List.replicate (4 - (lg_sl ([.ref aX, .int h_, .int c_])).length) Slot.unset).toArray = ls at hl ⊢
  have hl : lv_has ls 4 [(0, .ref aX), (1, .int h_), (2, .int c_)] := hl
  refine lv_iload_n hx hb dX5_setCold_0 rfl (lv_at hl 1 rfl) ?_
  refine lv_if_lt (tgt := 10) hx hb dX5_setCold_1 (by decide) (fun h_1 => ?_) (fun h_1 => ?_)
  · skip
    exact throw_S (X := IOOB) (text := "an hour of the table of cold is 0 to 7") hx hb hlf hown (by decide +kernel) (hts (.classLink RX5 26 "java/lang/IndexOutOfBoundsException") (List.mem_of_getElem? (i := 1) rfl)) (hts (.initialized "java/lang/IndexOutOfBoundsException") (List.mem_of_getElem? (i := 2) rfl)) (by decide +kernel) hXE (fun w h => hts w (List.mem_cons_of_mem _ (List.mem_append_left _ (List.mem_append_right _ h)))) ng_1 hg_1 hP hS (by rw [hml]; exact hl.1) dX5_setCold_10 dX5_setCold_13 dX5_setCold_14 dX5_setCold_16 dX5_setCold_19 ht9 (by decide) (by decide) (by decide) (by decide) hlocks
  · skip
    refine lv_iload_n hx hb dX5_setCold_4 rfl (lv_at hl 1 rfl) ?_
    refine lv_bipush (v := 8) hx hb dX5_setCold_5 (by decide) ?_
    refine lv_icmp_lt (tgt := 20) hx hb dX5_setCold_7 (by decide) (fun h_2 => ?_) (fun h_2 => ?_)
    · skip
      exact (hh (vp_of (N := 8) h_1 h_2 (by decide))).elim
    · skip
      exact throw_S (X := IOOB) (text := "an hour of the table of cold is 0 to 7") hx hb hlf hown (by decide +kernel) (hts (.classLink RX5 26 "java/lang/IndexOutOfBoundsException") (List.mem_of_getElem? (i := 1) rfl)) (hts (.initialized "java/lang/IndexOutOfBoundsException") (List.mem_of_getElem? (i := 2) rfl)) (by decide +kernel) hXE (fun w h => hts w (List.mem_cons_of_mem _ (List.mem_append_left _ (List.mem_append_right _ h)))) ng_1 hg_1 hP hS (by rw [hml]; exact hl.1) dX5_setCold_10 dX5_setCold_13 dX5_setCold_14 dX5_setCold_16 dX5_setCold_19 ht9 (by decide) (by decide) (by decide) (by decide) hlocks
set_option maxHeartbeats 4000000 in
set_option maxRecDepth 100000 in
theorem b_setCold_2 (l : Launch) (D : va_G) (cyI cyO cyL : ClassId) (aX : Nat) (aT : Nat) (aR0 : Nat) (aR1 : Nat) (ac : Nat) (as_ : Nat) (aW0 : Nat) (aw0 : Nat) (af0 : Nat) (aG0 : Nat) (ao0 : Nat) (aB0 : Nat) (aW1 : Nat) (aw1 : Nat) (af1 : Nat) (aG1 : Nat) (ao1 : Nat) (aB1 : Nat) (cd : Nat → Int32) (sw : Nat → Int32) (fd : Int32) (fn : Int32) (ab0 : Nat → Nat) (w0 : Nat → Int32) (f0 : Nat → Int32) (od0 : Nat → Int32) (g0 : Nat → Int32) (bc0 : Int32) (hr0 : Int32) (co0 : Int32) (ab1 : Nat → Nat) (w1 : Nat → Int32) (f1 : Nat → Int32) (od1 : Nat → Int32) (g1 : Nat → Int32) (bc1 : Int32) (hr1 : Int32) (co1 : Int32) (LB : List Nat) (B : Nat → Nat → Int32) (h_ : Int32) (c_ : Int32) (hh : vp_in h_ 8) (hc : ¬ vp_in c_ 4) (hlf : l.stackTraces = false) : cB l yX5_setCold wsX5_setCold ({ frames := 6, cells := 1, slots := 6, locals := 82 }) D cyI cyO cyL [.ref aX, .int h_, .int c_] ((cX aX aT aR0 aR1 ++ cT cyI aT ac as_ cd sw fd fn ++ cR cyI cyO aR0 aW0 aw0 af0 aG0 ao0 aB0 ab0 w0 f0 od0 g0 bc0 hr0 co0 ++ cR cyI cyO aR1 aW1 aw1 af1 aG1 ao1 aB1 ab1 w1 f1 od1 g1 bc1 hr1 co1) ++ pB LB B) IARG := by
  intro sz
  refine vx_ofW (cc := cX5_setCold) (maxL := 4) (ret := (some .int)) (by decide) rfl ?_
  intro p e s m args below meth c s₁ B9 hml ht9 hv
  obtain ⟨rfl, hsz, hP, hKK, hXE, hD0⟩ := hv
  have hx := B9.exec
  have hb := B9.bytes
  have hrt := B9.returns
  have hts := atoms_spec (ws := wsX5_setCold) B9.pre
  have hown : s.vm.findClass RX5 = some m.cls := findClass_of_methodNamed B9.named
  have hlocks := B9.notSynchronized
  have nw := fun {w : Cond} (h : w ∈ nw_all) => NW.use (args := ([.ref aX, .int h_, .int c_] : List Value).toArray) hKK.2 h
  subst hsz
  have hD := hD0.self (sz := s.heap.size)
  generalize hAe : va_A ((cX aX aT aR0 aR1 ++ cT cyI aT ac as_ cd sw fd fn ++ cR cyI cyO aR0 aW0 aw0 af0 aG0 ao0 aB0 ab0 w0 f0 od0 g0 bc0 hr0 co0 ++ cR cyI cyO aR1 aW1 aw1 af1 aG1 ao1 aB1 ab1 w1 f1 od1 g1 bc1 hr1 co1) ++ pB LB B) s.heap.size = A at hD hXE ⊢
  have hA : ∀ q : Nat, s.heap.size ≤ q → A q := fun q h => by rw [← hAe]; exact Or.inr h
  have hS : va_S A s.heap s.heap [] := va_S.rf
  have hl := lv_entry ([.ref aX, .int h_, .int c_]) (n := 4) (Nat.le_of_ble_eq_true rfl)
  rw [lg_entry_eq]
  generalize (lg_sl ([.ref aX, .int h_, .int c_]) ++ List.replicate (4 - (lg_sl ([.ref aX, .int h_, .int c_])).length) Slot.unset).toArray = ls at hl ⊢
  have hl : lv_has ls 4 [(0, .ref aX), (1, .int h_), (2, .int c_)] := hl
  refine lv_iload_n hx hb dX5_setCold_0 rfl (lv_at hl 1 rfl) ?_
  refine lv_if_lt (tgt := 10) hx hb dX5_setCold_1 (by decide) (fun h_1 => ?_) (fun h_1 => ?_)
  · skip
    exact absurd h_1 (vp_ge0 hh)
  · skip
    refine lv_iload_n hx hb dX5_setCold_4 rfl (lv_at hl 1 rfl) ?_
    refine lv_bipush (v := 8) hx hb dX5_setCold_5 (by decide) ?_
    refine lv_icmp_lt (tgt := 20) hx hb dX5_setCold_7 (by decide) (fun h_2 => ?_) (fun h_2 => ?_)
    · skip
      refine lv_iload_n hx hb dX5_setCold_20 rfl (lv_at hl 2 rfl) ?_
      refine lv_if_lt (tgt := 29) hx hb dX5_setCold_21 (by decide) (fun h_3 => ?_) (fun h_3 => ?_)
      · skip
        exact throw_S (X := IARG) (text := "cold is 0 to 3") hx hb hlf hown (by decide +kernel) (hts (.classLink RX5 33 "java/lang/IllegalArgumentException") (List.mem_of_getElem? (i := 3) rfl)) (hts (.initialized "java/lang/IllegalArgumentException") (List.mem_of_getElem? (i := 4) rfl)) (by decide +kernel) hXE (fun w h => hts w (List.mem_cons_of_mem _ (List.mem_append_right _ h))) ng_2 hg_2 hP hS (by rw [hml]; exact hl.1) dX5_setCold_29 dX5_setCold_32 dX5_setCold_33 dX5_setCold_35 dX5_setCold_38 ht9 (by decide) (by decide) (by decide) (by decide) hlocks
      · skip
        refine lv_iload_n hx hb dX5_setCold_24 rfl (lv_at hl 2 rfl) ?_
        refine lv_iconst (v := 3) hx hb dX5_setCold_25 (by decide) ?_
        refine lv_icmp_le (tgt := 39) hx hb dX5_setCold_26 (by decide) (fun h_4 => ?_) (fun h_4 => ?_)
        · skip
          exact (hc (vp_ofle (N := 3) h_3 h_4 (by decide))).elim
        · skip
          exact throw_S (X := IARG) (text := "cold is 0 to 3") hx hb hlf hown (by decide +kernel) (hts (.classLink RX5 33 "java/lang/IllegalArgumentException") (List.mem_of_getElem? (i := 3) rfl)) (hts (.initialized "java/lang/IllegalArgumentException") (List.mem_of_getElem? (i := 4) rfl)) (by decide +kernel) hXE (fun w h => hts w (List.mem_cons_of_mem _ (List.mem_append_right _ h))) ng_2 hg_2 hP hS (by rw [hml]; exact hl.1) dX5_setCold_29 dX5_setCold_32 dX5_setCold_33 dX5_setCold_35 dX5_setCold_38 ht9 (by decide) (by decide) (by decide) (by decide) hlocks
    · skip
      exact absurd (vp_lti hh (by omega)) h_2
set_option maxHeartbeats 4000000 in
set_option maxRecDepth 100000 in
theorem b_setSwan_1 (l : Launch) (D : va_G) (cyI cyO cyL : ClassId) (aX : Nat) (aT : Nat) (aR0 : Nat) (aR1 : Nat) (ac : Nat) (as_ : Nat) (aW0 : Nat) (aw0 : Nat) (af0 : Nat) (aG0 : Nat) (ao0 : Nat) (aB0 : Nat) (aW1 : Nat) (aw1 : Nat) (af1 : Nat) (aG1 : Nat) (ao1 : Nat) (aB1 : Nat) (cd : Nat → Int32) (sw : Nat → Int32) (fd : Int32) (fn : Int32) (ab0 : Nat → Nat) (w0 : Nat → Int32) (f0 : Nat → Int32) (od0 : Nat → Int32) (g0 : Nat → Int32) (bc0 : Int32) (hr0 : Int32) (co0 : Int32) (ab1 : Nat → Nat) (w1 : Nat → Int32) (f1 : Nat → Int32) (od1 : Nat → Int32) (g1 : Nat → Int32) (bc1 : Int32) (hr1 : Int32) (co1 : Int32) (LB : List Nat) (B : Nat → Nat → Int32) (h_ : Int32) (s_ : Int32) (hh : ¬ vp_in h_ 12) (hlf : l.stackTraces = false) : cB l yX5_setSwan wsX5_setSwan ({ frames := 6, cells := 1, slots := 6, locals := 82 }) D cyI cyO cyL [.ref aX, .int h_, .int s_] ((cX aX aT aR0 aR1 ++ cT cyI aT ac as_ cd sw fd fn ++ cR cyI cyO aR0 aW0 aw0 af0 aG0 ao0 aB0 ab0 w0 f0 od0 g0 bc0 hr0 co0 ++ cR cyI cyO aR1 aW1 aw1 af1 aG1 ao1 aB1 ab1 w1 f1 od1 g1 bc1 hr1 co1) ++ pB LB B) IOOB := by
  intro sz
  refine vx_ofW (cc := cX5_setSwan) (maxL := 4) (ret := (some .int)) (by decide) rfl ?_
  intro p e s m args below meth c s₁ B9 hml ht9 hv
  obtain ⟨rfl, hsz, hP, hKK, hXE, hD0⟩ := hv
  have hx := B9.exec
  have hb := B9.bytes
  have hrt := B9.returns
  have hts := atoms_spec (ws := wsX5_setSwan) B9.pre
  have hown : s.vm.findClass RX5 = some m.cls := findClass_of_methodNamed B9.named
  have hlocks := B9.notSynchronized
  have nw := fun {w : Cond} (h : w ∈ nw_all) => NW.use (args := ([.ref aX, .int h_, .int s_] : List Value).toArray) hKK.2 h
  subst hsz
  have hD := hD0.self (sz := s.heap.size)
  generalize hAe : va_A ((cX aX aT aR0 aR1 ++ cT cyI aT ac as_ cd sw fd fn ++ cR cyI cyO aR0 aW0 aw0 af0 aG0 ao0 aB0 ab0 w0 f0 od0 g0 bc0 hr0 co0 ++ cR cyI cyO aR1 aW1 aw1 af1 aG1 ao1 aB1 ab1 w1 f1 od1 g1 bc1 hr1 co1) ++ pB LB B) s.heap.size = A at hD hXE ⊢
  have hA : ∀ q : Nat, s.heap.size ≤ q → A q := fun q h => by rw [← hAe]; exact Or.inr h
  have hS : va_S A s.heap s.heap [] := va_S.rf
  have hl := lv_entry ([.ref aX, .int h_, .int s_]) (n := 4) (Nat.le_of_ble_eq_true rfl)
  rw [lg_entry_eq]
  generalize (lg_sl ([.ref aX, .int h_, .int s_]) ++ List.replicate (4 - (lg_sl ([.ref aX, .int h_, .int s_])).length) Slot.unset).toArray = ls at hl ⊢
  have hl : lv_has ls 4 [(0, .ref aX), (1, .int h_), (2, .int s_)] := hl
  refine lv_iload_n hx hb dX5_setSwan_0 rfl (lv_at hl 1 rfl) ?_
  refine lv_if_lt (tgt := 10) hx hb dX5_setSwan_1 (by decide) (fun h_1 => ?_) (fun h_1 => ?_)
  · skip
    exact throw_S (X := IOOB) (text := "an hour of the table of swans is 0 to 11") hx hb hlf hown (by decide +kernel) (hts (.classLink RX5 26 "java/lang/IndexOutOfBoundsException") (List.mem_of_getElem? (i := 1) rfl)) (hts (.initialized "java/lang/IndexOutOfBoundsException") (List.mem_of_getElem? (i := 2) rfl)) (by decide +kernel) hXE (fun w h => hts w (List.mem_cons_of_mem _ (List.mem_append_left _ (List.mem_append_right _ h)))) ng_1 hg_1 hP hS (by rw [hml]; exact hl.1) dX5_setSwan_10 dX5_setSwan_13 dX5_setSwan_14 dX5_setSwan_16 dX5_setSwan_19 ht9 (by decide) (by decide) (by decide) (by decide) hlocks
  · skip
    refine lv_iload_n hx hb dX5_setSwan_4 rfl (lv_at hl 1 rfl) ?_
    refine lv_bipush (v := 12) hx hb dX5_setSwan_5 (by decide) ?_
    refine lv_icmp_lt (tgt := 20) hx hb dX5_setSwan_7 (by decide) (fun h_2 => ?_) (fun h_2 => ?_)
    · skip
      exact (hh (vp_of (N := 12) h_1 h_2 (by decide))).elim
    · skip
      exact throw_S (X := IOOB) (text := "an hour of the table of swans is 0 to 11") hx hb hlf hown (by decide +kernel) (hts (.classLink RX5 26 "java/lang/IndexOutOfBoundsException") (List.mem_of_getElem? (i := 1) rfl)) (hts (.initialized "java/lang/IndexOutOfBoundsException") (List.mem_of_getElem? (i := 2) rfl)) (by decide +kernel) hXE (fun w h => hts w (List.mem_cons_of_mem _ (List.mem_append_left _ (List.mem_append_right _ h)))) ng_1 hg_1 hP hS (by rw [hml]; exact hl.1) dX5_setSwan_10 dX5_setSwan_13 dX5_setSwan_14 dX5_setSwan_16 dX5_setSwan_19 ht9 (by decide) (by decide) (by decide) (by decide) hlocks
set_option maxHeartbeats 4000000 in
set_option maxRecDepth 100000 in
theorem b_setSwan_2 (l : Launch) (D : va_G) (cyI cyO cyL : ClassId) (aX : Nat) (aT : Nat) (aR0 : Nat) (aR1 : Nat) (ac : Nat) (as_ : Nat) (aW0 : Nat) (aw0 : Nat) (af0 : Nat) (aG0 : Nat) (ao0 : Nat) (aB0 : Nat) (aW1 : Nat) (aw1 : Nat) (af1 : Nat) (aG1 : Nat) (ao1 : Nat) (aB1 : Nat) (cd : Nat → Int32) (sw : Nat → Int32) (fd : Int32) (fn : Int32) (ab0 : Nat → Nat) (w0 : Nat → Int32) (f0 : Nat → Int32) (od0 : Nat → Int32) (g0 : Nat → Int32) (bc0 : Int32) (hr0 : Int32) (co0 : Int32) (ab1 : Nat → Nat) (w1 : Nat → Int32) (f1 : Nat → Int32) (od1 : Nat → Int32) (g1 : Nat → Int32) (bc1 : Int32) (hr1 : Int32) (co1 : Int32) (LB : List Nat) (B : Nat → Nat → Int32) (h_ : Int32) (s_ : Int32) (hh : vp_in h_ 12) (hs : ¬ (s_ = -1 ∨ vp_in s_ 24)) (hlf : l.stackTraces = false) : cB l yX5_setSwan wsX5_setSwan ({ frames := 6, cells := 1, slots := 6, locals := 82 }) D cyI cyO cyL [.ref aX, .int h_, .int s_] ((cX aX aT aR0 aR1 ++ cT cyI aT ac as_ cd sw fd fn ++ cR cyI cyO aR0 aW0 aw0 af0 aG0 ao0 aB0 ab0 w0 f0 od0 g0 bc0 hr0 co0 ++ cR cyI cyO aR1 aW1 aw1 af1 aG1 ao1 aB1 ab1 w1 f1 od1 g1 bc1 hr1 co1) ++ pB LB B) IARG := by
  intro sz
  refine vx_ofW (cc := cX5_setSwan) (maxL := 4) (ret := (some .int)) (by decide) rfl ?_
  intro p e s m args below meth c s₁ B9 hml ht9 hv
  obtain ⟨rfl, hsz, hP, hKK, hXE, hD0⟩ := hv
  have hx := B9.exec
  have hb := B9.bytes
  have hrt := B9.returns
  have hts := atoms_spec (ws := wsX5_setSwan) B9.pre
  have hown : s.vm.findClass RX5 = some m.cls := findClass_of_methodNamed B9.named
  have hlocks := B9.notSynchronized
  have nw := fun {w : Cond} (h : w ∈ nw_all) => NW.use (args := ([.ref aX, .int h_, .int s_] : List Value).toArray) hKK.2 h
  subst hsz
  have hD := hD0.self (sz := s.heap.size)
  generalize hAe : va_A ((cX aX aT aR0 aR1 ++ cT cyI aT ac as_ cd sw fd fn ++ cR cyI cyO aR0 aW0 aw0 af0 aG0 ao0 aB0 ab0 w0 f0 od0 g0 bc0 hr0 co0 ++ cR cyI cyO aR1 aW1 aw1 af1 aG1 ao1 aB1 ab1 w1 f1 od1 g1 bc1 hr1 co1) ++ pB LB B) s.heap.size = A at hD hXE ⊢
  have hA : ∀ q : Nat, s.heap.size ≤ q → A q := fun q h => by rw [← hAe]; exact Or.inr h
  have hS : va_S A s.heap s.heap [] := va_S.rf
  have hl := lv_entry ([.ref aX, .int h_, .int s_]) (n := 4) (Nat.le_of_ble_eq_true rfl)
  rw [lg_entry_eq]
  generalize (lg_sl ([.ref aX, .int h_, .int s_]) ++ List.replicate (4 - (lg_sl ([.ref aX, .int h_, .int s_])).length) Slot.unset).toArray = ls at hl ⊢
  have hl : lv_has ls 4 [(0, .ref aX), (1, .int h_), (2, .int s_)] := hl
  refine lv_iload_n hx hb dX5_setSwan_0 rfl (lv_at hl 1 rfl) ?_
  refine lv_if_lt (tgt := 10) hx hb dX5_setSwan_1 (by decide) (fun h_1 => ?_) (fun h_1 => ?_)
  · skip
    exact absurd h_1 (vp_ge0 hh)
  · skip
    refine lv_iload_n hx hb dX5_setSwan_4 rfl (lv_at hl 1 rfl) ?_
    refine lv_bipush (v := 12) hx hb dX5_setSwan_5 (by decide) ?_
    refine lv_icmp_lt (tgt := 20) hx hb dX5_setSwan_7 (by decide) (fun h_2 => ?_) (fun h_2 => ?_)
    · skip
      refine lv_iload_n hx hb dX5_setSwan_20 rfl (lv_at hl 2 rfl) ?_
      refine lv_iconst (v := (-1)) hx hb dX5_setSwan_21 (by decide) ?_
      refine lv_icmp_lt (tgt := 31) hx hb dX5_setSwan_22 (by decide) (fun h_3 => ?_) (fun h_3 => ?_)
      · skip
        exact throw_S (X := IARG) (text := "the span of a swan is -1 to 23") hx hb hlf hown (by decide +kernel) (hts (.classLink RX5 33 "java/lang/IllegalArgumentException") (List.mem_of_getElem? (i := 3) rfl)) (hts (.initialized "java/lang/IllegalArgumentException") (List.mem_of_getElem? (i := 4) rfl)) (by decide +kernel) hXE (fun w h => hts w (List.mem_cons_of_mem _ (List.mem_append_right _ h))) ng_2 hg_2 hP hS (by rw [hml]; exact hl.1) dX5_setSwan_31 dX5_setSwan_34 dX5_setSwan_35 dX5_setSwan_37 dX5_setSwan_40 ht9 (by decide) (by decide) (by decide) (by decide) hlocks
      · skip
        refine lv_iload_n hx hb dX5_setSwan_25 rfl (lv_at hl 2 rfl) ?_
        refine lv_bipush (v := 24) hx hb dX5_setSwan_26 (by decide) ?_
        refine lv_icmp_lt (tgt := 41) hx hb dX5_setSwan_28 (by decide) (fun h_4 => ?_) (fun h_4 => ?_)
        · skip
          exact (hs (sw_of h_3 h_4)).elim
        · skip
          exact throw_S (X := IARG) (text := "the span of a swan is -1 to 23") hx hb hlf hown (by decide +kernel) (hts (.classLink RX5 33 "java/lang/IllegalArgumentException") (List.mem_of_getElem? (i := 3) rfl)) (hts (.initialized "java/lang/IllegalArgumentException") (List.mem_of_getElem? (i := 4) rfl)) (by decide +kernel) hXE (fun w h => hts w (List.mem_cons_of_mem _ (List.mem_append_right _ h))) ng_2 hg_2 hP hS (by rw [hml]; exact hl.1) dX5_setSwan_31 dX5_setSwan_34 dX5_setSwan_35 dX5_setSwan_37 dX5_setSwan_40 ht9 (by decide) (by decide) (by decide) (by decide) hlocks
    · skip
      exact absurd (vp_lti hh (by omega)) h_2
set_option maxHeartbeats 4000000 in
set_option maxRecDepth 100000 in
theorem b_setFare (l : Launch) (D : va_G) (cyI cyO cyL : ClassId) (aX : Nat) (aT : Nat) (aR0 : Nat) (aR1 : Nat) (ac : Nat) (as_ : Nat) (aW0 : Nat) (aw0 : Nat) (af0 : Nat) (aG0 : Nat) (ao0 : Nat) (aB0 : Nat) (aW1 : Nat) (aw1 : Nat) (af1 : Nat) (aG1 : Nat) (ao1 : Nat) (aB1 : Nat) (cd : Nat → Int32) (sw : Nat → Int32) (fd : Int32) (fn : Int32) (ab0 : Nat → Nat) (w0 : Nat → Int32) (f0 : Nat → Int32) (od0 : Nat → Int32) (g0 : Nat → Int32) (bc0 : Int32) (hr0 : Int32) (co0 : Int32) (ab1 : Nat → Nat) (w1 : Nat → Int32) (f1 : Nat → Int32) (od1 : Nat → Int32) (g1 : Nat → Int32) (bc1 : Int32) (hr1 : Int32) (co1 : Int32) (LB : List Nat) (B : Nat → Nat → Int32) (i_ : Int32) (c_ : Int32) (hc : ¬ vp_in c_ 10) (hlf : l.stackTraces = false) : cB l yX5_setFare wsX5_setFare ({ frames := 6, cells := 1, slots := 6, locals := 82 }) D cyI cyO cyL [.ref aX, .int i_, .int c_] ((cX aX aT aR0 aR1 ++ cT cyI aT ac as_ cd sw fd fn ++ cR cyI cyO aR0 aW0 aw0 af0 aG0 ao0 aB0 ab0 w0 f0 od0 g0 bc0 hr0 co0 ++ cR cyI cyO aR1 aW1 aw1 af1 aG1 ao1 aB1 ab1 w1 f1 od1 g1 bc1 hr1 co1) ++ pB LB B) IARG := by
  intro sz
  refine vx_ofW (cc := cX5_setFare) (maxL := 4) (ret := (some .int)) (by decide) rfl ?_
  intro p e s m args below meth c s₁ B9 hml ht9 hv
  obtain ⟨rfl, hsz, hP, hKK, hXE, hD0⟩ := hv
  have hx := B9.exec
  have hb := B9.bytes
  have hrt := B9.returns
  have hts := atoms_spec (ws := wsX5_setFare) B9.pre
  have hown : s.vm.findClass RX5 = some m.cls := findClass_of_methodNamed B9.named
  have hlocks := B9.notSynchronized
  have nw := fun {w : Cond} (h : w ∈ nw_all) => NW.use (args := ([.ref aX, .int i_, .int c_] : List Value).toArray) hKK.2 h
  subst hsz
  have hD := hD0.self (sz := s.heap.size)
  generalize hAe : va_A ((cX aX aT aR0 aR1 ++ cT cyI aT ac as_ cd sw fd fn ++ cR cyI cyO aR0 aW0 aw0 af0 aG0 ao0 aB0 ab0 w0 f0 od0 g0 bc0 hr0 co0 ++ cR cyI cyO aR1 aW1 aw1 af1 aG1 ao1 aB1 ab1 w1 f1 od1 g1 bc1 hr1 co1) ++ pB LB B) s.heap.size = A at hD hXE ⊢
  have hA : ∀ q : Nat, s.heap.size ≤ q → A q := fun q h => by rw [← hAe]; exact Or.inr h
  have hS : va_S A s.heap s.heap [] := va_S.rf
  have hl := lv_entry ([.ref aX, .int i_, .int c_]) (n := 4) (Nat.le_of_ble_eq_true rfl)
  rw [lg_entry_eq]
  generalize (lg_sl ([.ref aX, .int i_, .int c_]) ++ List.replicate (4 - (lg_sl ([.ref aX, .int i_, .int c_])).length) Slot.unset).toArray = ls at hl ⊢
  have hl : lv_has ls 4 [(0, .ref aX), (1, .int i_), (2, .int c_)] := hl
  refine lv_iload_n hx hb dX5_setFare_0 rfl (lv_at hl 2 rfl) ?_
  refine lv_if_lt (tgt := 10) hx hb dX5_setFare_1 (by decide) (fun h_1 => ?_) (fun h_1 => ?_)
  · skip
    exact throw_S (X := IARG) (text := "a fare is 0 to 9") hx hb hlf hown (by decide +kernel) (hts (.classLink RX5 33 "java/lang/IllegalArgumentException") (List.mem_of_getElem? (i := 1) rfl)) (hts (.initialized "java/lang/IllegalArgumentException") (List.mem_of_getElem? (i := 2) rfl)) (by decide +kernel) hXE (fun w h => hts w (List.mem_cons_of_mem _ (List.mem_append_right _ h))) ng_2 hg_2 hP hS (by rw [hml]; exact hl.1) dX5_setFare_10 dX5_setFare_13 dX5_setFare_14 dX5_setFare_16 dX5_setFare_19 ht9 (by decide) (by decide) (by decide) (by decide) hlocks
  · skip
    refine lv_iload_n hx hb dX5_setFare_4 rfl (lv_at hl 2 rfl) ?_
    refine lv_bipush (v := 9) hx hb dX5_setFare_5 (by decide) ?_
    refine lv_icmp_le (tgt := 20) hx hb dX5_setFare_7 (by decide) (fun h_2 => ?_) (fun h_2 => ?_)
    · skip
      exact (hc (vp_ofle (N := 9) h_1 h_2 (by decide))).elim
    · skip
      exact throw_S (X := IARG) (text := "a fare is 0 to 9") hx hb hlf hown (by decide +kernel) (hts (.classLink RX5 33 "java/lang/IllegalArgumentException") (List.mem_of_getElem? (i := 1) rfl)) (hts (.initialized "java/lang/IllegalArgumentException") (List.mem_of_getElem? (i := 2) rfl)) (by decide +kernel) hXE (fun w h => hts w (List.mem_cons_of_mem _ (List.mem_append_right _ h))) ng_2 hg_2 hP hS (by rw [hml]; exact hl.1) dX5_setFare_10 dX5_setFare_13 dX5_setFare_14 dX5_setFare_16 dX5_setFare_19 ht9 (by decide) (by decide) (by decide) (by decide) hlocks
set_option maxHeartbeats 4000000 in
set_option maxRecDepth 100000 in
theorem b_bus_1 (l : Launch) (D : va_G) (cyI cyO cyL : ClassId) (aX : Nat) (aT : Nat) (aR0 : Nat) (aR1 : Nat) (ac : Nat) (as_ : Nat) (aW0 : Nat) (aw0 : Nat) (af0 : Nat) (aG0 : Nat) (ao0 : Nat) (aB0 : Nat) (aW1 : Nat) (aw1 : Nat) (af1 : Nat) (aG1 : Nat) (ao1 : Nat) (aB1 : Nat) (cd : Nat → Int32) (sw : Nat → Int32) (fd : Int32) (fn : Int32) (ab0 : Nat → Nat) (w0 : Nat → Int32) (f0 : Nat → Int32) (od0 : Nat → Int32) (g0 : Nat → Int32) (bc0 : Int32) (hr0 : Int32) (co0 : Int32) (ab1 : Nat → Nat) (w1 : Nat → Int32) (f1 : Nat → Int32) (od1 : Nat → Int32) (g1 : Nat → Int32) (bc1 : Int32) (hr1 : Int32) (co1 : Int32) (LB : List Nat) (B : Nat → Nat → Int32) (s_ : Int32) (c_ : Int32) (hs : ¬ vp_in s_ 24) (hlf : l.stackTraces = false) : cB l yX5_bus wsX5_bus ({ frames := 7, cells := 1, slots := 6, locals := 102 }) D cyI cyO cyL [.ref aX, .int s_, .int c_] ((cX aX aT aR0 aR1 ++ cT cyI aT ac as_ cd sw fd fn ++ cR cyI cyO aR0 aW0 aw0 af0 aG0 ao0 aB0 ab0 w0 f0 od0 g0 bc0 hr0 co0 ++ cR cyI cyO aR1 aW1 aw1 af1 aG1 ao1 aB1 ab1 w1 f1 od1 g1 bc1 hr1 co1) ++ pB LB B) IOOB := by
  intro sz
  refine vx_ofW (cc := cX5_bus) (maxL := 4) (ret := (some .int)) (by decide) rfl ?_
  intro p e s m args below meth c s₁ B9 hml ht9 hv
  obtain ⟨rfl, hsz, hP, hKK, hXE, hD0⟩ := hv
  have hx := B9.exec
  have hb := B9.bytes
  have hrt := B9.returns
  have hts := atoms_spec (ws := wsX5_bus) B9.pre
  have hown : s.vm.findClass RX5 = some m.cls := findClass_of_methodNamed B9.named
  have hlocks := B9.notSynchronized
  have nw := fun {w : Cond} (h : w ∈ nw_all) => NW.use (args := ([.ref aX, .int s_, .int c_] : List Value).toArray) hKK.2 h
  subst hsz
  have hD := hD0.self (sz := s.heap.size)
  generalize hAe : va_A ((cX aX aT aR0 aR1 ++ cT cyI aT ac as_ cd sw fd fn ++ cR cyI cyO aR0 aW0 aw0 af0 aG0 ao0 aB0 ab0 w0 f0 od0 g0 bc0 hr0 co0 ++ cR cyI cyO aR1 aW1 aw1 af1 aG1 ao1 aB1 ab1 w1 f1 od1 g1 bc1 hr1 co1) ++ pB LB B) s.heap.size = A at hD hXE ⊢
  have hA : ∀ q : Nat, s.heap.size ≤ q → A q := fun q h => by rw [← hAe]; exact Or.inr h
  have hS : va_S A s.heap s.heap [] := va_S.rf
  have hl := lv_entry ([.ref aX, .int s_, .int c_]) (n := 4) (Nat.le_of_ble_eq_true rfl)
  rw [lg_entry_eq]
  generalize (lg_sl ([.ref aX, .int s_, .int c_]) ++ List.replicate (4 - (lg_sl ([.ref aX, .int s_, .int c_])).length) Slot.unset).toArray = ls at hl ⊢
  have hl : lv_has ls 4 [(0, .ref aX), (1, .int s_), (2, .int c_)] := hl
  refine lv_iload_n hx hb dX5_bus_0 rfl (lv_at hl 1 rfl) ?_
  have hPc := hP.sub (ws' := ([] : va_W)) [] rfl
  have hDc := hD.sub (ws' := ([] : va_W)) [] (by decide) rfl
  have hFc := va_free (wc := ([] : va_W)) hD hS hA [] rfl
  have hXc := (hXE.kept hS.2.1).narrow hFc
  refine thr (W1 := ([] : va_W)) (runX_S (n := 1) (As := [.int s_]) (rest := []) ⟨hx, hb, hml, hown, hts⟩ (b_X5_checkSpan l D cyI cyO cyL s_ hs hlf _) ggX5_bus_X5_checkSpan rfl rfl rfl (hts (.methodLink RX5 62 yX5_checkSpan) (List.mem_of_getElem? (i := 4) rfl)) (hts (.initialized RX5) (List.mem_of_getElem? (i := 6) rfl)) (hts (.static yX5_checkSpan) (List.mem_of_getElem? (i := 5) rfl)) (by decide +kernel) ⟨Nat.le_of_ble_eq_true rfl, Nat.le_of_ble_eq_true rfl⟩ hKK hXc hPc hDc rfl hl.1 rfl (Nat.le_of_ble_eq_true rfl) dX5_bus_1 ⟨Nat.le_of_ble_eq_true rfl, Nat.le_of_ble_eq_true rfl⟩) hP hD hS hFc [] rfl (fun ce9 q9 H locs hP hS hce hcv hcl _ _ => ?_)
  exact out_X ht9 hlocks hP hS hce hcv hcl (Nat.le_refl _) (Nat.le_refl _)
set_option maxHeartbeats 4000000 in
set_option maxRecDepth 100000 in
theorem b_bus_2 (l : Launch) (D : va_G) (cyI cyO cyL : ClassId) (aX : Nat) (aT : Nat) (aR0 : Nat) (aR1 : Nat) (ac : Nat) (as_ : Nat) (aW0 : Nat) (aw0 : Nat) (af0 : Nat) (aG0 : Nat) (ao0 : Nat) (aB0 : Nat) (aW1 : Nat) (aw1 : Nat) (af1 : Nat) (aG1 : Nat) (ao1 : Nat) (aB1 : Nat) (cd : Nat → Int32) (sw : Nat → Int32) (fd : Int32) (fn : Int32) (ab0 : Nat → Nat) (w0 : Nat → Int32) (f0 : Nat → Int32) (od0 : Nat → Int32) (g0 : Nat → Int32) (bc0 : Int32) (hr0 : Int32) (co0 : Int32) (ab1 : Nat → Nat) (w1 : Nat → Int32) (f1 : Nat → Int32) (od1 : Nat → Int32) (g1 : Nat → Int32) (bc1 : Int32) (hr1 : Int32) (co1 : Int32) (LB : List Nat) (B : Nat → Nat → Int32) (s_ : Int32) (c_ : Int32) (hs : vp_in s_ 24) (hbc : ¬ bc0 < 6) (hlf : l.stackTraces = false) : cB l yX5_bus wsX5_bus ({ frames := 6, cells := 1, slots := 6, locals := 82 }) D cyI cyO cyL [.ref aX, .int s_, .int c_] ((cX aX aT aR0 aR1 ++ cT cyI aT ac as_ cd sw fd fn ++ cR cyI cyO aR0 aW0 aw0 af0 aG0 ao0 aB0 ab0 w0 f0 od0 g0 bc0 hr0 co0 ++ cR cyI cyO aR1 aW1 aw1 af1 aG1 ao1 aB1 ab1 w1 f1 od1 g1 bc1 hr1 co1) ++ pB LB B) ISTA := by
  intro sz
  refine vx_ofW (cc := cX5_bus) (maxL := 4) (ret := (some .int)) (by decide) rfl ?_
  intro p e s m args below meth c s₁ B9 hml ht9 hv
  obtain ⟨rfl, hsz, hP, hKK, hXE, hD0⟩ := hv
  have hx := B9.exec
  have hb := B9.bytes
  have hrt := B9.returns
  have hts := atoms_spec (ws := wsX5_bus) B9.pre
  have hown : s.vm.findClass RX5 = some m.cls := findClass_of_methodNamed B9.named
  have hlocks := B9.notSynchronized
  have nw := fun {w : Cond} (h : w ∈ nw_all) => NW.use (args := ([.ref aX, .int s_, .int c_] : List Value).toArray) hKK.2 h
  have iX2 : ∀ w ∈ wsX20, w ∈ wsX5_bus := fun _ h => List.mem_cons_of_mem _ (List.mem_append_left _ (List.mem_append_left _ (List.mem_append_left _ (List.mem_append_right _ h))))
  have iX5 : ∀ w ∈ wsX50, w ∈ wsX5_bus := fun _ h => List.mem_cons_of_mem _ (List.mem_append_left _ (List.mem_append_left _ (List.mem_append_left _ (List.mem_append_left _ (List.mem_append_right _ h)))))
  subst hsz
  have hD := hD0.self (sz := s.heap.size)
  generalize hAe : va_A ((cX aX aT aR0 aR1 ++ cT cyI aT ac as_ cd sw fd fn ++ cR cyI cyO aR0 aW0 aw0 af0 aG0 ao0 aB0 ab0 w0 f0 od0 g0 bc0 hr0 co0 ++ cR cyI cyO aR1 aW1 aw1 af1 aG1 ao1 aB1 ab1 w1 f1 od1 g1 bc1 hr1 co1) ++ pB LB B) s.heap.size = A at hD hXE ⊢
  have hA : ∀ q : Nat, s.heap.size ≤ q → A q := fun q h => by rw [← hAe]; exact Or.inr h
  have hS : va_S A s.heap s.heap [] := va_S.rf
  have hl := lv_entry ([.ref aX, .int s_, .int c_]) (n := 4) (Nat.le_of_ble_eq_true rfl)
  rw [lg_entry_eq]
  generalize (lg_sl ([.ref aX, .int s_, .int c_]) ++ List.replicate (4 - (lg_sl ([.ref aX, .int s_, .int c_])).length) Slot.unset).toArray = ls at hl ⊢
  have hl : lv_has ls 4 [(0, .ref aX), (1, .int s_), (2, .int c_)] := hl
  refine lv_iload_n hx hb dX5_bus_0 rfl (lv_at hl 1 rfl) ?_
  have hPc := hP.sub (ws' := ([] : va_W)) [] rfl
  have hDc := hD.sub (ws' := ([] : va_W)) [] (by decide) rfl
  refine ret_vP (W1 := ([] : va_W)) (W2 := ([] : va_W)) (X1 := cX aX aT aR0 aR1 ++ cT cyI aT ac as_ cd sw fd fn ++ cR cyI cyO aR0 aW0 aw0 af0 aG0 ao0 aB0 ab0 w0 f0 od0 g0 bc0 hr0 co0 ++ cR cyI cyO aR1 aW1 aw1 af1 aG1 ao1 aB1 ab1 w1 f1 od1 g1 bc1 hr1 co1) (run_S (n := 1) (As := [.int s_]) (rest := []) ⟨hx, hb, hml, hown, hts⟩ (c_X5_checkSpan l D cyI cyO cyL s_ hs _) ggX5_bus_X5_checkSpan rfl rfl rfl (hts (.methodLink RX5 62 yX5_checkSpan) (List.mem_of_getElem? (i := 4) rfl)) (hts (.initialized RX5) (List.mem_of_getElem? (i := 6) rfl)) (hts (.static yX5_checkSpan) (List.mem_of_getElem? (i := 5) rfl)) (by decide +kernel) ⟨Nat.le_of_ble_eq_true rfl, Nat.le_of_ble_eq_true rfl⟩ hKK hPc hDc rfl hl.1 rfl (Nat.le_of_ble_eq_true rfl) dX5_bus_1 ⟨Nat.zero_le _, Nat.zero_le _⟩) hP hD hS hA [] rfl rfl [(false, 0), (false, 1), (false, 2), (false, 3), (false, 4), (false, 5), (false, 6), (false, 7), (false, 8), (false, 9), (false, 10), (false, 11), (false, 12), (false, 13), (false, 14), (false, 15), (false, 16), (false, 17)] (by decide +kernel) rfl rfl (fun H locs hP hD hS => ?_)
  refine lv_aload_n hx hb dX5_bus_4 rfl (lv_at hl 0 rfl) ?_
  refine va_get (D := D) (ci := 5) (v := .ref aR0) (C := RX5) (T := TX5) (N := 3) hx hb hts iX5 hown hKK.1 hP 0 rfl rfl 1 (by decide) (hts (.fieldLink RX5 19 "TrolleyGang" "now" "LTrolleyGang$Ring;") (List.mem_of_getElem? (i := 3) rfl)) (fun _ h9 => h9) rfl dX5_bus_5 ?_
  refine va_getN (D := D) (ci := 2) (v := .int bc0) (C := RX2) (T := TX2) (N := 6) hx hb hts iX2 hown hKK.1 hP 4 rfl rfl 3 (by decide) (nw (w := .fieldLinkNest "TrolleyGang" 66 "TrolleyGang$Ring" "busCount" "I" "TrolleyGang") nq_42) (fun _ h9 => h9) rfl dX5_bus_8 ?_
  refine lv_bipush (v := 6) hx hb dX5_bus_11 (by decide) ?_
  refine lv_icmp_lt (tgt := 26) hx hb dX5_bus_13 (by decide) (fun h_1 => ?_) (fun h_1 => ?_)
  · skip
    exact absurd h_1 hbc
  · skip
    exact throw_S (X := ISTA) (text := "there are 6 buses") hx hb hlf hown (by decide +kernel) (hts (.classLink RX5 69 "java/lang/IllegalStateException") (List.mem_of_getElem? (i := 1) rfl)) (hts (.initialized "java/lang/IllegalStateException") (List.mem_of_getElem? (i := 2) rfl)) (by decide +kernel) hXE (fun w h => hts w (List.mem_cons_of_mem _ (List.mem_append_left _ (List.mem_append_right _ h)))) ng_3 hg_3 hP hS (by rw [hml]; exact hl.1) dX5_bus_16 dX5_bus_19 dX5_bus_20 dX5_bus_22 dX5_bus_25 ht9 (by decide) (by decide) (by decide) (by decide) hlocks
set_option maxHeartbeats 4000000 in
set_option maxRecDepth 100000 in
theorem b_fit_1 (l : Launch) (D : va_G) (cyI cyO cyL : ClassId) (aX : Nat) (aT : Nat) (aR0 : Nat) (aR1 : Nat) (ac : Nat) (as_ : Nat) (aW0 : Nat) (aw0 : Nat) (af0 : Nat) (aG0 : Nat) (ao0 : Nat) (aB0 : Nat) (aW1 : Nat) (aw1 : Nat) (af1 : Nat) (aG1 : Nat) (ao1 : Nat) (aB1 : Nat) (cd : Nat → Int32) (sw : Nat → Int32) (fd : Int32) (fn : Int32) (ab0 : Nat → Nat) (w0 : Nat → Int32) (f0 : Nat → Int32) (od0 : Nat → Int32) (g0 : Nat → Int32) (bc0 : Int32) (hr0 : Int32) (co0 : Int32) (ab1 : Nat → Nat) (w1 : Nat → Int32) (f1 : Nat → Int32) (od1 : Nat → Int32) (g1 : Nat → Int32) (bc1 : Int32) (hr1 : Int32) (co1 : Int32) (LB : List Nat) (B : Nat → Nat → Int32) (a_ : Int32) (b_ : Int32) (ha : ¬ a_ < 0 → ¬ a_ < bc0) (hlf : l.stackTraces = false) : cB l yX5_fit wsX5_fit ({ frames := 7, cells := 1, slots := 6, locals := 103 }) D cyI cyO cyL [.ref aX, .int a_, .int b_] ((cX aX aT aR0 aR1 ++ cT cyI aT ac as_ cd sw fd fn ++ cR cyI cyO aR0 aW0 aw0 af0 aG0 ao0 aB0 ab0 w0 f0 od0 g0 bc0 hr0 co0 ++ cR cyI cyO aR1 aW1 aw1 af1 aG1 ao1 aB1 ab1 w1 f1 od1 g1 bc1 hr1 co1) ++ pB LB B) IOOB := by
  intro sz
  refine vx_ofW (cc := cX5_fit) (maxL := 5) (ret := (some .int)) (by decide) rfl ?_
  intro p e s m args below meth c s₁ B9 hml ht9 hv
  obtain ⟨rfl, hsz, hP, hKK, hXE, hD0⟩ := hv
  have hx := B9.exec
  have hb := B9.bytes
  have hrt := B9.returns
  have hts := atoms_spec (ws := wsX5_fit) B9.pre
  have hown : s.vm.findClass RX5 = some m.cls := findClass_of_methodNamed B9.named
  have hlocks := B9.notSynchronized
  have nw := fun {w : Cond} (h : w ∈ nw_all) => NW.use (args := ([.ref aX, .int a_, .int b_] : List Value).toArray) hKK.2 h
  subst hsz
  have hD := hD0.self (sz := s.heap.size)
  generalize hAe : va_A ((cX aX aT aR0 aR1 ++ cT cyI aT ac as_ cd sw fd fn ++ cR cyI cyO aR0 aW0 aw0 af0 aG0 ao0 aB0 ab0 w0 f0 od0 g0 bc0 hr0 co0 ++ cR cyI cyO aR1 aW1 aw1 af1 aG1 ao1 aB1 ab1 w1 f1 od1 g1 bc1 hr1 co1) ++ pB LB B) s.heap.size = A at hD hXE ⊢
  have hA : ∀ q : Nat, s.heap.size ≤ q → A q := fun q h => by rw [← hAe]; exact Or.inr h
  have hS : va_S A s.heap s.heap [] := va_S.rf
  have hl := lv_entry ([.ref aX, .int a_, .int b_]) (n := 5) (Nat.le_of_ble_eq_true rfl)
  rw [lg_entry_eq]
  generalize (lg_sl ([.ref aX, .int a_, .int b_]) ++ List.replicate (5 - (lg_sl ([.ref aX, .int a_, .int b_])).length) Slot.unset).toArray = ls at hl ⊢
  have hl : lv_has ls 5 [(0, .ref aX), (1, .int a_), (2, .int b_)] := hl
  refine lv_aload_n hx hb dX5_fit_0 rfl (lv_at hl 0 rfl) ?_
  refine lv_iload_n hx hb dX5_fit_1 rfl (lv_at hl 1 rfl) ?_
  have hPc := hP.sub (ws' := (cX aX aT aR0 aR1 ++ cR cyI cyO aR0 aW0 aw0 af0 aG0 ao0 aB0 ab0 w0 f0 od0 g0 bc0 hr0 co0)) [0, 4, 5, 6, 7, 8, 9, 10] rfl
  have hDc := hD.sub (ws' := (cX aX aT aR0 aR1 ++ cR cyI cyO aR0 aW0 aw0 af0 aG0 ao0 aB0 ab0 w0 f0 od0 g0 bc0 hr0 co0)) [0, 4, 5, 6, 7, 8, 9, 10] (by decide) rfl
  have hFc := va_free (wc := (cX aX aT aR0 aR1 ++ cR cyI cyO aR0 aW0 aw0 af0 aG0 ao0 aB0 ab0 w0 f0 od0 g0 bc0 hr0 co0)) hD hS hA [0, 4, 5, 6, 7, 8, 9, 10] rfl
  have hXc := (hXE.kept hS.2.1).narrow hFc
  refine thr (W1 := (cX aX aT aR0 aR1 ++ cR cyI cyO aR0 aW0 aw0 af0 aG0 ao0 aB0 ab0 w0 f0 od0 g0 bc0 hr0 co0)) (runX_V (q := (RX5, TX5, 3)) (n := 1) (As := [.int a_]) (rest := []) ⟨hx, hb, hml, hown, hts⟩ (b_X5_checkBus l D cyI cyO cyL aX aT aR0 aR1 aW0 aw0 af0 aG0 ao0 aB0 ab0 w0 f0 od0 g0 bc0 hr0 co0 a_ ha hlf _) ggX5_fit_X5_checkBus rfl rfl rfl (hts (.methodLink RX5 84 yX5_checkBus) (List.mem_of_getElem? (i := 4) rfl)) (hts (.initialized RX5) (List.mem_of_getElem? (i := 7) rfl)) (hts (.instanceMethod yX5_checkBus) (List.mem_of_getElem? (i := 5) rfl)) (hts (.selects RX5 yX5_checkBus yX5_checkBus) (List.mem_of_getElem? (i := 6) rfl)) (by decide +kernel) ⟨Nat.le_of_ble_eq_true rfl, Nat.le_of_ble_eq_true rfl⟩ hKK hXc hPc hDc (ci := 5) (q0 := 0) rfl rfl rfl hl.1 rfl (Nat.le_of_ble_eq_true rfl) dX5_fit_2 ⟨Nat.le_of_ble_eq_true rfl, Nat.le_of_ble_eq_true rfl⟩) hP hD hS hFc [0, 4, 5, 6, 7, 8, 9, 10] rfl (fun ce9 q9 H locs hP hS hce hcv hcl _ _ => ?_)
  exact out_X ht9 hlocks hP hS hce hcv hcl (Nat.le_refl _) (Nat.le_refl _)
set_option maxHeartbeats 4000000 in
set_option maxRecDepth 100000 in
theorem b_fit_2 (l : Launch) (D : va_G) (cyI cyO cyL : ClassId) (aX : Nat) (aT : Nat) (aR0 : Nat) (aR1 : Nat) (ac : Nat) (as_ : Nat) (aW0 : Nat) (aw0 : Nat) (af0 : Nat) (aG0 : Nat) (ao0 : Nat) (aB0 : Nat) (aW1 : Nat) (aw1 : Nat) (af1 : Nat) (aG1 : Nat) (ao1 : Nat) (aB1 : Nat) (cd : Nat → Int32) (sw : Nat → Int32) (fd : Int32) (fn : Int32) (ab0 : Nat → Nat) (w0 : Nat → Int32) (f0 : Nat → Int32) (od0 : Nat → Int32) (g0 : Nat → Int32) (bc0 : Int32) (hr0 : Int32) (co0 : Int32) (ab1 : Nat → Nat) (w1 : Nat → Int32) (f1 : Nat → Int32) (od1 : Nat → Int32) (g1 : Nat → Int32) (bc1 : Int32) (hr1 : Int32) (co1 : Int32) (LB : List Nat) (B : Nat → Nat → Int32) (a_ : Int32) (b_ : Int32) (ha0 : ¬ a_ < 0) (ha1 : a_ < bc0) (hb9 : ¬ b_ < 0 → ¬ b_ < bc0) (hlf : l.stackTraces = false) : cB l yX5_fit wsX5_fit ({ frames := 7, cells := 1, slots := 6, locals := 103 }) D cyI cyO cyL [.ref aX, .int a_, .int b_] ((cX aX aT aR0 aR1 ++ cT cyI aT ac as_ cd sw fd fn ++ cR cyI cyO aR0 aW0 aw0 af0 aG0 ao0 aB0 ab0 w0 f0 od0 g0 bc0 hr0 co0 ++ cR cyI cyO aR1 aW1 aw1 af1 aG1 ao1 aB1 ab1 w1 f1 od1 g1 bc1 hr1 co1) ++ pB LB B) IOOB := by
  intro sz
  refine vx_ofW (cc := cX5_fit) (maxL := 5) (ret := (some .int)) (by decide) rfl ?_
  intro p e s m args below meth c s₁ B9 hml ht9 hv
  obtain ⟨rfl, hsz, hP, hKK, hXE, hD0⟩ := hv
  have hx := B9.exec
  have hb := B9.bytes
  have hrt := B9.returns
  have hts := atoms_spec (ws := wsX5_fit) B9.pre
  have hown : s.vm.findClass RX5 = some m.cls := findClass_of_methodNamed B9.named
  have hlocks := B9.notSynchronized
  have nw := fun {w : Cond} (h : w ∈ nw_all) => NW.use (args := ([.ref aX, .int a_, .int b_] : List Value).toArray) hKK.2 h
  subst hsz
  have hD := hD0.self (sz := s.heap.size)
  generalize hAe : va_A ((cX aX aT aR0 aR1 ++ cT cyI aT ac as_ cd sw fd fn ++ cR cyI cyO aR0 aW0 aw0 af0 aG0 ao0 aB0 ab0 w0 f0 od0 g0 bc0 hr0 co0 ++ cR cyI cyO aR1 aW1 aw1 af1 aG1 ao1 aB1 ab1 w1 f1 od1 g1 bc1 hr1 co1) ++ pB LB B) s.heap.size = A at hD hXE ⊢
  have hA : ∀ q : Nat, s.heap.size ≤ q → A q := fun q h => by rw [← hAe]; exact Or.inr h
  have hS : va_S A s.heap s.heap [] := va_S.rf
  have hl := lv_entry ([.ref aX, .int a_, .int b_]) (n := 5) (Nat.le_of_ble_eq_true rfl)
  rw [lg_entry_eq]
  generalize (lg_sl ([.ref aX, .int a_, .int b_]) ++ List.replicate (5 - (lg_sl ([.ref aX, .int a_, .int b_])).length) Slot.unset).toArray = ls at hl ⊢
  have hl : lv_has ls 5 [(0, .ref aX), (1, .int a_), (2, .int b_)] := hl
  refine lv_aload_n hx hb dX5_fit_0 rfl (lv_at hl 0 rfl) ?_
  refine lv_iload_n hx hb dX5_fit_1 rfl (lv_at hl 1 rfl) ?_
  have hPc := hP.sub (ws' := (cX aX aT aR0 aR1 ++ cR cyI cyO aR0 aW0 aw0 af0 aG0 ao0 aB0 ab0 w0 f0 od0 g0 bc0 hr0 co0)) [0, 4, 5, 6, 7, 8, 9, 10] rfl
  have hDc := hD.sub (ws' := (cX aX aT aR0 aR1 ++ cR cyI cyO aR0 aW0 aw0 af0 aG0 ao0 aB0 ab0 w0 f0 od0 g0 bc0 hr0 co0)) [0, 4, 5, 6, 7, 8, 9, 10] (by decide) rfl
  refine ret_vP (W1 := (cX aX aT aR0 aR1 ++ cR cyI cyO aR0 aW0 aw0 af0 aG0 ao0 aB0 ab0 w0 f0 od0 g0 bc0 hr0 co0)) (W2 := (cX aX aT aR0 aR1 ++ cR cyI cyO aR0 aW0 aw0 af0 aG0 ao0 aB0 ab0 w0 f0 od0 g0 bc0 hr0 co0)) (X1 := cX aX aT aR0 aR1 ++ cT cyI aT ac as_ cd sw fd fn ++ cR cyI cyO aR0 aW0 aw0 af0 aG0 ao0 aB0 ab0 w0 f0 od0 g0 bc0 hr0 co0 ++ cR cyI cyO aR1 aW1 aw1 af1 aG1 ao1 aB1 ab1 w1 f1 od1 g1 bc1 hr1 co1) (run_V (q := (RX5, TX5, 3)) (n := 1) (As := [.int a_]) (rest := []) ⟨hx, hb, hml, hown, hts⟩ (c_X5_checkBus l D cyI cyO cyL aX aT aR0 aR1 aW0 aw0 af0 aG0 ao0 aB0 ab0 w0 f0 od0 g0 bc0 hr0 co0 a_ ha0 ha1 _) ggX5_fit_X5_checkBus rfl rfl rfl (hts (.methodLink RX5 84 yX5_checkBus) (List.mem_of_getElem? (i := 4) rfl)) (hts (.initialized RX5) (List.mem_of_getElem? (i := 7) rfl)) (hts (.instanceMethod yX5_checkBus) (List.mem_of_getElem? (i := 5) rfl)) (hts (.selects RX5 yX5_checkBus yX5_checkBus) (List.mem_of_getElem? (i := 6) rfl)) (by decide +kernel) ⟨Nat.le_of_ble_eq_true rfl, Nat.le_of_ble_eq_true rfl⟩ hKK hPc hDc (ci := 5) (q0 := 0) rfl rfl rfl hl.1 rfl (Nat.le_of_ble_eq_true rfl) dX5_fit_2 ⟨Nat.zero_le _, Nat.zero_le _⟩) hP hD hS hA [0, 4, 5, 6, 7, 8, 9, 10] rfl rfl [(true, 0), (false, 1), (false, 2), (false, 3), (true, 1), (true, 2), (true, 3), (true, 4), (true, 5), (true, 6), (true, 7), (false, 11), (false, 12), (false, 13), (false, 14), (false, 15), (false, 16), (false, 17)] (by decide +kernel) rfl rfl (fun H locs hP hD hS => ?_)
  refine lv_aload_n hx hb dX5_fit_5 rfl (lv_at hl 0 rfl) ?_
  refine lv_iload_n hx hb dX5_fit_6 rfl (lv_at hl 2 rfl) ?_
  have hPc := hP.sub (ws' := (cX aX aT aR0 aR1 ++ cR cyI cyO aR0 aW0 aw0 af0 aG0 ao0 aB0 ab0 w0 f0 od0 g0 bc0 hr0 co0)) [0, 4, 5, 6, 7, 8, 9, 10] rfl
  have hDc := hD.sub (ws' := (cX aX aT aR0 aR1 ++ cR cyI cyO aR0 aW0 aw0 af0 aG0 ao0 aB0 ab0 w0 f0 od0 g0 bc0 hr0 co0)) [0, 4, 5, 6, 7, 8, 9, 10] (by decide) rfl
  have hFc := va_free (wc := (cX aX aT aR0 aR1 ++ cR cyI cyO aR0 aW0 aw0 af0 aG0 ao0 aB0 ab0 w0 f0 od0 g0 bc0 hr0 co0)) hD hS hA [0, 4, 5, 6, 7, 8, 9, 10] rfl
  have hXc := (hXE.kept hS.2.1).narrow hFc
  refine thr (W1 := (cX aX aT aR0 aR1 ++ cR cyI cyO aR0 aW0 aw0 af0 aG0 ao0 aB0 ab0 w0 f0 od0 g0 bc0 hr0 co0)) (runX_V (q := (RX5, TX5, 3)) (n := 1) (As := [.int b_]) (rest := []) ⟨hx, hb, hml, hown, hts⟩ (b_X5_checkBus l D cyI cyO cyL aX aT aR0 aR1 aW0 aw0 af0 aG0 ao0 aB0 ab0 w0 f0 od0 g0 bc0 hr0 co0 b_ hb9 hlf _) ggX5_fit_X5_checkBus rfl rfl rfl (hts (.methodLink RX5 84 yX5_checkBus) (List.mem_of_getElem? (i := 4) rfl)) (hts (.initialized RX5) (List.mem_of_getElem? (i := 7) rfl)) (hts (.instanceMethod yX5_checkBus) (List.mem_of_getElem? (i := 5) rfl)) (hts (.selects RX5 yX5_checkBus yX5_checkBus) (List.mem_of_getElem? (i := 6) rfl)) (by decide +kernel) ⟨Nat.le_of_ble_eq_true rfl, Nat.le_of_ble_eq_true rfl⟩ hKK hXc hPc hDc (ci := 5) (q0 := 0) rfl rfl rfl hl.1 rfl (Nat.le_of_ble_eq_true rfl) dX5_fit_7 ⟨Nat.le_of_ble_eq_true rfl, Nat.le_of_ble_eq_true rfl⟩) hP hD hS hFc [0, 4, 5, 6, 7, 8, 9, 10] rfl (fun ce9 q9 H locs hP hS hce hcv hcl _ _ => ?_)
  exact out_X ht9 hlocks hP hS hce hcv hcl (Nat.le_refl _) (Nat.le_refl _)
set_option maxHeartbeats 4000000 in
set_option maxRecDepth 100000 in
theorem b_fit_3 (l : Launch) (D : va_G) (cyI cyO cyL : ClassId) (aX : Nat) (aT : Nat) (aR0 : Nat) (aR1 : Nat) (ac : Nat) (as_ : Nat) (aW0 : Nat) (aw0 : Nat) (af0 : Nat) (aG0 : Nat) (ao0 : Nat) (aB0 : Nat) (aW1 : Nat) (aw1 : Nat) (af1 : Nat) (aG1 : Nat) (ao1 : Nat) (aB1 : Nat) (cd : Nat → Int32) (sw : Nat → Int32) (fd : Int32) (fn : Int32) (ab0 : Nat → Nat) (w0 : Nat → Int32) (f0 : Nat → Int32) (od0 : Nat → Int32) (g0 : Nat → Int32) (bc0 : Int32) (hr0 : Int32) (co0 : Int32) (ab1 : Nat → Nat) (w1 : Nat → Int32) (f1 : Nat → Int32) (od1 : Nat → Int32) (g1 : Nat → Int32) (bc1 : Int32) (hr1 : Int32) (co1 : Int32) (LB : List Nat) (B : Nat → Nat → Int32) (a_ : Int32) (b_ : Int32) (ha0 : ¬ a_ < 0) (ha1 : a_ < bc0) (hb0 : ¬ b_ < 0) (hb1 : b_ < bc0) (hia : vp_in a_ 6) (hib : vp_in b_ 6) (hLB0 : ∀ k, k < 6 → ab0 k ∈ LB) (hgt : B (ab0 a_.toNatClampNeg) 1 = 0 ∨ ¬ B (ab0 b_.toNatClampNeg) 1 = 0) (hlf : l.stackTraces = false) : cB l yX5_fit wsX5_fit ({ frames := 6, cells := 1, slots := 6, locals := 82 }) D cyI cyO cyL [.ref aX, .int a_, .int b_] ((cX aX aT aR0 aR1 ++ cT cyI aT ac as_ cd sw fd fn ++ cR cyI cyO aR0 aW0 aw0 af0 aG0 ao0 aB0 ab0 w0 f0 od0 g0 bc0 hr0 co0 ++ cR cyI cyO aR1 aW1 aw1 af1 aG1 ao1 aB1 ab1 w1 f1 od1 g1 bc1 hr1 co1) ++ pB LB B) ISTA := by
  intro sz
  refine vx_ofW (cc := cX5_fit) (maxL := 5) (ret := (some .int)) (by decide) rfl ?_
  intro p e s m args below meth c s₁ B9 hml ht9 hv
  obtain ⟨rfl, hsz, hP, hKK, hXE, hD0⟩ := hv
  have hx := B9.exec
  have hb := B9.bytes
  have hrt := B9.returns
  have hts := atoms_spec (ws := wsX5_fit) B9.pre
  have hown : s.vm.findClass RX5 = some m.cls := findClass_of_methodNamed B9.named
  have hlocks := B9.notSynchronized
  have nw := fun {w : Cond} (h : w ∈ nw_all) => NW.use (args := ([.ref aX, .int a_, .int b_] : List Value).toArray) hKK.2 h
  have iX0 : ∀ w ∈ wsX00, w ∈ wsX5_fit := fun _ h => List.mem_cons_of_mem _ (List.mem_append_left _ (List.mem_append_left _ (List.mem_append_right _ h)))
  have iX2 : ∀ w ∈ wsX20, w ∈ wsX5_fit := fun _ h => List.mem_cons_of_mem _ (List.mem_append_left _ (List.mem_append_left _ (List.mem_append_left _ (List.mem_append_right _ h))))
  have iX5 : ∀ w ∈ wsX50, w ∈ wsX5_fit := fun _ h => List.mem_cons_of_mem _ (List.mem_append_left _ (List.mem_append_left _ (List.mem_append_left _ (List.mem_append_left _ (List.mem_append_right _ h)))))
  subst hsz
  have hD := hD0.self (sz := s.heap.size)
  generalize hAe : va_A ((cX aX aT aR0 aR1 ++ cT cyI aT ac as_ cd sw fd fn ++ cR cyI cyO aR0 aW0 aw0 af0 aG0 ao0 aB0 ab0 w0 f0 od0 g0 bc0 hr0 co0 ++ cR cyI cyO aR1 aW1 aw1 af1 aG1 ao1 aB1 ab1 w1 f1 od1 g1 bc1 hr1 co1) ++ pB LB B) s.heap.size = A at hD hXE ⊢
  have hA : ∀ q : Nat, s.heap.size ≤ q → A q := fun q h => by rw [← hAe]; exact Or.inr h
  have hS : va_S A s.heap s.heap [] := va_S.rf
  have hl := lv_entry ([.ref aX, .int a_, .int b_]) (n := 5) (Nat.le_of_ble_eq_true rfl)
  rw [lg_entry_eq]
  generalize (lg_sl ([.ref aX, .int a_, .int b_]) ++ List.replicate (5 - (lg_sl ([.ref aX, .int a_, .int b_])).length) Slot.unset).toArray = ls at hl ⊢
  have hl : lv_has ls 5 [(0, .ref aX), (1, .int a_), (2, .int b_)] := hl
  refine lv_aload_n hx hb dX5_fit_0 rfl (lv_at hl 0 rfl) ?_
  refine lv_iload_n hx hb dX5_fit_1 rfl (lv_at hl 1 rfl) ?_
  have hPc := hP.sub (ws' := (cX aX aT aR0 aR1 ++ cR cyI cyO aR0 aW0 aw0 af0 aG0 ao0 aB0 ab0 w0 f0 od0 g0 bc0 hr0 co0)) [0, 4, 5, 6, 7, 8, 9, 10] rfl
  have hDc := hD.sub (ws' := (cX aX aT aR0 aR1 ++ cR cyI cyO aR0 aW0 aw0 af0 aG0 ao0 aB0 ab0 w0 f0 od0 g0 bc0 hr0 co0)) [0, 4, 5, 6, 7, 8, 9, 10] (by decide) rfl
  refine ret_vP (W1 := (cX aX aT aR0 aR1 ++ cR cyI cyO aR0 aW0 aw0 af0 aG0 ao0 aB0 ab0 w0 f0 od0 g0 bc0 hr0 co0)) (W2 := (cX aX aT aR0 aR1 ++ cR cyI cyO aR0 aW0 aw0 af0 aG0 ao0 aB0 ab0 w0 f0 od0 g0 bc0 hr0 co0)) (X1 := cX aX aT aR0 aR1 ++ cT cyI aT ac as_ cd sw fd fn ++ cR cyI cyO aR0 aW0 aw0 af0 aG0 ao0 aB0 ab0 w0 f0 od0 g0 bc0 hr0 co0 ++ cR cyI cyO aR1 aW1 aw1 af1 aG1 ao1 aB1 ab1 w1 f1 od1 g1 bc1 hr1 co1) (run_V (q := (RX5, TX5, 3)) (n := 1) (As := [.int a_]) (rest := []) ⟨hx, hb, hml, hown, hts⟩ (c_X5_checkBus l D cyI cyO cyL aX aT aR0 aR1 aW0 aw0 af0 aG0 ao0 aB0 ab0 w0 f0 od0 g0 bc0 hr0 co0 a_ ha0 ha1 _) ggX5_fit_X5_checkBus rfl rfl rfl (hts (.methodLink RX5 84 yX5_checkBus) (List.mem_of_getElem? (i := 4) rfl)) (hts (.initialized RX5) (List.mem_of_getElem? (i := 7) rfl)) (hts (.instanceMethod yX5_checkBus) (List.mem_of_getElem? (i := 5) rfl)) (hts (.selects RX5 yX5_checkBus yX5_checkBus) (List.mem_of_getElem? (i := 6) rfl)) (by decide +kernel) ⟨Nat.le_of_ble_eq_true rfl, Nat.le_of_ble_eq_true rfl⟩ hKK hPc hDc (ci := 5) (q0 := 0) rfl rfl rfl hl.1 rfl (Nat.le_of_ble_eq_true rfl) dX5_fit_2 ⟨Nat.zero_le _, Nat.zero_le _⟩) hP hD hS hA [0, 4, 5, 6, 7, 8, 9, 10] rfl rfl [(true, 0), (false, 1), (false, 2), (false, 3), (true, 1), (true, 2), (true, 3), (true, 4), (true, 5), (true, 6), (true, 7), (false, 11), (false, 12), (false, 13), (false, 14), (false, 15), (false, 16), (false, 17)] (by decide +kernel) rfl rfl (fun H locs hP hD hS => ?_)
  refine lv_aload_n hx hb dX5_fit_5 rfl (lv_at hl 0 rfl) ?_
  refine lv_iload_n hx hb dX5_fit_6 rfl (lv_at hl 2 rfl) ?_
  have hPc := hP.sub (ws' := (cX aX aT aR0 aR1 ++ cR cyI cyO aR0 aW0 aw0 af0 aG0 ao0 aB0 ab0 w0 f0 od0 g0 bc0 hr0 co0)) [0, 4, 5, 6, 7, 8, 9, 10] rfl
  have hDc := hD.sub (ws' := (cX aX aT aR0 aR1 ++ cR cyI cyO aR0 aW0 aw0 af0 aG0 ao0 aB0 ab0 w0 f0 od0 g0 bc0 hr0 co0)) [0, 4, 5, 6, 7, 8, 9, 10] (by decide) rfl
  refine ret_vP (W1 := (cX aX aT aR0 aR1 ++ cR cyI cyO aR0 aW0 aw0 af0 aG0 ao0 aB0 ab0 w0 f0 od0 g0 bc0 hr0 co0)) (W2 := (cX aX aT aR0 aR1 ++ cR cyI cyO aR0 aW0 aw0 af0 aG0 ao0 aB0 ab0 w0 f0 od0 g0 bc0 hr0 co0)) (X1 := cX aX aT aR0 aR1 ++ cT cyI aT ac as_ cd sw fd fn ++ cR cyI cyO aR0 aW0 aw0 af0 aG0 ao0 aB0 ab0 w0 f0 od0 g0 bc0 hr0 co0 ++ cR cyI cyO aR1 aW1 aw1 af1 aG1 ao1 aB1 ab1 w1 f1 od1 g1 bc1 hr1 co1) (run_V (q := (RX5, TX5, 3)) (n := 1) (As := [.int b_]) (rest := []) ⟨hx, hb, hml, hown, hts⟩ (c_X5_checkBus l D cyI cyO cyL aX aT aR0 aR1 aW0 aw0 af0 aG0 ao0 aB0 ab0 w0 f0 od0 g0 bc0 hr0 co0 b_ hb0 hb1 _) ggX5_fit_X5_checkBus rfl rfl rfl (hts (.methodLink RX5 84 yX5_checkBus) (List.mem_of_getElem? (i := 4) rfl)) (hts (.initialized RX5) (List.mem_of_getElem? (i := 7) rfl)) (hts (.instanceMethod yX5_checkBus) (List.mem_of_getElem? (i := 5) rfl)) (hts (.selects RX5 yX5_checkBus yX5_checkBus) (List.mem_of_getElem? (i := 6) rfl)) (by decide +kernel) ⟨Nat.le_of_ble_eq_true rfl, Nat.le_of_ble_eq_true rfl⟩ hKK hPc hDc (ci := 5) (q0 := 0) rfl rfl rfl hl.1 rfl (Nat.le_of_ble_eq_true rfl) dX5_fit_7 ⟨Nat.zero_le _, Nat.zero_le _⟩) hP hD hS hA [0, 4, 5, 6, 7, 8, 9, 10] rfl rfl [(true, 0), (false, 1), (false, 2), (false, 3), (true, 1), (true, 2), (true, 3), (true, 4), (true, 5), (true, 6), (true, 7), (false, 11), (false, 12), (false, 13), (false, 14), (false, 15), (false, 16), (false, 17)] (by decide +kernel) rfl rfl (fun H locs hP hD hS => ?_)
  refine lv_aload_n hx hb dX5_fit_10 rfl (lv_at hl 0 rfl) ?_
  refine va_get (D := D) (ci := 5) (v := .ref aR0) (C := RX5) (T := TX5) (N := 3) hx hb hts iX5 hown hKK.1 hP 0 rfl rfl 1 (by decide) (hts (.fieldLink RX5 19 "TrolleyGang" "now" "LTrolleyGang$Ring;") (List.mem_of_getElem? (i := 3) rfl)) (fun _ h9 => h9) rfl dX5_fit_11 ?_
  refine va_getN (D := D) (ci := 2) (v := .ref aB0) (C := RX2) (T := TX2) (N := 6) hx hb hts iX2 hown hKK.1 hP 4 rfl rfl 2 (by decide) (nw (w := .fieldLinkNest "TrolleyGang" 74 "TrolleyGang$Ring" "buses" "[LTrolleyGang$Bus;" "TrolleyGang") nq_41) (fun _ h9 => h9) rfl dX5_fit_14 ?_
  refine lv_iload_n hx hb dX5_fit_17 rfl (lv_at hl 1 rfl) ?_
  refine va_aldq hx hb hKK.1 hP 10 1 rfl rfl (hin := hia) dX5_fit_18 ?_
  refine lv_topv (y := .ref (ab0 a_.toNatClampNeg)) rfl ?_
  refine lv_astore_n (lv' := [(3, .ref (ab0 a_.toNatClampNeg)), (0, .ref aX), (1, .int a_), (2, .int b_)]) hx hb dX5_fit_19 rfl hl (by decide) rfl (fun ls hl => ?_)
  refine lv_aload_n hx hb dX5_fit_20 rfl (lv_at hl 1 rfl) ?_
  refine va_get (D := D) (ci := 5) (v := .ref aR0) (C := RX5) (T := TX5) (N := 3) hx hb hts iX5 hown hKK.1 hP 0 rfl rfl 1 (by decide) (hts (.fieldLink RX5 19 "TrolleyGang" "now" "LTrolleyGang$Ring;") (List.mem_of_getElem? (i := 3) rfl)) (fun _ h9 => h9) rfl dX5_fit_21 ?_
  refine va_getN (D := D) (ci := 2) (v := .ref aB0) (C := RX2) (T := TX2) (N := 6) hx hb hts iX2 hown hKK.1 hP 4 rfl rfl 2 (by decide) (nw (w := .fieldLinkNest "TrolleyGang" 74 "TrolleyGang$Ring" "buses" "[LTrolleyGang$Bus;" "TrolleyGang") nq_41) (fun _ h9 => h9) rfl dX5_fit_24 ?_
  refine lv_iload_n hx hb dX5_fit_27 rfl (lv_at hl 3 rfl) ?_
  refine va_aldq hx hb hKK.1 hP 10 1 rfl rfl (hin := hib) dX5_fit_28 ?_
  refine lv_topv (y := .ref (ab0 b_.toNatClampNeg)) rfl ?_
  refine lv_astore (lv' := [(4, .ref (ab0 b_.toNatClampNeg)), (3, .ref (ab0 a_.toNatClampNeg)), (0, .ref aX), (1, .int a_), (2, .int b_)]) hx hb dX5_fit_29 hl (by decide) rfl (fun ls hl => ?_)
  refine lv_aload_n hx hb dX5_fit_31 rfl (lv_at hl 1 rfl) ?_
  refine bus_getN hx hb hts iX0 hown hKK hP (hLB0 a_.toNatClampNeg (vp_lt hia)) 1 (by decide) (nw (w := .fieldLinkNest "TrolleyGang" 87 "TrolleyGang$Bus" "hasScraper" "Z" "TrolleyGang") nq_29) (fun _ h9 => h9) dX5_fit_32 ?_
  refine lv_if_eq (tgt := 46) hx hb dX5_fit_35 (by decide) (fun h_1 => ?_) (fun h_1 => ?_)
  · skip
    exact throw_S (X := ISTA) (text := "a scraper goes from a bus that has one to a bus that has none") hx hb hlf hown (by decide +kernel) (hts (.classLink RX5 69 "java/lang/IllegalStateException") (List.mem_of_getElem? (i := 1) rfl)) (hts (.initialized "java/lang/IllegalStateException") (List.mem_of_getElem? (i := 2) rfl)) (by decide +kernel) hXE (fun w h => hts w (List.mem_cons_of_mem _ (List.mem_append_left _ (List.mem_append_right _ h)))) ng_3 hg_3 hP hS (by rw [hml]; exact hl.1) dX5_fit_46 dX5_fit_49 dX5_fit_50 dX5_fit_52 dX5_fit_55 ht9 (by decide) (by decide) (by decide) (by decide) hlocks
  · skip
    refine lv_aload hx hb dX5_fit_38 (lv_at hl 0 rfl) ?_
    refine bus_getN hx hb hts iX0 hown hKK hP (hLB0 b_.toNatClampNeg (vp_lt hib)) 1 (by decide) (nw (w := .fieldLinkNest "TrolleyGang" 87 "TrolleyGang$Bus" "hasScraper" "Z" "TrolleyGang") nq_29) (fun _ h9 => h9) dX5_fit_40 ?_
    refine lv_if_eq (tgt := 56) hx hb dX5_fit_43 (by decide) (fun h_2 => ?_) (fun h_2 => ?_)
    · skip
      exact (hgt.elim h_1 (fun z => z h_2)).elim
    · skip
      exact throw_S (X := ISTA) (text := "a scraper goes from a bus that has one to a bus that has none") hx hb hlf hown (by decide +kernel) (hts (.classLink RX5 69 "java/lang/IllegalStateException") (List.mem_of_getElem? (i := 1) rfl)) (hts (.initialized "java/lang/IllegalStateException") (List.mem_of_getElem? (i := 2) rfl)) (by decide +kernel) hXE (fun w h => hts w (List.mem_cons_of_mem _ (List.mem_append_left _ (List.mem_append_right _ h)))) ng_3 hg_3 hP hS (by rw [hml]; exact hl.1) dX5_fit_46 dX5_fit_49 dX5_fit_50 dX5_fit_52 dX5_fit_55 ht9 (by decide) (by decide) (by decide) (by decide) hlocks
set_option maxHeartbeats 4000000 in
set_option maxRecDepth 100000 in
theorem b_park (l : Launch) (D : va_G) (cyI cyO cyL : ClassId) (aX : Nat) (aT : Nat) (aR0 : Nat) (aR1 : Nat) (ac : Nat) (as_ : Nat) (aW0 : Nat) (aw0 : Nat) (af0 : Nat) (aG0 : Nat) (ao0 : Nat) (aB0 : Nat) (aW1 : Nat) (aw1 : Nat) (af1 : Nat) (aG1 : Nat) (ao1 : Nat) (aB1 : Nat) (cd : Nat → Int32) (sw : Nat → Int32) (fd : Int32) (fn : Int32) (ab0 : Nat → Nat) (w0 : Nat → Int32) (f0 : Nat → Int32) (od0 : Nat → Int32) (g0 : Nat → Int32) (bc0 : Int32) (hr0 : Int32) (co0 : Int32) (ab1 : Nat → Nat) (w1 : Nat → Int32) (f1 : Nat → Int32) (od1 : Nat → Int32) (g1 : Nat → Int32) (bc1 : Int32) (hr1 : Int32) (co1 : Int32) (LB : List Nat) (B : Nat → Nat → Int32) (b_ : Int32) (hb9 : ¬ b_ < 0 → ¬ b_ < bc0) (hlf : l.stackTraces = false) : cB l yX5_park wsX5_park ({ frames := 7, cells := 1, slots := 6, locals := 103 }) D cyI cyO cyL [.ref aX, .int b_] ((cX aX aT aR0 aR1 ++ cT cyI aT ac as_ cd sw fd fn ++ cR cyI cyO aR0 aW0 aw0 af0 aG0 ao0 aB0 ab0 w0 f0 od0 g0 bc0 hr0 co0 ++ cR cyI cyO aR1 aW1 aw1 af1 aG1 ao1 aB1 ab1 w1 f1 od1 g1 bc1 hr1 co1) ++ pB LB B) IOOB := by
  intro sz
  refine vx_ofW (cc := cX5_park) (maxL := 3) (ret := (some .boolean)) (by decide) rfl ?_
  intro p e s m args below meth c s₁ B9 hml ht9 hv
  obtain ⟨rfl, hsz, hP, hKK, hXE, hD0⟩ := hv
  have hx := B9.exec
  have hb := B9.bytes
  have hrt := B9.returns
  have hts := atoms_spec (ws := wsX5_park) B9.pre
  have hown : s.vm.findClass RX5 = some m.cls := findClass_of_methodNamed B9.named
  have hlocks := B9.notSynchronized
  have nw := fun {w : Cond} (h : w ∈ nw_all) => NW.use (args := ([.ref aX, .int b_] : List Value).toArray) hKK.2 h
  subst hsz
  have hD := hD0.self (sz := s.heap.size)
  generalize hAe : va_A ((cX aX aT aR0 aR1 ++ cT cyI aT ac as_ cd sw fd fn ++ cR cyI cyO aR0 aW0 aw0 af0 aG0 ao0 aB0 ab0 w0 f0 od0 g0 bc0 hr0 co0 ++ cR cyI cyO aR1 aW1 aw1 af1 aG1 ao1 aB1 ab1 w1 f1 od1 g1 bc1 hr1 co1) ++ pB LB B) s.heap.size = A at hD hXE ⊢
  have hA : ∀ q : Nat, s.heap.size ≤ q → A q := fun q h => by rw [← hAe]; exact Or.inr h
  have hS : va_S A s.heap s.heap [] := va_S.rf
  have hl := lv_entry ([.ref aX, .int b_]) (n := 3) (Nat.le_of_ble_eq_true rfl)
  rw [lg_entry_eq]
  generalize (lg_sl ([.ref aX, .int b_]) ++ List.replicate (3 - (lg_sl ([.ref aX, .int b_])).length) Slot.unset).toArray = ls at hl ⊢
  have hl : lv_has ls 3 [(0, .ref aX), (1, .int b_)] := hl
  refine lv_aload_n hx hb dX5_park_0 rfl (lv_at hl 0 rfl) ?_
  refine lv_iload_n hx hb dX5_park_1 rfl (lv_at hl 1 rfl) ?_
  have hPc := hP.sub (ws' := (cX aX aT aR0 aR1 ++ cR cyI cyO aR0 aW0 aw0 af0 aG0 ao0 aB0 ab0 w0 f0 od0 g0 bc0 hr0 co0)) [0, 4, 5, 6, 7, 8, 9, 10] rfl
  have hDc := hD.sub (ws' := (cX aX aT aR0 aR1 ++ cR cyI cyO aR0 aW0 aw0 af0 aG0 ao0 aB0 ab0 w0 f0 od0 g0 bc0 hr0 co0)) [0, 4, 5, 6, 7, 8, 9, 10] (by decide) rfl
  have hFc := va_free (wc := (cX aX aT aR0 aR1 ++ cR cyI cyO aR0 aW0 aw0 af0 aG0 ao0 aB0 ab0 w0 f0 od0 g0 bc0 hr0 co0)) hD hS hA [0, 4, 5, 6, 7, 8, 9, 10] rfl
  have hXc := (hXE.kept hS.2.1).narrow hFc
  refine thr (W1 := (cX aX aT aR0 aR1 ++ cR cyI cyO aR0 aW0 aw0 af0 aG0 ao0 aB0 ab0 w0 f0 od0 g0 bc0 hr0 co0)) (runX_V (q := (RX5, TX5, 3)) (n := 1) (As := [.int b_]) (rest := []) ⟨hx, hb, hml, hown, hts⟩ (b_X5_checkBus l D cyI cyO cyL aX aT aR0 aR1 aW0 aw0 af0 aG0 ao0 aB0 ab0 w0 f0 od0 g0 bc0 hr0 co0 b_ hb9 hlf _) ggX5_park_X5_checkBus rfl rfl rfl (hts (.methodLink RX5 84 yX5_checkBus) (List.mem_of_getElem? (i := 2) rfl)) (hts (.initialized RX5) (List.mem_of_getElem? (i := 5) rfl)) (hts (.instanceMethod yX5_checkBus) (List.mem_of_getElem? (i := 3) rfl)) (hts (.selects RX5 yX5_checkBus yX5_checkBus) (List.mem_of_getElem? (i := 4) rfl)) (by decide +kernel) ⟨Nat.le_of_ble_eq_true rfl, Nat.le_of_ble_eq_true rfl⟩ hKK hXc hPc hDc (ci := 5) (q0 := 0) rfl rfl rfl hl.1 rfl (Nat.le_of_ble_eq_true rfl) dX5_park_2 ⟨Nat.le_of_ble_eq_true rfl, Nat.le_of_ble_eq_true rfl⟩) hP hD hS hFc [0, 4, 5, 6, 7, 8, 9, 10] rfl (fun ce9 q9 H locs hP hS hce hcv hcl _ _ => ?_)
  exact out_X ht9 hlocks hP hS hce hcv hcl (Nat.le_refl _) (Nat.le_refl _)
set_option maxHeartbeats 4000000 in
set_option maxRecDepth 100000 in
theorem b_told_1 (l : Launch) (D : va_G) (cyI cyO cyL : ClassId) (aX : Nat) (aT : Nat) (aR0 : Nat) (aR1 : Nat) (ac : Nat) (as_ : Nat) (aW0 : Nat) (aw0 : Nat) (af0 : Nat) (aG0 : Nat) (ao0 : Nat) (aB0 : Nat) (aW1 : Nat) (aw1 : Nat) (af1 : Nat) (aG1 : Nat) (ao1 : Nat) (aB1 : Nat) (cd : Nat → Int32) (sw : Nat → Int32) (fd : Int32) (fn : Int32) (ab0 : Nat → Nat) (w0 : Nat → Int32) (f0 : Nat → Int32) (od0 : Nat → Int32) (g0 : Nat → Int32) (bc0 : Int32) (hr0 : Int32) (co0 : Int32) (ab1 : Nat → Nat) (w1 : Nat → Int32) (f1 : Nat → Int32) (od1 : Nat → Int32) (g1 : Nat → Int32) (bc1 : Int32) (hr1 : Int32) (co1 : Int32) (LB : List Nat) (B : Nat → Nat → Int32) (b_ : Int32) (x_ : Int32) (hb9 : ¬ b_ < 0 → ¬ b_ < bc0) (hlf : l.stackTraces = false) : cB l yX5_told wsX5_told ({ frames := 7, cells := 1, slots := 6, locals := 103 }) D cyI cyO cyL [.ref aX, .int b_, .int x_] ((cX aX aT aR0 aR1 ++ cT cyI aT ac as_ cd sw fd fn ++ cR cyI cyO aR0 aW0 aw0 af0 aG0 ao0 aB0 ab0 w0 f0 od0 g0 bc0 hr0 co0 ++ cR cyI cyO aR1 aW1 aw1 af1 aG1 ao1 aB1 ab1 w1 f1 od1 g1 bc1 hr1 co1) ++ pB LB B) IOOB := by
  intro sz
  refine vx_ofW (cc := cX5_told) (maxL := 4) (ret := (some .int)) (by decide) rfl ?_
  intro p e s m args below meth c s₁ B9 hml ht9 hv
  obtain ⟨rfl, hsz, hP, hKK, hXE, hD0⟩ := hv
  have hx := B9.exec
  have hb := B9.bytes
  have hrt := B9.returns
  have hts := atoms_spec (ws := wsX5_told) B9.pre
  have hown : s.vm.findClass RX5 = some m.cls := findClass_of_methodNamed B9.named
  have hlocks := B9.notSynchronized
  have nw := fun {w : Cond} (h : w ∈ nw_all) => NW.use (args := ([.ref aX, .int b_, .int x_] : List Value).toArray) hKK.2 h
  subst hsz
  have hD := hD0.self (sz := s.heap.size)
  generalize hAe : va_A ((cX aX aT aR0 aR1 ++ cT cyI aT ac as_ cd sw fd fn ++ cR cyI cyO aR0 aW0 aw0 af0 aG0 ao0 aB0 ab0 w0 f0 od0 g0 bc0 hr0 co0 ++ cR cyI cyO aR1 aW1 aw1 af1 aG1 ao1 aB1 ab1 w1 f1 od1 g1 bc1 hr1 co1) ++ pB LB B) s.heap.size = A at hD hXE ⊢
  have hA : ∀ q : Nat, s.heap.size ≤ q → A q := fun q h => by rw [← hAe]; exact Or.inr h
  have hS : va_S A s.heap s.heap [] := va_S.rf
  have hl := lv_entry ([.ref aX, .int b_, .int x_]) (n := 4) (Nat.le_of_ble_eq_true rfl)
  rw [lg_entry_eq]
  generalize (lg_sl ([.ref aX, .int b_, .int x_]) ++ List.replicate (4 - (lg_sl ([.ref aX, .int b_, .int x_])).length) Slot.unset).toArray = ls at hl ⊢
  have hl : lv_has ls 4 [(0, .ref aX), (1, .int b_), (2, .int x_)] := hl
  refine lv_aload_n hx hb dX5_told_0 rfl (lv_at hl 0 rfl) ?_
  refine lv_iload_n hx hb dX5_told_1 rfl (lv_at hl 1 rfl) ?_
  have hPc := hP.sub (ws' := (cX aX aT aR0 aR1 ++ cR cyI cyO aR0 aW0 aw0 af0 aG0 ao0 aB0 ab0 w0 f0 od0 g0 bc0 hr0 co0)) [0, 4, 5, 6, 7, 8, 9, 10] rfl
  have hDc := hD.sub (ws' := (cX aX aT aR0 aR1 ++ cR cyI cyO aR0 aW0 aw0 af0 aG0 ao0 aB0 ab0 w0 f0 od0 g0 bc0 hr0 co0)) [0, 4, 5, 6, 7, 8, 9, 10] (by decide) rfl
  have hFc := va_free (wc := (cX aX aT aR0 aR1 ++ cR cyI cyO aR0 aW0 aw0 af0 aG0 ao0 aB0 ab0 w0 f0 od0 g0 bc0 hr0 co0)) hD hS hA [0, 4, 5, 6, 7, 8, 9, 10] rfl
  have hXc := (hXE.kept hS.2.1).narrow hFc
  refine thr (W1 := (cX aX aT aR0 aR1 ++ cR cyI cyO aR0 aW0 aw0 af0 aG0 ao0 aB0 ab0 w0 f0 od0 g0 bc0 hr0 co0)) (runX_V (q := (RX5, TX5, 3)) (n := 1) (As := [.int b_]) (rest := []) ⟨hx, hb, hml, hown, hts⟩ (b_X5_checkBus l D cyI cyO cyL aX aT aR0 aR1 aW0 aw0 af0 aG0 ao0 aB0 ab0 w0 f0 od0 g0 bc0 hr0 co0 b_ hb9 hlf _) ggX5_told_X5_checkBus rfl rfl rfl (hts (.methodLink RX5 84 yX5_checkBus) (List.mem_of_getElem? (i := 2) rfl)) (hts (.initialized RX5) (List.mem_of_getElem? (i := 5) rfl)) (hts (.instanceMethod yX5_checkBus) (List.mem_of_getElem? (i := 3) rfl)) (hts (.selects RX5 yX5_checkBus yX5_checkBus) (List.mem_of_getElem? (i := 4) rfl)) (by decide +kernel) ⟨Nat.le_of_ble_eq_true rfl, Nat.le_of_ble_eq_true rfl⟩ hKK hXc hPc hDc (ci := 5) (q0 := 0) rfl rfl rfl hl.1 rfl (Nat.le_of_ble_eq_true rfl) dX5_told_2 ⟨Nat.le_of_ble_eq_true rfl, Nat.le_of_ble_eq_true rfl⟩) hP hD hS hFc [0, 4, 5, 6, 7, 8, 9, 10] rfl (fun ce9 q9 H locs hP hS hce hcv hcl _ _ => ?_)
  exact out_X ht9 hlocks hP hS hce hcv hcl (Nat.le_refl _) (Nat.le_refl _)
set_option maxHeartbeats 4000000 in
set_option maxRecDepth 100000 in
theorem b_told_2 (l : Launch) (D : va_G) (cyI cyO cyL : ClassId) (aX : Nat) (aT : Nat) (aR0 : Nat) (aR1 : Nat) (ac : Nat) (as_ : Nat) (aW0 : Nat) (aw0 : Nat) (af0 : Nat) (aG0 : Nat) (ao0 : Nat) (aB0 : Nat) (aW1 : Nat) (aw1 : Nat) (af1 : Nat) (aG1 : Nat) (ao1 : Nat) (aB1 : Nat) (cd : Nat → Int32) (sw : Nat → Int32) (fd : Int32) (fn : Int32) (ab0 : Nat → Nat) (w0 : Nat → Int32) (f0 : Nat → Int32) (od0 : Nat → Int32) (g0 : Nat → Int32) (bc0 : Int32) (hr0 : Int32) (co0 : Int32) (ab1 : Nat → Nat) (w1 : Nat → Int32) (f1 : Nat → Int32) (od1 : Nat → Int32) (g1 : Nat → Int32) (bc1 : Int32) (hr1 : Int32) (co1 : Int32) (LB : List Nat) (B : Nat → Nat → Int32) (b_ : Int32) (x_ : Int32) (hb0 : ¬ b_ < 0) (hb1 : b_ < bc0) (hx9 : ¬ x_ < 0 → ¬ x_ < 7) (hlf : l.stackTraces = false) : cB l yX5_told wsX5_told ({ frames := 7, cells := 1, slots := 6, locals := 103 }) D cyI cyO cyL [.ref aX, .int b_, .int x_] ((cX aX aT aR0 aR1 ++ cT cyI aT ac as_ cd sw fd fn ++ cR cyI cyO aR0 aW0 aw0 af0 aG0 ao0 aB0 ab0 w0 f0 od0 g0 bc0 hr0 co0 ++ cR cyI cyO aR1 aW1 aw1 af1 aG1 ao1 aB1 ab1 w1 f1 od1 g1 bc1 hr1 co1) ++ pB LB B) IOOB := by
  intro sz
  refine vx_ofW (cc := cX5_told) (maxL := 4) (ret := (some .int)) (by decide) rfl ?_
  intro p e s m args below meth c s₁ B9 hml ht9 hv
  obtain ⟨rfl, hsz, hP, hKK, hXE, hD0⟩ := hv
  have hx := B9.exec
  have hb := B9.bytes
  have hrt := B9.returns
  have hts := atoms_spec (ws := wsX5_told) B9.pre
  have hown : s.vm.findClass RX5 = some m.cls := findClass_of_methodNamed B9.named
  have hlocks := B9.notSynchronized
  have nw := fun {w : Cond} (h : w ∈ nw_all) => NW.use (args := ([.ref aX, .int b_, .int x_] : List Value).toArray) hKK.2 h
  subst hsz
  have hD := hD0.self (sz := s.heap.size)
  generalize hAe : va_A ((cX aX aT aR0 aR1 ++ cT cyI aT ac as_ cd sw fd fn ++ cR cyI cyO aR0 aW0 aw0 af0 aG0 ao0 aB0 ab0 w0 f0 od0 g0 bc0 hr0 co0 ++ cR cyI cyO aR1 aW1 aw1 af1 aG1 ao1 aB1 ab1 w1 f1 od1 g1 bc1 hr1 co1) ++ pB LB B) s.heap.size = A at hD hXE ⊢
  have hA : ∀ q : Nat, s.heap.size ≤ q → A q := fun q h => by rw [← hAe]; exact Or.inr h
  have hS : va_S A s.heap s.heap [] := va_S.rf
  have hl := lv_entry ([.ref aX, .int b_, .int x_]) (n := 4) (Nat.le_of_ble_eq_true rfl)
  rw [lg_entry_eq]
  generalize (lg_sl ([.ref aX, .int b_, .int x_]) ++ List.replicate (4 - (lg_sl ([.ref aX, .int b_, .int x_])).length) Slot.unset).toArray = ls at hl ⊢
  have hl : lv_has ls 4 [(0, .ref aX), (1, .int b_), (2, .int x_)] := hl
  refine lv_aload_n hx hb dX5_told_0 rfl (lv_at hl 0 rfl) ?_
  refine lv_iload_n hx hb dX5_told_1 rfl (lv_at hl 1 rfl) ?_
  have hPc := hP.sub (ws' := (cX aX aT aR0 aR1 ++ cR cyI cyO aR0 aW0 aw0 af0 aG0 ao0 aB0 ab0 w0 f0 od0 g0 bc0 hr0 co0)) [0, 4, 5, 6, 7, 8, 9, 10] rfl
  have hDc := hD.sub (ws' := (cX aX aT aR0 aR1 ++ cR cyI cyO aR0 aW0 aw0 af0 aG0 ao0 aB0 ab0 w0 f0 od0 g0 bc0 hr0 co0)) [0, 4, 5, 6, 7, 8, 9, 10] (by decide) rfl
  refine ret_vP (W1 := (cX aX aT aR0 aR1 ++ cR cyI cyO aR0 aW0 aw0 af0 aG0 ao0 aB0 ab0 w0 f0 od0 g0 bc0 hr0 co0)) (W2 := (cX aX aT aR0 aR1 ++ cR cyI cyO aR0 aW0 aw0 af0 aG0 ao0 aB0 ab0 w0 f0 od0 g0 bc0 hr0 co0)) (X1 := cX aX aT aR0 aR1 ++ cT cyI aT ac as_ cd sw fd fn ++ cR cyI cyO aR0 aW0 aw0 af0 aG0 ao0 aB0 ab0 w0 f0 od0 g0 bc0 hr0 co0 ++ cR cyI cyO aR1 aW1 aw1 af1 aG1 ao1 aB1 ab1 w1 f1 od1 g1 bc1 hr1 co1) (run_V (q := (RX5, TX5, 3)) (n := 1) (As := [.int b_]) (rest := []) ⟨hx, hb, hml, hown, hts⟩ (c_X5_checkBus l D cyI cyO cyL aX aT aR0 aR1 aW0 aw0 af0 aG0 ao0 aB0 ab0 w0 f0 od0 g0 bc0 hr0 co0 b_ hb0 hb1 _) ggX5_told_X5_checkBus rfl rfl rfl (hts (.methodLink RX5 84 yX5_checkBus) (List.mem_of_getElem? (i := 2) rfl)) (hts (.initialized RX5) (List.mem_of_getElem? (i := 5) rfl)) (hts (.instanceMethod yX5_checkBus) (List.mem_of_getElem? (i := 3) rfl)) (hts (.selects RX5 yX5_checkBus yX5_checkBus) (List.mem_of_getElem? (i := 4) rfl)) (by decide +kernel) ⟨Nat.le_of_ble_eq_true rfl, Nat.le_of_ble_eq_true rfl⟩ hKK hPc hDc (ci := 5) (q0 := 0) rfl rfl rfl hl.1 rfl (Nat.le_of_ble_eq_true rfl) dX5_told_2 ⟨Nat.zero_le _, Nat.zero_le _⟩) hP hD hS hA [0, 4, 5, 6, 7, 8, 9, 10] rfl rfl [(true, 0), (false, 1), (false, 2), (false, 3), (true, 1), (true, 2), (true, 3), (true, 4), (true, 5), (true, 6), (true, 7), (false, 11), (false, 12), (false, 13), (false, 14), (false, 15), (false, 16), (false, 17)] (by decide +kernel) rfl rfl (fun H locs hP hD hS => ?_)
  refine lv_iload_n hx hb dX5_told_5 rfl (lv_at hl 2 rfl) ?_
  refine lv_bipush (v := 7) hx hb dX5_told_6 (by decide) ?_
  have hPc := hP.sub (ws' := ([] : va_W)) [] rfl
  have hDc := hD.sub (ws' := ([] : va_W)) [] (by decide) rfl
  have hFc := va_free (wc := ([] : va_W)) hD hS hA [] rfl
  have hXc := (hXE.kept hS.2.1).narrow hFc
  refine thr (W1 := ([] : va_W)) (runX_S (n := 2) (As := [.int x_, .int 7]) (rest := []) ⟨hx, hb, hml, hown, hts⟩ (b_X5_checkWhat l D cyI cyO cyL x_ 7 hx9 hlf _) ggX5_told_X5_checkWhat rfl rfl rfl (hts (.methodLink RX5 99 yX5_checkWhat) (List.mem_of_getElem? (i := 9) rfl)) (hts (.initialized RX5) (List.mem_of_getElem? (i := 5) rfl)) (hts (.static yX5_checkWhat) (List.mem_of_getElem? (i := 10) rfl)) (by decide +kernel) ⟨Nat.le_of_ble_eq_true rfl, Nat.le_of_ble_eq_true rfl⟩ hKK hXc hPc hDc rfl hl.1 rfl (Nat.le_of_ble_eq_true rfl) dX5_told_8 ⟨Nat.le_of_ble_eq_true rfl, Nat.le_of_ble_eq_true rfl⟩) hP hD hS hFc [] rfl (fun ce9 q9 H locs hP hS hce hcv hcl _ _ => ?_)
  exact out_X ht9 hlocks hP hS hce hcv hcl (Nat.le_refl _) (Nat.le_refl _)
set_option maxHeartbeats 4000000 in
set_option maxRecDepth 100000 in
theorem b_span_1 (l : Launch) (D : va_G) (cyI cyO cyL : ClassId) (aX : Nat) (aT : Nat) (aR0 : Nat) (aR1 : Nat) (ac : Nat) (as_ : Nat) (aW0 : Nat) (aw0 : Nat) (af0 : Nat) (aG0 : Nat) (ao0 : Nat) (aB0 : Nat) (aW1 : Nat) (aw1 : Nat) (af1 : Nat) (aG1 : Nat) (ao1 : Nat) (aB1 : Nat) (cd : Nat → Int32) (sw : Nat → Int32) (fd : Int32) (fn : Int32) (ab0 : Nat → Nat) (w0 : Nat → Int32) (f0 : Nat → Int32) (od0 : Nat → Int32) (g0 : Nat → Int32) (bc0 : Int32) (hr0 : Int32) (co0 : Int32) (ab1 : Nat → Nat) (w1 : Nat → Int32) (f1 : Nat → Int32) (od1 : Nat → Int32) (g1 : Nat → Int32) (bc1 : Int32) (hr1 : Int32) (co1 : Int32) (LB : List Nat) (B : Nat → Nat → Int32) (s_ : Int32) (x_ : Int32) (hs : ¬ vp_in s_ 24) (hlf : l.stackTraces = false) : cB l yX5_span wsX5_span ({ frames := 7, cells := 1, slots := 6, locals := 102 }) D cyI cyO cyL [.ref aX, .int s_, .int x_] ((cX aX aT aR0 aR1 ++ cT cyI aT ac as_ cd sw fd fn ++ cR cyI cyO aR0 aW0 aw0 af0 aG0 ao0 aB0 ab0 w0 f0 od0 g0 bc0 hr0 co0 ++ cR cyI cyO aR1 aW1 aw1 af1 aG1 ao1 aB1 ab1 w1 f1 od1 g1 bc1 hr1 co1) ++ pB LB B) IOOB := by
  intro sz
  refine vx_ofW (cc := cX5_span) (maxL := 3) (ret := (some .int)) (by decide) rfl ?_
  intro p e s m args below meth c s₁ B9 hml ht9 hv
  obtain ⟨rfl, hsz, hP, hKK, hXE, hD0⟩ := hv
  have hx := B9.exec
  have hb := B9.bytes
  have hrt := B9.returns
  have hts := atoms_spec (ws := wsX5_span) B9.pre
  have hown : s.vm.findClass RX5 = some m.cls := findClass_of_methodNamed B9.named
  have hlocks := B9.notSynchronized
  have nw := fun {w : Cond} (h : w ∈ nw_all) => NW.use (args := ([.ref aX, .int s_, .int x_] : List Value).toArray) hKK.2 h
  subst hsz
  have hD := hD0.self (sz := s.heap.size)
  generalize hAe : va_A ((cX aX aT aR0 aR1 ++ cT cyI aT ac as_ cd sw fd fn ++ cR cyI cyO aR0 aW0 aw0 af0 aG0 ao0 aB0 ab0 w0 f0 od0 g0 bc0 hr0 co0 ++ cR cyI cyO aR1 aW1 aw1 af1 aG1 ao1 aB1 ab1 w1 f1 od1 g1 bc1 hr1 co1) ++ pB LB B) s.heap.size = A at hD hXE ⊢
  have hA : ∀ q : Nat, s.heap.size ≤ q → A q := fun q h => by rw [← hAe]; exact Or.inr h
  have hS : va_S A s.heap s.heap [] := va_S.rf
  have hl := lv_entry ([.ref aX, .int s_, .int x_]) (n := 3) (Nat.le_of_ble_eq_true rfl)
  rw [lg_entry_eq]
  generalize (lg_sl ([.ref aX, .int s_, .int x_]) ++ List.replicate (3 - (lg_sl ([.ref aX, .int s_, .int x_])).length) Slot.unset).toArray = ls at hl ⊢
  have hl : lv_has ls 3 [(0, .ref aX), (1, .int s_), (2, .int x_)] := hl
  refine lv_iload_n hx hb dX5_span_0 rfl (lv_at hl 1 rfl) ?_
  have hPc := hP.sub (ws' := ([] : va_W)) [] rfl
  have hDc := hD.sub (ws' := ([] : va_W)) [] (by decide) rfl
  have hFc := va_free (wc := ([] : va_W)) hD hS hA [] rfl
  have hXc := (hXE.kept hS.2.1).narrow hFc
  refine thr (W1 := ([] : va_W)) (runX_S (n := 1) (As := [.int s_]) (rest := []) ⟨hx, hb, hml, hown, hts⟩ (b_X5_checkSpan l D cyI cyO cyL s_ hs hlf _) ggX5_span_X5_checkSpan rfl rfl rfl (hts (.methodLink RX5 62 yX5_checkSpan) (List.mem_of_getElem? (i := 2) rfl)) (hts (.initialized RX5) (List.mem_of_getElem? (i := 4) rfl)) (hts (.static yX5_checkSpan) (List.mem_of_getElem? (i := 3) rfl)) (by decide +kernel) ⟨Nat.le_of_ble_eq_true rfl, Nat.le_of_ble_eq_true rfl⟩ hKK hXc hPc hDc rfl hl.1 rfl (Nat.le_of_ble_eq_true rfl) dX5_span_1 ⟨Nat.le_of_ble_eq_true rfl, Nat.le_of_ble_eq_true rfl⟩) hP hD hS hFc [] rfl (fun ce9 q9 H locs hP hS hce hcv hcl _ _ => ?_)
  exact out_X ht9 hlocks hP hS hce hcv hcl (Nat.le_refl _) (Nat.le_refl _)
set_option maxHeartbeats 4000000 in
set_option maxRecDepth 100000 in
theorem b_span_2 (l : Launch) (D : va_G) (cyI cyO cyL : ClassId) (aX : Nat) (aT : Nat) (aR0 : Nat) (aR1 : Nat) (ac : Nat) (as_ : Nat) (aW0 : Nat) (aw0 : Nat) (af0 : Nat) (aG0 : Nat) (ao0 : Nat) (aB0 : Nat) (aW1 : Nat) (aw1 : Nat) (af1 : Nat) (aG1 : Nat) (ao1 : Nat) (aB1 : Nat) (cd : Nat → Int32) (sw : Nat → Int32) (fd : Int32) (fn : Int32) (ab0 : Nat → Nat) (w0 : Nat → Int32) (f0 : Nat → Int32) (od0 : Nat → Int32) (g0 : Nat → Int32) (bc0 : Int32) (hr0 : Int32) (co0 : Int32) (ab1 : Nat → Nat) (w1 : Nat → Int32) (f1 : Nat → Int32) (od1 : Nat → Int32) (g1 : Nat → Int32) (bc1 : Int32) (hr1 : Int32) (co1 : Int32) (LB : List Nat) (B : Nat → Nat → Int32) (s_ : Int32) (x_ : Int32) (hs : vp_in s_ 24) (hx9 : ¬ x_ < 0 → ¬ x_ < 5) (hlf : l.stackTraces = false) : cB l yX5_span wsX5_span ({ frames := 7, cells := 1, slots := 6, locals := 103 }) D cyI cyO cyL [.ref aX, .int s_, .int x_] ((cX aX aT aR0 aR1 ++ cT cyI aT ac as_ cd sw fd fn ++ cR cyI cyO aR0 aW0 aw0 af0 aG0 ao0 aB0 ab0 w0 f0 od0 g0 bc0 hr0 co0 ++ cR cyI cyO aR1 aW1 aw1 af1 aG1 ao1 aB1 ab1 w1 f1 od1 g1 bc1 hr1 co1) ++ pB LB B) IOOB := by
  intro sz
  refine vx_ofW (cc := cX5_span) (maxL := 3) (ret := (some .int)) (by decide) rfl ?_
  intro p e s m args below meth c s₁ B9 hml ht9 hv
  obtain ⟨rfl, hsz, hP, hKK, hXE, hD0⟩ := hv
  have hx := B9.exec
  have hb := B9.bytes
  have hrt := B9.returns
  have hts := atoms_spec (ws := wsX5_span) B9.pre
  have hown : s.vm.findClass RX5 = some m.cls := findClass_of_methodNamed B9.named
  have hlocks := B9.notSynchronized
  have nw := fun {w : Cond} (h : w ∈ nw_all) => NW.use (args := ([.ref aX, .int s_, .int x_] : List Value).toArray) hKK.2 h
  subst hsz
  have hD := hD0.self (sz := s.heap.size)
  generalize hAe : va_A ((cX aX aT aR0 aR1 ++ cT cyI aT ac as_ cd sw fd fn ++ cR cyI cyO aR0 aW0 aw0 af0 aG0 ao0 aB0 ab0 w0 f0 od0 g0 bc0 hr0 co0 ++ cR cyI cyO aR1 aW1 aw1 af1 aG1 ao1 aB1 ab1 w1 f1 od1 g1 bc1 hr1 co1) ++ pB LB B) s.heap.size = A at hD hXE ⊢
  have hA : ∀ q : Nat, s.heap.size ≤ q → A q := fun q h => by rw [← hAe]; exact Or.inr h
  have hS : va_S A s.heap s.heap [] := va_S.rf
  have hl := lv_entry ([.ref aX, .int s_, .int x_]) (n := 3) (Nat.le_of_ble_eq_true rfl)
  rw [lg_entry_eq]
  generalize (lg_sl ([.ref aX, .int s_, .int x_]) ++ List.replicate (3 - (lg_sl ([.ref aX, .int s_, .int x_])).length) Slot.unset).toArray = ls at hl ⊢
  have hl : lv_has ls 3 [(0, .ref aX), (1, .int s_), (2, .int x_)] := hl
  refine lv_iload_n hx hb dX5_span_0 rfl (lv_at hl 1 rfl) ?_
  have hPc := hP.sub (ws' := ([] : va_W)) [] rfl
  have hDc := hD.sub (ws' := ([] : va_W)) [] (by decide) rfl
  refine ret_vP (W1 := ([] : va_W)) (W2 := ([] : va_W)) (X1 := cX aX aT aR0 aR1 ++ cT cyI aT ac as_ cd sw fd fn ++ cR cyI cyO aR0 aW0 aw0 af0 aG0 ao0 aB0 ab0 w0 f0 od0 g0 bc0 hr0 co0 ++ cR cyI cyO aR1 aW1 aw1 af1 aG1 ao1 aB1 ab1 w1 f1 od1 g1 bc1 hr1 co1) (run_S (n := 1) (As := [.int s_]) (rest := []) ⟨hx, hb, hml, hown, hts⟩ (c_X5_checkSpan l D cyI cyO cyL s_ hs _) ggX5_span_X5_checkSpan rfl rfl rfl (hts (.methodLink RX5 62 yX5_checkSpan) (List.mem_of_getElem? (i := 2) rfl)) (hts (.initialized RX5) (List.mem_of_getElem? (i := 4) rfl)) (hts (.static yX5_checkSpan) (List.mem_of_getElem? (i := 3) rfl)) (by decide +kernel) ⟨Nat.le_of_ble_eq_true rfl, Nat.le_of_ble_eq_true rfl⟩ hKK hPc hDc rfl hl.1 rfl (Nat.le_of_ble_eq_true rfl) dX5_span_1 ⟨Nat.zero_le _, Nat.zero_le _⟩) hP hD hS hA [] rfl rfl [(false, 0), (false, 1), (false, 2), (false, 3), (false, 4), (false, 5), (false, 6), (false, 7), (false, 8), (false, 9), (false, 10), (false, 11), (false, 12), (false, 13), (false, 14), (false, 15), (false, 16), (false, 17)] (by decide +kernel) rfl rfl (fun H locs hP hD hS => ?_)
  refine lv_iload_n hx hb dX5_span_4 rfl (lv_at hl 2 rfl) ?_
  refine lv_iconst (v := 5) hx hb dX5_span_5 (by decide) ?_
  have hPc := hP.sub (ws' := ([] : va_W)) [] rfl
  have hDc := hD.sub (ws' := ([] : va_W)) [] (by decide) rfl
  have hFc := va_free (wc := ([] : va_W)) hD hS hA [] rfl
  have hXc := (hXE.kept hS.2.1).narrow hFc
  refine thr (W1 := ([] : va_W)) (runX_S (n := 2) (As := [.int x_, .int 5]) (rest := []) ⟨hx, hb, hml, hown, hts⟩ (b_X5_checkWhat l D cyI cyO cyL x_ 5 hx9 hlf _) ggX5_span_X5_checkWhat rfl rfl rfl (hts (.methodLink RX5 99 yX5_checkWhat) (List.mem_of_getElem? (i := 8) rfl)) (hts (.initialized RX5) (List.mem_of_getElem? (i := 4) rfl)) (hts (.static yX5_checkWhat) (List.mem_of_getElem? (i := 9) rfl)) (by decide +kernel) ⟨Nat.le_of_ble_eq_true rfl, Nat.le_of_ble_eq_true rfl⟩ hKK hXc hPc hDc rfl hl.1 rfl (Nat.le_of_ble_eq_true rfl) dX5_span_6 ⟨Nat.le_of_ble_eq_true rfl, Nat.le_of_ble_eq_true rfl⟩) hP hD hS hFc [] rfl (fun ce9 q9 H locs hP hS hce hcv hcl _ _ => ?_)
  exact out_X ht9 hlocks hP hS hce hcv hcl (Nat.le_refl _) (Nat.le_refl _)
set_option maxHeartbeats 4000000 in
set_option maxRecDepth 100000 in
theorem b_order_1 (l : Launch) (D : va_G) (cyI cyO cyL : ClassId) (aX : Nat) (aT : Nat) (aR0 : Nat) (aR1 : Nat) (ac : Nat) (as_ : Nat) (aW0 : Nat) (aw0 : Nat) (af0 : Nat) (aG0 : Nat) (ao0 : Nat) (aB0 : Nat) (aW1 : Nat) (aw1 : Nat) (af1 : Nat) (aG1 : Nat) (ao1 : Nat) (aB1 : Nat) (cd : Nat → Int32) (sw : Nat → Int32) (fd : Int32) (fn : Int32) (ab0 : Nat → Nat) (w0 : Nat → Int32) (f0 : Nat → Int32) (od0 : Nat → Int32) (g0 : Nat → Int32) (bc0 : Int32) (hr0 : Int32) (co0 : Int32) (ab1 : Nat → Nat) (w1 : Nat → Int32) (f1 : Nat → Int32) (od1 : Nat → Int32) (g1 : Nat → Int32) (bc1 : Int32) (hr1 : Int32) (co1 : Int32) (LB : List Nat) (B : Nat → Nat → Int32) (s_ : Int32) (hs : ¬ vp_in s_ 24) (hlf : l.stackTraces = false) : cB l yX5_order wsX5_order ({ frames := 7, cells := 1, slots := 6, locals := 102 }) D cyI cyO cyL [.ref aX, .int s_] ((cX aX aT aR0 aR1 ++ cT cyI aT ac as_ cd sw fd fn ++ cR cyI cyO aR0 aW0 aw0 af0 aG0 ao0 aB0 ab0 w0 f0 od0 g0 bc0 hr0 co0 ++ cR cyI cyO aR1 aW1 aw1 af1 aG1 ao1 aB1 ab1 w1 f1 od1 g1 bc1 hr1 co1) ++ pB LB B) IOOB := by
  intro sz
  refine vx_ofW (cc := cX5_order) (maxL := 2) (ret := (some .int)) (by decide) rfl ?_
  intro p e s m args below meth c s₁ B9 hml ht9 hv
  obtain ⟨rfl, hsz, hP, hKK, hXE, hD0⟩ := hv
  have hx := B9.exec
  have hb := B9.bytes
  have hrt := B9.returns
  have hts := atoms_spec (ws := wsX5_order) B9.pre
  have hown : s.vm.findClass RX5 = some m.cls := findClass_of_methodNamed B9.named
  have hlocks := B9.notSynchronized
  have nw := fun {w : Cond} (h : w ∈ nw_all) => NW.use (args := ([.ref aX, .int s_] : List Value).toArray) hKK.2 h
  subst hsz
  have hD := hD0.self (sz := s.heap.size)
  generalize hAe : va_A ((cX aX aT aR0 aR1 ++ cT cyI aT ac as_ cd sw fd fn ++ cR cyI cyO aR0 aW0 aw0 af0 aG0 ao0 aB0 ab0 w0 f0 od0 g0 bc0 hr0 co0 ++ cR cyI cyO aR1 aW1 aw1 af1 aG1 ao1 aB1 ab1 w1 f1 od1 g1 bc1 hr1 co1) ++ pB LB B) s.heap.size = A at hD hXE ⊢
  have hA : ∀ q : Nat, s.heap.size ≤ q → A q := fun q h => by rw [← hAe]; exact Or.inr h
  have hS : va_S A s.heap s.heap [] := va_S.rf
  have hl := lv_entry ([.ref aX, .int s_]) (n := 2) (Nat.le_of_ble_eq_true rfl)
  rw [lg_entry_eq]
  generalize (lg_sl ([.ref aX, .int s_]) ++ List.replicate (2 - (lg_sl ([.ref aX, .int s_])).length) Slot.unset).toArray = ls at hl ⊢
  have hl : lv_has ls 2 [(0, .ref aX), (1, .int s_)] := hl
  refine lv_iload_n hx hb dX5_order_0 rfl (lv_at hl 1 rfl) ?_
  have hPc := hP.sub (ws' := ([] : va_W)) [] rfl
  have hDc := hD.sub (ws' := ([] : va_W)) [] (by decide) rfl
  have hFc := va_free (wc := ([] : va_W)) hD hS hA [] rfl
  have hXc := (hXE.kept hS.2.1).narrow hFc
  refine thr (W1 := ([] : va_W)) (runX_S (n := 1) (As := [.int s_]) (rest := []) ⟨hx, hb, hml, hown, hts⟩ (b_X5_checkSpan l D cyI cyO cyL s_ hs hlf _) ggX5_order_X5_checkSpan rfl rfl rfl (hts (.methodLink RX5 62 yX5_checkSpan) (List.mem_of_getElem? (i := 4) rfl)) (hts (.initialized RX5) (List.mem_of_getElem? (i := 6) rfl)) (hts (.static yX5_checkSpan) (List.mem_of_getElem? (i := 5) rfl)) (by decide +kernel) ⟨Nat.le_of_ble_eq_true rfl, Nat.le_of_ble_eq_true rfl⟩ hKK hXc hPc hDc rfl hl.1 rfl (Nat.le_of_ble_eq_true rfl) dX5_order_1 ⟨Nat.le_of_ble_eq_true rfl, Nat.le_of_ble_eq_true rfl⟩) hP hD hS hFc [] rfl (fun ce9 q9 H locs hP hS hce hcv hcl _ _ => ?_)
  exact out_X ht9 hlocks hP hS hce hcv hcl (Nat.le_refl _) (Nat.le_refl _)
set_option maxHeartbeats 4000000 in
set_option maxRecDepth 100000 in
theorem b_order_2 (l : Launch) (D : va_G) (cyI cyO cyL : ClassId) (aX : Nat) (aT : Nat) (aR0 : Nat) (aR1 : Nat) (ac : Nat) (as_ : Nat) (aW0 : Nat) (aw0 : Nat) (af0 : Nat) (aG0 : Nat) (ao0 : Nat) (aB0 : Nat) (aW1 : Nat) (aw1 : Nat) (af1 : Nat) (aG1 : Nat) (ao1 : Nat) (aB1 : Nat) (cd : Nat → Int32) (sw : Nat → Int32) (fd : Int32) (fn : Int32) (ab0 : Nat → Nat) (w0 : Nat → Int32) (f0 : Nat → Int32) (od0 : Nat → Int32) (g0 : Nat → Int32) (bc0 : Int32) (hr0 : Int32) (co0 : Int32) (ab1 : Nat → Nat) (w1 : Nat → Int32) (f1 : Nat → Int32) (od1 : Nat → Int32) (g1 : Nat → Int32) (bc1 : Int32) (hr1 : Int32) (co1 : Int32) (LB : List Nat) (B : Nat → Nat → Int32) (s_ : Int32) (hs : vp_in s_ 24) (hfull : ¬ g0 0 < 6) (hlf : l.stackTraces = false) : cB l yX5_order wsX5_order ({ frames := 6, cells := 1, slots := 6, locals := 82 }) D cyI cyO cyL [.ref aX, .int s_] ((cX aX aT aR0 aR1 ++ cT cyI aT ac as_ cd sw fd fn ++ cR cyI cyO aR0 aW0 aw0 af0 aG0 ao0 aB0 ab0 w0 f0 od0 g0 bc0 hr0 co0 ++ cR cyI cyO aR1 aW1 aw1 af1 aG1 ao1 aB1 ab1 w1 f1 od1 g1 bc1 hr1 co1) ++ pB LB B) ISTA := by
  intro sz
  refine vx_ofW (cc := cX5_order) (maxL := 2) (ret := (some .int)) (by decide) rfl ?_
  intro p e s m args below meth c s₁ B9 hml ht9 hv
  obtain ⟨rfl, hsz, hP, hKK, hXE, hD0⟩ := hv
  have hx := B9.exec
  have hb := B9.bytes
  have hrt := B9.returns
  have hts := atoms_spec (ws := wsX5_order) B9.pre
  have hown : s.vm.findClass RX5 = some m.cls := findClass_of_methodNamed B9.named
  have hlocks := B9.notSynchronized
  have nw := fun {w : Cond} (h : w ∈ nw_all) => NW.use (args := ([.ref aX, .int s_] : List Value).toArray) hKK.2 h
  have iX1 : ∀ w ∈ wsX10, w ∈ wsX5_order := fun _ h => List.mem_cons_of_mem _ (List.mem_append_left _ (List.mem_append_left _ (List.mem_append_right _ h)))
  have iX2 : ∀ w ∈ wsX20, w ∈ wsX5_order := fun _ h => List.mem_cons_of_mem _ (List.mem_append_left _ (List.mem_append_left _ (List.mem_append_left _ (List.mem_append_right _ h))))
  have iX5 : ∀ w ∈ wsX50, w ∈ wsX5_order := fun _ h => List.mem_cons_of_mem _ (List.mem_append_left _ (List.mem_append_left _ (List.mem_append_left _ (List.mem_append_left _ (List.mem_append_right _ h)))))
  subst hsz
  have hD := hD0.self (sz := s.heap.size)
  generalize hAe : va_A ((cX aX aT aR0 aR1 ++ cT cyI aT ac as_ cd sw fd fn ++ cR cyI cyO aR0 aW0 aw0 af0 aG0 ao0 aB0 ab0 w0 f0 od0 g0 bc0 hr0 co0 ++ cR cyI cyO aR1 aW1 aw1 af1 aG1 ao1 aB1 ab1 w1 f1 od1 g1 bc1 hr1 co1) ++ pB LB B) s.heap.size = A at hD hXE ⊢
  have hA : ∀ q : Nat, s.heap.size ≤ q → A q := fun q h => by rw [← hAe]; exact Or.inr h
  have hS : va_S A s.heap s.heap [] := va_S.rf
  have hl := lv_entry ([.ref aX, .int s_]) (n := 2) (Nat.le_of_ble_eq_true rfl)
  rw [lg_entry_eq]
  generalize (lg_sl ([.ref aX, .int s_]) ++ List.replicate (2 - (lg_sl ([.ref aX, .int s_])).length) Slot.unset).toArray = ls at hl ⊢
  have hl : lv_has ls 2 [(0, .ref aX), (1, .int s_)] := hl
  refine lv_iload_n hx hb dX5_order_0 rfl (lv_at hl 1 rfl) ?_
  have hPc := hP.sub (ws' := ([] : va_W)) [] rfl
  have hDc := hD.sub (ws' := ([] : va_W)) [] (by decide) rfl
  refine ret_vP (W1 := ([] : va_W)) (W2 := ([] : va_W)) (X1 := cX aX aT aR0 aR1 ++ cT cyI aT ac as_ cd sw fd fn ++ cR cyI cyO aR0 aW0 aw0 af0 aG0 ao0 aB0 ab0 w0 f0 od0 g0 bc0 hr0 co0 ++ cR cyI cyO aR1 aW1 aw1 af1 aG1 ao1 aB1 ab1 w1 f1 od1 g1 bc1 hr1 co1) (run_S (n := 1) (As := [.int s_]) (rest := []) ⟨hx, hb, hml, hown, hts⟩ (c_X5_checkSpan l D cyI cyO cyL s_ hs _) ggX5_order_X5_checkSpan rfl rfl rfl (hts (.methodLink RX5 62 yX5_checkSpan) (List.mem_of_getElem? (i := 4) rfl)) (hts (.initialized RX5) (List.mem_of_getElem? (i := 6) rfl)) (hts (.static yX5_checkSpan) (List.mem_of_getElem? (i := 5) rfl)) (by decide +kernel) ⟨Nat.le_of_ble_eq_true rfl, Nat.le_of_ble_eq_true rfl⟩ hKK hPc hDc rfl hl.1 rfl (Nat.le_of_ble_eq_true rfl) dX5_order_1 ⟨Nat.zero_le _, Nat.zero_le _⟩) hP hD hS hA [] rfl rfl [(false, 0), (false, 1), (false, 2), (false, 3), (false, 4), (false, 5), (false, 6), (false, 7), (false, 8), (false, 9), (false, 10), (false, 11), (false, 12), (false, 13), (false, 14), (false, 15), (false, 16), (false, 17)] (by decide +kernel) rfl rfl (fun H locs hP hD hS => ?_)
  refine lv_aload_n hx hb dX5_order_4 rfl (lv_at hl 0 rfl) ?_
  refine va_get (D := D) (ci := 5) (v := .ref aR0) (C := RX5) (T := TX5) (N := 3) hx hb hts iX5 hown hKK.1 hP 0 rfl rfl 1 (by decide) (hts (.fieldLink RX5 19 "TrolleyGang" "now" "LTrolleyGang$Ring;") (List.mem_of_getElem? (i := 3) rfl)) (fun _ h9 => h9) rfl dX5_order_5 ?_
  refine va_getN (D := D) (ci := 2) (v := .ref aG0) (C := RX2) (T := TX2) (N := 6) hx hb hts iX2 hown hKK.1 hP 4 rfl rfl 1 (by decide) (nw (w := .fieldLinkNest "TrolleyGang" 138 "TrolleyGang$Ring" "gang" "LTrolleyGang$Gang;" "TrolleyGang") nq_40) (fun _ h9 => h9) rfl dX5_order_8 ?_
  refine va_getN (D := D) (ci := 1) (v := .int (g0 0)) (C := RX1) (T := TX1) (N := 6) hx hb hts iX1 hown hKK.1 hP 8 rfl rfl 1 (by decide) (nw (w := .fieldLinkNest "TrolleyGang" 147 "TrolleyGang$Gang" "orderCount" "I" "TrolleyGang") nq_17) (fun _ h9 => h9) rfl dX5_order_11 ?_
  refine lv_bipush (v := 6) hx hb dX5_order_14 (by decide) ?_
  refine lv_icmp_lt (tgt := 29) hx hb dX5_order_16 (by decide) (fun h_1 => ?_) (fun h_1 => ?_)
  · skip
    exact absurd h_1 hfull
  · skip
    exact throw_S (X := ISTA) (text := "there are 6 orders") hx hb hlf hown (by decide +kernel) (hts (.classLink RX5 69 "java/lang/IllegalStateException") (List.mem_of_getElem? (i := 1) rfl)) (hts (.initialized "java/lang/IllegalStateException") (List.mem_of_getElem? (i := 2) rfl)) (by decide +kernel) hXE (fun w h => hts w (List.mem_cons_of_mem _ (List.mem_append_left _ (List.mem_append_right _ h)))) ng_3 hg_3 hP hS (by rw [hml]; exact hl.1) dX5_order_19 dX5_order_22 dX5_order_23 dX5_order_25 dX5_order_28 ht9 (by decide) (by decide) (by decide) (by decide) hlocks
set_option maxHeartbeats 4000000 in
set_option maxRecDepth 100000 in
theorem b_order_3 (l : Launch) (D : va_G) (cyI cyO cyL : ClassId) (aX : Nat) (aT : Nat) (aR0 : Nat) (aR1 : Nat) (ac : Nat) (as_ : Nat) (aW0 : Nat) (aw0 : Nat) (af0 : Nat) (aG0 : Nat) (ao0 : Nat) (aB0 : Nat) (aW1 : Nat) (aw1 : Nat) (af1 : Nat) (aG1 : Nat) (ao1 : Nat) (aB1 : Nat) (cd : Nat → Int32) (sw : Nat → Int32) (fd : Int32) (fn : Int32) (ab0 : Nat → Nat) (w0 : Nat → Int32) (f0 : Nat → Int32) (od0 : Nat → Int32) (g0 : Nat → Int32) (bc0 : Int32) (hr0 : Int32) (co0 : Int32) (ab1 : Nat → Nat) (w1 : Nat → Int32) (f1 : Nat → Int32) (od1 : Nat → Int32) (g1 : Nat → Int32) (bc1 : Int32) (hr1 : Int32) (co1 : Int32) (LB : List Nat) (B : Nat → Nat → Int32) (s_ : Int32) (o_ : Nat) (hs : vp_in s_ 24) (hm : o_ < 6) (hoc : g0 0 = nI o_) (hp : ¬ pofL od0 s_ o_ 0 = -1) (hlf : l.stackTraces = false) : cB l yX5_order wsX5_order ({ frames := 6, cells := 1, slots := 6, locals := 82 }) D cyI cyO cyL [.ref aX, .int s_] ((cX aX aT aR0 aR1 ++ cT cyI aT ac as_ cd sw fd fn ++ cR cyI cyO aR0 aW0 aw0 af0 aG0 ao0 aB0 ab0 w0 f0 od0 g0 bc0 hr0 co0 ++ cR cyI cyO aR1 aW1 aw1 af1 aG1 ao1 aB1 ab1 w1 f1 od1 g1 bc1 hr1 co1) ++ pB LB B) ISTA := by
  intro sz
  refine vx_ofW (cc := cX5_order) (maxL := 2) (ret := (some .int)) (by decide) rfl ?_
  intro p e s m args below meth c s₁ B9 hml ht9 hv
  obtain ⟨rfl, hsz, hP, hKK, hXE, hD0⟩ := hv
  have hx := B9.exec
  have hb := B9.bytes
  have hrt := B9.returns
  have hts := atoms_spec (ws := wsX5_order) B9.pre
  have hown : s.vm.findClass RX5 = some m.cls := findClass_of_methodNamed B9.named
  have hlocks := B9.notSynchronized
  have nw := fun {w : Cond} (h : w ∈ nw_all) => NW.use (args := ([.ref aX, .int s_] : List Value).toArray) hKK.2 h
  have iX1 : ∀ w ∈ wsX10, w ∈ wsX5_order := fun _ h => List.mem_cons_of_mem _ (List.mem_append_left _ (List.mem_append_left _ (List.mem_append_right _ h)))
  have iX2 : ∀ w ∈ wsX20, w ∈ wsX5_order := fun _ h => List.mem_cons_of_mem _ (List.mem_append_left _ (List.mem_append_left _ (List.mem_append_left _ (List.mem_append_right _ h))))
  have iX5 : ∀ w ∈ wsX50, w ∈ wsX5_order := fun _ h => List.mem_cons_of_mem _ (List.mem_append_left _ (List.mem_append_left _ (List.mem_append_left _ (List.mem_append_left _ (List.mem_append_right _ h)))))
  subst hsz
  have hD := hD0.self (sz := s.heap.size)
  generalize hAe : va_A ((cX aX aT aR0 aR1 ++ cT cyI aT ac as_ cd sw fd fn ++ cR cyI cyO aR0 aW0 aw0 af0 aG0 ao0 aB0 ab0 w0 f0 od0 g0 bc0 hr0 co0 ++ cR cyI cyO aR1 aW1 aw1 af1 aG1 ao1 aB1 ab1 w1 f1 od1 g1 bc1 hr1 co1) ++ pB LB B) s.heap.size = A at hD hXE ⊢
  have hA : ∀ q : Nat, s.heap.size ≤ q → A q := fun q h => by rw [← hAe]; exact Or.inr h
  have hS : va_S A s.heap s.heap [] := va_S.rf
  have hl := lv_entry ([.ref aX, .int s_]) (n := 2) (Nat.le_of_ble_eq_true rfl)
  rw [lg_entry_eq]
  generalize (lg_sl ([.ref aX, .int s_]) ++ List.replicate (2 - (lg_sl ([.ref aX, .int s_])).length) Slot.unset).toArray = ls at hl ⊢
  have hl : lv_has ls 2 [(0, .ref aX), (1, .int s_)] := hl
  refine lv_iload_n hx hb dX5_order_0 rfl (lv_at hl 1 rfl) ?_
  have hPc := hP.sub (ws' := ([] : va_W)) [] rfl
  have hDc := hD.sub (ws' := ([] : va_W)) [] (by decide) rfl
  refine ret_vP (W1 := ([] : va_W)) (W2 := ([] : va_W)) (X1 := cX aX aT aR0 aR1 ++ cT cyI aT ac as_ cd sw fd fn ++ cR cyI cyO aR0 aW0 aw0 af0 aG0 ao0 aB0 ab0 w0 f0 od0 g0 bc0 hr0 co0 ++ cR cyI cyO aR1 aW1 aw1 af1 aG1 ao1 aB1 ab1 w1 f1 od1 g1 bc1 hr1 co1) (run_S (n := 1) (As := [.int s_]) (rest := []) ⟨hx, hb, hml, hown, hts⟩ (c_X5_checkSpan l D cyI cyO cyL s_ hs _) ggX5_order_X5_checkSpan rfl rfl rfl (hts (.methodLink RX5 62 yX5_checkSpan) (List.mem_of_getElem? (i := 4) rfl)) (hts (.initialized RX5) (List.mem_of_getElem? (i := 6) rfl)) (hts (.static yX5_checkSpan) (List.mem_of_getElem? (i := 5) rfl)) (by decide +kernel) ⟨Nat.le_of_ble_eq_true rfl, Nat.le_of_ble_eq_true rfl⟩ hKK hPc hDc rfl hl.1 rfl (Nat.le_of_ble_eq_true rfl) dX5_order_1 ⟨Nat.zero_le _, Nat.zero_le _⟩) hP hD hS hA [] rfl rfl [(false, 0), (false, 1), (false, 2), (false, 3), (false, 4), (false, 5), (false, 6), (false, 7), (false, 8), (false, 9), (false, 10), (false, 11), (false, 12), (false, 13), (false, 14), (false, 15), (false, 16), (false, 17)] (by decide +kernel) rfl rfl (fun H locs hP hD hS => ?_)
  refine lv_aload_n hx hb dX5_order_4 rfl (lv_at hl 0 rfl) ?_
  refine va_get (D := D) (ci := 5) (v := .ref aR0) (C := RX5) (T := TX5) (N := 3) hx hb hts iX5 hown hKK.1 hP 0 rfl rfl 1 (by decide) (hts (.fieldLink RX5 19 "TrolleyGang" "now" "LTrolleyGang$Ring;") (List.mem_of_getElem? (i := 3) rfl)) (fun _ h9 => h9) rfl dX5_order_5 ?_
  refine va_getN (D := D) (ci := 2) (v := .ref aG0) (C := RX2) (T := TX2) (N := 6) hx hb hts iX2 hown hKK.1 hP 4 rfl rfl 1 (by decide) (nw (w := .fieldLinkNest "TrolleyGang" 138 "TrolleyGang$Ring" "gang" "LTrolleyGang$Gang;" "TrolleyGang") nq_40) (fun _ h9 => h9) rfl dX5_order_8 ?_
  refine va_getN (D := D) (ci := 1) (v := .int (g0 0)) (C := RX1) (T := TX1) (N := 6) hx hb hts iX1 hown hKK.1 hP 8 rfl rfl 1 (by decide) (nw (w := .fieldLinkNest "TrolleyGang" 147 "TrolleyGang$Gang" "orderCount" "I" "TrolleyGang") nq_17) (fun _ h9 => h9) rfl dX5_order_11 ?_
  refine lv_tope (y := nI o_) hoc ?_
  refine lv_bipush (v := 6) hx hb dX5_order_14 (by decide) ?_
  refine lv_icmp_lt (tgt := 29) hx hb dX5_order_16 (by decide) (fun h_1 => ?_) (fun h_1 => ?_)
  · skip
    refine lv_aload_n hx hb dX5_order_29 rfl (lv_at hl 0 rfl) ?_
    refine va_get (D := D) (ci := 5) (v := .ref aR0) (C := RX5) (T := TX5) (N := 3) hx hb hts iX5 hown hKK.1 hP 0 rfl rfl 1 (by decide) (hts (.fieldLink RX5 19 "TrolleyGang" "now" "LTrolleyGang$Ring;") (List.mem_of_getElem? (i := 3) rfl)) (fun _ h9 => h9) rfl dX5_order_30 ?_
    refine va_getN (D := D) (ci := 2) (v := .ref aG0) (C := RX2) (T := TX2) (N := 6) hx hb hts iX2 hown hKK.1 hP 4 rfl rfl 1 (by decide) (nw (w := .fieldLinkNest "TrolleyGang" 138 "TrolleyGang$Ring" "gang" "LTrolleyGang$Gang;" "TrolleyGang") nq_40) (fun _ h9 => h9) rfl dX5_order_33 ?_
    refine lv_iload_n hx hb dX5_order_36 rfl (lv_at hl 1 rfl) ?_
    have hPc := hP.sub (ws' := (cG cyI aG0 ao0 od0 g0)) [8, 9] rfl
    have hDc := hD.sub (ws' := (cG cyI aG0 ao0 od0 g0)) [8, 9] (by decide) rfl
    refine ret_iP (W1 := (cG cyI aG0 ao0 od0 g0)) (W2 := (cG cyI aG0 ao0 od0 g0)) (X1 := cX aX aT aR0 aR1 ++ cT cyI aT ac as_ cd sw fd fn ++ cR cyI cyO aR0 aW0 aw0 af0 aG0 ao0 aB0 ab0 w0 f0 od0 g0 bc0 hr0 co0 ++ cR cyI cyO aR1 aW1 aw1 af1 aG1 ao1 aB1 ab1 w1 f1 od1 g1 bc1 hr1 co1) (r := pofL od0 s_ o_ 0) (run_VN (q := (RX1, TX1, 6)) (n := 1) (As := [.int s_]) (rest := []) ⟨hx, hb, hml, hown, hts⟩ (c_X1_placeOf l D cyI cyO cyL aG0 ao0 od0 g0 s_ o_ (Nat.le_of_lt hm) hoc _) ggX5_order_X1_placeOf rfl rfl rfl nq_55 (hts (.initialized RX1) (List.mem_of_getElem? (i := 11) rfl)) (hts (.instanceMethod yX1_placeOf) (List.mem_of_getElem? (i := 10) rfl)) (hts (.selects RX1 yX1_placeOf yX1_placeOf) (List.mem_of_getElem? (i := 12) rfl)) (by decide +kernel) ⟨Nat.le_of_ble_eq_true rfl, Nat.le_of_ble_eq_true rfl⟩ hKK hPc hDc (ci := 1) (q0 := 0) rfl rfl rfl hl.1 rfl (Nat.le_of_ble_eq_true rfl) dX5_order_37 ⟨Nat.zero_le _, Nat.zero_le _⟩) hP hD hS hA [8, 9] rfl rfl [(false, 0), (false, 1), (false, 2), (false, 3), (false, 4), (false, 5), (false, 6), (false, 7), (true, 0), (true, 1), (false, 10), (false, 11), (false, 12), (false, 13), (false, 14), (false, 15), (false, 16), (false, 17)] (by decide +kernel) rfl rfl (fun H locs hP hD hS => ?_)
    refine lv_iconst (v := (-1)) hx hb dX5_order_40 (by decide) ?_
    refine lv_icmp_eq (tgt := 54) hx hb dX5_order_41 (by decide) (fun h_2 => ?_) (fun h_2 => ?_)
    · skip
      exact absurd h_2 hp
    · skip
      exact throw_S (X := ISTA) (text := "there is an order for this span") hx hb hlf hown (by decide +kernel) (hts (.classLink RX5 69 "java/lang/IllegalStateException") (List.mem_of_getElem? (i := 1) rfl)) (hts (.initialized "java/lang/IllegalStateException") (List.mem_of_getElem? (i := 2) rfl)) (by decide +kernel) hXE (fun w h => hts w (List.mem_cons_of_mem _ (List.mem_append_left _ (List.mem_append_right _ h)))) ng_3 hg_3 hP hS (by rw [hml]; exact hl.1) dX5_order_44 dX5_order_47 dX5_order_48 dX5_order_50 dX5_order_53 ht9 (by decide) (by decide) (by decide) (by decide) hlocks
  · skip
    exact absurd (nI_lt hm (by omega) : nI o_ < nI 6) h_1
set_option maxHeartbeats 4000000 in
set_option maxRecDepth 100000 in
theorem b_cancel_1 (l : Launch) (D : va_G) (cyI cyO cyL : ClassId) (aX : Nat) (aT : Nat) (aR0 : Nat) (aR1 : Nat) (ac : Nat) (as_ : Nat) (aW0 : Nat) (aw0 : Nat) (af0 : Nat) (aG0 : Nat) (ao0 : Nat) (aB0 : Nat) (aW1 : Nat) (aw1 : Nat) (af1 : Nat) (aG1 : Nat) (ao1 : Nat) (aB1 : Nat) (cd : Nat → Int32) (sw : Nat → Int32) (fd : Int32) (fn : Int32) (ab0 : Nat → Nat) (w0 : Nat → Int32) (f0 : Nat → Int32) (od0 : Nat → Int32) (g0 : Nat → Int32) (bc0 : Int32) (hr0 : Int32) (co0 : Int32) (ab1 : Nat → Nat) (w1 : Nat → Int32) (f1 : Nat → Int32) (od1 : Nat → Int32) (g1 : Nat → Int32) (bc1 : Int32) (hr1 : Int32) (co1 : Int32) (LB : List Nat) (B : Nat → Nat → Int32) (s_ : Int32) (hs : ¬ vp_in s_ 24) (hlf : l.stackTraces = false) : cB l yX5_cancel wsX5_cancel ({ frames := 7, cells := 1, slots := 6, locals := 102 }) D cyI cyO cyL [.ref aX, .int s_] ((cX aX aT aR0 aR1 ++ cT cyI aT ac as_ cd sw fd fn ++ cR cyI cyO aR0 aW0 aw0 af0 aG0 ao0 aB0 ab0 w0 f0 od0 g0 bc0 hr0 co0 ++ cR cyI cyO aR1 aW1 aw1 af1 aG1 ao1 aB1 ab1 w1 f1 od1 g1 bc1 hr1 co1) ++ pB LB B) IOOB := by
  intro sz
  refine vx_ofW (cc := cX5_cancel) (maxL := 3) (ret := (some .int)) (by decide) rfl ?_
  intro p e s m args below meth c s₁ B9 hml ht9 hv
  obtain ⟨rfl, hsz, hP, hKK, hXE, hD0⟩ := hv
  have hx := B9.exec
  have hb := B9.bytes
  have hrt := B9.returns
  have hts := atoms_spec (ws := wsX5_cancel) B9.pre
  have hown : s.vm.findClass RX5 = some m.cls := findClass_of_methodNamed B9.named
  have hlocks := B9.notSynchronized
  have nw := fun {w : Cond} (h : w ∈ nw_all) => NW.use (args := ([.ref aX, .int s_] : List Value).toArray) hKK.2 h
  subst hsz
  have hD := hD0.self (sz := s.heap.size)
  generalize hAe : va_A ((cX aX aT aR0 aR1 ++ cT cyI aT ac as_ cd sw fd fn ++ cR cyI cyO aR0 aW0 aw0 af0 aG0 ao0 aB0 ab0 w0 f0 od0 g0 bc0 hr0 co0 ++ cR cyI cyO aR1 aW1 aw1 af1 aG1 ao1 aB1 ab1 w1 f1 od1 g1 bc1 hr1 co1) ++ pB LB B) s.heap.size = A at hD hXE ⊢
  have hA : ∀ q : Nat, s.heap.size ≤ q → A q := fun q h => by rw [← hAe]; exact Or.inr h
  have hS : va_S A s.heap s.heap [] := va_S.rf
  have hl := lv_entry ([.ref aX, .int s_]) (n := 3) (Nat.le_of_ble_eq_true rfl)
  rw [lg_entry_eq]
  generalize (lg_sl ([.ref aX, .int s_]) ++ List.replicate (3 - (lg_sl ([.ref aX, .int s_])).length) Slot.unset).toArray = ls at hl ⊢
  have hl : lv_has ls 3 [(0, .ref aX), (1, .int s_)] := hl
  refine lv_iload_n hx hb dX5_cancel_0 rfl (lv_at hl 1 rfl) ?_
  have hPc := hP.sub (ws' := ([] : va_W)) [] rfl
  have hDc := hD.sub (ws' := ([] : va_W)) [] (by decide) rfl
  have hFc := va_free (wc := ([] : va_W)) hD hS hA [] rfl
  have hXc := (hXE.kept hS.2.1).narrow hFc
  refine thr (W1 := ([] : va_W)) (runX_S (n := 1) (As := [.int s_]) (rest := []) ⟨hx, hb, hml, hown, hts⟩ (b_X5_checkSpan l D cyI cyO cyL s_ hs hlf _) ggX5_cancel_X5_checkSpan rfl rfl rfl (hts (.methodLink RX5 62 yX5_checkSpan) (List.mem_of_getElem? (i := 4) rfl)) (hts (.initialized RX5) (List.mem_of_getElem? (i := 6) rfl)) (hts (.static yX5_checkSpan) (List.mem_of_getElem? (i := 5) rfl)) (by decide +kernel) ⟨Nat.le_of_ble_eq_true rfl, Nat.le_of_ble_eq_true rfl⟩ hKK hXc hPc hDc rfl hl.1 rfl (Nat.le_of_ble_eq_true rfl) dX5_cancel_1 ⟨Nat.le_of_ble_eq_true rfl, Nat.le_of_ble_eq_true rfl⟩) hP hD hS hFc [] rfl (fun ce9 q9 H locs hP hS hce hcv hcl _ _ => ?_)
  exact out_X ht9 hlocks hP hS hce hcv hcl (Nat.le_refl _) (Nat.le_refl _)
set_option maxHeartbeats 4000000 in
set_option maxRecDepth 100000 in
theorem b_cancel_2 (l : Launch) (D : va_G) (cyI cyO cyL : ClassId) (aX : Nat) (aT : Nat) (aR0 : Nat) (aR1 : Nat) (ac : Nat) (as_ : Nat) (aW0 : Nat) (aw0 : Nat) (af0 : Nat) (aG0 : Nat) (ao0 : Nat) (aB0 : Nat) (aW1 : Nat) (aw1 : Nat) (af1 : Nat) (aG1 : Nat) (ao1 : Nat) (aB1 : Nat) (cd : Nat → Int32) (sw : Nat → Int32) (fd : Int32) (fn : Int32) (ab0 : Nat → Nat) (w0 : Nat → Int32) (f0 : Nat → Int32) (od0 : Nat → Int32) (g0 : Nat → Int32) (bc0 : Int32) (hr0 : Int32) (co0 : Int32) (ab1 : Nat → Nat) (w1 : Nat → Int32) (f1 : Nat → Int32) (od1 : Nat → Int32) (g1 : Nat → Int32) (bc1 : Int32) (hr1 : Int32) (co1 : Int32) (LB : List Nat) (B : Nat → Nat → Int32) (s_ : Int32) (o_ : Nat) (hs : vp_in s_ 24) (hm : o_ ≤ 6) (hoc : g0 0 = nI o_) (hp : pofL od0 s_ o_ 0 = -1) (hlf : l.stackTraces = false) : cB l yX5_cancel wsX5_cancel ({ frames := 6, cells := 1, slots := 6, locals := 82 }) D cyI cyO cyL [.ref aX, .int s_] ((cX aX aT aR0 aR1 ++ cT cyI aT ac as_ cd sw fd fn ++ cR cyI cyO aR0 aW0 aw0 af0 aG0 ao0 aB0 ab0 w0 f0 od0 g0 bc0 hr0 co0 ++ cR cyI cyO aR1 aW1 aw1 af1 aG1 ao1 aB1 ab1 w1 f1 od1 g1 bc1 hr1 co1) ++ pB LB B) ISTA := by
  intro sz
  refine vx_ofW (cc := cX5_cancel) (maxL := 3) (ret := (some .int)) (by decide) rfl ?_
  intro p e s m args below meth c s₁ B9 hml ht9 hv
  obtain ⟨rfl, hsz, hP, hKK, hXE, hD0⟩ := hv
  have hx := B9.exec
  have hb := B9.bytes
  have hrt := B9.returns
  have hts := atoms_spec (ws := wsX5_cancel) B9.pre
  have hown : s.vm.findClass RX5 = some m.cls := findClass_of_methodNamed B9.named
  have hlocks := B9.notSynchronized
  have nw := fun {w : Cond} (h : w ∈ nw_all) => NW.use (args := ([.ref aX, .int s_] : List Value).toArray) hKK.2 h
  have iX2 : ∀ w ∈ wsX20, w ∈ wsX5_cancel := fun _ h => List.mem_cons_of_mem _ (List.mem_append_left _ (List.mem_append_left _ (List.mem_append_left _ (List.mem_append_right _ h))))
  have iX5 : ∀ w ∈ wsX50, w ∈ wsX5_cancel := fun _ h => List.mem_cons_of_mem _ (List.mem_append_left _ (List.mem_append_left _ (List.mem_append_left _ (List.mem_append_left _ (List.mem_append_right _ h)))))
  subst hsz
  have hD := hD0.self (sz := s.heap.size)
  generalize hAe : va_A ((cX aX aT aR0 aR1 ++ cT cyI aT ac as_ cd sw fd fn ++ cR cyI cyO aR0 aW0 aw0 af0 aG0 ao0 aB0 ab0 w0 f0 od0 g0 bc0 hr0 co0 ++ cR cyI cyO aR1 aW1 aw1 af1 aG1 ao1 aB1 ab1 w1 f1 od1 g1 bc1 hr1 co1) ++ pB LB B) s.heap.size = A at hD hXE ⊢
  have hA : ∀ q : Nat, s.heap.size ≤ q → A q := fun q h => by rw [← hAe]; exact Or.inr h
  have hS : va_S A s.heap s.heap [] := va_S.rf
  have hl := lv_entry ([.ref aX, .int s_]) (n := 3) (Nat.le_of_ble_eq_true rfl)
  rw [lg_entry_eq]
  generalize (lg_sl ([.ref aX, .int s_]) ++ List.replicate (3 - (lg_sl ([.ref aX, .int s_])).length) Slot.unset).toArray = ls at hl ⊢
  have hl : lv_has ls 3 [(0, .ref aX), (1, .int s_)] := hl
  refine lv_iload_n hx hb dX5_cancel_0 rfl (lv_at hl 1 rfl) ?_
  have hPc := hP.sub (ws' := ([] : va_W)) [] rfl
  have hDc := hD.sub (ws' := ([] : va_W)) [] (by decide) rfl
  refine ret_vP (W1 := ([] : va_W)) (W2 := ([] : va_W)) (X1 := cX aX aT aR0 aR1 ++ cT cyI aT ac as_ cd sw fd fn ++ cR cyI cyO aR0 aW0 aw0 af0 aG0 ao0 aB0 ab0 w0 f0 od0 g0 bc0 hr0 co0 ++ cR cyI cyO aR1 aW1 aw1 af1 aG1 ao1 aB1 ab1 w1 f1 od1 g1 bc1 hr1 co1) (run_S (n := 1) (As := [.int s_]) (rest := []) ⟨hx, hb, hml, hown, hts⟩ (c_X5_checkSpan l D cyI cyO cyL s_ hs _) ggX5_cancel_X5_checkSpan rfl rfl rfl (hts (.methodLink RX5 62 yX5_checkSpan) (List.mem_of_getElem? (i := 4) rfl)) (hts (.initialized RX5) (List.mem_of_getElem? (i := 6) rfl)) (hts (.static yX5_checkSpan) (List.mem_of_getElem? (i := 5) rfl)) (by decide +kernel) ⟨Nat.le_of_ble_eq_true rfl, Nat.le_of_ble_eq_true rfl⟩ hKK hPc hDc rfl hl.1 rfl (Nat.le_of_ble_eq_true rfl) dX5_cancel_1 ⟨Nat.zero_le _, Nat.zero_le _⟩) hP hD hS hA [] rfl rfl [(false, 0), (false, 1), (false, 2), (false, 3), (false, 4), (false, 5), (false, 6), (false, 7), (false, 8), (false, 9), (false, 10), (false, 11), (false, 12), (false, 13), (false, 14), (false, 15), (false, 16), (false, 17)] (by decide +kernel) rfl rfl (fun H locs hP hD hS => ?_)
  refine lv_aload_n hx hb dX5_cancel_4 rfl (lv_at hl 0 rfl) ?_
  refine va_get (D := D) (ci := 5) (v := .ref aR0) (C := RX5) (T := TX5) (N := 3) hx hb hts iX5 hown hKK.1 hP 0 rfl rfl 1 (by decide) (hts (.fieldLink RX5 19 "TrolleyGang" "now" "LTrolleyGang$Ring;") (List.mem_of_getElem? (i := 3) rfl)) (fun _ h9 => h9) rfl dX5_cancel_5 ?_
  refine va_getN (D := D) (ci := 2) (v := .ref aG0) (C := RX2) (T := TX2) (N := 6) hx hb hts iX2 hown hKK.1 hP 4 rfl rfl 1 (by decide) (nw (w := .fieldLinkNest "TrolleyGang" 138 "TrolleyGang$Ring" "gang" "LTrolleyGang$Gang;" "TrolleyGang") nq_40) (fun _ h9 => h9) rfl dX5_cancel_8 ?_
  refine lv_iload_n hx hb dX5_cancel_11 rfl (lv_at hl 1 rfl) ?_
  have hPc := hP.sub (ws' := (cG cyI aG0 ao0 od0 g0)) [8, 9] rfl
  have hDc := hD.sub (ws' := (cG cyI aG0 ao0 od0 g0)) [8, 9] (by decide) rfl
  refine ret_iP (W1 := (cG cyI aG0 ao0 od0 g0)) (W2 := (cG cyI aG0 ao0 od0 g0)) (X1 := cX aX aT aR0 aR1 ++ cT cyI aT ac as_ cd sw fd fn ++ cR cyI cyO aR0 aW0 aw0 af0 aG0 ao0 aB0 ab0 w0 f0 od0 g0 bc0 hr0 co0 ++ cR cyI cyO aR1 aW1 aw1 af1 aG1 ao1 aB1 ab1 w1 f1 od1 g1 bc1 hr1 co1) (r := pofL od0 s_ o_ 0) (run_VN (q := (RX1, TX1, 6)) (n := 1) (As := [.int s_]) (rest := []) ⟨hx, hb, hml, hown, hts⟩ (c_X1_placeOf l D cyI cyO cyL aG0 ao0 od0 g0 s_ o_ hm hoc _) ggX5_cancel_X1_placeOf rfl rfl rfl nq_55 (hts (.initialized RX1) (List.mem_of_getElem? (i := 11) rfl)) (hts (.instanceMethod yX1_placeOf) (List.mem_of_getElem? (i := 10) rfl)) (hts (.selects RX1 yX1_placeOf yX1_placeOf) (List.mem_of_getElem? (i := 12) rfl)) (by decide +kernel) ⟨Nat.le_of_ble_eq_true rfl, Nat.le_of_ble_eq_true rfl⟩ hKK hPc hDc (ci := 1) (q0 := 0) rfl rfl rfl hl.1 rfl (Nat.le_of_ble_eq_true rfl) dX5_cancel_12 ⟨Nat.zero_le _, Nat.zero_le _⟩) hP hD hS hA [8, 9] rfl rfl [(false, 0), (false, 1), (false, 2), (false, 3), (false, 4), (false, 5), (false, 6), (false, 7), (true, 0), (true, 1), (false, 10), (false, 11), (false, 12), (false, 13), (false, 14), (false, 15), (false, 16), (false, 17)] (by decide +kernel) rfl rfl (fun H locs hP hD hS => ?_)
  refine lv_istore_n (lv' := [(2, .int (pofL od0 s_ o_ 0)), (0, .ref aX), (1, .int s_)]) hx hb dX5_cancel_15 rfl hl (by decide) rfl (fun ls hl => ?_)
  refine lv_iload_n hx hb dX5_cancel_16 rfl (lv_at hl 0 rfl) ?_
  refine lv_iconst (v := (-1)) hx hb dX5_cancel_17 (by decide) ?_
  refine lv_icmp_ne (tgt := 31) hx hb dX5_cancel_18 (by decide) (fun h_1 => ?_) (fun h_1 => ?_)
  · skip
    exact absurd hp h_1
  · skip
    exact throw_S (X := ISTA) (text := "there is no order for this span") hx hb hlf hown (by decide +kernel) (hts (.classLink RX5 69 "java/lang/IllegalStateException") (List.mem_of_getElem? (i := 1) rfl)) (hts (.initialized "java/lang/IllegalStateException") (List.mem_of_getElem? (i := 2) rfl)) (by decide +kernel) hXE (fun w h => hts w (List.mem_cons_of_mem _ (List.mem_append_left _ (List.mem_append_right _ h)))) ng_3 hg_3 hP hS (by rw [hml]; exact hl.1) dX5_cancel_21 dX5_cancel_24 dX5_cancel_25 dX5_cancel_27 dX5_cancel_30 ht9 (by decide) (by decide) (by decide) (by decide) hlocks
set_option maxHeartbeats 4000000 in
set_option maxRecDepth 100000 in
theorem b_gang (l : Launch) (D : va_G) (cyI cyO cyL : ClassId) (aX : Nat) (aT : Nat) (aR0 : Nat) (aR1 : Nat) (ac : Nat) (as_ : Nat) (aW0 : Nat) (aw0 : Nat) (af0 : Nat) (aG0 : Nat) (ao0 : Nat) (aB0 : Nat) (aW1 : Nat) (aw1 : Nat) (af1 : Nat) (aG1 : Nat) (ao1 : Nat) (aB1 : Nat) (cd : Nat → Int32) (sw : Nat → Int32) (fd : Int32) (fn : Int32) (ab0 : Nat → Nat) (w0 : Nat → Int32) (f0 : Nat → Int32) (od0 : Nat → Int32) (g0 : Nat → Int32) (bc0 : Int32) (hr0 : Int32) (co0 : Int32) (ab1 : Nat → Nat) (w1 : Nat → Int32) (f1 : Nat → Int32) (od1 : Nat → Int32) (g1 : Nat → Int32) (bc1 : Int32) (hr1 : Int32) (co1 : Int32) (LB : List Nat) (B : Nat → Nat → Int32) (x_ : Int32) (hx9 : ¬ x_ < 0 → ¬ x_ < 7) (hlf : l.stackTraces = false) : cB l yX5_gang wsX5_gang ({ frames := 7, cells := 1, slots := 6, locals := 103 }) D cyI cyO cyL [.ref aX, .int x_] ((cX aX aT aR0 aR1 ++ cT cyI aT ac as_ cd sw fd fn ++ cR cyI cyO aR0 aW0 aw0 af0 aG0 ao0 aB0 ab0 w0 f0 od0 g0 bc0 hr0 co0 ++ cR cyI cyO aR1 aW1 aw1 af1 aG1 ao1 aB1 ab1 w1 f1 od1 g1 bc1 hr1 co1) ++ pB LB B) IOOB := by
  intro sz
  refine vx_ofW (cc := cX5_gang) (maxL := 3) (ret := (some .int)) (by decide) rfl ?_
  intro p e s m args below meth c s₁ B9 hml ht9 hv
  obtain ⟨rfl, hsz, hP, hKK, hXE, hD0⟩ := hv
  have hx := B9.exec
  have hb := B9.bytes
  have hrt := B9.returns
  have hts := atoms_spec (ws := wsX5_gang) B9.pre
  have hown : s.vm.findClass RX5 = some m.cls := findClass_of_methodNamed B9.named
  have hlocks := B9.notSynchronized
  have nw := fun {w : Cond} (h : w ∈ nw_all) => NW.use (args := ([.ref aX, .int x_] : List Value).toArray) hKK.2 h
  subst hsz
  have hD := hD0.self (sz := s.heap.size)
  generalize hAe : va_A ((cX aX aT aR0 aR1 ++ cT cyI aT ac as_ cd sw fd fn ++ cR cyI cyO aR0 aW0 aw0 af0 aG0 ao0 aB0 ab0 w0 f0 od0 g0 bc0 hr0 co0 ++ cR cyI cyO aR1 aW1 aw1 af1 aG1 ao1 aB1 ab1 w1 f1 od1 g1 bc1 hr1 co1) ++ pB LB B) s.heap.size = A at hD hXE ⊢
  have hA : ∀ q : Nat, s.heap.size ≤ q → A q := fun q h => by rw [← hAe]; exact Or.inr h
  have hS : va_S A s.heap s.heap [] := va_S.rf
  have hl := lv_entry ([.ref aX, .int x_]) (n := 3) (Nat.le_of_ble_eq_true rfl)
  rw [lg_entry_eq]
  generalize (lg_sl ([.ref aX, .int x_]) ++ List.replicate (3 - (lg_sl ([.ref aX, .int x_])).length) Slot.unset).toArray = ls at hl ⊢
  have hl : lv_has ls 3 [(0, .ref aX), (1, .int x_)] := hl
  refine lv_iload_n hx hb dX5_gang_0 rfl (lv_at hl 1 rfl) ?_
  refine lv_bipush (v := 7) hx hb dX5_gang_1 (by decide) ?_
  have hPc := hP.sub (ws' := ([] : va_W)) [] rfl
  have hDc := hD.sub (ws' := ([] : va_W)) [] (by decide) rfl
  have hFc := va_free (wc := ([] : va_W)) hD hS hA [] rfl
  have hXc := (hXE.kept hS.2.1).narrow hFc
  refine thr (W1 := ([] : va_W)) (runX_S (n := 2) (As := [.int x_, .int 7]) (rest := []) ⟨hx, hb, hml, hown, hts⟩ (b_X5_checkWhat l D cyI cyO cyL x_ 7 hx9 hlf _) ggX5_gang_X5_checkWhat rfl rfl rfl (hts (.methodLink RX5 99 yX5_checkWhat) (List.mem_of_getElem? (i := 2) rfl)) (hts (.initialized RX5) (List.mem_of_getElem? (i := 4) rfl)) (hts (.static yX5_checkWhat) (List.mem_of_getElem? (i := 3) rfl)) (by decide +kernel) ⟨Nat.le_of_ble_eq_true rfl, Nat.le_of_ble_eq_true rfl⟩ hKK hXc hPc hDc rfl hl.1 rfl (Nat.le_of_ble_eq_true rfl) dX5_gang_3 ⟨Nat.le_of_ble_eq_true rfl, Nat.le_of_ble_eq_true rfl⟩) hP hD hS hFc [] rfl (fun ce9 q9 H locs hP hS hce hcv hcl _ _ => ?_)
  exact out_X ht9 hlocks hP hS hce hcv hcl (Nat.le_refl _) (Nat.le_refl _)
set_option maxHeartbeats 4000000 in
set_option maxRecDepth 100000 in
theorem b_count (l : Launch) (D : va_G) (cyI cyO cyL : ClassId) (aX : Nat) (aT : Nat) (aR0 : Nat) (aR1 : Nat) (ac : Nat) (as_ : Nat) (aW0 : Nat) (aw0 : Nat) (af0 : Nat) (aG0 : Nat) (ao0 : Nat) (aB0 : Nat) (aW1 : Nat) (aw1 : Nat) (af1 : Nat) (aG1 : Nat) (ao1 : Nat) (aB1 : Nat) (cd : Nat → Int32) (sw : Nat → Int32) (fd : Int32) (fn : Int32) (ab0 : Nat → Nat) (w0 : Nat → Int32) (f0 : Nat → Int32) (od0 : Nat → Int32) (g0 : Nat → Int32) (bc0 : Int32) (hr0 : Int32) (co0 : Int32) (ab1 : Nat → Nat) (w1 : Nat → Int32) (f1 : Nat → Int32) (od1 : Nat → Int32) (g1 : Nat → Int32) (bc1 : Int32) (hr1 : Int32) (co1 : Int32) (LB : List Nat) (B : Nat → Nat → Int32) (x_ : Int32) (hx9 : ¬ x_ < 0 → ¬ x_ < 9) (hlf : l.stackTraces = false) : cB l yX5_count wsX5_count ({ frames := 7, cells := 1, slots := 6, locals := 103 }) D cyI cyO cyL [.ref aX, .int x_] ((cX aX aT aR0 aR1 ++ cT cyI aT ac as_ cd sw fd fn ++ cR cyI cyO aR0 aW0 aw0 af0 aG0 ao0 aB0 ab0 w0 f0 od0 g0 bc0 hr0 co0 ++ cR cyI cyO aR1 aW1 aw1 af1 aG1 ao1 aB1 ab1 w1 f1 od1 g1 bc1 hr1 co1) ++ pB LB B) IOOB := by
  intro sz
  refine vx_ofW (cc := cX5_count) (maxL := 2) (ret := (some .int)) (by decide) rfl ?_
  intro p e s m args below meth c s₁ B9 hml ht9 hv
  obtain ⟨rfl, hsz, hP, hKK, hXE, hD0⟩ := hv
  have hx := B9.exec
  have hb := B9.bytes
  have hrt := B9.returns
  have hts := atoms_spec (ws := wsX5_count) B9.pre
  have hown : s.vm.findClass RX5 = some m.cls := findClass_of_methodNamed B9.named
  have hlocks := B9.notSynchronized
  have nw := fun {w : Cond} (h : w ∈ nw_all) => NW.use (args := ([.ref aX, .int x_] : List Value).toArray) hKK.2 h
  subst hsz
  have hD := hD0.self (sz := s.heap.size)
  generalize hAe : va_A ((cX aX aT aR0 aR1 ++ cT cyI aT ac as_ cd sw fd fn ++ cR cyI cyO aR0 aW0 aw0 af0 aG0 ao0 aB0 ab0 w0 f0 od0 g0 bc0 hr0 co0 ++ cR cyI cyO aR1 aW1 aw1 af1 aG1 ao1 aB1 ab1 w1 f1 od1 g1 bc1 hr1 co1) ++ pB LB B) s.heap.size = A at hD hXE ⊢
  have hA : ∀ q : Nat, s.heap.size ≤ q → A q := fun q h => by rw [← hAe]; exact Or.inr h
  have hS : va_S A s.heap s.heap [] := va_S.rf
  have hl := lv_entry ([.ref aX, .int x_]) (n := 2) (Nat.le_of_ble_eq_true rfl)
  rw [lg_entry_eq]
  generalize (lg_sl ([.ref aX, .int x_]) ++ List.replicate (2 - (lg_sl ([.ref aX, .int x_])).length) Slot.unset).toArray = ls at hl ⊢
  have hl : lv_has ls 2 [(0, .ref aX), (1, .int x_)] := hl
  refine lv_iload_n hx hb dX5_count_0 rfl (lv_at hl 1 rfl) ?_
  refine lv_bipush (v := 9) hx hb dX5_count_1 (by decide) ?_
  have hPc := hP.sub (ws' := ([] : va_W)) [] rfl
  have hDc := hD.sub (ws' := ([] : va_W)) [] (by decide) rfl
  have hFc := va_free (wc := ([] : va_W)) hD hS hA [] rfl
  have hXc := (hXE.kept hS.2.1).narrow hFc
  refine thr (W1 := ([] : va_W)) (runX_S (n := 2) (As := [.int x_, .int 9]) (rest := []) ⟨hx, hb, hml, hown, hts⟩ (b_X5_checkWhat l D cyI cyO cyL x_ 9 hx9 hlf _) ggX5_count_X5_checkWhat rfl rfl rfl (hts (.methodLink RX5 99 yX5_checkWhat) (List.mem_of_getElem? (i := 2) rfl)) (hts (.initialized RX5) (List.mem_of_getElem? (i := 4) rfl)) (hts (.static yX5_checkWhat) (List.mem_of_getElem? (i := 3) rfl)) (by decide +kernel) ⟨Nat.le_of_ble_eq_true rfl, Nat.le_of_ble_eq_true rfl⟩ hKK hXc hPc hDc rfl hl.1 rfl (Nat.le_of_ble_eq_true rfl) dX5_count_3 ⟨Nat.le_of_ble_eq_true rfl, Nat.le_of_ble_eq_true rfl⟩) hP hD hS hFc [] rfl (fun ce9 q9 H locs hP hS hce hcv hcl _ _ => ?_)
  exact out_X ht9 hlocks hP hS hce hcv hcl (Nat.le_refl _) (Nat.le_refl _)
set_option maxHeartbeats 4000000 in
set_option maxRecDepth 100000 in
theorem b_pass (l : Launch) (D : va_G) (cyI cyO cyL : ClassId) (aX : Nat) (aT : Nat) (aR0 : Nat) (aR1 : Nat) (ac : Nat) (as_ : Nat) (aW0 : Nat) (aw0 : Nat) (af0 : Nat) (aG0 : Nat) (ao0 : Nat) (aB0 : Nat) (aW1 : Nat) (aw1 : Nat) (af1 : Nat) (aG1 : Nat) (ao1 : Nat) (aB1 : Nat) (cd : Nat → Int32) (sw : Nat → Int32) (fd : Int32) (fn : Int32) (ab0 : Nat → Nat) (w0 : Nat → Int32) (f0 : Nat → Int32) (od0 : Nat → Int32) (g0 : Nat → Int32) (bc0 : Int32) (hr0 : Int32) (co0 : Int32) (ab1 : Nat → Nat) (w1 : Nat → Int32) (f1 : Nat → Int32) (od1 : Nat → Int32) (g1 : Nat → Int32) (bc1 : Int32) (hr1 : Int32) (co1 : Int32) (LB : List Nat) (B : Nat → Nat → Int32) (h_ : Int32) (hh9 : ¬ h_ < 1 → ¬ h_ ≤ 72) (hlf : l.stackTraces = false) : cB l yX5_pass wsX5_pass ({ frames := 7, cells := 1, slots := 6, locals := 103 }) D cyI cyO cyL [.ref aX, .int h_] ((cX aX aT aR0 aR1 ++ cT cyI aT ac as_ cd sw fd fn ++ cR cyI cyO aR0 aW0 aw0 af0 aG0 ao0 aB0 ab0 w0 f0 od0 g0 bc0 hr0 co0 ++ cR cyI cyO aR1 aW1 aw1 af1 aG1 ao1 aB1 ab1 w1 f1 od1 g1 bc1 hr1 co1) ++ pB LB B) IARG := by
  intro sz
  refine vx_ofW (cc := cX5_pass) (maxL := 3) (ret := (some .int)) (by decide) rfl ?_
  intro p e s m args below meth c s₁ B9 hml ht9 hv
  obtain ⟨rfl, hsz, hP, hKK, hXE, hD0⟩ := hv
  have hx := B9.exec
  have hb := B9.bytes
  have hrt := B9.returns
  have hts := atoms_spec (ws := wsX5_pass) B9.pre
  have hown : s.vm.findClass RX5 = some m.cls := findClass_of_methodNamed B9.named
  have hlocks := B9.notSynchronized
  have nw := fun {w : Cond} (h : w ∈ nw_all) => NW.use (args := ([.ref aX, .int h_] : List Value).toArray) hKK.2 h
  subst hsz
  have hD := hD0.self (sz := s.heap.size)
  generalize hAe : va_A ((cX aX aT aR0 aR1 ++ cT cyI aT ac as_ cd sw fd fn ++ cR cyI cyO aR0 aW0 aw0 af0 aG0 ao0 aB0 ab0 w0 f0 od0 g0 bc0 hr0 co0 ++ cR cyI cyO aR1 aW1 aw1 af1 aG1 ao1 aB1 ab1 w1 f1 od1 g1 bc1 hr1 co1) ++ pB LB B) s.heap.size = A at hD hXE ⊢
  have hA : ∀ q : Nat, s.heap.size ≤ q → A q := fun q h => by rw [← hAe]; exact Or.inr h
  have hS : va_S A s.heap s.heap [] := va_S.rf
  have hl := lv_entry ([.ref aX, .int h_]) (n := 3) (Nat.le_of_ble_eq_true rfl)
  rw [lg_entry_eq]
  generalize (lg_sl ([.ref aX, .int h_]) ++ List.replicate (3 - (lg_sl ([.ref aX, .int h_])).length) Slot.unset).toArray = ls at hl ⊢
  have hl : lv_has ls 3 [(0, .ref aX), (1, .int h_)] := hl
  refine lv_iload_n hx hb dX5_pass_0 rfl (lv_at hl 1 rfl) ?_
  refine lv_bipush (v := 72) hx hb dX5_pass_1 (by decide) ?_
  have hPc := hP.sub (ws' := ([] : va_W)) [] rfl
  have hDc := hD.sub (ws' := ([] : va_W)) [] (by decide) rfl
  have hFc := va_free (wc := ([] : va_W)) hD hS hA [] rfl
  have hXc := (hXE.kept hS.2.1).narrow hFc
  refine thr (W1 := ([] : va_W)) (runX_S (n := 2) (As := [.int h_, .int 72]) (rest := []) ⟨hx, hb, hml, hown, hts⟩ (b_X5_checkHours l D cyI cyO cyL h_ 72 hh9 hlf _) ggX5_pass_X5_checkHours rfl rfl rfl (hts (.methodLink RX5 179 yX5_checkHours) (List.mem_of_getElem? (i := 3) rfl)) (hts (.initialized RX5) (List.mem_of_getElem? (i := 5) rfl)) (hts (.static yX5_checkHours) (List.mem_of_getElem? (i := 4) rfl)) (by decide +kernel) ⟨Nat.le_of_ble_eq_true rfl, Nat.le_of_ble_eq_true rfl⟩ hKK hXc hPc hDc rfl hl.1 rfl (Nat.le_of_ble_eq_true rfl) dX5_pass_3 ⟨Nat.le_of_ble_eq_true rfl, Nat.le_of_ble_eq_true rfl⟩) hP hD hS hFc [] rfl (fun ce9 q9 H locs hP hS hce hcv hcl _ _ => ?_)
  exact out_X ht9 hlocks hP hS hce hcv hcl (Nat.le_refl _) (Nat.le_refl _)
set_option maxHeartbeats 4000000 in
set_option maxRecDepth 100000 in
theorem b_falls (l : Launch) (D : va_G) (cyI cyO cyL : ClassId) (aX : Nat) (aT : Nat) (aR0 : Nat) (aR1 : Nat) (ac : Nat) (as_ : Nat) (aW0 : Nat) (aw0 : Nat) (af0 : Nat) (aG0 : Nat) (ao0 : Nat) (aB0 : Nat) (aW1 : Nat) (aw1 : Nat) (af1 : Nat) (aG1 : Nat) (ao1 : Nat) (aB1 : Nat) (cd : Nat → Int32) (sw : Nat → Int32) (fd : Int32) (fn : Int32) (ab0 : Nat → Nat) (w0 : Nat → Int32) (f0 : Nat → Int32) (od0 : Nat → Int32) (g0 : Nat → Int32) (bc0 : Int32) (hr0 : Int32) (co0 : Int32) (ab1 : Nat → Nat) (w1 : Nat → Int32) (f1 : Nat → Int32) (od1 : Nat → Int32) (g1 : Nat → Int32) (bc1 : Int32) (hr1 : Int32) (co1 : Int32) (LB : List Nat) (B : Nat → Nat → Int32) (s_ : Int32) (hs : ¬ vp_in s_ 24) (hlf : l.stackTraces = false) : cB l yX5_falls wsX5_falls ({ frames := 7, cells := 1, slots := 6, locals := 102 }) D cyI cyO cyL [.ref aX, .int s_] ((cX aX aT aR0 aR1 ++ cT cyI aT ac as_ cd sw fd fn ++ cR cyI cyO aR0 aW0 aw0 af0 aG0 ao0 aB0 ab0 w0 f0 od0 g0 bc0 hr0 co0 ++ cR cyI cyO aR1 aW1 aw1 af1 aG1 ao1 aB1 ab1 w1 f1 od1 g1 bc1 hr1 co1) ++ pB LB B) IOOB := by
  intro sz
  refine vx_ofW (cc := cX5_falls) (maxL := 3) (ret := (some .int)) (by decide) rfl ?_
  intro p e s m args below meth c s₁ B9 hml ht9 hv
  obtain ⟨rfl, hsz, hP, hKK, hXE, hD0⟩ := hv
  have hx := B9.exec
  have hb := B9.bytes
  have hrt := B9.returns
  have hts := atoms_spec (ws := wsX5_falls) B9.pre
  have hown : s.vm.findClass RX5 = some m.cls := findClass_of_methodNamed B9.named
  have hlocks := B9.notSynchronized
  have nw := fun {w : Cond} (h : w ∈ nw_all) => NW.use (args := ([.ref aX, .int s_] : List Value).toArray) hKK.2 h
  subst hsz
  have hD := hD0.self (sz := s.heap.size)
  generalize hAe : va_A ((cX aX aT aR0 aR1 ++ cT cyI aT ac as_ cd sw fd fn ++ cR cyI cyO aR0 aW0 aw0 af0 aG0 ao0 aB0 ab0 w0 f0 od0 g0 bc0 hr0 co0 ++ cR cyI cyO aR1 aW1 aw1 af1 aG1 ao1 aB1 ab1 w1 f1 od1 g1 bc1 hr1 co1) ++ pB LB B) s.heap.size = A at hD hXE ⊢
  have hA : ∀ q : Nat, s.heap.size ≤ q → A q := fun q h => by rw [← hAe]; exact Or.inr h
  have hS : va_S A s.heap s.heap [] := va_S.rf
  have hl := lv_entry ([.ref aX, .int s_]) (n := 3) (Nat.le_of_ble_eq_true rfl)
  rw [lg_entry_eq]
  generalize (lg_sl ([.ref aX, .int s_]) ++ List.replicate (3 - (lg_sl ([.ref aX, .int s_])).length) Slot.unset).toArray = ls at hl ⊢
  have hl : lv_has ls 3 [(0, .ref aX), (1, .int s_)] := hl
  refine lv_iload_n hx hb dX5_falls_0 rfl (lv_at hl 1 rfl) ?_
  have hPc := hP.sub (ws' := ([] : va_W)) [] rfl
  have hDc := hD.sub (ws' := ([] : va_W)) [] (by decide) rfl
  have hFc := va_free (wc := ([] : va_W)) hD hS hA [] rfl
  have hXc := (hXE.kept hS.2.1).narrow hFc
  refine thr (W1 := ([] : va_W)) (runX_S (n := 1) (As := [.int s_]) (rest := []) ⟨hx, hb, hml, hown, hts⟩ (b_X5_checkSpan l D cyI cyO cyL s_ hs hlf _) ggX5_falls_X5_checkSpan rfl rfl rfl (hts (.methodLink RX5 62 yX5_checkSpan) (List.mem_of_getElem? (i := 4) rfl)) (hts (.initialized RX5) (List.mem_of_getElem? (i := 6) rfl)) (hts (.static yX5_checkSpan) (List.mem_of_getElem? (i := 5) rfl)) (by decide +kernel) ⟨Nat.le_of_ble_eq_true rfl, Nat.le_of_ble_eq_true rfl⟩ hKK hXc hPc hDc rfl hl.1 rfl (Nat.le_of_ble_eq_true rfl) dX5_falls_1 ⟨Nat.le_of_ble_eq_true rfl, Nat.le_of_ble_eq_true rfl⟩) hP hD hS hFc [] rfl (fun ce9 q9 H locs hP hS hce hcv hcl _ _ => ?_)
  exact out_X ht9 hlocks hP hS hce hcv hcl (Nat.le_refl _) (Nat.le_refl _)
set_option maxHeartbeats 4000000 in
set_option maxRecDepth 100000 in
theorem b_foresee_1 (l : Launch) (D : va_G) (cyI cyO cyL : ClassId) (aX : Nat) (aT : Nat) (aR0 : Nat) (aR1 : Nat) (ac : Nat) (as_ : Nat) (aW0 : Nat) (aw0 : Nat) (af0 : Nat) (aG0 : Nat) (ao0 : Nat) (aB0 : Nat) (aW1 : Nat) (aw1 : Nat) (af1 : Nat) (aG1 : Nat) (ao1 : Nat) (aB1 : Nat) (cd : Nat → Int32) (sw : Nat → Int32) (fd : Int32) (fn : Int32) (ab0 : Nat → Nat) (w0 : Nat → Int32) (f0 : Nat → Int32) (od0 : Nat → Int32) (g0 : Nat → Int32) (bc0 : Int32) (hr0 : Int32) (co0 : Int32) (ab1 : Nat → Nat) (w1 : Nat → Int32) (f1 : Nat → Int32) (od1 : Nat → Int32) (g1 : Nat → Int32) (bc1 : Int32) (hr1 : Int32) (co1 : Int32) (LB : List Nat) (B : Nat → Nat → Int32) (h_ : Int32) (x_ : Int32) (hh9 : ¬ h_ < 1 → ¬ h_ ≤ 72) (hlf : l.stackTraces = false) : cB l yX5_foresee wsX5_foresee ({ frames := 7, cells := 1, slots := 6, locals := 103 }) D cyI cyO cyL [.ref aX, .int h_, .int x_] ((cX aX aT aR0 aR1 ++ cT cyI aT ac as_ cd sw fd fn ++ cR cyI cyO aR0 aW0 aw0 af0 aG0 ao0 aB0 ab0 w0 f0 od0 g0 bc0 hr0 co0 ++ cR cyI cyO aR1 aW1 aw1 af1 aG1 ao1 aB1 ab1 w1 f1 od1 g1 bc1 hr1 co1) ++ pB LB B) IARG := by
  intro sz
  refine vx_ofW (cc := cX5_foresee) (maxL := 3) (ret := (some .int)) (by decide) rfl ?_
  intro p e s m args below meth c s₁ B9 hml ht9 hv
  obtain ⟨rfl, hsz, hP, hKK, hXE, hD0⟩ := hv
  have hx := B9.exec
  have hb := B9.bytes
  have hrt := B9.returns
  have hts := atoms_spec (ws := wsX5_foresee) B9.pre
  have hown : s.vm.findClass RX5 = some m.cls := findClass_of_methodNamed B9.named
  have hlocks := B9.notSynchronized
  have nw := fun {w : Cond} (h : w ∈ nw_all) => NW.use (args := ([.ref aX, .int h_, .int x_] : List Value).toArray) hKK.2 h
  subst hsz
  have hD := hD0.self (sz := s.heap.size)
  generalize hAe : va_A ((cX aX aT aR0 aR1 ++ cT cyI aT ac as_ cd sw fd fn ++ cR cyI cyO aR0 aW0 aw0 af0 aG0 ao0 aB0 ab0 w0 f0 od0 g0 bc0 hr0 co0 ++ cR cyI cyO aR1 aW1 aw1 af1 aG1 ao1 aB1 ab1 w1 f1 od1 g1 bc1 hr1 co1) ++ pB LB B) s.heap.size = A at hD hXE ⊢
  have hA : ∀ q : Nat, s.heap.size ≤ q → A q := fun q h => by rw [← hAe]; exact Or.inr h
  have hS : va_S A s.heap s.heap [] := va_S.rf
  have hl := lv_entry ([.ref aX, .int h_, .int x_]) (n := 3) (Nat.le_of_ble_eq_true rfl)
  rw [lg_entry_eq]
  generalize (lg_sl ([.ref aX, .int h_, .int x_]) ++ List.replicate (3 - (lg_sl ([.ref aX, .int h_, .int x_])).length) Slot.unset).toArray = ls at hl ⊢
  have hl : lv_has ls 3 [(0, .ref aX), (1, .int h_), (2, .int x_)] := hl
  refine lv_iload_n hx hb dX5_foresee_0 rfl (lv_at hl 1 rfl) ?_
  refine lv_bipush (v := 72) hx hb dX5_foresee_1 (by decide) ?_
  have hPc := hP.sub (ws' := ([] : va_W)) [] rfl
  have hDc := hD.sub (ws' := ([] : va_W)) [] (by decide) rfl
  have hFc := va_free (wc := ([] : va_W)) hD hS hA [] rfl
  have hXc := (hXE.kept hS.2.1).narrow hFc
  refine thr (W1 := ([] : va_W)) (runX_S (n := 2) (As := [.int h_, .int 72]) (rest := []) ⟨hx, hb, hml, hown, hts⟩ (b_X5_checkHours l D cyI cyO cyL h_ 72 hh9 hlf _) ggX5_foresee_X5_checkHours rfl rfl rfl (hts (.methodLink RX5 179 yX5_checkHours) (List.mem_of_getElem? (i := 6) rfl)) (hts (.initialized RX5) (List.mem_of_getElem? (i := 8) rfl)) (hts (.static yX5_checkHours) (List.mem_of_getElem? (i := 7) rfl)) (by decide +kernel) ⟨Nat.le_of_ble_eq_true rfl, Nat.le_of_ble_eq_true rfl⟩ hKK hXc hPc hDc rfl hl.1 rfl (Nat.le_of_ble_eq_true rfl) dX5_foresee_3 ⟨Nat.le_of_ble_eq_true rfl, Nat.le_of_ble_eq_true rfl⟩) hP hD hS hFc [] rfl (fun ce9 q9 H locs hP hS hce hcv hcl _ _ => ?_)
  exact out_X ht9 hlocks hP hS hce hcv hcl (Nat.le_refl _) (Nat.le_refl _)
set_option maxHeartbeats 4000000 in
set_option maxRecDepth 100000 in
theorem b_foresee_2 (l : Launch) (D : va_G) (cyI cyO cyL : ClassId) (aX : Nat) (aT : Nat) (aR0 : Nat) (aR1 : Nat) (ac : Nat) (as_ : Nat) (aW0 : Nat) (aw0 : Nat) (af0 : Nat) (aG0 : Nat) (ao0 : Nat) (aB0 : Nat) (aW1 : Nat) (aw1 : Nat) (af1 : Nat) (aG1 : Nat) (ao1 : Nat) (aB1 : Nat) (cd : Nat → Int32) (sw : Nat → Int32) (fd : Int32) (fn : Int32) (ab0 : Nat → Nat) (w0 : Nat → Int32) (f0 : Nat → Int32) (od0 : Nat → Int32) (g0 : Nat → Int32) (bc0 : Int32) (hr0 : Int32) (co0 : Int32) (ab1 : Nat → Nat) (w1 : Nat → Int32) (f1 : Nat → Int32) (od1 : Nat → Int32) (g1 : Nat → Int32) (bc1 : Int32) (hr1 : Int32) (co1 : Int32) (LB : List Nat) (B : Nat → Nat → Int32) (h_ : Int32) (x_ : Int32) (hh0 : ¬ h_ < 1) (hh1 : h_ ≤ 72) (hwx : ¬ (x_ = 2 ∨ (¬ x_ < 5 ∧ x_ < 9))) (hlf : l.stackTraces = false) : cB l yX5_foresee wsX5_foresee ({ frames := 6, cells := 1, slots := 6, locals := 82 }) D cyI cyO cyL [.ref aX, .int h_, .int x_] ((cX aX aT aR0 aR1 ++ cT cyI aT ac as_ cd sw fd fn ++ cR cyI cyO aR0 aW0 aw0 af0 aG0 ao0 aB0 ab0 w0 f0 od0 g0 bc0 hr0 co0 ++ cR cyI cyO aR1 aW1 aw1 af1 aG1 ao1 aB1 ab1 w1 f1 od1 g1 bc1 hr1 co1) ++ pB LB B) IOOB := by
  intro sz
  refine vx_ofW (cc := cX5_foresee) (maxL := 3) (ret := (some .int)) (by decide) rfl ?_
  intro p e s m args below meth c s₁ B9 hml ht9 hv
  obtain ⟨rfl, hsz, hP, hKK, hXE, hD0⟩ := hv
  have hx := B9.exec
  have hb := B9.bytes
  have hrt := B9.returns
  have hts := atoms_spec (ws := wsX5_foresee) B9.pre
  have hown : s.vm.findClass RX5 = some m.cls := findClass_of_methodNamed B9.named
  have hlocks := B9.notSynchronized
  have nw := fun {w : Cond} (h : w ∈ nw_all) => NW.use (args := ([.ref aX, .int h_, .int x_] : List Value).toArray) hKK.2 h
  subst hsz
  have hD := hD0.self (sz := s.heap.size)
  generalize hAe : va_A ((cX aX aT aR0 aR1 ++ cT cyI aT ac as_ cd sw fd fn ++ cR cyI cyO aR0 aW0 aw0 af0 aG0 ao0 aB0 ab0 w0 f0 od0 g0 bc0 hr0 co0 ++ cR cyI cyO aR1 aW1 aw1 af1 aG1 ao1 aB1 ab1 w1 f1 od1 g1 bc1 hr1 co1) ++ pB LB B) s.heap.size = A at hD hXE ⊢
  have hA : ∀ q : Nat, s.heap.size ≤ q → A q := fun q h => by rw [← hAe]; exact Or.inr h
  have hS : va_S A s.heap s.heap [] := va_S.rf
  have hl := lv_entry ([.ref aX, .int h_, .int x_]) (n := 3) (Nat.le_of_ble_eq_true rfl)
  rw [lg_entry_eq]
  generalize (lg_sl ([.ref aX, .int h_, .int x_]) ++ List.replicate (3 - (lg_sl ([.ref aX, .int h_, .int x_])).length) Slot.unset).toArray = ls at hl ⊢
  have hl : lv_has ls 3 [(0, .ref aX), (1, .int h_), (2, .int x_)] := hl
  refine lv_iload_n hx hb dX5_foresee_0 rfl (lv_at hl 1 rfl) ?_
  refine lv_bipush (v := 72) hx hb dX5_foresee_1 (by decide) ?_
  have hPc := hP.sub (ws' := ([] : va_W)) [] rfl
  have hDc := hD.sub (ws' := ([] : va_W)) [] (by decide) rfl
  refine ret_vP (W1 := ([] : va_W)) (W2 := ([] : va_W)) (X1 := cX aX aT aR0 aR1 ++ cT cyI aT ac as_ cd sw fd fn ++ cR cyI cyO aR0 aW0 aw0 af0 aG0 ao0 aB0 ab0 w0 f0 od0 g0 bc0 hr0 co0 ++ cR cyI cyO aR1 aW1 aw1 af1 aG1 ao1 aB1 ab1 w1 f1 od1 g1 bc1 hr1 co1) (run_S (n := 2) (As := [.int h_, .int 72]) (rest := []) ⟨hx, hb, hml, hown, hts⟩ (c_X5_checkHours l D cyI cyO cyL h_ 72 hh0 hh1 _) ggX5_foresee_X5_checkHours rfl rfl rfl (hts (.methodLink RX5 179 yX5_checkHours) (List.mem_of_getElem? (i := 6) rfl)) (hts (.initialized RX5) (List.mem_of_getElem? (i := 8) rfl)) (hts (.static yX5_checkHours) (List.mem_of_getElem? (i := 7) rfl)) (by decide +kernel) ⟨Nat.le_of_ble_eq_true rfl, Nat.le_of_ble_eq_true rfl⟩ hKK hPc hDc rfl hl.1 rfl (Nat.le_of_ble_eq_true rfl) dX5_foresee_3 ⟨Nat.zero_le _, Nat.zero_le _⟩) hP hD hS hA [] rfl rfl [(false, 0), (false, 1), (false, 2), (false, 3), (false, 4), (false, 5), (false, 6), (false, 7), (false, 8), (false, 9), (false, 10), (false, 11), (false, 12), (false, 13), (false, 14), (false, 15), (false, 16), (false, 17)] (by decide +kernel) rfl rfl (fun H locs hP hD hS => ?_)
  refine lv_iload_n hx hb dX5_foresee_6 rfl (lv_at hl 2 rfl) ?_
  refine lv_iconst (v := 2) hx hb dX5_foresee_7 (by decide) ?_
  refine lv_icmp_eq (tgt := 32) hx hb dX5_foresee_8 (by decide) (fun h_1 => ?_) (fun h_1 => ?_)
  · skip
    exact (hwx (Or.inl h_1)).elim
  · skip
    refine lv_iload_n hx hb dX5_foresee_11 rfl (lv_at hl 2 rfl) ?_
    refine lv_iconst (v := 5) hx hb dX5_foresee_12 (by decide) ?_
    refine lv_icmp_lt (tgt := 22) hx hb dX5_foresee_13 (by decide) (fun h_2 => ?_) (fun h_2 => ?_)
    · skip
      exact throw_S (X := IOOB) (text := "what is 2, 5, 6, 7 or 8") hx hb hlf hown (by decide +kernel) (hts (.classLink RX5 26 "java/lang/IndexOutOfBoundsException") (List.mem_of_getElem? (i := 1) rfl)) (hts (.initialized "java/lang/IndexOutOfBoundsException") (List.mem_of_getElem? (i := 2) rfl)) (by decide +kernel) hXE (fun w h => hts w (List.mem_cons_of_mem _ (List.mem_append_left _ (List.mem_append_right _ h)))) ng_1 hg_1 hP hS (by rw [hml]; exact hl.1) dX5_foresee_22 dX5_foresee_25 dX5_foresee_26 dX5_foresee_28 dX5_foresee_31 ht9 (by decide) (by decide) (by decide) (by decide) hlocks
    · skip
      refine lv_iload_n hx hb dX5_foresee_16 rfl (lv_at hl 2 rfl) ?_
      refine lv_bipush (v := 9) hx hb dX5_foresee_17 (by decide) ?_
      refine lv_icmp_lt (tgt := 32) hx hb dX5_foresee_19 (by decide) (fun h_3 => ?_) (fun h_3 => ?_)
      · skip
        exact (hwx (Or.inr ⟨h_2, h_3⟩)).elim
      · skip
        exact throw_S (X := IOOB) (text := "what is 2, 5, 6, 7 or 8") hx hb hlf hown (by decide +kernel) (hts (.classLink RX5 26 "java/lang/IndexOutOfBoundsException") (List.mem_of_getElem? (i := 1) rfl)) (hts (.initialized "java/lang/IndexOutOfBoundsException") (List.mem_of_getElem? (i := 2) rfl)) (by decide +kernel) hXE (fun w h => hts w (List.mem_cons_of_mem _ (List.mem_append_left _ (List.mem_append_right _ h)))) ng_1 hg_1 hP hS (by rw [hml]; exact hl.1) dX5_foresee_22 dX5_foresee_25 dX5_foresee_26 dX5_foresee_28 dX5_foresee_31 ht9 (by decide) (by decide) (by decide) (by decide) hlocks
set_option maxHeartbeats 4000000 in
set_option maxRecDepth 100000 in
theorem b_advise (l : Launch) (D : va_G) (cyI cyO cyL : ClassId) (aX : Nat) (aT : Nat) (aR0 : Nat) (aR1 : Nat) (ac : Nat) (as_ : Nat) (aW0 : Nat) (aw0 : Nat) (af0 : Nat) (aG0 : Nat) (ao0 : Nat) (aB0 : Nat) (aW1 : Nat) (aw1 : Nat) (af1 : Nat) (aG1 : Nat) (ao1 : Nat) (aB1 : Nat) (cd : Nat → Int32) (sw : Nat → Int32) (fd : Int32) (fn : Int32) (ab0 : Nat → Nat) (w0 : Nat → Int32) (f0 : Nat → Int32) (od0 : Nat → Int32) (g0 : Nat → Int32) (bc0 : Int32) (hr0 : Int32) (co0 : Int32) (ab1 : Nat → Nat) (w1 : Nat → Int32) (f1 : Nat → Int32) (od1 : Nat → Int32) (g1 : Nat → Int32) (bc1 : Int32) (hr1 : Int32) (co1 : Int32) (LB : List Nat) (B : Nat → Nat → Int32) (h_ : Int32) (hh9 : ¬ h_ < 1 → ¬ h_ ≤ 48) (hlf : l.stackTraces = false) : cB l yX5_advise wsX5_advise ({ frames := 7, cells := 1, slots := 6, locals := 103 }) D cyI cyO cyL [.ref aX, .int h_] ((cX aX aT aR0 aR1 ++ cT cyI aT ac as_ cd sw fd fn ++ cR cyI cyO aR0 aW0 aw0 af0 aG0 ao0 aB0 ab0 w0 f0 od0 g0 bc0 hr0 co0 ++ cR cyI cyO aR1 aW1 aw1 af1 aG1 ao1 aB1 ab1 w1 f1 od1 g1 bc1 hr1 co1) ++ pB LB B) IARG := by
  intro sz
  refine vx_ofW (cc := cX5_advise) (maxL := 6) (ret := (some .int)) (by decide) rfl ?_
  intro p e s m args below meth c s₁ B9 hml ht9 hv
  obtain ⟨rfl, hsz, hP, hKK, hXE, hD0⟩ := hv
  have hx := B9.exec
  have hb := B9.bytes
  have hrt := B9.returns
  have hts := atoms_spec (ws := wsX5_advise) B9.pre
  have hown : s.vm.findClass RX5 = some m.cls := findClass_of_methodNamed B9.named
  have hlocks := B9.notSynchronized
  have nw := fun {w : Cond} (h : w ∈ nw_all) => NW.use (args := ([.ref aX, .int h_] : List Value).toArray) hKK.2 h
  subst hsz
  have hD := hD0.self (sz := s.heap.size)
  generalize hAe : va_A ((cX aX aT aR0 aR1 ++ cT cyI aT ac as_ cd sw fd fn ++ cR cyI cyO aR0 aW0 aw0 af0 aG0 ao0 aB0 ab0 w0 f0 od0 g0 bc0 hr0 co0 ++ cR cyI cyO aR1 aW1 aw1 af1 aG1 ao1 aB1 ab1 w1 f1 od1 g1 bc1 hr1 co1) ++ pB LB B) s.heap.size = A at hD hXE ⊢
  have hA : ∀ q : Nat, s.heap.size ≤ q → A q := fun q h => by rw [← hAe]; exact Or.inr h
  have hS : va_S A s.heap s.heap [] := va_S.rf
  have hl := lv_entry ([.ref aX, .int h_]) (n := 6) (Nat.le_of_ble_eq_true rfl)
  rw [lg_entry_eq]
  generalize (lg_sl ([.ref aX, .int h_]) ++ List.replicate (6 - (lg_sl ([.ref aX, .int h_])).length) Slot.unset).toArray = ls at hl ⊢
  have hl : lv_has ls 6 [(0, .ref aX), (1, .int h_)] := hl
  refine lv_iload_n hx hb dX5_advise_0 rfl (lv_at hl 1 rfl) ?_
  refine lv_bipush (v := 48) hx hb dX5_advise_1 (by decide) ?_
  have hPc := hP.sub (ws' := ([] : va_W)) [] rfl
  have hDc := hD.sub (ws' := ([] : va_W)) [] (by decide) rfl
  have hFc := va_free (wc := ([] : va_W)) hD hS hA [] rfl
  have hXc := (hXE.kept hS.2.1).narrow hFc
  refine thr (W1 := ([] : va_W)) (runX_S (n := 2) (As := [.int h_, .int 48]) (rest := []) ⟨hx, hb, hml, hown, hts⟩ (b_X5_checkHours l D cyI cyO cyL h_ 48 hh9 hlf _) ggX5_advise_X5_checkHours rfl rfl rfl (hts (.methodLink RX5 179 yX5_checkHours) (List.mem_of_getElem? (i := 1) rfl)) (hts (.initialized RX5) (List.mem_of_getElem? (i := 3) rfl)) (hts (.static yX5_checkHours) (List.mem_of_getElem? (i := 2) rfl)) (by decide +kernel) ⟨Nat.le_of_ble_eq_true rfl, Nat.le_of_ble_eq_true rfl⟩ hKK hXc hPc hDc rfl hl.1 rfl (Nat.le_of_ble_eq_true rfl) dX5_advise_3 ⟨Nat.le_of_ble_eq_true rfl, Nat.le_of_ble_eq_true rfl⟩) hP hD hS hFc [] rfl (fun ce9 q9 H locs hP hS hce hcv hcl _ _ => ?_)
  exact out_X ht9 hlocks hP hS hce hcv hcl (Nat.le_refl _) (Nat.le_refl _)
