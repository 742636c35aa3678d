set_option maxHeartbeats 4000000 in
set_option maxRecDepth 100000 in
theorem c_X5_checkSpan (l : Launch) (D : va_G) (cyI cyO cyL : ClassId) (s_ : Int32) (hi : vp_in s_ 24) : cV l yX5_checkSpan wsX5_checkSpan ({ frames := 0, cells := 0, slots := 0, locals := 0 }) D cyI cyO cyL [.int s_] (([] : va_W)) (([] : va_W)) := by
  intro sz
  refine Met.ofW (cc := cX5_checkSpan) (maxL := 1) (ret := none) (by decide) rfl ?_
  intro p e s m args below meth c s₁ B9 hml hv
  obtain ⟨rfl, hsz, hP, hKK, hD0⟩ := hv
  have hx := B9.exec
  have hb := B9.bytes
  have hrt := B9.returns
  have hts := atoms_spec (ws := wsX5_checkSpan) B9.pre
  have hown : s.vm.findClass RX5 = some m.cls := findClass_of_methodNamed B9.named
  have hlocks := B9.notSynchronized
  have nw := fun {w : Cond} (h : w ∈ nw_all) => NW.use (args := ([.int s_] : List Value).toArray) hKK.2 h
  subst hsz
  have hD := hD0.self (sz := s.heap.size)
  generalize hAe : va_A (([] : va_W)) s.heap.size = A at hD ⊢
  have hA : ∀ q : Nat, s.heap.size ≤ q → A q := fun q h => by rw [← hAe]; exact Or.inr h
  have hS : va_S A s.heap s.heap [] := va_S.rf
  have hl := lv_entry ([.int s_]) (n := 1) (Nat.le_of_ble_eq_true rfl)
  rw [lg_entry_eq]
  generalize (lg_sl ([.int s_]) ++ List.replicate (1 - (lg_sl ([.int s_])).length) Slot.unset).toArray = ls at hl ⊢
  have hl : lv_has ls 1 [(0, .int s_)] := hl
  refine lv_iload_n hx hb dX5_checkSpan_0 rfl (lv_at hl 0 rfl) ?_
  refine lv_if_lt (tgt := 10) hx hb dX5_checkSpan_1 (by decide) (fun h_1 => ?_) (fun h_1 => ?_)
  · skip
    exact absurd h_1 (vp_ge0 hi)
  · skip
    refine lv_iload_n hx hb dX5_checkSpan_4 rfl (lv_at hl 0 rfl) ?_
    refine lv_bipush (v := 24) hx hb dX5_checkSpan_5 (by decide) ?_
    refine lv_icmp_lt (tgt := 20) hx hb dX5_checkSpan_7 (by decide) (fun h_2 => ?_) (fun h_2 => ?_)
    · skip
      exact end_v hx hb hrt hlocks hP hS dX5_checkSpan_20
    · skip
      exact absurd (vp_lti hi (by omega)) h_2
set_option maxHeartbeats 4000000 in
set_option maxRecDepth 100000 in
theorem c_X5_checkWhat (l : Launch) (D : va_G) (cyI cyO cyL : ClassId) (x_ : Int32) (m_ : Int32) (h0 : ¬ x_ < 0) (h1 : x_ < m_) : cV l yX5_checkWhat wsX5_checkWhat ({ frames := 0, cells := 0, slots := 0, locals := 0 }) D cyI cyO cyL [.int x_, .int m_] (([] : va_W)) (([] : va_W)) := by
  intro sz
  refine Met.ofW (cc := cX5_checkWhat) (maxL := 2) (ret := none) (by decide) rfl ?_
  intro p e s m args below meth c s₁ B9 hml hv
  obtain ⟨rfl, hsz, hP, hKK, hD0⟩ := hv
  have hx := B9.exec
  have hb := B9.bytes
  have hrt := B9.returns
  have hts := atoms_spec (ws := wsX5_checkWhat) B9.pre
  have hown : s.vm.findClass RX5 = some m.cls := findClass_of_methodNamed B9.named
  have hlocks := B9.notSynchronized
  have nw := fun {w : Cond} (h : w ∈ nw_all) => NW.use (args := ([.int x_, .int m_] : List Value).toArray) hKK.2 h
  subst hsz
  have hD := hD0.self (sz := s.heap.size)
  generalize hAe : va_A (([] : va_W)) s.heap.size = A at hD ⊢
  have hA : ∀ q : Nat, s.heap.size ≤ q → A q := fun q h => by rw [← hAe]; exact Or.inr h
  have hS : va_S A s.heap s.heap [] := va_S.rf
  have hl := lv_entry ([.int x_, .int m_]) (n := 2) (Nat.le_of_ble_eq_true rfl)
  rw [lg_entry_eq]
  generalize (lg_sl ([.int x_, .int m_]) ++ List.replicate (2 - (lg_sl ([.int x_, .int m_])).length) Slot.unset).toArray = ls at hl ⊢
  have hl : lv_has ls 2 [(0, .int x_), (1, .int m_)] := hl
  refine lv_iload_n hx hb dX5_checkWhat_0 rfl (lv_at hl 0 rfl) ?_
  refine lv_if_lt (tgt := 9) hx hb dX5_checkWhat_1 (by decide) (fun h_1 => ?_) (fun h_1 => ?_)
  · skip
    exact absurd h_1 h0
  · skip
    refine lv_iload_n hx hb dX5_checkWhat_4 rfl (lv_at hl 0 rfl) ?_
    refine lv_iload_n hx hb dX5_checkWhat_5 rfl (lv_at hl 1 rfl) ?_
    refine lv_icmp_lt (tgt := 19) hx hb dX5_checkWhat_6 (by decide) (fun h_2 => ?_) (fun h_2 => ?_)
    · skip
      exact end_v hx hb hrt hlocks hP hS dX5_checkWhat_19
    · skip
      exact absurd h1 h_2
set_option maxHeartbeats 4000000 in
set_option maxRecDepth 100000 in
theorem c_X5_checkHours (l : Launch) (D : va_G) (cyI cyO cyL : ClassId) (x_ : Int32) (m_ : Int32) (h0 : ¬ x_ < 1) (h1 : x_ ≤ m_) : cV l yX5_checkHours wsX5_checkHours ({ frames := 0, cells := 0, slots := 0, locals := 0 }) D cyI cyO cyL [.int x_, .int m_] (([] : va_W)) (([] : va_W)) := by
  intro sz
  refine Met.ofW (cc := cX5_checkHours) (maxL := 2) (ret := none) (by decide) rfl ?_
  intro p e s m args below meth c s₁ B9 hml hv
  obtain ⟨rfl, hsz, hP, hKK, hD0⟩ := hv
  have hx := B9.exec
  have hb := B9.bytes
  have hrt := B9.returns
  have hts := atoms_spec (ws := wsX5_checkHours) B9.pre
  have hown : s.vm.findClass RX5 = some m.cls := findClass_of_methodNamed B9.named
  have hlocks := B9.notSynchronized
  have nw := fun {w : Cond} (h : w ∈ nw_all) => NW.use (args := ([.int x_, .int m_] : List Value).toArray) hKK.2 h
  subst hsz
  have hD := hD0.self (sz := s.heap.size)
  generalize hAe : va_A (([] : va_W)) s.heap.size = A at hD ⊢
  have hA : ∀ q : Nat, s.heap.size ≤ q → A q := fun q h => by rw [← hAe]; exact Or.inr h
  have hS : va_S A s.heap s.heap [] := va_S.rf
  have hl := lv_entry ([.int x_, .int m_]) (n := 2) (Nat.le_of_ble_eq_true rfl)
  rw [lg_entry_eq]
  generalize (lg_sl ([.int x_, .int m_]) ++ List.replicate (2 - (lg_sl ([.int x_, .int m_])).length) Slot.unset).toArray = ls at hl ⊢
  have hl : lv_has ls 2 [(0, .int x_), (1, .int m_)] := hl
  refine lv_iload_n hx hb dX5_checkHours_0 rfl (lv_at hl 0 rfl) ?_
  refine lv_iconst (v := 1) hx hb dX5_checkHours_1 (by decide) ?_
  refine lv_icmp_lt (tgt := 10) hx hb dX5_checkHours_2 (by decide) (fun h_1 => ?_) (fun h_1 => ?_)
  · skip
    exact absurd h_1 h0
  · skip
    refine lv_iload_n hx hb dX5_checkHours_5 rfl (lv_at hl 0 rfl) ?_
    refine lv_iload_n hx hb dX5_checkHours_6 rfl (lv_at hl 1 rfl) ?_
    refine lv_icmp_le (tgt := 20) hx hb dX5_checkHours_7 (by decide) (fun h_2 => ?_) (fun h_2 => ?_)
    · skip
      exact end_v hx hb hrt hlocks hP hS dX5_checkHours_20
    · skip
      exact absurd h1 h_2
set_option maxHeartbeats 4000000 in
set_option maxRecDepth 100000 in
theorem c_X5_checkBus (l : Launch) (D : va_G) (cyI cyO cyL : ClassId) (aX : Nat) (aT : Nat) (aR0 : Nat) (aR1 : Nat) (aW0 : Nat) (aw0 : Nat) (af0 : Nat) (aG0 : Nat) (ao0 : Nat) (aB0 : Nat) (ab0 : Nat → Nat) (w0 : Nat → Int32) (f0 : Nat → Int32) (od0 : Nat → Int32) (g0 : Nat → Int32) (bc0 : Int32) (hr0 : Int32) (co0 : Int32) (b_ : Int32) (h0 : ¬ b_ < 0) (h1 : b_ < bc0) : cV l yX5_checkBus wsX5_checkBus ({ frames := 0, cells := 0, slots := 0, locals := 0 }) D cyI cyO cyL [.ref aX, .int b_] (cX aX aT aR0 aR1 ++ cR cyI cyO aR0 aW0 aw0 af0 aG0 ao0 aB0 ab0 w0 f0 od0 g0 bc0 hr0 co0) (cX aX aT aR0 aR1 ++ cR cyI cyO aR0 aW0 aw0 af0 aG0 ao0 aB0 ab0 w0 f0 od0 g0 bc0 hr0 co0) := by
  intro sz
  refine Met.ofW (cc := cX5_checkBus) (maxL := 2) (ret := none) (by decide) rfl ?_
  intro p e s m args below meth c s₁ B9 hml hv
  obtain ⟨rfl, hsz, hP, hKK, hD0⟩ := hv
  have hx := B9.exec
  have hb := B9.bytes
  have hrt := B9.returns
  have hts := atoms_spec (ws := wsX5_checkBus) B9.pre
  have hown : s.vm.findClass RX5 = some m.cls := findClass_of_methodNamed B9.named
  have hlocks := B9.notSynchronized
  have nw := fun {w : Cond} (h : w ∈ nw_all) => NW.use (args := ([.ref aX, .int b_] : List Value).toArray) hKK.2 h
  have iX2 : ∀ w ∈ wsX20, w ∈ wsX5_checkBus := fun _ h => List.mem_cons_of_mem _ (List.mem_append_left _ (List.mem_append_right _ h))
  have iX5 : ∀ w ∈ wsX50, w ∈ wsX5_checkBus := fun _ h => List.mem_cons_of_mem _ (List.mem_append_left _ (List.mem_append_left _ (List.mem_append_right _ h)))
  subst hsz
  have hD := hD0.self (sz := s.heap.size)
  generalize hAe : va_A (cX aX aT aR0 aR1 ++ cR cyI cyO aR0 aW0 aw0 af0 aG0 ao0 aB0 ab0 w0 f0 od0 g0 bc0 hr0 co0) s.heap.size = A at hD ⊢
  have hA : ∀ q : Nat, s.heap.size ≤ q → A q := fun q h => by rw [← hAe]; exact Or.inr h
  have hS : va_S A s.heap s.heap [] := va_S.rf
  have hl := lv_entry ([.ref aX, .int b_]) (n := 2) (Nat.le_of_ble_eq_true rfl)
  rw [lg_entry_eq]
  generalize (lg_sl ([.ref aX, .int b_]) ++ List.replicate (2 - (lg_sl ([.ref aX, .int b_])).length) Slot.unset).toArray = ls at hl ⊢
  have hl : lv_has ls 2 [(0, .ref aX), (1, .int b_)] := hl
  refine lv_iload_n hx hb dX5_checkBus_0 rfl (lv_at hl 1 rfl) ?_
  refine lv_if_lt (tgt := 15) hx hb dX5_checkBus_1 (by decide) (fun h_1 => ?_) (fun h_1 => ?_)
  · skip
    exact absurd h_1 h0
  · skip
    refine lv_iload_n hx hb dX5_checkBus_4 rfl (lv_at hl 1 rfl) ?_
    refine lv_aload_n hx hb dX5_checkBus_5 rfl (lv_at hl 0 rfl) ?_
    refine va_get (D := D) (ci := 5) (v := .ref aR0) (C := RX5) (T := TX5) (N := 3) hx hb hts iX5 hown hKK.1 hP 0 rfl rfl 1 (by decide) (hts (.fieldLink RX5 19 "TrolleyGang" "now" "LTrolleyGang$Ring;") (List.mem_of_getElem? (i := 3) rfl)) (fun _ h9 => h9) rfl dX5_checkBus_6 ?_
    refine va_getN (D := D) (ci := 2) (v := .int bc0) (C := RX2) (T := TX2) (N := 6) hx hb hts iX2 hown hKK.1 hP 1 rfl rfl 3 (by decide) (nw (w := .fieldLinkNest "TrolleyGang" 66 "TrolleyGang$Ring" "busCount" "I" "TrolleyGang") nq_70) (fun _ h9 => h9) rfl dX5_checkBus_9 ?_
    refine lv_icmp_lt (tgt := 25) hx hb dX5_checkBus_12 (by decide) (fun h_2 => ?_) (fun h_2 => ?_)
    · skip
      exact end_v hx hb hrt hlocks hP hS dX5_checkBus_25
    · skip
      exact absurd h1 h_2
set_option maxHeartbeats 4000000 in
set_option maxRecDepth 100000 in
theorem c_X5_setCold (l : Launch) (D : va_G) (cyI cyO cyL : ClassId) (aX : Nat) (aT : Nat) (aR0 : Nat) (aR1 : Nat) (ac : Nat) (as_ : Nat) (aW0 : Nat) (aw0 : Nat) (af0 : Nat) (aG0 : Nat) (ao0 : Nat) (aB0 : Nat) (aW1 : Nat) (aw1 : Nat) (af1 : Nat) (aG1 : Nat) (ao1 : Nat) (aB1 : Nat) (cd : Nat → Int32) (sw : Nat → Int32) (fd : Int32) (fn : Int32) (ab0 : Nat → Nat) (w0 : Nat → Int32) (f0 : Nat → Int32) (od0 : Nat → Int32) (g0 : Nat → Int32) (bc0 : Int32) (hr0 : Int32) (co0 : Int32) (ab1 : Nat → Nat) (w1 : Nat → Int32) (f1 : Nat → Int32) (od1 : Nat → Int32) (g1 : Nat → Int32) (bc1 : Int32) (hr1 : Int32) (co1 : Int32) (LB : List Nat) (B : Nat → Nat → Int32) (h_ : Int32) (c_ : Int32) (hh : vp_in h_ 8) (hc : vp_in c_ 4) : cI l yX5_setCold wsX5_setCold ({ frames := 0, cells := 0, slots := 0, locals := 0 }) D cyI cyO cyL [.ref aX, .int h_, .int c_] ((cX aX aT aR0 aR1 ++ cT cyI aT ac as_ cd sw fd fn ++ cR cyI cyO aR0 aW0 aw0 af0 aG0 ao0 aB0 ab0 w0 f0 od0 g0 bc0 hr0 co0 ++ cR cyI cyO aR1 aW1 aw1 af1 aG1 ao1 aB1 ab1 w1 f1 od1 g1 bc1 hr1 co1) ++ pB LB B) ((cX aX aT aR0 aR1 ++ cT cyI aT ac as_ (upd cd h_.toNatClampNeg c_) sw fd fn ++ cR cyI cyO aR0 aW0 aw0 af0 aG0 ao0 aB0 ab0 w0 f0 od0 g0 bc0 hr0 co0 ++ cR cyI cyO aR1 aW1 aw1 af1 aG1 ao1 aB1 ab1 w1 f1 od1 g1 bc1 hr1 co1) ++ pB LB B) (cd h_.toNatClampNeg) := by
  intro sz
  refine Met.ofW (cc := cX5_setCold) (maxL := 4) (ret := (some .int)) (by decide) rfl ?_
  intro p e s m args below meth c s₁ B9 hml hv
  obtain ⟨rfl, hsz, hP, hKK, hD0⟩ := hv
  have hx := B9.exec
  have hb := B9.bytes
  have hrt := B9.returns
  have hts := atoms_spec (ws := wsX5_setCold) B9.pre
  have hown : s.vm.findClass RX5 = some m.cls := findClass_of_methodNamed B9.named
  have hlocks := B9.notSynchronized
  have nw := fun {w : Cond} (h : w ∈ nw_all) => NW.use (args := ([.ref aX, .int h_, .int c_] : List Value).toArray) hKK.2 h
  have iX3 : ∀ w ∈ wsX30, w ∈ wsX5_setCold := fun _ h => List.mem_cons_of_mem _ (List.mem_append_left _ (List.mem_append_left _ (List.mem_append_right _ h)))
  have iX5 : ∀ w ∈ wsX50, w ∈ wsX5_setCold := fun _ h => List.mem_cons_of_mem _ (List.mem_append_left _ (List.mem_append_left _ (List.mem_append_left _ (List.mem_append_right _ h))))
  subst hsz
  have hD := hD0.self (sz := s.heap.size)
  generalize hAe : va_A ((cX aX aT aR0 aR1 ++ cT cyI aT ac as_ cd sw fd fn ++ cR cyI cyO aR0 aW0 aw0 af0 aG0 ao0 aB0 ab0 w0 f0 od0 g0 bc0 hr0 co0 ++ cR cyI cyO aR1 aW1 aw1 af1 aG1 ao1 aB1 ab1 w1 f1 od1 g1 bc1 hr1 co1) ++ pB LB B) s.heap.size = A at hD ⊢
  have hA : ∀ q : Nat, s.heap.size ≤ q → A q := fun q h => by rw [← hAe]; exact Or.inr h
  have hS : va_S A s.heap s.heap [] := va_S.rf
  have hl := lv_entry ([.ref aX, .int h_, .int c_]) (n := 4) (Nat.le_of_ble_eq_true rfl)
  rw [lg_entry_eq]
  generalize (lg_sl ([.ref aX, .int h_, .int c_]) ++ List.replicate (4 - (lg_sl ([.ref aX, .int h_, .int c_])).length) Slot.unset).toArray = ls at hl ⊢
  have hl : lv_has ls 4 [(0, .ref aX), (1, .int h_), (2, .int c_)] := hl
  refine lv_iload_n hx hb dX5_setCold_0 rfl (lv_at hl 1 rfl) ?_
  refine lv_if_lt (tgt := 10) hx hb dX5_setCold_1 (by decide) (fun h_1 => ?_) (fun h_1 => ?_)
  · skip
    exact absurd h_1 (vp_ge0 hh)
  · skip
    refine lv_iload_n hx hb dX5_setCold_4 rfl (lv_at hl 1 rfl) ?_
    refine lv_bipush (v := 8) hx hb dX5_setCold_5 (by decide) ?_
    refine lv_icmp_lt (tgt := 20) hx hb dX5_setCold_7 (by decide) (fun h_2 => ?_) (fun h_2 => ?_)
    · skip
      refine lv_iload_n hx hb dX5_setCold_20 rfl (lv_at hl 2 rfl) ?_
      refine lv_if_lt (tgt := 29) hx hb dX5_setCold_21 (by decide) (fun h_3 => ?_) (fun h_3 => ?_)
      · skip
        exact absurd h_3 (vp_ge0 hc)
      · skip
        refine lv_iload_n hx hb dX5_setCold_24 rfl (lv_at hl 2 rfl) ?_
        refine lv_iconst (v := 3) hx hb dX5_setCold_25 (by decide) ?_
        refine lv_icmp_le (tgt := 39) hx hb dX5_setCold_26 (by decide) (fun h_4 => ?_) (fun h_4 => ?_)
        · skip
          refine lv_aload_n hx hb dX5_setCold_39 rfl (lv_at hl 0 rfl) ?_
          refine va_get (D := D) (ci := 5) (v := .ref aT) (C := RX5) (T := TX5) (N := 3) hx hb hts iX5 hown hKK.1 hP 0 rfl rfl 0 (by decide) (hts (.fieldLink RX5 10 "TrolleyGang" "tables" "LTrolleyGang$Tables;") (List.mem_of_getElem? (i := 5) rfl)) (fun _ h9 => h9) rfl dX5_setCold_40 ?_
          refine va_getN (D := D) (ci := 3) (v := .ref ac) (C := RX3) (T := TX3) (N := 4) hx hb hts iX3 hown hKK.1 hP 1 rfl rfl 0 (by decide) (nw (w := .fieldLinkNest "TrolleyGang" 38 "TrolleyGang$Tables" "colds" "[I" "TrolleyGang") nq_29) (fun _ h9 => h9) rfl dX5_setCold_43 ?_
          refine lv_iload_n hx hb dX5_setCold_46 rfl (lv_at hl 1 rfl) ?_
          refine va_iald hx hb hKK.1 hP 2 0 rfl rfl (hin := hh) dX5_setCold_47 ?_
          refine lv_istore_n (lv' := [(3, .int (cd h_.toNatClampNeg)), (0, .ref aX), (1, .int h_), (2, .int c_)]) hx hb dX5_setCold_48 rfl hl (by decide) rfl (fun ls hl => ?_)
          refine lv_aload_n hx hb dX5_setCold_49 rfl (lv_at hl 1 rfl) ?_
          refine va_get (D := D) (ci := 5) (v := .ref aT) (C := RX5) (T := TX5) (N := 3) hx hb hts iX5 hown hKK.1 hP 0 rfl rfl 0 (by decide) (hts (.fieldLink RX5 10 "TrolleyGang" "tables" "LTrolleyGang$Tables;") (List.mem_of_getElem? (i := 5) rfl)) (fun _ h9 => h9) rfl dX5_setCold_50 ?_
          refine va_getN (D := D) (ci := 3) (v := .ref ac) (C := RX3) (T := TX3) (N := 4) hx hb hts iX3 hown hKK.1 hP 1 rfl rfl 0 (by decide) (nw (w := .fieldLinkNest "TrolleyGang" 38 "TrolleyGang$Tables" "colds" "[I" "TrolleyGang") nq_29) (fun _ h9 => h9) rfl dX5_setCold_53 ?_
          refine lv_iload_n hx hb dX5_setCold_56 rfl (lv_at hl 2 rfl) ?_
          refine lv_iload_n hx hb dX5_setCold_57 rfl (lv_at hl 3 rfl) ?_
          refine va_iast hx hb hKK.1 hP hD hS 2 0 rfl rfl (hin := hh) dX5_setCold_58 (fun H locs hP hD hS => ?_)
          have hP : va_P D vwCl ((cX aX aT aR0 aR1 ++ cT cyI aT ac as_ (upd cd h_.toNatClampNeg c_) sw fd fn ++ cR cyI cyO aR0 aW0 aw0 af0 aG0 ao0 aB0 ab0 w0 f0 od0 g0 bc0 hr0 co0 ++ cR cyI cyO aR1 aW1 aw1 af1 aG1 ao1 aB1 ab1 w1 f1 od1 g1 bc1 hr1 co1) ++ pB LB B) H := hP
          have hD : va_D A ((cX aX aT aR0 aR1 ++ cT cyI aT ac as_ (upd cd h_.toNatClampNeg c_) sw fd fn ++ cR cyI cyO aR0 aW0 aw0 af0 aG0 ao0 aB0 ab0 w0 f0 od0 g0 bc0 hr0 co0 ++ cR cyI cyO aR1 aW1 aw1 af1 aG1 ao1 aB1 ab1 w1 f1 od1 g1 bc1 hr1 co1) ++ pB LB B) := hD
          refine lv_iload_n hx hb dX5_setCold_59 rfl (lv_at hl 0 rfl) ?_
          exact end_i hx hb hrt hlocks rfl hP hS dX5_setCold_60
        · skip
          exact absurd (vp_lei hc (by omega)) h_4
    · skip
      exact absurd (vp_lti hh (by omega)) h_2
set_option maxHeartbeats 4000000 in
set_option maxRecDepth 100000 in
theorem c_X5_setSwan (l : Launch) (D : va_G) (cyI cyO cyL : ClassId) (aX : Nat) (aT : Nat) (aR0 : Nat) (aR1 : Nat) (ac : Nat) (as_ : Nat) (aW0 : Nat) (aw0 : Nat) (af0 : Nat) (aG0 : Nat) (ao0 : Nat) (aB0 : Nat) (aW1 : Nat) (aw1 : Nat) (af1 : Nat) (aG1 : Nat) (ao1 : Nat) (aB1 : Nat) (cd : Nat → Int32) (sw : Nat → Int32) (fd : Int32) (fn : Int32) (ab0 : Nat → Nat) (w0 : Nat → Int32) (f0 : Nat → Int32) (od0 : Nat → Int32) (g0 : Nat → Int32) (bc0 : Int32) (hr0 : Int32) (co0 : Int32) (ab1 : Nat → Nat) (w1 : Nat → Int32) (f1 : Nat → Int32) (od1 : Nat → Int32) (g1 : Nat → Int32) (bc1 : Int32) (hr1 : Int32) (co1 : Int32) (LB : List Nat) (B : Nat → Nat → Int32) (h_ : Int32) (s_ : Int32) (hh : vp_in h_ 12) (hs : s_ = -1 ∨ vp_in s_ 24) : cI l yX5_setSwan wsX5_setSwan ({ frames := 0, cells := 0, slots := 0, locals := 0 }) D cyI cyO cyL [.ref aX, .int h_, .int s_] ((cX aX aT aR0 aR1 ++ cT cyI aT ac as_ cd sw fd fn ++ cR cyI cyO aR0 aW0 aw0 af0 aG0 ao0 aB0 ab0 w0 f0 od0 g0 bc0 hr0 co0 ++ cR cyI cyO aR1 aW1 aw1 af1 aG1 ao1 aB1 ab1 w1 f1 od1 g1 bc1 hr1 co1) ++ pB LB B) ((cX aX aT aR0 aR1 ++ cT cyI aT ac as_ cd (upd sw h_.toNatClampNeg s_) fd fn ++ cR cyI cyO aR0 aW0 aw0 af0 aG0 ao0 aB0 ab0 w0 f0 od0 g0 bc0 hr0 co0 ++ cR cyI cyO aR1 aW1 aw1 af1 aG1 ao1 aB1 ab1 w1 f1 od1 g1 bc1 hr1 co1) ++ pB LB B) (sw h_.toNatClampNeg) := by
  intro sz
  refine Met.ofW (cc := cX5_setSwan) (maxL := 4) (ret := (some .int)) (by decide) rfl ?_
  intro p e s m args below meth c s₁ B9 hml hv
  obtain ⟨rfl, hsz, hP, hKK, hD0⟩ := hv
  have hx := B9.exec
  have hb := B9.bytes
  have hrt := B9.returns
  have hts := atoms_spec (ws := wsX5_setSwan) B9.pre
  have hown : s.vm.findClass RX5 = some m.cls := findClass_of_methodNamed B9.named
  have hlocks := B9.notSynchronized
  have nw := fun {w : Cond} (h : w ∈ nw_all) => NW.use (args := ([.ref aX, .int h_, .int s_] : List Value).toArray) hKK.2 h
  have iX3 : ∀ w ∈ wsX30, w ∈ wsX5_setSwan := fun _ h => List.mem_cons_of_mem _ (List.mem_append_left _ (List.mem_append_left _ (List.mem_append_right _ h)))
  have iX5 : ∀ w ∈ wsX50, w ∈ wsX5_setSwan := fun _ h => List.mem_cons_of_mem _ (List.mem_append_left _ (List.mem_append_left _ (List.mem_append_left _ (List.mem_append_right _ h))))
  subst hsz
  have hD := hD0.self (sz := s.heap.size)
  generalize hAe : va_A ((cX aX aT aR0 aR1 ++ cT cyI aT ac as_ cd sw fd fn ++ cR cyI cyO aR0 aW0 aw0 af0 aG0 ao0 aB0 ab0 w0 f0 od0 g0 bc0 hr0 co0 ++ cR cyI cyO aR1 aW1 aw1 af1 aG1 ao1 aB1 ab1 w1 f1 od1 g1 bc1 hr1 co1) ++ pB LB B) s.heap.size = A at hD ⊢
  have hA : ∀ q : Nat, s.heap.size ≤ q → A q := fun q h => by rw [← hAe]; exact Or.inr h
  have hS : va_S A s.heap s.heap [] := va_S.rf
  have hl := lv_entry ([.ref aX, .int h_, .int s_]) (n := 4) (Nat.le_of_ble_eq_true rfl)
  rw [lg_entry_eq]
  generalize (lg_sl ([.ref aX, .int h_, .int s_]) ++ List.replicate (4 - (lg_sl ([.ref aX, .int h_, .int s_])).length) Slot.unset).toArray = ls at hl ⊢
  have hl : lv_has ls 4 [(0, .ref aX), (1, .int h_), (2, .int s_)] := hl
  refine lv_iload_n hx hb dX5_setSwan_0 rfl (lv_at hl 1 rfl) ?_
  refine lv_if_lt (tgt := 10) hx hb dX5_setSwan_1 (by decide) (fun h_1 => ?_) (fun h_1 => ?_)
  · skip
    exact absurd h_1 (vp_ge0 hh)
  · skip
    refine lv_iload_n hx hb dX5_setSwan_4 rfl (lv_at hl 1 rfl) ?_
    refine lv_bipush (v := 12) hx hb dX5_setSwan_5 (by decide) ?_
    refine lv_icmp_lt (tgt := 20) hx hb dX5_setSwan_7 (by decide) (fun h_2 => ?_) (fun h_2 => ?_)
    · skip
      refine lv_iload_n hx hb dX5_setSwan_20 rfl (lv_at hl 2 rfl) ?_
      refine lv_iconst (v := (-1)) hx hb dX5_setSwan_21 (by decide) ?_
      refine lv_icmp_lt (tgt := 31) hx hb dX5_setSwan_22 (by decide) (fun h_3 => ?_) (fun h_3 => ?_)
      · skip
        exact absurd h_3 (sw_ge hs)
      · skip
        refine lv_iload_n hx hb dX5_setSwan_25 rfl (lv_at hl 2 rfl) ?_
        refine lv_bipush (v := 24) hx hb dX5_setSwan_26 (by decide) ?_
        refine lv_icmp_lt (tgt := 41) hx hb dX5_setSwan_28 (by decide) (fun h_4 => ?_) (fun h_4 => ?_)
        · skip
          refine lv_aload_n hx hb dX5_setSwan_41 rfl (lv_at hl 0 rfl) ?_
          refine va_get (D := D) (ci := 5) (v := .ref aT) (C := RX5) (T := TX5) (N := 3) hx hb hts iX5 hown hKK.1 hP 0 rfl rfl 0 (by decide) (hts (.fieldLink RX5 10 "TrolleyGang" "tables" "LTrolleyGang$Tables;") (List.mem_of_getElem? (i := 5) rfl)) (fun _ h9 => h9) rfl dX5_setSwan_42 ?_
          refine va_getN (D := D) (ci := 3) (v := .ref as_) (C := RX3) (T := TX3) (N := 4) hx hb hts iX3 hown hKK.1 hP 1 rfl rfl 1 (by decide) (nw (w := .fieldLinkNest "TrolleyGang" 46 "TrolleyGang$Tables" "swans" "[I" "TrolleyGang") nq_31) (fun _ h9 => h9) rfl dX5_setSwan_45 ?_
          refine lv_iload_n hx hb dX5_setSwan_48 rfl (lv_at hl 1 rfl) ?_
          refine va_iald hx hb hKK.1 hP 3 0 rfl rfl (hin := hh) dX5_setSwan_49 ?_
          refine lv_istore_n (lv' := [(3, .int (sw h_.toNatClampNeg)), (0, .ref aX), (1, .int h_), (2, .int s_)]) hx hb dX5_setSwan_50 rfl hl (by decide) rfl (fun ls hl => ?_)
          refine lv_aload_n hx hb dX5_setSwan_51 rfl (lv_at hl 1 rfl) ?_
          refine va_get (D := D) (ci := 5) (v := .ref aT) (C := RX5) (T := TX5) (N := 3) hx hb hts iX5 hown hKK.1 hP 0 rfl rfl 0 (by decide) (hts (.fieldLink RX5 10 "TrolleyGang" "tables" "LTrolleyGang$Tables;") (List.mem_of_getElem? (i := 5) rfl)) (fun _ h9 => h9) rfl dX5_setSwan_52 ?_
          refine va_getN (D := D) (ci := 3) (v := .ref as_) (C := RX3) (T := TX3) (N := 4) hx hb hts iX3 hown hKK.1 hP 1 rfl rfl 1 (by decide) (nw (w := .fieldLinkNest "TrolleyGang" 46 "TrolleyGang$Tables" "swans" "[I" "TrolleyGang") nq_31) (fun _ h9 => h9) rfl dX5_setSwan_55 ?_
          refine lv_iload_n hx hb dX5_setSwan_58 rfl (lv_at hl 2 rfl) ?_
          refine lv_iload_n hx hb dX5_setSwan_59 rfl (lv_at hl 3 rfl) ?_
          refine va_iast hx hb hKK.1 hP hD hS 3 0 rfl rfl (hin := hh) dX5_setSwan_60 (fun H locs hP hD hS => ?_)
          have hP : va_P D vwCl ((cX aX aT aR0 aR1 ++ cT cyI aT ac as_ cd (upd sw h_.toNatClampNeg s_) fd fn ++ cR cyI cyO aR0 aW0 aw0 af0 aG0 ao0 aB0 ab0 w0 f0 od0 g0 bc0 hr0 co0 ++ cR cyI cyO aR1 aW1 aw1 af1 aG1 ao1 aB1 ab1 w1 f1 od1 g1 bc1 hr1 co1) ++ pB LB B) H := hP
          have hD : va_D A ((cX aX aT aR0 aR1 ++ cT cyI aT ac as_ cd (upd sw h_.toNatClampNeg s_) fd fn ++ cR cyI cyO aR0 aW0 aw0 af0 aG0 ao0 aB0 ab0 w0 f0 od0 g0 bc0 hr0 co0 ++ cR cyI cyO aR1 aW1 aw1 af1 aG1 ao1 aB1 ab1 w1 f1 od1 g1 bc1 hr1 co1) ++ pB LB B) := hD
          refine lv_iload_n hx hb dX5_setSwan_61 rfl (lv_at hl 0 rfl) ?_
          exact end_i hx hb hrt hlocks rfl hP hS dX5_setSwan_62
        · skip
          exact absurd (sw_lt hs) h_4
    · skip
      exact absurd (vp_lti hh (by omega)) h_2
set_option maxHeartbeats 4000000 in
set_option maxRecDepth 100000 in
theorem c_X5_setFare (l : Launch) (D : va_G) (cyI cyO cyL : ClassId) (aX : Nat) (aT : Nat) (aR0 : Nat) (aR1 : Nat) (ac : Nat) (as_ : Nat) (aW0 : Nat) (aw0 : Nat) (af0 : Nat) (aG0 : Nat) (ao0 : Nat) (aB0 : Nat) (aW1 : Nat) (aw1 : Nat) (af1 : Nat) (aG1 : Nat) (ao1 : Nat) (aB1 : Nat) (cd : Nat → Int32) (sw : Nat → Int32) (fd : Int32) (fn : Int32) (ab0 : Nat → Nat) (w0 : Nat → Int32) (f0 : Nat → Int32) (od0 : Nat → Int32) (g0 : Nat → Int32) (bc0 : Int32) (hr0 : Int32) (co0 : Int32) (ab1 : Nat → Nat) (w1 : Nat → Int32) (f1 : Nat → Int32) (od1 : Nat → Int32) (g1 : Nat → Int32) (bc1 : Int32) (hr1 : Int32) (co1 : Int32) (LB : List Nat) (B : Nat → Nat → Int32) (i_ : Int32) (c_ : Int32) (hc : vp_in c_ 10) : cI l yX5_setFare wsX5_setFare ({ frames := 1, cells := 0, slots := 0, locals := 21 }) D cyI cyO cyL [.ref aX, .int i_, .int c_] ((cX aX aT aR0 aR1 ++ cT cyI aT ac as_ cd sw fd fn ++ cR cyI cyO aR0 aW0 aw0 af0 aG0 ao0 aB0 ab0 w0 f0 od0 g0 bc0 hr0 co0 ++ cR cyI cyO aR1 aW1 aw1 af1 aG1 ao1 aB1 ab1 w1 f1 od1 g1 bc1 hr1 co1) ++ pB LB B) ((cX aX aT aR0 aR1 ++ cT cyI aT ac as_ cd sw ((setFS i_ c_ fd fn).2.1) ((setFS i_ c_ fd fn).2.2) ++ cR cyI cyO aR0 aW0 aw0 af0 aG0 ao0 aB0 ab0 w0 f0 od0 g0 bc0 hr0 co0 ++ cR cyI cyO aR1 aW1 aw1 af1 aG1 ao1 aB1 ab1 w1 f1 od1 g1 bc1 hr1 co1) ++ pB LB B) ((setFS i_ c_ fd fn).1) := by
  intro sz
  refine Met.ofW (cc := cX5_setFare) (maxL := 4) (ret := (some .int)) (by decide) rfl ?_
  intro p e s m args below meth c s₁ B9 hml hv
  obtain ⟨rfl, hsz, hP, hKK, hD0⟩ := hv
  have hx := B9.exec
  have hb := B9.bytes
  have hrt := B9.returns
  have hts := atoms_spec (ws := wsX5_setFare) B9.pre
  have hown : s.vm.findClass RX5 = some m.cls := findClass_of_methodNamed B9.named
  have hlocks := B9.notSynchronized
  have nw := fun {w : Cond} (h : w ∈ nw_all) => NW.use (args := ([.ref aX, .int i_, .int c_] : List Value).toArray) hKK.2 h
  have iX3 : ∀ w ∈ wsX30, w ∈ wsX5_setFare := fun _ h => List.mem_cons_of_mem _ (List.mem_append_left _ (List.mem_append_right _ h))
  have iX5 : ∀ w ∈ wsX50, w ∈ wsX5_setFare := fun _ h => List.mem_cons_of_mem _ (List.mem_append_left _ (List.mem_append_left _ (List.mem_append_right _ h)))
  subst hsz
  have hD := hD0.self (sz := s.heap.size)
  generalize hAe : va_A ((cX aX aT aR0 aR1 ++ cT cyI aT ac as_ cd sw fd fn ++ cR cyI cyO aR0 aW0 aw0 af0 aG0 ao0 aB0 ab0 w0 f0 od0 g0 bc0 hr0 co0 ++ cR cyI cyO aR1 aW1 aw1 af1 aG1 ao1 aB1 ab1 w1 f1 od1 g1 bc1 hr1 co1) ++ pB LB B) s.heap.size = A at hD ⊢
  have hA : ∀ q : Nat, s.heap.size ≤ q → A q := fun q h => by rw [← hAe]; exact Or.inr h
  have hS : va_S A s.heap s.heap [] := va_S.rf
  have hl := lv_entry ([.ref aX, .int i_, .int c_]) (n := 4) (Nat.le_of_ble_eq_true rfl)
  rw [lg_entry_eq]
  generalize (lg_sl ([.ref aX, .int i_, .int c_]) ++ List.replicate (4 - (lg_sl ([.ref aX, .int i_, .int c_])).length) Slot.unset).toArray = ls at hl ⊢
  have hl : lv_has ls 4 [(0, .ref aX), (1, .int i_), (2, .int c_)] := hl
  refine lv_iload_n hx hb dX5_setFare_0 rfl (lv_at hl 2 rfl) ?_
  refine lv_if_lt (tgt := 10) hx hb dX5_setFare_1 (by decide) (fun h_1 => ?_) (fun h_1 => ?_)
  · skip
    exact absurd h_1 (vp_ge0 hc)
  · skip
    refine lv_iload_n hx hb dX5_setFare_4 rfl (lv_at hl 2 rfl) ?_
    refine lv_bipush (v := 9) hx hb dX5_setFare_5 (by decide) ?_
    refine lv_icmp_le (tgt := 20) hx hb dX5_setFare_7 (by decide) (fun h_2 => ?_) (fun h_2 => ?_)
    · skip
      refine lv_aload_n hx hb dX5_setFare_20 rfl (lv_at hl 0 rfl) ?_
      refine va_get (D := D) (ci := 5) (v := .ref aT) (C := RX5) (T := TX5) (N := 3) hx hb hts iX5 hown hKK.1 hP 0 rfl rfl 0 (by decide) (hts (.fieldLink RX5 10 "TrolleyGang" "tables" "LTrolleyGang$Tables;") (List.mem_of_getElem? (i := 3) rfl)) (fun _ h9 => h9) rfl dX5_setFare_21 ?_
      refine lv_iload_n hx hb dX5_setFare_24 rfl (lv_at hl 1 rfl) ?_
      have hPc := hP.sub (ws' := (cT cyI aT ac as_ cd sw fd fn)) [1, 2, 3] rfl
      have hDc := hD.sub (ws' := (cT cyI aT ac as_ cd sw fd fn)) [1, 2, 3] (by decide) rfl
      refine ret_iP (W1 := (cT cyI aT ac as_ cd sw fd fn)) (W2 := (cT cyI aT ac as_ cd sw fd fn)) (X1 := cX aX aT aR0 aR1 ++ cT cyI aT ac as_ cd sw fd fn ++ cR cyI cyO aR0 aW0 aw0 af0 aG0 ao0 aB0 ab0 w0 f0 od0 g0 bc0 hr0 co0 ++ cR cyI cyO aR1 aW1 aw1 af1 aG1 ao1 aB1 ab1 w1 f1 od1 g1 bc1 hr1 co1) (r := fareS i_ fd fn) (run_VN (q := (RX3, TX3, 4)) (n := 1) (As := [.int i_]) (rest := []) ⟨hx, hb, hml, hown, hts⟩ (c_X3_fare l D cyI cyO cyL aT ac as_ cd sw fd fn i_ _) ggX5_setFare_X3_fare rfl rfl rfl nq_72 (hts (.initialized RX3) (List.mem_of_getElem? (i := 5) rfl)) (hts (.instanceMethod yX3_fare) (List.mem_of_getElem? (i := 4) rfl)) (hts (.selects RX3 yX3_fare yX3_fare) (List.mem_of_getElem? (i := 6) rfl)) (by decide +kernel) ⟨Nat.le_of_ble_eq_true rfl, Nat.le_of_ble_eq_true rfl⟩ hKK hPc hDc (ci := 3) (q0 := 0) rfl rfl rfl hl.1 rfl (Nat.le_of_ble_eq_true rfl) dX5_setFare_25 ⟨Nat.zero_le _, Nat.zero_le _⟩) hP hD hS hA [1, 2, 3] rfl rfl [(false, 0), (true, 0), (true, 1), (true, 2), (false, 4), (false, 5), (false, 6), (false, 7), (false, 8), (false, 9), (false, 10), (false, 11), (false, 12), (false, 13), (false, 14), (false, 15), (false, 16), (false, 17)] (by decide +kernel) rfl rfl (fun H locs hP hD hS => ?_)
      refine lv_istore_n (lv' := [(3, .int (fareS i_ fd fn)), (0, .ref aX), (1, .int i_), (2, .int c_)]) hx hb dX5_setFare_28 rfl hl (by decide) rfl (fun ls hl => ?_)
      refine lv_iload_n hx hb dX5_setFare_29 rfl (lv_at hl 2 rfl) ?_
      refine lv_if_eq (tgt := 44) hx hb dX5_setFare_30 (by decide) (fun h_3 => ?_) (fun h_3 => ?_)
      · skip
        refine lv_aload_n hx hb dX5_setFare_44 rfl (lv_at hl 1 rfl) ?_
        refine va_get (D := D) (ci := 5) (v := .ref aT) (C := RX5) (T := TX5) (N := 3) hx hb hts iX5 hown hKK.1 hP 0 rfl rfl 0 (by decide) (hts (.fieldLink RX5 10 "TrolleyGang" "tables" "LTrolleyGang$Tables;") (List.mem_of_getElem? (i := 3) rfl)) (fun _ h9 => h9) rfl dX5_setFare_45 ?_
        refine lv_iload_n hx hb dX5_setFare_48 rfl (lv_at hl 3 rfl) ?_
        refine va_putN (D := D) (ci := 3) (v := .int c_) (ty := .int) (C := RX3) (T := TX3) (N := 4) hx hb hts iX3 tyX3 tyX3_ok nmX3 hown hKK.1 hP hD hS 1 rfl rfl 2 (by decide) (nw (w := .fieldLinkNest "TrolleyGang" 59 "TrolleyGang$Tables" "fareByDay" "I" "TrolleyGang") nq_33) (fun _ h9 => h9) rfl (by decide +kernel) rfl rfl (Nat.le_of_ble_eq_true rfl) dX5_setFare_49 (fun H locs hP hD hS => ?_)
        have hP : va_P D vwCl ((cX aX aT aR0 aR1 ++ cT cyI aT ac as_ cd sw c_ fn ++ cR cyI cyO aR0 aW0 aw0 af0 aG0 ao0 aB0 ab0 w0 f0 od0 g0 bc0 hr0 co0 ++ cR cyI cyO aR1 aW1 aw1 af1 aG1 ao1 aB1 ab1 w1 f1 od1 g1 bc1 hr1 co1) ++ pB LB B) H := hP
        have hD : va_D A ((cX aX aT aR0 aR1 ++ cT cyI aT ac as_ cd sw c_ fn ++ cR cyI cyO aR0 aW0 aw0 af0 aG0 ao0 aB0 ab0 w0 f0 od0 g0 bc0 hr0 co0 ++ cR cyI cyO aR1 aW1 aw1 af1 aG1 ao1 aB1 ab1 w1 f1 od1 g1 bc1 hr1 co1) ++ pB LB B) := hD
        refine lv_iload_n hx hb dX5_setFare_52 rfl (lv_at hl 0 rfl) ?_
        have e9 : setFS i_ c_ fd fn = (fareS i_ fd fn, c_, fn) := (by first | with_reducible rfl | (simp only [setFS, h_1, h_2, h_3, if_true, if_false, reduceIte, not_true_eq_false, not_false_eq_true]; done) | (simp [setFS, h_1, h_2, h_3]; done))
        exact end_i hx hb hrt hlocks (by rw [e9]) (by rw [e9]; exact hP) hS dX5_setFare_53
      · skip
        refine lv_aload_n hx hb dX5_setFare_33 rfl (lv_at hl 1 rfl) ?_
        refine va_get (D := D) (ci := 5) (v := .ref aT) (C := RX5) (T := TX5) (N := 3) hx hb hts iX5 hown hKK.1 hP 0 rfl rfl 0 (by decide) (hts (.fieldLink RX5 10 "TrolleyGang" "tables" "LTrolleyGang$Tables;") (List.mem_of_getElem? (i := 3) rfl)) (fun _ h9 => h9) rfl dX5_setFare_34 ?_
        refine lv_iload_n hx hb dX5_setFare_37 rfl (lv_at hl 3 rfl) ?_
        refine va_putN (D := D) (ci := 3) (v := .int c_) (ty := .int) (C := RX3) (T := TX3) (N := 4) hx hb hts iX3 tyX3 tyX3_ok nmX3 hown hKK.1 hP hD hS 1 rfl rfl 3 (by decide) (nw (w := .fieldLinkNest "TrolleyGang" 55 "TrolleyGang$Tables" "fareByNight" "I" "TrolleyGang") nq_34) (fun _ h9 => h9) rfl (by decide +kernel) rfl rfl (Nat.le_of_ble_eq_true rfl) dX5_setFare_38 (fun H locs hP hD hS => ?_)
        have hP : va_P D vwCl ((cX aX aT aR0 aR1 ++ cT cyI aT ac as_ cd sw fd c_ ++ cR cyI cyO aR0 aW0 aw0 af0 aG0 ao0 aB0 ab0 w0 f0 od0 g0 bc0 hr0 co0 ++ cR cyI cyO aR1 aW1 aw1 af1 aG1 ao1 aB1 ab1 w1 f1 od1 g1 bc1 hr1 co1) ++ pB LB B) H := hP
        have hD : va_D A ((cX aX aT aR0 aR1 ++ cT cyI aT ac as_ cd sw fd c_ ++ cR cyI cyO aR0 aW0 aw0 af0 aG0 ao0 aB0 ab0 w0 f0 od0 g0 bc0 hr0 co0 ++ cR cyI cyO aR1 aW1 aw1 af1 aG1 ao1 aB1 ab1 w1 f1 od1 g1 bc1 hr1 co1) ++ pB LB B) := hD
        refine lv_goto (tgt := 52) hx hb dX5_setFare_41 (by decide) ?_
        refine lv_iload_n hx hb dX5_setFare_52 rfl (lv_at hl 0 rfl) ?_
        have e9 : setFS i_ c_ fd fn = (fareS i_ fd fn, fd, c_) := (by first | with_reducible rfl | (simp only [setFS, h_1, h_2, h_3, if_true, if_false, reduceIte, not_true_eq_false, not_false_eq_true]; done) | (simp [setFS, h_1, h_2, h_3]; done))
        exact end_i hx hb hrt hlocks (by rw [e9]) (by rw [e9]; exact hP) hS dX5_setFare_53
    · skip
      exact absurd (vp_lei hc (by omega)) h_2
set_option maxHeartbeats 4000000 in
set_option maxRecDepth 100000 in
theorem c_X5_bus (l : Launch) (D : va_G) (cyI cyO cyL : ClassId) (aX : Nat) (aT : Nat) (aR0 : Nat) (aR1 : Nat) (ac : Nat) (as_ : Nat) (aW0 : Nat) (aw0 : Nat) (af0 : Nat) (aG0 : Nat) (ao0 : Nat) (aB0 : Nat) (aW1 : Nat) (aw1 : Nat) (af1 : Nat) (aG1 : Nat) (ao1 : Nat) (aB1 : Nat) (cd : Nat → Int32) (sw : Nat → Int32) (fd : Int32) (fn : Int32) (ab0 : Nat → Nat) (w0 : Nat → Int32) (f0 : Nat → Int32) (od0 : Nat → Int32) (g0 : Nat → Int32) (bc0 : Int32) (hr0 : Int32) (co0 : Int32) (ab1 : Nat → Nat) (w1 : Nat → Int32) (f1 : Nat → Int32) (od1 : Nat → Int32) (g1 : Nat → Int32) (bc1 : Int32) (hr1 : Int32) (co1 : Int32) (LB : List Nat) (B : Nat → Nat → Int32) (s_ : Int32) (c_ : Int32) (n : Nat) (hs : vp_in s_ 24) (hc : c_ = 0 ∨ c_ = 1) (hbc : bc0 = nI n) (hn : n < 6) (hLB0 : ∀ k, k < 6 → ab0 k ∈ LB) : cI l yX5_bus wsX5_bus ({ frames := 1, cells := 0, slots := 0, locals := 22 }) D cyI cyO cyL [.ref aX, .int s_, .int c_] ((cX aX aT aR0 aR1 ++ cT cyI aT ac as_ cd sw fd fn ++ cR cyI cyO aR0 aW0 aw0 af0 aG0 ao0 aB0 ab0 w0 f0 od0 g0 bc0 hr0 co0 ++ cR cyI cyO aR1 aW1 aw1 af1 aG1 ao1 aB1 ab1 w1 f1 od1 g1 bc1 hr1 co1) ++ pB LB B) ((cX aX aT aR0 aR1 ++ cT cyI aT ac as_ cd sw fd fn ++ cR cyI cyO aR0 aW0 aw0 af0 aG0 ao0 aB0 ab0 w0 f0 od0 g0 (nI (n + 1)) hr0 co0 ++ cR cyI cyO aR1 aW1 aw1 af1 aG1 ao1 aB1 ab1 w1 f1 od1 g1 bc1 hr1 co1) ++ pB LB (comeS B (ab0 n) s_ c_)) (nI n) := by
  intro sz
  refine Met.ofW (cc := cX5_bus) (maxL := 4) (ret := (some .int)) (by decide) rfl ?_
  intro p e s m args below meth c s₁ B9 hml hv
  obtain ⟨rfl, hsz, hP, hKK, hD0⟩ := hv
  have hx := B9.exec
  have hb := B9.bytes
  have hrt := B9.returns
  have hts := atoms_spec (ws := wsX5_bus) B9.pre
  have hown : s.vm.findClass RX5 = some m.cls := findClass_of_methodNamed B9.named
  have hlocks := B9.notSynchronized
  have nw := fun {w : Cond} (h : w ∈ nw_all) => NW.use (args := ([.ref aX, .int s_, .int c_] : List Value).toArray) hKK.2 h
  have iX2 : ∀ w ∈ wsX20, w ∈ wsX5_bus := fun _ h => List.mem_cons_of_mem _ (List.mem_append_left _ (List.mem_append_left _ (List.mem_append_left _ (List.mem_append_right _ h))))
  have iX5 : ∀ w ∈ wsX50, w ∈ wsX5_bus := fun _ h => List.mem_cons_of_mem _ (List.mem_append_left _ (List.mem_append_left _ (List.mem_append_left _ (List.mem_append_left _ (List.mem_append_right _ h)))))
  subst hsz
  have hD := hD0.self (sz := s.heap.size)
  generalize hAe : va_A ((cX aX aT aR0 aR1 ++ cT cyI aT ac as_ cd sw fd fn ++ cR cyI cyO aR0 aW0 aw0 af0 aG0 ao0 aB0 ab0 w0 f0 od0 g0 bc0 hr0 co0 ++ cR cyI cyO aR1 aW1 aw1 af1 aG1 ao1 aB1 ab1 w1 f1 od1 g1 bc1 hr1 co1) ++ pB LB B) s.heap.size = A at hD ⊢
  have hA : ∀ q : Nat, s.heap.size ≤ q → A q := fun q h => by rw [← hAe]; exact Or.inr h
  have hS : va_S A s.heap s.heap [] := va_S.rf
  have hl := lv_entry ([.ref aX, .int s_, .int c_]) (n := 4) (Nat.le_of_ble_eq_true rfl)
  rw [lg_entry_eq]
  generalize (lg_sl ([.ref aX, .int s_, .int c_]) ++ List.replicate (4 - (lg_sl ([.ref aX, .int s_, .int c_])).length) Slot.unset).toArray = ls at hl ⊢
  have hl : lv_has ls 4 [(0, .ref aX), (1, .int s_), (2, .int c_)] := hl
  refine lv_iload_n hx hb dX5_bus_0 rfl (lv_at hl 1 rfl) ?_
  have hPc := hP.sub (ws' := ([] : va_W)) [] rfl
  have hDc := hD.sub (ws' := ([] : va_W)) [] (by decide) rfl
  refine ret_vP (W1 := ([] : va_W)) (W2 := ([] : va_W)) (X1 := cX aX aT aR0 aR1 ++ cT cyI aT ac as_ cd sw fd fn ++ cR cyI cyO aR0 aW0 aw0 af0 aG0 ao0 aB0 ab0 w0 f0 od0 g0 bc0 hr0 co0 ++ cR cyI cyO aR1 aW1 aw1 af1 aG1 ao1 aB1 ab1 w1 f1 od1 g1 bc1 hr1 co1) (run_S (n := 1) (As := [.int s_]) (rest := []) ⟨hx, hb, hml, hown, hts⟩ (c_X5_checkSpan l D cyI cyO cyL s_ hs _) ggX5_bus_X5_checkSpan rfl rfl rfl (hts (.methodLink RX5 62 yX5_checkSpan) (List.mem_of_getElem? (i := 4) rfl)) (hts (.initialized RX5) (List.mem_of_getElem? (i := 6) rfl)) (hts (.static yX5_checkSpan) (List.mem_of_getElem? (i := 5) rfl)) (by decide +kernel) ⟨Nat.le_of_ble_eq_true rfl, Nat.le_of_ble_eq_true rfl⟩ hKK hPc hDc rfl hl.1 rfl (Nat.le_of_ble_eq_true rfl) dX5_bus_1 ⟨Nat.zero_le _, Nat.zero_le _⟩) hP hD hS hA [] rfl rfl [(false, 0), (false, 1), (false, 2), (false, 3), (false, 4), (false, 5), (false, 6), (false, 7), (false, 8), (false, 9), (false, 10), (false, 11), (false, 12), (false, 13), (false, 14), (false, 15), (false, 16), (false, 17)] (by decide +kernel) rfl rfl (fun H locs hP hD hS => ?_)
  refine lv_aload_n hx hb dX5_bus_4 rfl (lv_at hl 0 rfl) ?_
  refine va_get (D := D) (ci := 5) (v := .ref aR0) (C := RX5) (T := TX5) (N := 3) hx hb hts iX5 hown hKK.1 hP 0 rfl rfl 1 (by decide) (hts (.fieldLink RX5 19 "TrolleyGang" "now" "LTrolleyGang$Ring;") (List.mem_of_getElem? (i := 3) rfl)) (fun _ h9 => h9) rfl dX5_bus_5 ?_
  refine va_getN (D := D) (ci := 2) (v := .int bc0) (C := RX2) (T := TX2) (N := 6) hx hb hts iX2 hown hKK.1 hP 4 rfl rfl 3 (by decide) (nw (w := .fieldLinkNest "TrolleyGang" 66 "TrolleyGang$Ring" "busCount" "I" "TrolleyGang") nq_70) (fun _ h9 => h9) rfl dX5_bus_8 ?_
  refine lv_tope (y := nI n) hbc ?_
  refine lv_bipush (v := 6) hx hb dX5_bus_11 (by decide) ?_
  refine lv_icmp_lt (tgt := 26) hx hb dX5_bus_13 (by decide) (fun h_1 => ?_) (fun h_1 => ?_)
  · skip
    refine lv_aload_n hx hb dX5_bus_26 rfl (lv_at hl 0 rfl) ?_
    refine va_get (D := D) (ci := 5) (v := .ref aR0) (C := RX5) (T := TX5) (N := 3) hx hb hts iX5 hown hKK.1 hP 0 rfl rfl 1 (by decide) (hts (.fieldLink RX5 19 "TrolleyGang" "now" "LTrolleyGang$Ring;") (List.mem_of_getElem? (i := 3) rfl)) (fun _ h9 => h9) rfl dX5_bus_27 ?_
    refine va_getN (D := D) (ci := 2) (v := .int bc0) (C := RX2) (T := TX2) (N := 6) hx hb hts iX2 hown hKK.1 hP 4 rfl rfl 3 (by decide) (nw (w := .fieldLinkNest "TrolleyGang" 66 "TrolleyGang$Ring" "busCount" "I" "TrolleyGang") nq_70) (fun _ h9 => h9) rfl dX5_bus_30 ?_
    refine lv_tope (y := nI n) hbc ?_
    refine lv_istore_n (lv' := [(3, .int (nI n)), (0, .ref aX), (1, .int s_), (2, .int c_)]) hx hb dX5_bus_33 rfl hl (by decide) rfl (fun ls hl => ?_)
    refine lv_aload_n hx hb dX5_bus_34 rfl (lv_at hl 1 rfl) ?_
    refine va_get (D := D) (ci := 5) (v := .ref aR0) (C := RX5) (T := TX5) (N := 3) hx hb hts iX5 hown hKK.1 hP 0 rfl rfl 1 (by decide) (hts (.fieldLink RX5 19 "TrolleyGang" "now" "LTrolleyGang$Ring;") (List.mem_of_getElem? (i := 3) rfl)) (fun _ h9 => h9) rfl dX5_bus_35 ?_
    refine va_getN (D := D) (ci := 2) (v := .ref aB0) (C := RX2) (T := TX2) (N := 6) hx hb hts iX2 hown hKK.1 hP 4 rfl rfl 2 (by decide) (nw (w := .fieldLinkNest "TrolleyGang" 74 "TrolleyGang$Ring" "buses" "[LTrolleyGang$Bus;" "TrolleyGang") nq_69) (fun _ h9 => h9) rfl dX5_bus_38 ?_
    refine lv_iload_n hx hb dX5_bus_41 rfl (lv_at hl 0 rfl) ?_
    refine va_aldq hx hb hKK.1 hP 10 1 rfl rfl (hin := (vp_in_nI (show n < 6 by omega) (by omega))) dX5_bus_42 ?_
    refine lv_topv (y := .ref (ab0 n)) (by rw [nI_clamp (by omega)]; rfl) ?_
    refine lv_iload_n hx hb dX5_bus_43 rfl (lv_at hl 2 rfl) ?_
    refine lv_iload_n hx hb dX5_bus_44 rfl (lv_at hl 3 rfl) ?_
    have hPc := hP.part (cx := ([] : va_W)) [] rfl
    have hDc := hD.part (cx := ([] : va_W)) [] (by decide) rfl
    obtain ⟨q9, hq9⟩ := va_pl_get (X := ([] : va_W)) (f := bE B) (hLB0 n (by omega))
    refine ret_vB (cx := ([] : va_W)) (cx' := ([] : va_W)) (pl' := pB LB (comeS B (ab0 n) s_ c_)) (X1 := cX aX aT aR0 aR1 ++ cT cyI aT ac as_ cd sw fd fn ++ cR cyI cyO aR0 aW0 aw0 af0 aG0 ao0 aB0 ab0 w0 f0 od0 g0 bc0 hr0 co0 ++ cR cyI cyO aR1 aW1 aw1 af1 aG1 ao1 aB1 ab1 w1 f1 od1 g1 bc1 hr1 co1) (run_VN (q := (RX0, TX0, 6)) (n := 2) (As := [.int s_, .int c_]) (rest := []) ⟨hx, hb, hml, hown, hts⟩ (c_X0_come l D cyI cyO cyL LB B (ab0 n) s_ c_ (hLB0 n (by omega)) hc _) ggX5_bus_X0_come rfl rfl rfl nq_73 (hts (.initialized RX0) (List.mem_of_getElem? (i := 11) rfl)) (hts (.instanceMethod yX0_come) (List.mem_of_getElem? (i := 10) rfl)) (hts (.selects RX0 yX0_come yX0_come) (List.mem_of_getElem? (i := 12) rfl)) (by decide +kernel) ⟨Nat.le_of_ble_eq_true rfl, Nat.le_of_ble_eq_true rfl⟩ hKK hPc hDc (ci := 0) (q0 := q9) rfl hq9 rfl hl.1 rfl (Nat.le_of_ble_eq_true rfl) dX5_bus_45 ⟨Nat.zero_le _, Nat.zero_le _⟩) hP hD hS hA [] (by decide) rfl rfl pB_fst [(false, 0), (false, 1), (false, 2), (false, 3), (false, 4), (false, 5), (false, 6), (false, 7), (false, 8), (false, 9), (false, 10), (false, 11), (false, 12), (false, 13), (false, 14), (false, 15), (false, 16), (false, 17)] (by decide +kernel) rfl rfl (fun H locs hP hD hS => ?_)
    refine lv_aload_n hx hb dX5_bus_48 rfl (lv_at hl 1 rfl) ?_
    refine va_get (D := D) (ci := 5) (v := .ref aR0) (C := RX5) (T := TX5) (N := 3) hx hb hts iX5 hown hKK.1 hP 0 rfl rfl 1 (by decide) (hts (.fieldLink RX5 19 "TrolleyGang" "now" "LTrolleyGang$Ring;") (List.mem_of_getElem? (i := 3) rfl)) (fun _ h9 => h9) rfl dX5_bus_49 ?_
    refine lv_dup hx hb dX5_bus_52 rfl ?_
    refine va_getN (D := D) (ci := 2) (v := .int bc0) (C := RX2) (T := TX2) (N := 6) hx hb hts iX2 hown hKK.1 hP 4 rfl rfl 3 (by decide) (nw (w := .fieldLinkNest "TrolleyGang" 66 "TrolleyGang$Ring" "busCount" "I" "TrolleyGang") nq_70) (fun _ h9 => h9) rfl dX5_bus_53 ?_
    refine lv_tope (y := nI n) hbc ?_
    refine lv_iconst (v := 1) hx hb dX5_bus_56 (by decide) ?_
    refine lv_iadd hx hb dX5_bus_57 ?_
    refine lv_tope (y := nI (n + 1)) (nI_1 n) ?_
    refine va_putN (D := D) (ci := 2) (v := .int (nI (n + 1))) (ty := .int) (C := RX2) (T := TX2) (N := 6) hx hb hts iX2 tyX2 tyX2_ok nmX2 hown hKK.1 hP hD hS 4 rfl rfl 3 (by decide) (nw (w := .fieldLinkNest "TrolleyGang" 66 "TrolleyGang$Ring" "busCount" "I" "TrolleyGang") nq_70) (fun _ h9 => h9) rfl (by decide +kernel) rfl rfl (Nat.le_of_ble_eq_true rfl) dX5_bus_58 (fun H locs hP hD hS => ?_)
    have hP : va_P D vwCl ((cX aX aT aR0 aR1 ++ cT cyI aT ac as_ cd sw fd fn ++ cR cyI cyO aR0 aW0 aw0 af0 aG0 ao0 aB0 ab0 w0 f0 od0 g0 (nI (n + 1)) hr0 co0 ++ cR cyI cyO aR1 aW1 aw1 af1 aG1 ao1 aB1 ab1 w1 f1 od1 g1 bc1 hr1 co1) ++ pB LB (comeS B (ab0 n) s_ c_)) H := hP
    have hD : va_D A ((cX aX aT aR0 aR1 ++ cT cyI aT ac as_ cd sw fd fn ++ cR cyI cyO aR0 aW0 aw0 af0 aG0 ao0 aB0 ab0 w0 f0 od0 g0 (nI (n + 1)) hr0 co0 ++ cR cyI cyO aR1 aW1 aw1 af1 aG1 ao1 aB1 ab1 w1 f1 od1 g1 bc1 hr1 co1) ++ pB LB (comeS B (ab0 n) s_ c_)) := hD
    refine lv_iload_n hx hb dX5_bus_61 rfl (lv_at hl 0 rfl) ?_
    exact end_i hx hb hrt hlocks rfl hP hS dX5_bus_62
  · skip
    exact absurd (nI_lt hn (by omega) : nI n < nI 6) h_1
set_option maxHeartbeats 4000000 in
set_option maxRecDepth 100000 in
theorem c_X5_park (l : Launch) (D : va_G) (cyI cyO cyL : ClassId) (aX : Nat) (aT : Nat) (aR0 : Nat) (aR1 : Nat) (ac : Nat) (as_ : Nat) (aW0 : Nat) (aw0 : Nat) (af0 : Nat) (aG0 : Nat) (ao0 : Nat) (aB0 : Nat) (aW1 : Nat) (aw1 : Nat) (af1 : Nat) (aG1 : Nat) (ao1 : Nat) (aB1 : Nat) (cd : Nat → Int32) (sw : Nat → Int32) (fd : Int32) (fn : Int32) (ab0 : Nat → Nat) (w0 : Nat → Int32) (f0 : Nat → Int32) (od0 : Nat → Int32) (g0 : Nat → Int32) (bc0 : Int32) (hr0 : Int32) (co0 : Int32) (ab1 : Nat → Nat) (w1 : Nat → Int32) (f1 : Nat → Int32) (od1 : Nat → Int32) (g1 : Nat → Int32) (bc1 : Int32) (hr1 : Int32) (co1 : Int32) (LB : List Nat) (B : Nat → Nat → Int32) (b_ : Int32) (h0 : ¬ b_ < 0) (h1 : b_ < bc0) (hib : vp_in b_ 6) (hLB0 : ∀ k, k < 6 → ab0 k ∈ LB) : cI l yX5_park wsX5_park ({ frames := 1, cells := 0, slots := 0, locals := 21 }) D cyI cyO cyL [.ref aX, .int b_] ((cX aX aT aR0 aR1 ++ cT cyI aT ac as_ cd sw fd fn ++ cR cyI cyO aR0 aW0 aw0 af0 aG0 ao0 aB0 ab0 w0 f0 od0 g0 bc0 hr0 co0 ++ cR cyI cyO aR1 aW1 aw1 af1 aG1 ao1 aB1 ab1 w1 f1 od1 g1 bc1 hr1 co1) ++ pB LB B) ((cX aX aT aR0 aR1 ++ cT cyI aT ac as_ cd sw fd fn ++ cR cyI cyO aR0 aW0 aw0 af0 aG0 ao0 aB0 ab0 w0 f0 od0 g0 bc0 hr0 co0 ++ cR cyI cyO aR1 aW1 aw1 af1 aG1 ao1 aB1 ab1 w1 f1 od1 g1 bc1 hr1 co1) ++ pB LB ((pkS B (ab0 b_.toNatClampNeg)).2)) ((pkS B (ab0 b_.toNatClampNeg)).1) := by
  intro sz
  refine Met.ofW (cc := cX5_park) (maxL := 3) (ret := (some .boolean)) (by decide) rfl ?_
  intro p e s m args below meth c s₁ B9 hml hv
  obtain ⟨rfl, hsz, hP, hKK, hD0⟩ := hv
  have hx := B9.exec
  have hb := B9.bytes
  have hrt := B9.returns
  have hts := atoms_spec (ws := wsX5_park) B9.pre
  have hown : s.vm.findClass RX5 = some m.cls := findClass_of_methodNamed B9.named
  have hlocks := B9.notSynchronized
  have nw := fun {w : Cond} (h : w ∈ nw_all) => NW.use (args := ([.ref aX, .int b_] : List Value).toArray) hKK.2 h
  have iX0 : ∀ w ∈ wsX00, w ∈ wsX5_park := fun _ h => List.mem_cons_of_mem _ (List.mem_append_left _ (List.mem_append_right _ h))
  have iX2 : ∀ w ∈ wsX20, w ∈ wsX5_park := fun _ h => List.mem_cons_of_mem _ (List.mem_append_left _ (List.mem_append_left _ (List.mem_append_right _ h)))
  have iX5 : ∀ w ∈ wsX50, w ∈ wsX5_park := fun _ h => List.mem_cons_of_mem _ (List.mem_append_left _ (List.mem_append_left _ (List.mem_append_left _ (List.mem_append_right _ h))))
  subst hsz
  have hD := hD0.self (sz := s.heap.size)
  generalize hAe : va_A ((cX aX aT aR0 aR1 ++ cT cyI aT ac as_ cd sw fd fn ++ cR cyI cyO aR0 aW0 aw0 af0 aG0 ao0 aB0 ab0 w0 f0 od0 g0 bc0 hr0 co0 ++ cR cyI cyO aR1 aW1 aw1 af1 aG1 ao1 aB1 ab1 w1 f1 od1 g1 bc1 hr1 co1) ++ pB LB B) s.heap.size = A at hD ⊢
  have hA : ∀ q : Nat, s.heap.size ≤ q → A q := fun q h => by rw [← hAe]; exact Or.inr h
  have hS : va_S A s.heap s.heap [] := va_S.rf
  have hl := lv_entry ([.ref aX, .int b_]) (n := 3) (Nat.le_of_ble_eq_true rfl)
  rw [lg_entry_eq]
  generalize (lg_sl ([.ref aX, .int b_]) ++ List.replicate (3 - (lg_sl ([.ref aX, .int b_])).length) Slot.unset).toArray = ls at hl ⊢
  have hl : lv_has ls 3 [(0, .ref aX), (1, .int b_)] := hl
  refine lv_aload_n hx hb dX5_park_0 rfl (lv_at hl 0 rfl) ?_
  refine lv_iload_n hx hb dX5_park_1 rfl (lv_at hl 1 rfl) ?_
  have hPc := hP.sub (ws' := (cX aX aT aR0 aR1 ++ cR cyI cyO aR0 aW0 aw0 af0 aG0 ao0 aB0 ab0 w0 f0 od0 g0 bc0 hr0 co0)) [0, 4, 5, 6, 7, 8, 9, 10] rfl
  have hDc := hD.sub (ws' := (cX aX aT aR0 aR1 ++ cR cyI cyO aR0 aW0 aw0 af0 aG0 ao0 aB0 ab0 w0 f0 od0 g0 bc0 hr0 co0)) [0, 4, 5, 6, 7, 8, 9, 10] (by decide) rfl
  refine ret_vP (W1 := (cX aX aT aR0 aR1 ++ cR cyI cyO aR0 aW0 aw0 af0 aG0 ao0 aB0 ab0 w0 f0 od0 g0 bc0 hr0 co0)) (W2 := (cX aX aT aR0 aR1 ++ cR cyI cyO aR0 aW0 aw0 af0 aG0 ao0 aB0 ab0 w0 f0 od0 g0 bc0 hr0 co0)) (X1 := cX aX aT aR0 aR1 ++ cT cyI aT ac as_ cd sw fd fn ++ cR cyI cyO aR0 aW0 aw0 af0 aG0 ao0 aB0 ab0 w0 f0 od0 g0 bc0 hr0 co0 ++ cR cyI cyO aR1 aW1 aw1 af1 aG1 ao1 aB1 ab1 w1 f1 od1 g1 bc1 hr1 co1) (run_V (q := (RX5, TX5, 3)) (n := 1) (As := [.int b_]) (rest := []) ⟨hx, hb, hml, hown, hts⟩ (c_X5_checkBus l D cyI cyO cyL aX aT aR0 aR1 aW0 aw0 af0 aG0 ao0 aB0 ab0 w0 f0 od0 g0 bc0 hr0 co0 b_ h0 h1 _) ggX5_park_X5_checkBus rfl rfl rfl (hts (.methodLink RX5 84 yX5_checkBus) (List.mem_of_getElem? (i := 2) rfl)) (hts (.initialized RX5) (List.mem_of_getElem? (i := 5) rfl)) (hts (.instanceMethod yX5_checkBus) (List.mem_of_getElem? (i := 3) rfl)) (hts (.selects RX5 yX5_checkBus yX5_checkBus) (List.mem_of_getElem? (i := 4) rfl)) (by decide +kernel) ⟨Nat.le_of_ble_eq_true rfl, Nat.le_of_ble_eq_true rfl⟩ hKK hPc hDc (ci := 5) (q0 := 0) rfl rfl rfl hl.1 rfl (Nat.le_of_ble_eq_true rfl) dX5_park_2 ⟨Nat.zero_le _, Nat.zero_le _⟩) hP hD hS hA [0, 4, 5, 6, 7, 8, 9, 10] rfl rfl [(true, 0), (false, 1), (false, 2), (false, 3), (true, 1), (true, 2), (true, 3), (true, 4), (true, 5), (true, 6), (true, 7), (false, 11), (false, 12), (false, 13), (false, 14), (false, 15), (false, 16), (false, 17)] (by decide +kernel) rfl rfl (fun H locs hP hD hS => ?_)
  refine lv_aload_n hx hb dX5_park_5 rfl (lv_at hl 0 rfl) ?_
  refine va_get (D := D) (ci := 5) (v := .ref aR0) (C := RX5) (T := TX5) (N := 3) hx hb hts iX5 hown hKK.1 hP 0 rfl rfl 1 (by decide) (hts (.fieldLink RX5 19 "TrolleyGang" "now" "LTrolleyGang$Ring;") (List.mem_of_getElem? (i := 1) rfl)) (fun _ h9 => h9) rfl dX5_park_6 ?_
  refine va_getN (D := D) (ci := 2) (v := .ref aB0) (C := RX2) (T := TX2) (N := 6) hx hb hts iX2 hown hKK.1 hP 4 rfl rfl 2 (by decide) (nw (w := .fieldLinkNest "TrolleyGang" 74 "TrolleyGang$Ring" "buses" "[LTrolleyGang$Bus;" "TrolleyGang") nq_69) (fun _ h9 => h9) rfl dX5_park_9 ?_
  refine lv_iload_n hx hb dX5_park_12 rfl (lv_at hl 1 rfl) ?_
  refine va_aldq hx hb hKK.1 hP 10 1 rfl rfl (hin := hib) dX5_park_13 ?_
  refine lv_topv (y := .ref (ab0 b_.toNatClampNeg)) rfl ?_
  refine lv_astore_n (lv' := [(2, .ref (ab0 b_.toNatClampNeg)), (0, .ref aX), (1, .int b_)]) hx hb dX5_park_14 rfl hl (by decide) rfl (fun ls hl => ?_)
  refine lv_aload_n hx hb dX5_park_15 rfl (lv_at hl 0 rfl) ?_
  refine lv_aload_n hx hb dX5_park_16 rfl (lv_at hl 0 rfl) ?_
  refine bus_getN hx hb hts iX0 hown hKK hP (hLB0 b_.toNatClampNeg (vp_lt hib)) 2 (by decide) (nw (w := .fieldLinkNest "TrolleyGang" 96 "TrolleyGang$Bus" "runs" "Z" "TrolleyGang") nq_60) (fun _ h9 => h9) dX5_park_17 ?_
  refine lv_if_ne (tgt := 27) hx hb dX5_park_20 (by decide) (fun h_1 => ?_) (fun h_1 => ?_)
  · skip
    refine lv_iconst (v := 0) hx hb dX5_park_27 (by decide) ?_
    refine bus_putN hx hb hts iX0 hown hKK hP hD hS (hLB0 b_.toNatClampNeg (vp_lt hib)) 2 (by decide) (nw (w := .fieldLinkNest "TrolleyGang" 96 "TrolleyGang$Bus" "runs" "Z" "TrolleyGang") nq_60) (fun _ h9 => h9) rfl (ty := .boolean) (v := 0) (by decide +kernel) (nar01 (by first | exact Or.inl rfl | exact Or.inr rfl)) (fit01 (by first | exact Or.inl rfl | exact Or.inr rfl)) dX5_park_28 (fun H locs hP hD hS => ?_)
    have hP : va_P D vwCl ((cX aX aT aR0 aR1 ++ cT cyI aT ac as_ cd sw fd fn ++ cR cyI cyO aR0 aW0 aw0 af0 aG0 ao0 aB0 ab0 w0 f0 od0 g0 bc0 hr0 co0 ++ cR cyI cyO aR1 aW1 aw1 af1 aG1 ao1 aB1 ab1 w1 f1 od1 g1 bc1 hr1 co1) ++ pB LB (up2 B (ab0 b_.toNatClampNeg) 2 0)) H := hP
    have hD : va_D A ((cX aX aT aR0 aR1 ++ cT cyI aT ac as_ cd sw fd fn ++ cR cyI cyO aR0 aW0 aw0 af0 aG0 ao0 aB0 ab0 w0 f0 od0 g0 bc0 hr0 co0 ++ cR cyI cyO aR1 aW1 aw1 af1 aG1 ao1 aB1 ab1 w1 f1 od1 g1 bc1 hr1 co1) ++ pB LB (up2 B (ab0 b_.toNatClampNeg) 2 0)) := hD
    refine lv_aload_n hx hb dX5_park_31 rfl (lv_at hl 0 rfl) ?_
    refine bus_getN hx hb hts iX0 hown hKK hP (hLB0 b_.toNatClampNeg (vp_lt hib)) 2 (by decide) (nw (w := .fieldLinkNest "TrolleyGang" 96 "TrolleyGang$Bus" "runs" "Z" "TrolleyGang") nq_60) (fun _ h9 => h9) dX5_park_32 ?_
    refine lv_tope (y := 0) (by simp [up2]) ?_
    have e9 : pkS B (ab0 b_.toNatClampNeg) = (0, (up2 B (ab0 b_.toNatClampNeg) 2 0)) := (by first | with_reducible rfl | (simp only [pkS, pkI, h_1, if_true, if_false, reduceIte, not_true_eq_false, not_false_eq_true]; done) | (simp [pkS, pkI, h_1]; done))
    exact end_z hx hb hrt hlocks (by first | exact Or.inl rfl | exact Or.inr rfl) (by rw [e9]) (by rw [e9]; exact hP) hS dX5_park_35
  · skip
    refine lv_iconst (v := 1) hx hb dX5_park_23 (by decide) ?_
    refine lv_goto (tgt := 28) hx hb dX5_park_24 (by decide) ?_
    refine bus_putN hx hb hts iX0 hown hKK hP hD hS (hLB0 b_.toNatClampNeg (vp_lt hib)) 2 (by decide) (nw (w := .fieldLinkNest "TrolleyGang" 96 "TrolleyGang$Bus" "runs" "Z" "TrolleyGang") nq_60) (fun _ h9 => h9) rfl (ty := .boolean) (v := 1) (by decide +kernel) (nar01 (by first | exact Or.inl rfl | exact Or.inr rfl)) (fit01 (by first | exact Or.inl rfl | exact Or.inr rfl)) dX5_park_28 (fun H locs hP hD hS => ?_)
    have hP : va_P D vwCl ((cX aX aT aR0 aR1 ++ cT cyI aT ac as_ cd sw fd fn ++ cR cyI cyO aR0 aW0 aw0 af0 aG0 ao0 aB0 ab0 w0 f0 od0 g0 bc0 hr0 co0 ++ cR cyI cyO aR1 aW1 aw1 af1 aG1 ao1 aB1 ab1 w1 f1 od1 g1 bc1 hr1 co1) ++ pB LB (up2 B (ab0 b_.toNatClampNeg) 2 1)) H := hP
    have hD : va_D A ((cX aX aT aR0 aR1 ++ cT cyI aT ac as_ cd sw fd fn ++ cR cyI cyO aR0 aW0 aw0 af0 aG0 ao0 aB0 ab0 w0 f0 od0 g0 bc0 hr0 co0 ++ cR cyI cyO aR1 aW1 aw1 af1 aG1 ao1 aB1 ab1 w1 f1 od1 g1 bc1 hr1 co1) ++ pB LB (up2 B (ab0 b_.toNatClampNeg) 2 1)) := hD
    refine lv_aload_n hx hb dX5_park_31 rfl (lv_at hl 0 rfl) ?_
    refine bus_getN hx hb hts iX0 hown hKK hP (hLB0 b_.toNatClampNeg (vp_lt hib)) 2 (by decide) (nw (w := .fieldLinkNest "TrolleyGang" 96 "TrolleyGang$Bus" "runs" "Z" "TrolleyGang") nq_60) (fun _ h9 => h9) dX5_park_32 ?_
    refine lv_tope (y := 1) (by simp [up2]) ?_
    have e9 : pkS B (ab0 b_.toNatClampNeg) = (1, (up2 B (ab0 b_.toNatClampNeg) 2 1)) := (by first | with_reducible rfl | (simp only [pkS, pkI, h_1, if_true, if_false, reduceIte, not_true_eq_false, not_false_eq_true]; done) | (simp [pkS, pkI, h_1]; done))
    exact end_z hx hb hrt hlocks (by first | exact Or.inl rfl | exact Or.inr rfl) (by rw [e9]) (by rw [e9]; exact hP) hS dX5_park_35
set_option maxHeartbeats 4000000 in
set_option maxRecDepth 100000 in
theorem c_X5_told (l : Launch) (D : va_G) (cyI cyO cyL : ClassId) (aX : Nat) (aT : Nat) (aR0 : Nat) (aR1 : Nat) (ac : Nat) (as_ : Nat) (aW0 : Nat) (aw0 : Nat) (af0 : Nat) (aG0 : Nat) (ao0 : Nat) (aB0 : Nat) (aW1 : Nat) (aw1 : Nat) (af1 : Nat) (aG1 : Nat) (ao1 : Nat) (aB1 : Nat) (cd : Nat → Int32) (sw : Nat → Int32) (fd : Int32) (fn : Int32) (ab0 : Nat → Nat) (w0 : Nat → Int32) (f0 : Nat → Int32) (od0 : Nat → Int32) (g0 : Nat → Int32) (bc0 : Int32) (hr0 : Int32) (co0 : Int32) (ab1 : Nat → Nat) (w1 : Nat → Int32) (f1 : Nat → Int32) (od1 : Nat → Int32) (g1 : Nat → Int32) (bc1 : Int32) (hr1 : Int32) (co1 : Int32) (LB : List Nat) (B : Nat → Nat → Int32) (b_ : Int32) (x_ : Int32) (h0 : ¬ b_ < 0) (h1 : b_ < bc0) (hib : vp_in b_ 6) (hLB0 : ∀ k, k < 6 → ab0 k ∈ LB) (hB : OkB B) (hx0 : ¬ x_ < 0) (hx1 : x_ < 7) : cI l yX5_told wsX5_told ({ frames := 2, cells := 0, slots := 0, locals := 43 }) D cyI cyO cyL [.ref aX, .int b_, .int x_] ((cX aX aT aR0 aR1 ++ cT cyI aT ac as_ cd sw fd fn ++ cR cyI cyO aR0 aW0 aw0 af0 aG0 ao0 aB0 ab0 w0 f0 od0 g0 bc0 hr0 co0 ++ cR cyI cyO aR1 aW1 aw1 af1 aG1 ao1 aB1 ab1 w1 f1 od1 g1 bc1 hr1 co1) ++ pB LB B) ((cX aX aT aR0 aR1 ++ cT cyI aT ac as_ cd sw fd fn ++ cR cyI cyO aR0 aW0 aw0 af0 aG0 ao0 aB0 ab0 w0 f0 od0 g0 bc0 hr0 co0 ++ cR cyI cyO aR1 aW1 aw1 af1 aG1 ao1 aB1 ab1 w1 f1 od1 g1 bc1 hr1 co1) ++ pB LB B) (toldS x_ B (ab0 b_.toNatClampNeg) w0) := by
  intro sz
  refine Met.ofW (cc := cX5_told) (maxL := 4) (ret := (some .int)) (by decide) rfl ?_
  intro p e s m args below meth c s₁ B9 hml hv
  obtain ⟨rfl, hsz, hP, hKK, hD0⟩ := hv
  have hx := B9.exec
  have hb := B9.bytes
  have hrt := B9.returns
  have hts := atoms_spec (ws := wsX5_told) B9.pre
  have hown : s.vm.findClass RX5 = some m.cls := findClass_of_methodNamed B9.named
  have hlocks := B9.notSynchronized
  have nw := fun {w : Cond} (h : w ∈ nw_all) => NW.use (args := ([.ref aX, .int b_, .int x_] : List Value).toArray) hKK.2 h
  have iX0 : ∀ w ∈ wsX00, w ∈ wsX5_told := fun _ h => List.mem_cons_of_mem _ (List.mem_append_left _ (List.mem_append_left _ (List.mem_append_right _ h)))
  have iX2 : ∀ w ∈ wsX20, w ∈ wsX5_told := fun _ h => List.mem_cons_of_mem _ (List.mem_append_left _ (List.mem_append_left _ (List.mem_append_left _ (List.mem_append_right _ h))))
  have iX5 : ∀ w ∈ wsX50, w ∈ wsX5_told := fun _ h => List.mem_cons_of_mem _ (List.mem_append_left _ (List.mem_append_left _ (List.mem_append_left _ (List.mem_append_left _ (List.mem_append_right _ h)))))
  subst hsz
  have hD := hD0.self (sz := s.heap.size)
  generalize hAe : va_A ((cX aX aT aR0 aR1 ++ cT cyI aT ac as_ cd sw fd fn ++ cR cyI cyO aR0 aW0 aw0 af0 aG0 ao0 aB0 ab0 w0 f0 od0 g0 bc0 hr0 co0 ++ cR cyI cyO aR1 aW1 aw1 af1 aG1 ao1 aB1 ab1 w1 f1 od1 g1 bc1 hr1 co1) ++ pB LB B) s.heap.size = A at hD ⊢
  have hA : ∀ q : Nat, s.heap.size ≤ q → A q := fun q h => by rw [← hAe]; exact Or.inr h
  have hS : va_S A s.heap s.heap [] := va_S.rf
  have hl := lv_entry ([.ref aX, .int b_, .int x_]) (n := 4) (Nat.le_of_ble_eq_true rfl)
  rw [lg_entry_eq]
  generalize (lg_sl ([.ref aX, .int b_, .int x_]) ++ List.replicate (4 - (lg_sl ([.ref aX, .int b_, .int x_])).length) Slot.unset).toArray = ls at hl ⊢
  have hl : lv_has ls 4 [(0, .ref aX), (1, .int b_), (2, .int x_)] := hl
  refine lv_aload_n hx hb dX5_told_0 rfl (lv_at hl 0 rfl) ?_
  refine lv_iload_n hx hb dX5_told_1 rfl (lv_at hl 1 rfl) ?_
  have hPc := hP.sub (ws' := (cX aX aT aR0 aR1 ++ cR cyI cyO aR0 aW0 aw0 af0 aG0 ao0 aB0 ab0 w0 f0 od0 g0 bc0 hr0 co0)) [0, 4, 5, 6, 7, 8, 9, 10] rfl
  have hDc := hD.sub (ws' := (cX aX aT aR0 aR1 ++ cR cyI cyO aR0 aW0 aw0 af0 aG0 ao0 aB0 ab0 w0 f0 od0 g0 bc0 hr0 co0)) [0, 4, 5, 6, 7, 8, 9, 10] (by decide) rfl
  refine ret_vP (W1 := (cX aX aT aR0 aR1 ++ cR cyI cyO aR0 aW0 aw0 af0 aG0 ao0 aB0 ab0 w0 f0 od0 g0 bc0 hr0 co0)) (W2 := (cX aX aT aR0 aR1 ++ cR cyI cyO aR0 aW0 aw0 af0 aG0 ao0 aB0 ab0 w0 f0 od0 g0 bc0 hr0 co0)) (X1 := cX aX aT aR0 aR1 ++ cT cyI aT ac as_ cd sw fd fn ++ cR cyI cyO aR0 aW0 aw0 af0 aG0 ao0 aB0 ab0 w0 f0 od0 g0 bc0 hr0 co0 ++ cR cyI cyO aR1 aW1 aw1 af1 aG1 ao1 aB1 ab1 w1 f1 od1 g1 bc1 hr1 co1) (run_V (q := (RX5, TX5, 3)) (n := 1) (As := [.int b_]) (rest := []) ⟨hx, hb, hml, hown, hts⟩ (c_X5_checkBus l D cyI cyO cyL aX aT aR0 aR1 aW0 aw0 af0 aG0 ao0 aB0 ab0 w0 f0 od0 g0 bc0 hr0 co0 b_ h0 h1 _) ggX5_told_X5_checkBus rfl rfl rfl (hts (.methodLink RX5 84 yX5_checkBus) (List.mem_of_getElem? (i := 2) rfl)) (hts (.initialized RX5) (List.mem_of_getElem? (i := 5) rfl)) (hts (.instanceMethod yX5_checkBus) (List.mem_of_getElem? (i := 3) rfl)) (hts (.selects RX5 yX5_checkBus yX5_checkBus) (List.mem_of_getElem? (i := 4) rfl)) (by decide +kernel) ⟨Nat.le_of_ble_eq_true rfl, Nat.le_of_ble_eq_true rfl⟩ hKK hPc hDc (ci := 5) (q0 := 0) rfl rfl rfl hl.1 rfl (Nat.le_of_ble_eq_true rfl) dX5_told_2 ⟨Nat.zero_le _, Nat.zero_le _⟩) hP hD hS hA [0, 4, 5, 6, 7, 8, 9, 10] rfl rfl [(true, 0), (false, 1), (false, 2), (false, 3), (true, 1), (true, 2), (true, 3), (true, 4), (true, 5), (true, 6), (true, 7), (false, 11), (false, 12), (false, 13), (false, 14), (false, 15), (false, 16), (false, 17)] (by decide +kernel) rfl rfl (fun H locs hP hD hS => ?_)
  refine lv_iload_n hx hb dX5_told_5 rfl (lv_at hl 2 rfl) ?_
  refine lv_bipush (v := 7) hx hb dX5_told_6 (by decide) ?_
  have hPc := hP.sub (ws' := ([] : va_W)) [] rfl
  have hDc := hD.sub (ws' := ([] : va_W)) [] (by decide) rfl
  refine ret_vP (W1 := ([] : va_W)) (W2 := ([] : va_W)) (X1 := cX aX aT aR0 aR1 ++ cT cyI aT ac as_ cd sw fd fn ++ cR cyI cyO aR0 aW0 aw0 af0 aG0 ao0 aB0 ab0 w0 f0 od0 g0 bc0 hr0 co0 ++ cR cyI cyO aR1 aW1 aw1 af1 aG1 ao1 aB1 ab1 w1 f1 od1 g1 bc1 hr1 co1) (run_S (n := 2) (As := [.int x_, .int 7]) (rest := []) ⟨hx, hb, hml, hown, hts⟩ (c_X5_checkWhat l D cyI cyO cyL x_ 7 hx0 hx1 _) ggX5_told_X5_checkWhat rfl rfl rfl (hts (.methodLink RX5 99 yX5_checkWhat) (List.mem_of_getElem? (i := 9) rfl)) (hts (.initialized RX5) (List.mem_of_getElem? (i := 5) rfl)) (hts (.static yX5_checkWhat) (List.mem_of_getElem? (i := 10) rfl)) (by decide +kernel) ⟨Nat.le_of_ble_eq_true rfl, Nat.le_of_ble_eq_true rfl⟩ hKK hPc hDc rfl hl.1 rfl (Nat.le_of_ble_eq_true rfl) dX5_told_8 ⟨Nat.zero_le _, Nat.zero_le _⟩) hP hD hS hA [] rfl rfl [(false, 0), (false, 1), (false, 2), (false, 3), (false, 4), (false, 5), (false, 6), (false, 7), (false, 8), (false, 9), (false, 10), (false, 11), (false, 12), (false, 13), (false, 14), (false, 15), (false, 16), (false, 17)] (by decide +kernel) rfl rfl (fun H locs hP hD hS => ?_)
  refine lv_aload_n hx hb dX5_told_11 rfl (lv_at hl 0 rfl) ?_
  refine va_get (D := D) (ci := 5) (v := .ref aR0) (C := RX5) (T := TX5) (N := 3) hx hb hts iX5 hown hKK.1 hP 0 rfl rfl 1 (by decide) (hts (.fieldLink RX5 19 "TrolleyGang" "now" "LTrolleyGang$Ring;") (List.mem_of_getElem? (i := 1) rfl)) (fun _ h9 => h9) rfl dX5_told_12 ?_
  refine va_getN (D := D) (ci := 2) (v := .ref aB0) (C := RX2) (T := TX2) (N := 6) hx hb hts iX2 hown hKK.1 hP 4 rfl rfl 2 (by decide) (nw (w := .fieldLinkNest "TrolleyGang" 74 "TrolleyGang$Ring" "buses" "[LTrolleyGang$Bus;" "TrolleyGang") nq_69) (fun _ h9 => h9) rfl dX5_told_15 ?_
  refine lv_iload_n hx hb dX5_told_18 rfl (lv_at hl 1 rfl) ?_
  refine va_aldq hx hb hKK.1 hP 10 1 rfl rfl (hin := hib) dX5_told_19 ?_
  refine lv_topv (y := .ref (ab0 b_.toNatClampNeg)) rfl ?_
  refine lv_astore_n (lv' := [(3, .ref (ab0 b_.toNatClampNeg)), (0, .ref aX), (1, .int b_), (2, .int x_)]) hx hb dX5_told_20 rfl hl (by decide) rfl (fun ls hl => ?_)
  refine lv_iload_n hx hb dX5_told_21 rfl (lv_at hl 3 rfl) ?_
  rcases sw6 x_ with rfl | rfl | rfl | rfl | rfl | rfl | hs_1
  · skip
    refine lv_tableIn (off := 38) (tgt := 60) hx hb dX5_told_22 (by decide) (by decide) (by decide) (by decide) ?_
    refine lv_aload_n hx hb dX5_told_60 rfl (lv_at hl 0 rfl) ?_
    refine bus_getN hx hb hts iX0 hown hKK hP (hLB0 b_.toNatClampNeg (vp_lt hib)) 0 (by decide) (nw (w := .fieldLinkNest "TrolleyGang" 93 "TrolleyGang$Bus" "at" "I" "TrolleyGang") nq_56) (fun _ h9 => h9) dX5_told_61 ?_
    have e9 : toldS 0 B (ab0 b_.toNatClampNeg) w0 = B (ab0 b_.toNatClampNeg) 0 := (by first | with_reducible rfl | (simp only [toldS, if_true, if_false, reduceIte, not_true_eq_false, not_false_eq_true]; done) | (simp [toldS]; done))
    exact end_i hx hb hrt hlocks (by rw [e9]) hP hS dX5_told_64
  · skip
    refine lv_tableIn (off := 43) (tgt := 65) hx hb dX5_told_22 (by decide) (by decide) (by decide) (by decide) ?_
    refine lv_aload_n hx hb dX5_told_65 rfl (lv_at hl 0 rfl) ?_
    refine bus_getN hx hb hts iX0 hown hKK hP (hLB0 b_.toNatClampNeg (vp_lt hib)) 1 (by decide) (nw (w := .fieldLinkNest "TrolleyGang" 87 "TrolleyGang$Bus" "hasScraper" "Z" "TrolleyGang") nq_58) (fun _ h9 => h9) dX5_told_66 ?_
    have hPc := hP.sub (ws' := ([] : va_W)) [] rfl
    have hDc := hD.sub (ws' := ([] : va_W)) [] (by decide) rfl
    refine ret_iP (W1 := ([] : va_W)) (W2 := ([] : va_W)) (X1 := cX aX aT aR0 aR1 ++ cT cyI aT ac as_ cd sw fd fn ++ cR cyI cyO aR0 aW0 aw0 af0 aG0 ao0 aB0 ab0 w0 f0 od0 g0 bc0 hr0 co0 ++ cR cyI cyO aR1 aW1 aw1 af1 aG1 ao1 aB1 ab1 w1 f1 od1 g1 bc1 hr1 co1) (r := oneI (B (ab0 b_.toNatClampNeg) 1)) (run_S (n := 1) (As := [.int (B (ab0 b_.toNatClampNeg) 1)]) (rest := []) ⟨hx, hb, hml, hown, hts⟩ (c_X5_oneIf l D cyI cyO cyL (B (ab0 b_.toNatClampNeg) 1) _) ggX5_told_X5_oneIf rfl rfl rfl (hts (.methodLink RX5 103 yX5_oneIf) (List.mem_of_getElem? (i := 12) rfl)) (hts (.initialized RX5) (List.mem_of_getElem? (i := 5) rfl)) (hts (.static yX5_oneIf) (List.mem_of_getElem? (i := 13) rfl)) (by decide +kernel) ⟨Nat.le_of_ble_eq_true rfl, Nat.le_of_ble_eq_true rfl⟩ hKK hPc hDc rfl hl.1 rfl (Nat.le_of_ble_eq_true rfl) dX5_told_69 ⟨Nat.zero_le _, Nat.zero_le _⟩) hP hD hS hA [] rfl rfl [(false, 0), (false, 1), (false, 2), (false, 3), (false, 4), (false, 5), (false, 6), (false, 7), (false, 8), (false, 9), (false, 10), (false, 11), (false, 12), (false, 13), (false, 14), (false, 15), (false, 16), (false, 17)] (by decide +kernel) rfl rfl (fun H locs hP hD hS => ?_)
    have e9 : toldS 1 B (ab0 b_.toNatClampNeg) w0 = oneI (B (ab0 b_.toNatClampNeg) 1) := (by first | with_reducible rfl | (simp only [toldS, if_true, if_false, reduceIte, not_true_eq_false, not_false_eq_true]; done) | (simp [toldS]; done))
    exact end_i hx hb hrt hlocks (by rw [e9]) hP hS dX5_told_72
  · skip
    refine lv_tableIn (off := 51) (tgt := 73) hx hb dX5_told_22 (by decide) (by decide) (by decide) (by decide) ?_
    refine lv_aload_n hx hb dX5_told_73 rfl (lv_at hl 0 rfl) ?_
    refine bus_getN hx hb hts iX0 hown hKK hP (hLB0 b_.toNatClampNeg (vp_lt hib)) 2 (by decide) (nw (w := .fieldLinkNest "TrolleyGang" 96 "TrolleyGang$Bus" "runs" "Z" "TrolleyGang") nq_60) (fun _ h9 => h9) dX5_told_74 ?_
    have hPc := hP.sub (ws' := ([] : va_W)) [] rfl
    have hDc := hD.sub (ws' := ([] : va_W)) [] (by decide) rfl
    refine ret_iP (W1 := ([] : va_W)) (W2 := ([] : va_W)) (X1 := cX aX aT aR0 aR1 ++ cT cyI aT ac as_ cd sw fd fn ++ cR cyI cyO aR0 aW0 aw0 af0 aG0 ao0 aB0 ab0 w0 f0 od0 g0 bc0 hr0 co0 ++ cR cyI cyO aR1 aW1 aw1 af1 aG1 ao1 aB1 ab1 w1 f1 od1 g1 bc1 hr1 co1) (r := oneI (B (ab0 b_.toNatClampNeg) 2)) (run_S (n := 1) (As := [.int (B (ab0 b_.toNatClampNeg) 2)]) (rest := []) ⟨hx, hb, hml, hown, hts⟩ (c_X5_oneIf l D cyI cyO cyL (B (ab0 b_.toNatClampNeg) 2) _) ggX5_told_X5_oneIf rfl rfl rfl (hts (.methodLink RX5 103 yX5_oneIf) (List.mem_of_getElem? (i := 12) rfl)) (hts (.initialized RX5) (List.mem_of_getElem? (i := 5) rfl)) (hts (.static yX5_oneIf) (List.mem_of_getElem? (i := 13) rfl)) (by decide +kernel) ⟨Nat.le_of_ble_eq_true rfl, Nat.le_of_ble_eq_true rfl⟩ hKK hPc hDc rfl hl.1 rfl (Nat.le_of_ble_eq_true rfl) dX5_told_77 ⟨Nat.zero_le _, Nat.zero_le _⟩) hP hD hS hA [] rfl rfl [(false, 0), (false, 1), (false, 2), (false, 3), (false, 4), (false, 5), (false, 6), (false, 7), (false, 8), (false, 9), (false, 10), (false, 11), (false, 12), (false, 13), (false, 14), (false, 15), (false, 16), (false, 17)] (by decide +kernel) rfl rfl (fun H locs hP hD hS => ?_)
    have e9 : toldS 2 B (ab0 b_.toNatClampNeg) w0 = oneI (B (ab0 b_.toNatClampNeg) 2) := (by first | with_reducible rfl | (simp only [toldS, if_true, if_false, reduceIte, not_true_eq_false, not_false_eq_true]; done) | (simp [toldS]; done))
    exact end_i hx hb hrt hlocks (by rw [e9]) hP hS dX5_told_80
  · skip
    refine lv_tableIn (off := 59) (tgt := 81) hx hb dX5_told_22 (by decide) (by decide) (by decide) (by decide) ?_
    refine lv_aload_n hx hb dX5_told_81 rfl (lv_at hl 0 rfl) ?_
    refine bus_getN hx hb hts iX0 hown hKK hP (hLB0 b_.toNatClampNeg (vp_lt hib)) 3 (by decide) (nw (w := .fieldLinkNest "TrolleyGang" 106 "TrolleyGang$Bus" "spansInAll" "I" "TrolleyGang") nq_62) (fun _ h9 => h9) dX5_told_82 ?_
    have e9 : toldS 3 B (ab0 b_.toNatClampNeg) w0 = B (ab0 b_.toNatClampNeg) 3 := (by first | with_reducible rfl | (simp only [toldS, if_true, if_false, reduceIte, not_true_eq_false, not_false_eq_true]; done) | (simp [toldS]; done))
    exact end_i hx hb hrt hlocks (by rw [e9]) hP hS dX5_told_85
  · skip
    refine lv_tableIn (off := 64) (tgt := 86) hx hb dX5_told_22 (by decide) (by decide) (by decide) (by decide) ?_
    refine lv_aload_n hx hb dX5_told_86 rfl (lv_at hl 0 rfl) ?_
    refine bus_getN hx hb hts iX0 hown hKK hP (hLB0 b_.toNatClampNeg (vp_lt hib)) 4 (by decide) (nw (w := .fieldLinkNest "TrolleyGang" 109 "TrolleyGang$Bus" "faresInAll" "I" "TrolleyGang") nq_64) (fun _ h9 => h9) dX5_told_87 ?_
    have e9 : toldS 4 B (ab0 b_.toNatClampNeg) w0 = B (ab0 b_.toNatClampNeg) 4 := (by first | with_reducible rfl | (simp only [toldS, if_true, if_false, reduceIte, not_true_eq_false, not_false_eq_true]; done) | (simp [toldS]; done))
    exact end_i hx hb hrt hlocks (by rw [e9]) hP hS dX5_told_90
  · skip
    refine lv_tableIn (off := 69) (tgt := 91) hx hb dX5_told_22 (by decide) (by decide) (by decide) (by decide) ?_
    refine lv_aload_n hx hb dX5_told_91 rfl (lv_at hl 0 rfl) ?_
    refine bus_getN hx hb hts iX0 hown hKK hP (hLB0 b_.toNatClampNeg (vp_lt hib)) 5 (by decide) (nw (w := .fieldLinkNest "TrolleyGang" 112 "TrolleyGang$Bus" "hoursStuck" "I" "TrolleyGang") nq_66) (fun _ h9 => h9) dX5_told_92 ?_
    have e9 : toldS 5 B (ab0 b_.toNatClampNeg) w0 = B (ab0 b_.toNatClampNeg) 5 := (by first | with_reducible rfl | (simp only [toldS, if_true, if_false, reduceIte, not_true_eq_false, not_false_eq_true]; done) | (simp [toldS]; done))
    exact end_i hx hb hrt hlocks (by rw [e9]) hP hS dX5_told_95
  · skip
    refine lv_tableOut (tgt := 96) hx hb dX5_told_22 hs_1 (by decide) ?_
    refine lv_aload_n hx hb dX5_told_96 rfl (lv_at hl 1 rfl) ?_
    refine va_get (D := D) (ci := 5) (v := .ref aR0) (C := RX5) (T := TX5) (N := 3) hx hb hts iX5 hown hKK.1 hP 0 rfl rfl 1 (by decide) (hts (.fieldLink RX5 19 "TrolleyGang" "now" "LTrolleyGang$Ring;") (List.mem_of_getElem? (i := 1) rfl)) (fun _ h9 => h9) rfl dX5_told_97 ?_
    refine va_getN (D := D) (ci := 2) (v := .ref aW0) (C := RX2) (T := TX2) (N := 6) hx hb hts iX2 hown hKK.1 hP 4 rfl rfl 0 (by decide) (nw (w := .fieldLinkNest "TrolleyGang" 115 "TrolleyGang$Ring" "wires" "LTrolleyGang$Wires;" "TrolleyGang") nq_67) (fun _ h9 => h9) rfl dX5_told_100 ?_
    refine lv_aload_n hx hb dX5_told_103 rfl (lv_at hl 0 rfl) ?_
    refine bus_getN hx hb hts iX0 hown hKK hP (hLB0 b_.toNatClampNeg (vp_lt hib)) 0 (by decide) (nw (w := .fieldLinkNest "TrolleyGang" 93 "TrolleyGang$Bus" "at" "I" "TrolleyGang") nq_56) (fun _ h9 => h9) dX5_told_104 ?_
    have hPc := hP.sub (ws' := (cW cyI aW0 aw0 af0 w0 f0)) [5, 6, 7] rfl
    have hDc := hD.sub (ws' := (cW cyI aW0 aw0 af0 w0 f0)) [5, 6, 7] (by decide) rfl
    refine ret_iP (W1 := (cW cyI aW0 aw0 af0 w0 f0)) (W2 := (cW cyI aW0 aw0 af0 w0 f0)) (X1 := cX aX aT aR0 aR1 ++ cT cyI aT ac as_ cd sw fd fn ++ cR cyI cyO aR0 aW0 aw0 af0 aG0 ao0 aB0 ab0 w0 f0 od0 g0 bc0 hr0 co0 ++ cR cyI cyO aR1 aW1 aw1 af1 aG1 ao1 aB1 ab1 w1 f1 od1 g1 bc1 hr1 co1) (r := spuL w0 (B (ab0 b_.toNatClampNeg) 0) 24 0) (run_VN (q := (RX4, TX4, 2)) (n := 1) (As := [.int (B (ab0 b_.toNatClampNeg) 0)]) (rest := []) ⟨hx, hb, hml, hown, hts⟩ (c_X4_spansUpBehind l D cyI cyO cyL aW0 aw0 af0 w0 f0 (B (ab0 b_.toNatClampNeg) 0) (hB _).1 _) ggX5_told_X4_spansUpBehind rfl rfl rfl nq_0 (hts (.initialized RX4) (List.mem_of_getElem? (i := 16) rfl)) (hts (.instanceMethod yX4_spansUpBehind) (List.mem_of_getElem? (i := 15) rfl)) (hts (.selects RX4 yX4_spansUpBehind yX4_spansUpBehind) (List.mem_of_getElem? (i := 17) rfl)) (by decide +kernel) ⟨Nat.le_of_ble_eq_true rfl, Nat.le_of_ble_eq_true rfl⟩ hKK hPc hDc (ci := 4) (q0 := 0) rfl rfl rfl hl.1 rfl (Nat.le_of_ble_eq_true rfl) dX5_told_107 ⟨Nat.zero_le _, Nat.zero_le _⟩) hP hD hS hA [5, 6, 7] rfl rfl [(false, 0), (false, 1), (false, 2), (false, 3), (false, 4), (true, 0), (true, 1), (true, 2), (false, 8), (false, 9), (false, 10), (false, 11), (false, 12), (false, 13), (false, 14), (false, 15), (false, 16), (false, 17)] (by decide +kernel) rfl rfl (fun H locs hP hD hS => ?_)
    have e9 : toldS x_ B (ab0 b_.toNatClampNeg) w0 = spuL w0 (B (ab0 b_.toNatClampNeg) 0) 24 0 := (by first | with_reducible rfl | (simp only [toldS, (nt6 hs_1), if_true, if_false, reduceIte, not_true_eq_false, not_false_eq_true]; done) | (simp [toldS, (nt6 hs_1)]; done))
    exact end_i hx hb hrt hlocks (by rw [e9]) hP hS dX5_told_110
set_option maxHeartbeats 4000000 in
set_option maxRecDepth 100000 in
theorem c_X5_span (l : Launch) (D : va_G) (cyI cyO cyL : ClassId) (aX : Nat) (aT : Nat) (aR0 : Nat) (aR1 : Nat) (ac : Nat) (as_ : Nat) (aW0 : Nat) (aw0 : Nat) (af0 : Nat) (aG0 : Nat) (ao0 : Nat) (aB0 : Nat) (aW1 : Nat) (aw1 : Nat) (af1 : Nat) (aG1 : Nat) (ao1 : Nat) (aB1 : Nat) (cd : Nat → Int32) (sw : Nat → Int32) (fd : Int32) (fn : Int32) (ab0 : Nat → Nat) (w0 : Nat → Int32) (f0 : Nat → Int32) (od0 : Nat → Int32) (g0 : Nat → Int32) (bc0 : Int32) (hr0 : Int32) (co0 : Int32) (ab1 : Nat → Nat) (w1 : Nat → Int32) (f1 : Nat → Int32) (od1 : Nat → Int32) (g1 : Nat → Int32) (bc1 : Int32) (hr1 : Int32) (co1 : Int32) (LB : List Nat) (B : Nat → Nat → Int32) (s_ : Int32) (x_ : Int32) (n : Nat) (o_ : Nat) (hi : vp_in s_ 24) (hx0 : ¬ x_ < 0) (hx1 : x_ < 5) (hn : n ≤ 6) (hbc : bc0 = nI n) (hLB0 : ∀ k, k < 6 → ab0 k ∈ LB) (hm : o_ ≤ 6) (hoc : g0 0 = nI o_) : cI l yX5_span wsX5_span ({ frames := 2, cells := 0, slots := 0, locals := 43 }) D cyI cyO cyL [.ref aX, .int s_, .int x_] ((cX aX aT aR0 aR1 ++ cT cyI aT ac as_ cd sw fd fn ++ cR cyI cyO aR0 aW0 aw0 af0 aG0 ao0 aB0 ab0 w0 f0 od0 g0 bc0 hr0 co0 ++ cR cyI cyO aR1 aW1 aw1 af1 aG1 ao1 aB1 ab1 w1 f1 od1 g1 bc1 hr1 co1) ++ pB LB B) ((cX aX aT aR0 aR1 ++ cT cyI aT ac as_ cd sw fd fn ++ cR cyI cyO aR0 aW0 aw0 af0 aG0 ao0 aB0 ab0 w0 f0 od0 g0 bc0 hr0 co0 ++ cR cyI cyO aR1 aW1 aw1 af1 aG1 ao1 aB1 ab1 w1 f1 od1 g1 bc1 hr1 co1) ++ pB LB B) (spanS s_ x_ n o_ ab0 w0 f0 od0 B) := by
  intro sz
  refine Met.ofW (cc := cX5_span) (maxL := 3) (ret := (some .int)) (by decide) rfl ?_
  intro p e s m args below meth c s₁ B9 hml hv
  obtain ⟨rfl, hsz, hP, hKK, hD0⟩ := hv
  have hx := B9.exec
  have hb := B9.bytes
  have hrt := B9.returns
  have hts := atoms_spec (ws := wsX5_span) B9.pre
  have hown : s.vm.findClass RX5 = some m.cls := findClass_of_methodNamed B9.named
  have hlocks := B9.notSynchronized
  have nw := fun {w : Cond} (h : w ∈ nw_all) => NW.use (args := ([.ref aX, .int s_, .int x_] : List Value).toArray) hKK.2 h
  have iX2 : ∀ w ∈ wsX20, w ∈ wsX5_span := fun _ h => List.mem_cons_of_mem _ (List.mem_append_left _ (List.mem_append_left _ (List.mem_append_left _ (List.mem_append_left _ (List.mem_append_right _ h)))))
  have iX4 : ∀ w ∈ wsX40, w ∈ wsX5_span := fun _ h => List.mem_cons_of_mem _ (List.mem_append_left _ (List.mem_append_left _ (List.mem_append_left _ (List.mem_append_right _ h))))
  have iX5 : ∀ w ∈ wsX50, w ∈ wsX5_span := fun _ h => List.mem_cons_of_mem _ (List.mem_append_left _ (List.mem_append_left _ (List.mem_append_left _ (List.mem_append_left _ (List.mem_append_left _ (List.mem_append_right _ h))))))
  subst hsz
  have hD := hD0.self (sz := s.heap.size)
  generalize hAe : va_A ((cX aX aT aR0 aR1 ++ cT cyI aT ac as_ cd sw fd fn ++ cR cyI cyO aR0 aW0 aw0 af0 aG0 ao0 aB0 ab0 w0 f0 od0 g0 bc0 hr0 co0 ++ cR cyI cyO aR1 aW1 aw1 af1 aG1 ao1 aB1 ab1 w1 f1 od1 g1 bc1 hr1 co1) ++ pB LB B) s.heap.size = A at hD ⊢
  have hA : ∀ q : Nat, s.heap.size ≤ q → A q := fun q h => by rw [← hAe]; exact Or.inr h
  have hS : va_S A s.heap s.heap [] := va_S.rf
  have hl := lv_entry ([.ref aX, .int s_, .int x_]) (n := 3) (Nat.le_of_ble_eq_true rfl)
  rw [lg_entry_eq]
  generalize (lg_sl ([.ref aX, .int s_, .int x_]) ++ List.replicate (3 - (lg_sl ([.ref aX, .int s_, .int x_])).length) Slot.unset).toArray = ls at hl ⊢
  have hl : lv_has ls 3 [(0, .ref aX), (1, .int s_), (2, .int x_)] := hl
  refine lv_iload_n hx hb dX5_span_0 rfl (lv_at hl 1 rfl) ?_
  have hPc := hP.sub (ws' := ([] : va_W)) [] rfl
  have hDc := hD.sub (ws' := ([] : va_W)) [] (by decide) rfl
  refine ret_vP (W1 := ([] : va_W)) (W2 := ([] : va_W)) (X1 := cX aX aT aR0 aR1 ++ cT cyI aT ac as_ cd sw fd fn ++ cR cyI cyO aR0 aW0 aw0 af0 aG0 ao0 aB0 ab0 w0 f0 od0 g0 bc0 hr0 co0 ++ cR cyI cyO aR1 aW1 aw1 af1 aG1 ao1 aB1 ab1 w1 f1 od1 g1 bc1 hr1 co1) (run_S (n := 1) (As := [.int s_]) (rest := []) ⟨hx, hb, hml, hown, hts⟩ (c_X5_checkSpan l D cyI cyO cyL s_ hi _) ggX5_span_X5_checkSpan rfl rfl rfl (hts (.methodLink RX5 62 yX5_checkSpan) (List.mem_of_getElem? (i := 2) rfl)) (hts (.initialized RX5) (List.mem_of_getElem? (i := 4) rfl)) (hts (.static yX5_checkSpan) (List.mem_of_getElem? (i := 3) rfl)) (by decide +kernel) ⟨Nat.le_of_ble_eq_true rfl, Nat.le_of_ble_eq_true rfl⟩ hKK hPc hDc rfl hl.1 rfl (Nat.le_of_ble_eq_true rfl) dX5_span_1 ⟨Nat.zero_le _, Nat.zero_le _⟩) hP hD hS hA [] rfl rfl [(false, 0), (false, 1), (false, 2), (false, 3), (false, 4), (false, 5), (false, 6), (false, 7), (false, 8), (false, 9), (false, 10), (false, 11), (false, 12), (false, 13), (false, 14), (false, 15), (false, 16), (false, 17)] (by decide +kernel) rfl rfl (fun H locs hP hD hS => ?_)
  refine lv_iload_n hx hb dX5_span_4 rfl (lv_at hl 2 rfl) ?_
  refine lv_iconst (v := 5) hx hb dX5_span_5 (by decide) ?_
  have hPc := hP.sub (ws' := ([] : va_W)) [] rfl
  have hDc := hD.sub (ws' := ([] : va_W)) [] (by decide) rfl
  refine ret_vP (W1 := ([] : va_W)) (W2 := ([] : va_W)) (X1 := cX aX aT aR0 aR1 ++ cT cyI aT ac as_ cd sw fd fn ++ cR cyI cyO aR0 aW0 aw0 af0 aG0 ao0 aB0 ab0 w0 f0 od0 g0 bc0 hr0 co0 ++ cR cyI cyO aR1 aW1 aw1 af1 aG1 ao1 aB1 ab1 w1 f1 od1 g1 bc1 hr1 co1) (run_S (n := 2) (As := [.int x_, .int 5]) (rest := []) ⟨hx, hb, hml, hown, hts⟩ (c_X5_checkWhat l D cyI cyO cyL x_ 5 hx0 hx1 _) ggX5_span_X5_checkWhat rfl rfl rfl (hts (.methodLink RX5 99 yX5_checkWhat) (List.mem_of_getElem? (i := 8) rfl)) (hts (.initialized RX5) (List.mem_of_getElem? (i := 4) rfl)) (hts (.static yX5_checkWhat) (List.mem_of_getElem? (i := 9) rfl)) (by decide +kernel) ⟨Nat.le_of_ble_eq_true rfl, Nat.le_of_ble_eq_true rfl⟩ hKK hPc hDc rfl hl.1 rfl (Nat.le_of_ble_eq_true rfl) dX5_span_6 ⟨Nat.zero_le _, Nat.zero_le _⟩) hP hD hS hA [] rfl rfl [(false, 0), (false, 1), (false, 2), (false, 3), (false, 4), (false, 5), (false, 6), (false, 7), (false, 8), (false, 9), (false, 10), (false, 11), (false, 12), (false, 13), (false, 14), (false, 15), (false, 16), (false, 17)] (by decide +kernel) rfl rfl (fun H locs hP hD hS => ?_)
  refine lv_iload_n hx hb dX5_span_9 rfl (lv_at hl 2 rfl) ?_
  rcases sw4 x_ with rfl | rfl | rfl | rfl | hs_1
  · skip
    refine lv_tableIn (off := 30) (tgt := 40) hx hb dX5_span_10 (by decide) (by decide) (by decide) (by decide) ?_
    refine lv_aload_n hx hb dX5_span_40 rfl (lv_at hl 0 rfl) ?_
    refine va_get (D := D) (ci := 5) (v := .ref aR0) (C := RX5) (T := TX5) (N := 3) hx hb hts iX5 hown hKK.1 hP 0 rfl rfl 1 (by decide) (hts (.fieldLink RX5 19 "TrolleyGang" "now" "LTrolleyGang$Ring;") (List.mem_of_getElem? (i := 1) rfl)) (fun _ h9 => h9) rfl dX5_span_41 ?_
    refine va_getN (D := D) (ci := 2) (v := .ref aW0) (C := RX2) (T := TX2) (N := 6) hx hb hts iX2 hown hKK.1 hP 4 rfl rfl 0 (by decide) (nw (w := .fieldLinkNest "TrolleyGang" 115 "TrolleyGang$Ring" "wires" "LTrolleyGang$Wires;" "TrolleyGang") nq_67) (fun _ h9 => h9) rfl dX5_span_44 ?_
    refine va_getN (D := D) (ci := 4) (v := .ref aw0) (C := RX4) (T := TX4) (N := 2) hx hb hts iX4 hown hKK.1 hP 5 rfl rfl 0 (by decide) (nw (w := .fieldLinkNest "TrolleyGang" 125 "TrolleyGang$Wires" "worn" "[I" "TrolleyGang") nq_38) (fun _ h9 => h9) rfl dX5_span_47 ?_
    refine lv_iload_n hx hb dX5_span_50 rfl (lv_at hl 1 rfl) ?_
    refine va_iald hx hb hKK.1 hP 6 0 rfl rfl (hin := hi) dX5_span_51 ?_
    have e9 : spanS s_ 0 n o_ ab0 w0 f0 od0 B = w0 s_.toNatClampNeg := (by first | with_reducible rfl | (simp only [spanS, if_true, if_false, reduceIte, not_true_eq_false, not_false_eq_true]; done) | (simp [spanS]; done))
    exact end_i hx hb hrt hlocks (by rw [e9]) hP hS dX5_span_52
  · skip
    refine lv_tableIn (off := 43) (tgt := 53) hx hb dX5_span_10 (by decide) (by decide) (by decide) (by decide) ?_
    refine lv_aload_n hx hb dX5_span_53 rfl (lv_at hl 0 rfl) ?_
    refine va_get (D := D) (ci := 5) (v := .ref aR0) (C := RX5) (T := TX5) (N := 3) hx hb hts iX5 hown hKK.1 hP 0 rfl rfl 1 (by decide) (hts (.fieldLink RX5 19 "TrolleyGang" "now" "LTrolleyGang$Ring;") (List.mem_of_getElem? (i := 1) rfl)) (fun _ h9 => h9) rfl dX5_span_54 ?_
    refine va_getN (D := D) (ci := 2) (v := .ref aW0) (C := RX2) (T := TX2) (N := 6) hx hb hts iX2 hown hKK.1 hP 4 rfl rfl 0 (by decide) (nw (w := .fieldLinkNest "TrolleyGang" 115 "TrolleyGang$Ring" "wires" "LTrolleyGang$Wires;" "TrolleyGang") nq_67) (fun _ h9 => h9) rfl dX5_span_57 ?_
    refine va_getN (D := D) (ci := 4) (v := .ref af0) (C := RX4) (T := TX4) (N := 2) hx hb hts iX4 hown hKK.1 hP 5 rfl rfl 1 (by decide) (nw (w := .fieldLinkNest "TrolleyGang" 128 "TrolleyGang$Wires" "frost" "[I" "TrolleyGang") nq_40) (fun _ h9 => h9) rfl dX5_span_60 ?_
    refine lv_iload_n hx hb dX5_span_63 rfl (lv_at hl 1 rfl) ?_
    refine va_iald hx hb hKK.1 hP 7 0 rfl rfl (hin := hi) dX5_span_64 ?_
    have e9 : spanS s_ 1 n o_ ab0 w0 f0 od0 B = f0 s_.toNatClampNeg := (by first | with_reducible rfl | (simp only [spanS, if_true, if_false, reduceIte, not_true_eq_false, not_false_eq_true]; done) | (simp [spanS]; done))
    exact end_i hx hb hrt hlocks (by rw [e9]) hP hS dX5_span_65
  · skip
    refine lv_tableIn (off := 56) (tgt := 66) hx hb dX5_span_10 (by decide) (by decide) (by decide) (by decide) ?_
    refine lv_aload_n hx hb dX5_span_66 rfl (lv_at hl 0 rfl) ?_
    refine va_get (D := D) (ci := 5) (v := .ref aR0) (C := RX5) (T := TX5) (N := 3) hx hb hts iX5 hown hKK.1 hP 0 rfl rfl 1 (by decide) (hts (.fieldLink RX5 19 "TrolleyGang" "now" "LTrolleyGang$Ring;") (List.mem_of_getElem? (i := 1) rfl)) (fun _ h9 => h9) rfl dX5_span_67 ?_
    refine va_getN (D := D) (ci := 2) (v := .ref aW0) (C := RX2) (T := TX2) (N := 6) hx hb hts iX2 hown hKK.1 hP 4 rfl rfl 0 (by decide) (nw (w := .fieldLinkNest "TrolleyGang" 115 "TrolleyGang$Ring" "wires" "LTrolleyGang$Wires;" "TrolleyGang") nq_67) (fun _ h9 => h9) rfl dX5_span_70 ?_
    refine lv_iload_n hx hb dX5_span_73 rfl (lv_at hl 1 rfl) ?_
    have hPc := hP.sub (ws' := (cW cyI aW0 aw0 af0 w0 f0)) [5, 6, 7] rfl
    have hDc := hD.sub (ws' := (cW cyI aW0 aw0 af0 w0 f0)) [5, 6, 7] (by decide) rfl
    refine ret_iP (W1 := (cW cyI aW0 aw0 af0 w0 f0)) (W2 := (cW cyI aW0 aw0 af0 w0 f0)) (X1 := cX aX aT aR0 aR1 ++ cT cyI aT ac as_ cd sw fd fn ++ cR cyI cyO aR0 aW0 aw0 af0 aG0 ao0 aB0 ab0 w0 f0 od0 g0 bc0 hr0 co0 ++ cR cyI cyO aR1 aW1 aw1 af1 aG1 ao1 aB1 ab1 w1 f1 od1 g1 bc1 hr1 co1) (r := dnI w0 s_) (run_VN (q := (RX4, TX4, 2)) (n := 1) (As := [.int s_]) (rest := []) ⟨hx, hb, hml, hown, hts⟩ (c_X4_isDown l D cyI cyO cyL aW0 aw0 af0 w0 f0 s_ hi _) ggX5_span_X4_isDown rfl rfl rfl nq_1 (hts (.initialized RX4) (List.mem_of_getElem? (i := 12) rfl)) (hts (.instanceMethod yX4_isDown) (List.mem_of_getElem? (i := 11) rfl)) (hts (.selects RX4 yX4_isDown yX4_isDown) (List.mem_of_getElem? (i := 13) rfl)) (by decide +kernel) ⟨Nat.le_of_ble_eq_true rfl, Nat.le_of_ble_eq_true rfl⟩ hKK hPc hDc (ci := 4) (q0 := 0) rfl rfl rfl hl.1 rfl (Nat.le_of_ble_eq_true rfl) dX5_span_74 ⟨Nat.zero_le _, Nat.zero_le _⟩) hP hD hS hA [5, 6, 7] rfl rfl [(false, 0), (false, 1), (false, 2), (false, 3), (false, 4), (true, 0), (true, 1), (true, 2), (false, 8), (false, 9), (false, 10), (false, 11), (false, 12), (false, 13), (false, 14), (false, 15), (false, 16), (false, 17)] (by decide +kernel) rfl rfl (fun H locs hP hD hS => ?_)
    have hPc := hP.sub (ws' := ([] : va_W)) [] rfl
    have hDc := hD.sub (ws' := ([] : va_W)) [] (by decide) rfl
    refine ret_iP (W1 := ([] : va_W)) (W2 := ([] : va_W)) (X1 := cX aX aT aR0 aR1 ++ cT cyI aT ac as_ cd sw fd fn ++ cR cyI cyO aR0 aW0 aw0 af0 aG0 ao0 aB0 ab0 w0 f0 od0 g0 bc0 hr0 co0 ++ cR cyI cyO aR1 aW1 aw1 af1 aG1 ao1 aB1 ab1 w1 f1 od1 g1 bc1 hr1 co1) (r := oneI (dnI w0 s_)) (run_S (n := 1) (As := [.int (dnI w0 s_)]) (rest := []) ⟨hx, hb, hml, hown, hts⟩ (c_X5_oneIf l D cyI cyO cyL (dnI w0 s_) _) ggX5_span_X5_oneIf rfl rfl rfl (hts (.methodLink RX5 103 yX5_oneIf) (List.mem_of_getElem? (i := 16) rfl)) (hts (.initialized RX5) (List.mem_of_getElem? (i := 4) rfl)) (hts (.static yX5_oneIf) (List.mem_of_getElem? (i := 17) rfl)) (by decide +kernel) ⟨Nat.le_of_ble_eq_true rfl, Nat.le_of_ble_eq_true rfl⟩ hKK hPc hDc rfl hl.1 rfl (Nat.le_of_ble_eq_true rfl) dX5_span_77 ⟨Nat.zero_le _, Nat.zero_le _⟩) hP hD hS hA [] rfl rfl [(false, 0), (false, 1), (false, 2), (false, 3), (false, 4), (false, 5), (false, 6), (false, 7), (false, 8), (false, 9), (false, 10), (false, 11), (false, 12), (false, 13), (false, 14), (false, 15), (false, 16), (false, 17)] (by decide +kernel) rfl rfl (fun H locs hP hD hS => ?_)
    have e9 : spanS s_ 2 n o_ ab0 w0 f0 od0 B = oneI (dnI w0 s_) := (by first | with_reducible rfl | (simp only [spanS, if_true, if_false, reduceIte, not_true_eq_false, not_false_eq_true]; done) | (simp [spanS]; done))
    exact end_i hx hb hrt hlocks (by rw [e9]) hP hS dX5_span_80
  · skip
    refine lv_tableIn (off := 71) (tgt := 81) hx hb dX5_span_10 (by decide) (by decide) (by decide) (by decide) ?_
    refine lv_aload_n hx hb dX5_span_81 rfl (lv_at hl 0 rfl) ?_
    refine va_get (D := D) (ci := 5) (v := .ref aR0) (C := RX5) (T := TX5) (N := 3) hx hb hts iX5 hown hKK.1 hP 0 rfl rfl 1 (by decide) (hts (.fieldLink RX5 19 "TrolleyGang" "now" "LTrolleyGang$Ring;") (List.mem_of_getElem? (i := 1) rfl)) (fun _ h9 => h9) rfl dX5_span_82 ?_
    refine lv_iload_n hx hb dX5_span_85 rfl (lv_at hl 1 rfl) ?_
    have hPc := hP.part (cx := (cR cyI cyO aR0 aW0 aw0 af0 aG0 ao0 aB0 ab0 w0 f0 od0 g0 bc0 hr0 co0)) [4, 5, 6, 7, 8, 9, 10] rfl
    have hDc := hD.part (cx := (cR cyI cyO aR0 aW0 aw0 af0 aG0 ao0 aB0 ab0 w0 f0 od0 g0 bc0 hr0 co0)) [4, 5, 6, 7, 8, 9, 10] (by decide) rfl
    refine ret_iB (cx := (cR cyI cyO aR0 aW0 aw0 af0 aG0 ao0 aB0 ab0 w0 f0 od0 g0 bc0 hr0 co0)) (cx' := (cR cyI cyO aR0 aW0 aw0 af0 aG0 ao0 aB0 ab0 w0 f0 od0 g0 bc0 hr0 co0)) (pl' := pB LB B) (X1 := cX aX aT aR0 aR1 ++ cT cyI aT ac as_ cd sw fd fn ++ cR cyI cyO aR0 aW0 aw0 af0 aG0 ao0 aB0 ab0 w0 f0 od0 g0 bc0 hr0 co0 ++ cR cyI cyO aR1 aW1 aw1 af1 aG1 ao1 aB1 ab1 w1 f1 od1 g1 bc1 hr1 co1) (r := baL B ab0 s_ n 0 0) (run_VN (q := (RX2, TX2, 6)) (n := 1) (As := [.int s_]) (rest := []) ⟨hx, hb, hml, hown, hts⟩ (c_X2_busesAt l D cyI cyO cyL aR0 aW0 aw0 af0 aG0 ao0 aB0 ab0 w0 f0 od0 g0 bc0 hr0 co0 LB B s_ n hn hbc hLB0 _) ggX5_span_X2_busesAt rfl rfl rfl nq_2 (hts (.initialized RX2) (List.mem_of_getElem? (i := 20) rfl)) (hts (.instanceMethod yX2_busesAt) (List.mem_of_getElem? (i := 19) rfl)) (hts (.selects RX2 yX2_busesAt yX2_busesAt) (List.mem_of_getElem? (i := 21) rfl)) (by decide +kernel) ⟨Nat.le_of_ble_eq_true rfl, Nat.le_of_ble_eq_true rfl⟩ hKK hPc hDc (ci := 2) (q0 := 0) rfl rfl rfl hl.1 rfl (Nat.le_of_ble_eq_true rfl) dX5_span_86 ⟨Nat.zero_le _, Nat.zero_le _⟩) hP hD hS hA [4, 5, 6, 7, 8, 9, 10] (by decide) rfl rfl pB_fst [(false, 0), (false, 1), (false, 2), (false, 3), (true, 0), (true, 1), (true, 2), (true, 3), (true, 4), (true, 5), (true, 6), (false, 11), (false, 12), (false, 13), (false, 14), (false, 15), (false, 16), (false, 17)] (by decide +kernel) rfl rfl (fun H locs hP hD hS => ?_)
    have e9 : spanS s_ 3 n o_ ab0 w0 f0 od0 B = baL B ab0 s_ n 0 0 := (by first | with_reducible rfl | (simp only [spanS, if_true, if_false, reduceIte, not_true_eq_false, not_false_eq_true]; done) | (simp [spanS]; done))
    exact end_i hx hb hrt hlocks (by rw [e9]) hP hS dX5_span_89
  · skip
    refine lv_tableOut (tgt := 90) hx hb dX5_span_10 hs_1 (by decide) ?_
    refine lv_aload_n hx hb dX5_span_90 rfl (lv_at hl 0 rfl) ?_
    refine va_get (D := D) (ci := 5) (v := .ref aR0) (C := RX5) (T := TX5) (N := 3) hx hb hts iX5 hown hKK.1 hP 0 rfl rfl 1 (by decide) (hts (.fieldLink RX5 19 "TrolleyGang" "now" "LTrolleyGang$Ring;") (List.mem_of_getElem? (i := 1) rfl)) (fun _ h9 => h9) rfl dX5_span_91 ?_
    refine va_getN (D := D) (ci := 2) (v := .ref aG0) (C := RX2) (T := TX2) (N := 6) hx hb hts iX2 hown hKK.1 hP 4 rfl rfl 1 (by decide) (nw (w := .fieldLinkNest "TrolleyGang" 138 "TrolleyGang$Ring" "gang" "LTrolleyGang$Gang;" "TrolleyGang") nq_68) (fun _ h9 => h9) rfl dX5_span_94 ?_
    refine lv_iload_n hx hb dX5_span_97 rfl (lv_at hl 1 rfl) ?_
    have hPc := hP.sub (ws' := (cG cyI aG0 ao0 od0 g0)) [8, 9] rfl
    have hDc := hD.sub (ws' := (cG cyI aG0 ao0 od0 g0)) [8, 9] (by decide) rfl
    refine ret_iP (W1 := (cG cyI aG0 ao0 od0 g0)) (W2 := (cG cyI aG0 ao0 od0 g0)) (X1 := cX aX aT aR0 aR1 ++ cT cyI aT ac as_ cd sw fd fn ++ cR cyI cyO aR0 aW0 aw0 af0 aG0 ao0 aB0 ab0 w0 f0 od0 g0 bc0 hr0 co0 ++ cR cyI cyO aR1 aW1 aw1 af1 aG1 ao1 aB1 ab1 w1 f1 od1 g1 bc1 hr1 co1) (r := pofL od0 s_ o_ 0) (run_VN (q := (RX1, TX1, 6)) (n := 1) (As := [.int s_]) (rest := []) ⟨hx, hb, hml, hown, hts⟩ (c_X1_placeOf l D cyI cyO cyL aG0 ao0 od0 g0 s_ o_ hm hoc _) ggX5_span_X1_placeOf rfl rfl rfl nq_4 (hts (.initialized RX1) (List.mem_of_getElem? (i := 26) rfl)) (hts (.instanceMethod yX1_placeOf) (List.mem_of_getElem? (i := 25) rfl)) (hts (.selects RX1 yX1_placeOf yX1_placeOf) (List.mem_of_getElem? (i := 27) rfl)) (by decide +kernel) ⟨Nat.le_of_ble_eq_true rfl, Nat.le_of_ble_eq_true rfl⟩ hKK hPc hDc (ci := 1) (q0 := 0) rfl rfl rfl hl.1 rfl (Nat.le_of_ble_eq_true rfl) dX5_span_98 ⟨Nat.zero_le _, Nat.zero_le _⟩) hP hD hS hA [8, 9] rfl rfl [(false, 0), (false, 1), (false, 2), (false, 3), (false, 4), (false, 5), (false, 6), (false, 7), (true, 0), (true, 1), (false, 10), (false, 11), (false, 12), (false, 13), (false, 14), (false, 15), (false, 16), (false, 17)] (by decide +kernel) rfl rfl (fun H locs hP hD hS => ?_)
    have e9 : spanS s_ x_ n o_ ab0 w0 f0 od0 B = pofL od0 s_ o_ 0 := (by first | with_reducible rfl | (simp only [spanS, (nt4 hs_1), if_true, if_false, reduceIte, not_true_eq_false, not_false_eq_true]; done) | (simp [spanS, (nt4 hs_1)]; done))
    exact end_i hx hb hrt hlocks (by rw [e9]) hP hS dX5_span_101
set_option maxHeartbeats 4000000 in
set_option maxRecDepth 100000 in
theorem c_X5_order (l : Launch) (D : va_G) (cyI cyO cyL : ClassId) (aX : Nat) (aT : Nat) (aR0 : Nat) (aR1 : Nat) (ac : Nat) (as_ : Nat) (aW0 : Nat) (aw0 : Nat) (af0 : Nat) (aG0 : Nat) (ao0 : Nat) (aB0 : Nat) (aW1 : Nat) (aw1 : Nat) (af1 : Nat) (aG1 : Nat) (ao1 : Nat) (aB1 : Nat) (cd : Nat → Int32) (sw : Nat → Int32) (fd : Int32) (fn : Int32) (ab0 : Nat → Nat) (w0 : Nat → Int32) (f0 : Nat → Int32) (od0 : Nat → Int32) (g0 : Nat → Int32) (bc0 : Int32) (hr0 : Int32) (co0 : Int32) (ab1 : Nat → Nat) (w1 : Nat → Int32) (f1 : Nat → Int32) (od1 : Nat → Int32) (g1 : Nat → Int32) (bc1 : Int32) (hr1 : Int32) (co1 : Int32) (LB : List Nat) (B : Nat → Nat → Int32) (s_ : Int32) (o_ : Nat) (hi : vp_in s_ 24) (hm : o_ < 6) (hoc : g0 0 = nI o_) (hp : pofL od0 s_ o_ 0 = -1) : cI l yX5_order wsX5_order ({ frames := 1, cells := 0, slots := 0, locals := 22 }) D cyI cyO cyL [.ref aX, .int s_] ((cX aX aT aR0 aR1 ++ cT cyI aT ac as_ cd sw fd fn ++ cR cyI cyO aR0 aW0 aw0 af0 aG0 ao0 aB0 ab0 w0 f0 od0 g0 bc0 hr0 co0 ++ cR cyI cyO aR1 aW1 aw1 af1 aG1 ao1 aB1 ab1 w1 f1 od1 g1 bc1 hr1 co1) ++ pB LB B) ((cX aX aT aR0 aR1 ++ cT cyI aT ac as_ cd sw fd fn ++ cR cyI cyO aR0 aW0 aw0 af0 aG0 ao0 aB0 ab0 w0 f0 (upd od0 o_ s_) (upd g0 0 (nI (o_ + 1))) bc0 hr0 co0 ++ cR cyI cyO aR1 aW1 aw1 af1 aG1 ao1 aB1 ab1 w1 f1 od1 g1 bc1 hr1 co1) ++ pB LB B) (nI (o_ + 1)) := by
  intro sz
  refine Met.ofW (cc := cX5_order) (maxL := 2) (ret := (some .int)) (by decide) rfl ?_
  intro p e s m args below meth c s₁ B9 hml hv
  obtain ⟨rfl, hsz, hP, hKK, hD0⟩ := hv
  have hx := B9.exec
  have hb := B9.bytes
  have hrt := B9.returns
  have hts := atoms_spec (ws := wsX5_order) B9.pre
  have hown : s.vm.findClass RX5 = some m.cls := findClass_of_methodNamed B9.named
  have hlocks := B9.notSynchronized
  have nw := fun {w : Cond} (h : w ∈ nw_all) => NW.use (args := ([.ref aX, .int s_] : List Value).toArray) hKK.2 h
  have iX1 : ∀ w ∈ wsX10, w ∈ wsX5_order := fun _ h => List.mem_cons_of_mem _ (List.mem_append_left _ (List.mem_append_left _ (List.mem_append_right _ h)))
  have iX2 : ∀ w ∈ wsX20, w ∈ wsX5_order := fun _ h => List.mem_cons_of_mem _ (List.mem_append_left _ (List.mem_append_left _ (List.mem_append_left _ (List.mem_append_right _ h))))
  have iX5 : ∀ w ∈ wsX50, w ∈ wsX5_order := fun _ h => List.mem_cons_of_mem _ (List.mem_append_left _ (List.mem_append_left _ (List.mem_append_left _ (List.mem_append_left _ (List.mem_append_right _ h)))))
  subst hsz
  have hD := hD0.self (sz := s.heap.size)
  generalize hAe : va_A ((cX aX aT aR0 aR1 ++ cT cyI aT ac as_ cd sw fd fn ++ cR cyI cyO aR0 aW0 aw0 af0 aG0 ao0 aB0 ab0 w0 f0 od0 g0 bc0 hr0 co0 ++ cR cyI cyO aR1 aW1 aw1 af1 aG1 ao1 aB1 ab1 w1 f1 od1 g1 bc1 hr1 co1) ++ pB LB B) s.heap.size = A at hD ⊢
  have hA : ∀ q : Nat, s.heap.size ≤ q → A q := fun q h => by rw [← hAe]; exact Or.inr h
  have hS : va_S A s.heap s.heap [] := va_S.rf
  have hl := lv_entry ([.ref aX, .int s_]) (n := 2) (Nat.le_of_ble_eq_true rfl)
  rw [lg_entry_eq]
  generalize (lg_sl ([.ref aX, .int s_]) ++ List.replicate (2 - (lg_sl ([.ref aX, .int s_])).length) Slot.unset).toArray = ls at hl ⊢
  have hl : lv_has ls 2 [(0, .ref aX), (1, .int s_)] := hl
  refine lv_iload_n hx hb dX5_order_0 rfl (lv_at hl 1 rfl) ?_
  have hPc := hP.sub (ws' := ([] : va_W)) [] rfl
  have hDc := hD.sub (ws' := ([] : va_W)) [] (by decide) rfl
  refine ret_vP (W1 := ([] : va_W)) (W2 := ([] : va_W)) (X1 := cX aX aT aR0 aR1 ++ cT cyI aT ac as_ cd sw fd fn ++ cR cyI cyO aR0 aW0 aw0 af0 aG0 ao0 aB0 ab0 w0 f0 od0 g0 bc0 hr0 co0 ++ cR cyI cyO aR1 aW1 aw1 af1 aG1 ao1 aB1 ab1 w1 f1 od1 g1 bc1 hr1 co1) (run_S (n := 1) (As := [.int s_]) (rest := []) ⟨hx, hb, hml, hown, hts⟩ (c_X5_checkSpan l D cyI cyO cyL s_ hi _) ggX5_order_X5_checkSpan rfl rfl rfl (hts (.methodLink RX5 62 yX5_checkSpan) (List.mem_of_getElem? (i := 4) rfl)) (hts (.initialized RX5) (List.mem_of_getElem? (i := 6) rfl)) (hts (.static yX5_checkSpan) (List.mem_of_getElem? (i := 5) rfl)) (by decide +kernel) ⟨Nat.le_of_ble_eq_true rfl, Nat.le_of_ble_eq_true rfl⟩ hKK hPc hDc rfl hl.1 rfl (Nat.le_of_ble_eq_true rfl) dX5_order_1 ⟨Nat.zero_le _, Nat.zero_le _⟩) hP hD hS hA [] rfl rfl [(false, 0), (false, 1), (false, 2), (false, 3), (false, 4), (false, 5), (false, 6), (false, 7), (false, 8), (false, 9), (false, 10), (false, 11), (false, 12), (false, 13), (false, 14), (false, 15), (false, 16), (false, 17)] (by decide +kernel) rfl rfl (fun H locs hP hD hS => ?_)
  refine lv_aload_n hx hb dX5_order_4 rfl (lv_at hl 0 rfl) ?_
  refine va_get (D := D) (ci := 5) (v := .ref aR0) (C := RX5) (T := TX5) (N := 3) hx hb hts iX5 hown hKK.1 hP 0 rfl rfl 1 (by decide) (hts (.fieldLink RX5 19 "TrolleyGang" "now" "LTrolleyGang$Ring;") (List.mem_of_getElem? (i := 3) rfl)) (fun _ h9 => h9) rfl dX5_order_5 ?_
  refine va_getN (D := D) (ci := 2) (v := .ref aG0) (C := RX2) (T := TX2) (N := 6) hx hb hts iX2 hown hKK.1 hP 4 rfl rfl 1 (by decide) (nw (w := .fieldLinkNest "TrolleyGang" 138 "TrolleyGang$Ring" "gang" "LTrolleyGang$Gang;" "TrolleyGang") nq_68) (fun _ h9 => h9) rfl dX5_order_8 ?_
  refine va_getN (D := D) (ci := 1) (v := .int (g0 0)) (C := RX1) (T := TX1) (N := 6) hx hb hts iX1 hown hKK.1 hP 8 rfl rfl 1 (by decide) (nw (w := .fieldLinkNest "TrolleyGang" 147 "TrolleyGang$Gang" "orderCount" "I" "TrolleyGang") nq_45) (fun _ h9 => h9) rfl dX5_order_11 ?_
  refine lv_tope (y := nI o_) hoc ?_
  refine lv_bipush (v := 6) hx hb dX5_order_14 (by decide) ?_
  refine lv_icmp_lt (tgt := 29) hx hb dX5_order_16 (by decide) (fun h_1 => ?_) (fun h_1 => ?_)
  · skip
    refine lv_aload_n hx hb dX5_order_29 rfl (lv_at hl 0 rfl) ?_
    refine va_get (D := D) (ci := 5) (v := .ref aR0) (C := RX5) (T := TX5) (N := 3) hx hb hts iX5 hown hKK.1 hP 0 rfl rfl 1 (by decide) (hts (.fieldLink RX5 19 "TrolleyGang" "now" "LTrolleyGang$Ring;") (List.mem_of_getElem? (i := 3) rfl)) (fun _ h9 => h9) rfl dX5_order_30 ?_
    refine va_getN (D := D) (ci := 2) (v := .ref aG0) (C := RX2) (T := TX2) (N := 6) hx hb hts iX2 hown hKK.1 hP 4 rfl rfl 1 (by decide) (nw (w := .fieldLinkNest "TrolleyGang" 138 "TrolleyGang$Ring" "gang" "LTrolleyGang$Gang;" "TrolleyGang") nq_68) (fun _ h9 => h9) rfl dX5_order_33 ?_
    refine lv_iload_n hx hb dX5_order_36 rfl (lv_at hl 1 rfl) ?_
    have hPc := hP.sub (ws' := (cG cyI aG0 ao0 od0 g0)) [8, 9] rfl
    have hDc := hD.sub (ws' := (cG cyI aG0 ao0 od0 g0)) [8, 9] (by decide) rfl
    refine ret_iP (W1 := (cG cyI aG0 ao0 od0 g0)) (W2 := (cG cyI aG0 ao0 od0 g0)) (X1 := cX aX aT aR0 aR1 ++ cT cyI aT ac as_ cd sw fd fn ++ cR cyI cyO aR0 aW0 aw0 af0 aG0 ao0 aB0 ab0 w0 f0 od0 g0 bc0 hr0 co0 ++ cR cyI cyO aR1 aW1 aw1 af1 aG1 ao1 aB1 ab1 w1 f1 od1 g1 bc1 hr1 co1) (r := pofL od0 s_ o_ 0) (run_VN (q := (RX1, TX1, 6)) (n := 1) (As := [.int s_]) (rest := []) ⟨hx, hb, hml, hown, hts⟩ (c_X1_placeOf l D cyI cyO cyL aG0 ao0 od0 g0 s_ o_ (Nat.le_of_lt hm) hoc _) ggX5_order_X1_placeOf rfl rfl rfl nq_4 (hts (.initialized RX1) (List.mem_of_getElem? (i := 11) rfl)) (hts (.instanceMethod yX1_placeOf) (List.mem_of_getElem? (i := 10) rfl)) (hts (.selects RX1 yX1_placeOf yX1_placeOf) (List.mem_of_getElem? (i := 12) rfl)) (by decide +kernel) ⟨Nat.le_of_ble_eq_true rfl, Nat.le_of_ble_eq_true rfl⟩ hKK hPc hDc (ci := 1) (q0 := 0) rfl rfl rfl hl.1 rfl (Nat.le_of_ble_eq_true rfl) dX5_order_37 ⟨Nat.zero_le _, Nat.zero_le _⟩) hP hD hS hA [8, 9] rfl rfl [(false, 0), (false, 1), (false, 2), (false, 3), (false, 4), (false, 5), (false, 6), (false, 7), (true, 0), (true, 1), (false, 10), (false, 11), (false, 12), (false, 13), (false, 14), (false, 15), (false, 16), (false, 17)] (by decide +kernel) rfl rfl (fun H locs hP hD hS => ?_)
    refine lv_iconst (v := (-1)) hx hb dX5_order_40 (by decide) ?_
    refine lv_icmp_eq (tgt := 54) hx hb dX5_order_41 (by decide) (fun h_2 => ?_) (fun h_2 => ?_)
    · skip
      refine lv_aload_n hx hb dX5_order_54 rfl (lv_at hl 0 rfl) ?_
      refine va_get (D := D) (ci := 5) (v := .ref aR0) (C := RX5) (T := TX5) (N := 3) hx hb hts iX5 hown hKK.1 hP 0 rfl rfl 1 (by decide) (hts (.fieldLink RX5 19 "TrolleyGang" "now" "LTrolleyGang$Ring;") (List.mem_of_getElem? (i := 3) rfl)) (fun _ h9 => h9) rfl dX5_order_55 ?_
      refine va_getN (D := D) (ci := 2) (v := .ref aG0) (C := RX2) (T := TX2) (N := 6) hx hb hts iX2 hown hKK.1 hP 4 rfl rfl 1 (by decide) (nw (w := .fieldLinkNest "TrolleyGang" 138 "TrolleyGang$Ring" "gang" "LTrolleyGang$Gang;" "TrolleyGang") nq_68) (fun _ h9 => h9) rfl dX5_order_58 ?_
      refine va_getN (D := D) (ci := 1) (v := .ref ao0) (C := RX1) (T := TX1) (N := 6) hx hb hts iX1 hown hKK.1 hP 8 rfl rfl 0 (by decide) (nw (w := .fieldLinkNest "TrolleyGang" 154 "TrolleyGang$Gang" "orders" "[I" "TrolleyGang") nq_43) (fun _ h9 => h9) rfl dX5_order_61 ?_
      refine lv_aload_n hx hb dX5_order_64 rfl (lv_at hl 0 rfl) ?_
      refine va_get (D := D) (ci := 5) (v := .ref aR0) (C := RX5) (T := TX5) (N := 3) hx hb hts iX5 hown hKK.1 hP 0 rfl rfl 1 (by decide) (hts (.fieldLink RX5 19 "TrolleyGang" "now" "LTrolleyGang$Ring;") (List.mem_of_getElem? (i := 3) rfl)) (fun _ h9 => h9) rfl dX5_order_65 ?_
      refine va_getN (D := D) (ci := 2) (v := .ref aG0) (C := RX2) (T := TX2) (N := 6) hx hb hts iX2 hown hKK.1 hP 4 rfl rfl 1 (by decide) (nw (w := .fieldLinkNest "TrolleyGang" 138 "TrolleyGang$Ring" "gang" "LTrolleyGang$Gang;" "TrolleyGang") nq_68) (fun _ h9 => h9) rfl dX5_order_68 ?_
      refine va_getN (D := D) (ci := 1) (v := .int (g0 0)) (C := RX1) (T := TX1) (N := 6) hx hb hts iX1 hown hKK.1 hP 8 rfl rfl 1 (by decide) (nw (w := .fieldLinkNest "TrolleyGang" 147 "TrolleyGang$Gang" "orderCount" "I" "TrolleyGang") nq_45) (fun _ h9 => h9) rfl dX5_order_71 ?_
      refine lv_tope (y := nI o_) hoc ?_
      refine lv_iload_n hx hb dX5_order_74 rfl (lv_at hl 1 rfl) ?_
      refine va_iast hx hb hKK.1 hP hD hS 9 0 rfl rfl (hin := (vp_in_nI (show o_ < 6 by omega) (by omega))) dX5_order_75 (fun H locs hP hD hS => ?_)
      rw [nI_clamp (by omega)] at hP hD
      have hP : va_P D vwCl ((cX aX aT aR0 aR1 ++ cT cyI aT ac as_ cd sw fd fn ++ cR cyI cyO aR0 aW0 aw0 af0 aG0 ao0 aB0 ab0 w0 f0 (upd od0 o_ s_) g0 bc0 hr0 co0 ++ cR cyI cyO aR1 aW1 aw1 af1 aG1 ao1 aB1 ab1 w1 f1 od1 g1 bc1 hr1 co1) ++ pB LB B) H := hP
      have hD : va_D A ((cX aX aT aR0 aR1 ++ cT cyI aT ac as_ cd sw fd fn ++ cR cyI cyO aR0 aW0 aw0 af0 aG0 ao0 aB0 ab0 w0 f0 (upd od0 o_ s_) g0 bc0 hr0 co0 ++ cR cyI cyO aR1 aW1 aw1 af1 aG1 ao1 aB1 ab1 w1 f1 od1 g1 bc1 hr1 co1) ++ pB LB B) := hD
      refine lv_aload_n hx hb dX5_order_76 rfl (lv_at hl 0 rfl) ?_
      refine va_get (D := D) (ci := 5) (v := .ref aR0) (C := RX5) (T := TX5) (N := 3) hx hb hts iX5 hown hKK.1 hP 0 rfl rfl 1 (by decide) (hts (.fieldLink RX5 19 "TrolleyGang" "now" "LTrolleyGang$Ring;") (List.mem_of_getElem? (i := 3) rfl)) (fun _ h9 => h9) rfl dX5_order_77 ?_
      refine va_getN (D := D) (ci := 2) (v := .ref aG0) (C := RX2) (T := TX2) (N := 6) hx hb hts iX2 hown hKK.1 hP 4 rfl rfl 1 (by decide) (nw (w := .fieldLinkNest "TrolleyGang" 138 "TrolleyGang$Ring" "gang" "LTrolleyGang$Gang;" "TrolleyGang") nq_68) (fun _ h9 => h9) rfl dX5_order_80 ?_
      refine lv_dup hx hb dX5_order_83 rfl ?_
      refine va_getN (D := D) (ci := 1) (v := .int (g0 0)) (C := RX1) (T := TX1) (N := 6) hx hb hts iX1 hown hKK.1 hP 8 rfl rfl 1 (by decide) (nw (w := .fieldLinkNest "TrolleyGang" 147 "TrolleyGang$Gang" "orderCount" "I" "TrolleyGang") nq_45) (fun _ h9 => h9) rfl dX5_order_84 ?_
      refine lv_tope (y := nI o_) hoc ?_
      refine lv_iconst (v := 1) hx hb dX5_order_87 (by decide) ?_
      refine lv_iadd hx hb dX5_order_88 ?_
      refine lv_tope (y := nI (o_ + 1)) (nI_1 o_) ?_
      refine va_putN (D := D) (ci := 1) (v := .int (nI (o_ + 1))) (ty := .int) (C := RX1) (T := TX1) (N := 6) hx hb hts iX1 tyX1 tyX1_ok nmX1 hown hKK.1 hP hD hS 8 rfl rfl 1 (by decide) (nw (w := .fieldLinkNest "TrolleyGang" 147 "TrolleyGang$Gang" "orderCount" "I" "TrolleyGang") nq_45) (fun _ h9 => h9) rfl (by decide +kernel) rfl rfl (Nat.le_of_ble_eq_true rfl) dX5_order_89 (fun H locs hP hD hS => ?_)
      have hP : va_P D vwCl ((cX aX aT aR0 aR1 ++ cT cyI aT ac as_ cd sw fd fn ++ cR cyI cyO aR0 aW0 aw0 af0 aG0 ao0 aB0 ab0 w0 f0 (upd od0 o_ s_) (upd g0 0 (nI (o_ + 1))) bc0 hr0 co0 ++ cR cyI cyO aR1 aW1 aw1 af1 aG1 ao1 aB1 ab1 w1 f1 od1 g1 bc1 hr1 co1) ++ pB LB B) H := hP
      have hD : va_D A ((cX aX aT aR0 aR1 ++ cT cyI aT ac as_ cd sw fd fn ++ cR cyI cyO aR0 aW0 aw0 af0 aG0 ao0 aB0 ab0 w0 f0 (upd od0 o_ s_) (upd g0 0 (nI (o_ + 1))) bc0 hr0 co0 ++ cR cyI cyO aR1 aW1 aw1 af1 aG1 ao1 aB1 ab1 w1 f1 od1 g1 bc1 hr1 co1) ++ pB LB B) := hD
      refine lv_aload_n hx hb dX5_order_92 rfl (lv_at hl 0 rfl) ?_
      refine va_get (D := D) (ci := 5) (v := .ref aR0) (C := RX5) (T := TX5) (N := 3) hx hb hts iX5 hown hKK.1 hP 0 rfl rfl 1 (by decide) (hts (.fieldLink RX5 19 "TrolleyGang" "now" "LTrolleyGang$Ring;") (List.mem_of_getElem? (i := 3) rfl)) (fun _ h9 => h9) rfl dX5_order_93 ?_
      refine va_getN (D := D) (ci := 2) (v := .ref aG0) (C := RX2) (T := TX2) (N := 6) hx hb hts iX2 hown hKK.1 hP 4 rfl rfl 1 (by decide) (nw (w := .fieldLinkNest "TrolleyGang" 138 "TrolleyGang$Ring" "gang" "LTrolleyGang$Gang;" "TrolleyGang") nq_68) (fun _ h9 => h9) rfl dX5_order_96 ?_
      refine va_getN (D := D) (ci := 1) (v := .int (nI (o_ + 1))) (C := RX1) (T := TX1) (N := 6) hx hb hts iX1 hown hKK.1 hP 8 rfl rfl 1 (by decide) (nw (w := .fieldLinkNest "TrolleyGang" 147 "TrolleyGang$Gang" "orderCount" "I" "TrolleyGang") nq_45) (fun _ h9 => h9) rfl dX5_order_99 ?_
      exact end_i hx hb hrt hlocks rfl hP hS dX5_order_102
    · skip
      exact absurd hp h_2
  · skip
    exact absurd (nI_lt hm (by omega) : nI o_ < nI 6) h_1
set_option maxHeartbeats 4000000 in
set_option maxRecDepth 100000 in
theorem c_X5_cancel (l : Launch) (D : va_G) (cyI cyO cyL : ClassId) (aX : Nat) (aT : Nat) (aR0 : Nat) (aR1 : Nat) (ac : Nat) (as_ : Nat) (aW0 : Nat) (aw0 : Nat) (af0 : Nat) (aG0 : Nat) (ao0 : Nat) (aB0 : Nat) (aW1 : Nat) (aw1 : Nat) (af1 : Nat) (aG1 : Nat) (ao1 : Nat) (aB1 : Nat) (cd : Nat → Int32) (sw : Nat → Int32) (fd : Int32) (fn : Int32) (ab0 : Nat → Nat) (w0 : Nat → Int32) (f0 : Nat → Int32) (od0 : Nat → Int32) (g0 : Nat → Int32) (bc0 : Int32) (hr0 : Int32) (co0 : Int32) (ab1 : Nat → Nat) (w1 : Nat → Int32) (f1 : Nat → Int32) (od1 : Nat → Int32) (g1 : Nat → Int32) (bc1 : Int32) (hr1 : Int32) (co1 : Int32) (LB : List Nat) (B : Nat → Nat → Int32) (s_ : Int32) (o_ : Nat) (p_ : Nat) (hi : vp_in s_ 24) (hm : o_ ≤ 6) (hoc : g0 0 = nI o_) (hp : pofL od0 s_ o_ 0 = nI p_) (hpm : p_ < o_) : cI l yX5_cancel wsX5_cancel ({ frames := 1, cells := 0, slots := 0, locals := 22 }) D cyI cyO cyL [.ref aX, .int s_] ((cX aX aT aR0 aR1 ++ cT cyI aT ac as_ cd sw fd fn ++ cR cyI cyO aR0 aW0 aw0 af0 aG0 ao0 aB0 ab0 w0 f0 od0 g0 bc0 hr0 co0 ++ cR cyI cyO aR1 aW1 aw1 af1 aG1 ao1 aB1 ab1 w1 f1 od1 g1 bc1 hr1 co1) ++ pB LB B) ((cX aX aT aR0 aR1 ++ cT cyI aT ac as_ cd sw fd fn ++ cR cyI cyO aR0 aW0 aw0 af0 aG0 ao0 aB0 ab0 w0 f0 ((takeS od0 g0 p_ o_).1) ((takeS od0 g0 p_ o_).2) bc0 hr0 co0 ++ cR cyI cyO aR1 aW1 aw1 af1 aG1 ao1 aB1 ab1 w1 f1 od1 g1 bc1 hr1 co1) ++ pB LB B) (nI p_) := by
  intro sz
  refine Met.ofW (cc := cX5_cancel) (maxL := 3) (ret := (some .int)) (by decide) rfl ?_
  intro p e s m args below meth c s₁ B9 hml hv
  obtain ⟨rfl, hsz, hP, hKK, hD0⟩ := hv
  have hx := B9.exec
  have hb := B9.bytes
  have hrt := B9.returns
  have hts := atoms_spec (ws := wsX5_cancel) B9.pre
  have hown : s.vm.findClass RX5 = some m.cls := findClass_of_methodNamed B9.named
  have hlocks := B9.notSynchronized
  have nw := fun {w : Cond} (h : w ∈ nw_all) => NW.use (args := ([.ref aX, .int s_] : List Value).toArray) hKK.2 h
  have iX2 : ∀ w ∈ wsX20, w ∈ wsX5_cancel := fun _ h => List.mem_cons_of_mem _ (List.mem_append_left _ (List.mem_append_left _ (List.mem_append_left _ (List.mem_append_right _ h))))
  have iX5 : ∀ w ∈ wsX50, w ∈ wsX5_cancel := fun _ h => List.mem_cons_of_mem _ (List.mem_append_left _ (List.mem_append_left _ (List.mem_append_left _ (List.mem_append_left _ (List.mem_append_right _ h)))))
  subst hsz
  have hD := hD0.self (sz := s.heap.size)
  generalize hAe : va_A ((cX aX aT aR0 aR1 ++ cT cyI aT ac as_ cd sw fd fn ++ cR cyI cyO aR0 aW0 aw0 af0 aG0 ao0 aB0 ab0 w0 f0 od0 g0 bc0 hr0 co0 ++ cR cyI cyO aR1 aW1 aw1 af1 aG1 ao1 aB1 ab1 w1 f1 od1 g1 bc1 hr1 co1) ++ pB LB B) s.heap.size = A at hD ⊢
  have hA : ∀ q : Nat, s.heap.size ≤ q → A q := fun q h => by rw [← hAe]; exact Or.inr h
  have hS : va_S A s.heap s.heap [] := va_S.rf
  have hl := lv_entry ([.ref aX, .int s_]) (n := 3) (Nat.le_of_ble_eq_true rfl)
  rw [lg_entry_eq]
  generalize (lg_sl ([.ref aX, .int s_]) ++ List.replicate (3 - (lg_sl ([.ref aX, .int s_])).length) Slot.unset).toArray = ls at hl ⊢
  have hl : lv_has ls 3 [(0, .ref aX), (1, .int s_)] := hl
  refine lv_iload_n hx hb dX5_cancel_0 rfl (lv_at hl 1 rfl) ?_
  have hPc := hP.sub (ws' := ([] : va_W)) [] rfl
  have hDc := hD.sub (ws' := ([] : va_W)) [] (by decide) rfl
  refine ret_vP (W1 := ([] : va_W)) (W2 := ([] : va_W)) (X1 := cX aX aT aR0 aR1 ++ cT cyI aT ac as_ cd sw fd fn ++ cR cyI cyO aR0 aW0 aw0 af0 aG0 ao0 aB0 ab0 w0 f0 od0 g0 bc0 hr0 co0 ++ cR cyI cyO aR1 aW1 aw1 af1 aG1 ao1 aB1 ab1 w1 f1 od1 g1 bc1 hr1 co1) (run_S (n := 1) (As := [.int s_]) (rest := []) ⟨hx, hb, hml, hown, hts⟩ (c_X5_checkSpan l D cyI cyO cyL s_ hi _) ggX5_cancel_X5_checkSpan rfl rfl rfl (hts (.methodLink RX5 62 yX5_checkSpan) (List.mem_of_getElem? (i := 4) rfl)) (hts (.initialized RX5) (List.mem_of_getElem? (i := 6) rfl)) (hts (.static yX5_checkSpan) (List.mem_of_getElem? (i := 5) rfl)) (by decide +kernel) ⟨Nat.le_of_ble_eq_true rfl, Nat.le_of_ble_eq_true rfl⟩ hKK hPc hDc rfl hl.1 rfl (Nat.le_of_ble_eq_true rfl) dX5_cancel_1 ⟨Nat.zero_le _, Nat.zero_le _⟩) hP hD hS hA [] rfl rfl [(false, 0), (false, 1), (false, 2), (false, 3), (false, 4), (false, 5), (false, 6), (false, 7), (false, 8), (false, 9), (false, 10), (false, 11), (false, 12), (false, 13), (false, 14), (false, 15), (false, 16), (false, 17)] (by decide +kernel) rfl rfl (fun H locs hP hD hS => ?_)
  refine lv_aload_n hx hb dX5_cancel_4 rfl (lv_at hl 0 rfl) ?_
  refine va_get (D := D) (ci := 5) (v := .ref aR0) (C := RX5) (T := TX5) (N := 3) hx hb hts iX5 hown hKK.1 hP 0 rfl rfl 1 (by decide) (hts (.fieldLink RX5 19 "TrolleyGang" "now" "LTrolleyGang$Ring;") (List.mem_of_getElem? (i := 3) rfl)) (fun _ h9 => h9) rfl dX5_cancel_5 ?_
  refine va_getN (D := D) (ci := 2) (v := .ref aG0) (C := RX2) (T := TX2) (N := 6) hx hb hts iX2 hown hKK.1 hP 4 rfl rfl 1 (by decide) (nw (w := .fieldLinkNest "TrolleyGang" 138 "TrolleyGang$Ring" "gang" "LTrolleyGang$Gang;" "TrolleyGang") nq_68) (fun _ h9 => h9) rfl dX5_cancel_8 ?_
  refine lv_iload_n hx hb dX5_cancel_11 rfl (lv_at hl 1 rfl) ?_
  have hPc := hP.sub (ws' := (cG cyI aG0 ao0 od0 g0)) [8, 9] rfl
  have hDc := hD.sub (ws' := (cG cyI aG0 ao0 od0 g0)) [8, 9] (by decide) rfl
  refine ret_iP (W1 := (cG cyI aG0 ao0 od0 g0)) (W2 := (cG cyI aG0 ao0 od0 g0)) (X1 := cX aX aT aR0 aR1 ++ cT cyI aT ac as_ cd sw fd fn ++ cR cyI cyO aR0 aW0 aw0 af0 aG0 ao0 aB0 ab0 w0 f0 od0 g0 bc0 hr0 co0 ++ cR cyI cyO aR1 aW1 aw1 af1 aG1 ao1 aB1 ab1 w1 f1 od1 g1 bc1 hr1 co1) (r := pofL od0 s_ o_ 0) (run_VN (q := (RX1, TX1, 6)) (n := 1) (As := [.int s_]) (rest := []) ⟨hx, hb, hml, hown, hts⟩ (c_X1_placeOf l D cyI cyO cyL aG0 ao0 od0 g0 s_ o_ hm hoc _) ggX5_cancel_X1_placeOf rfl rfl rfl nq_4 (hts (.initialized RX1) (List.mem_of_getElem? (i := 11) rfl)) (hts (.instanceMethod yX1_placeOf) (List.mem_of_getElem? (i := 10) rfl)) (hts (.selects RX1 yX1_placeOf yX1_placeOf) (List.mem_of_getElem? (i := 12) rfl)) (by decide +kernel) ⟨Nat.le_of_ble_eq_true rfl, Nat.le_of_ble_eq_true rfl⟩ hKK hPc hDc (ci := 1) (q0 := 0) rfl rfl rfl hl.1 rfl (Nat.le_of_ble_eq_true rfl) dX5_cancel_12 ⟨Nat.zero_le _, Nat.zero_le _⟩) hP hD hS hA [8, 9] rfl rfl [(false, 0), (false, 1), (false, 2), (false, 3), (false, 4), (false, 5), (false, 6), (false, 7), (true, 0), (true, 1), (false, 10), (false, 11), (false, 12), (false, 13), (false, 14), (false, 15), (false, 16), (false, 17)] (by decide +kernel) rfl rfl (fun H locs hP hD hS => ?_)
  refine lv_tope (y := nI p_) hp ?_
  refine lv_istore_n (lv' := [(2, .int (nI p_)), (0, .ref aX), (1, .int s_)]) hx hb dX5_cancel_15 rfl hl (by decide) rfl (fun ls hl => ?_)
  refine lv_iload_n hx hb dX5_cancel_16 rfl (lv_at hl 0 rfl) ?_
  refine lv_iconst (v := (-1)) hx hb dX5_cancel_17 (by decide) ?_
  refine lv_icmp_ne (tgt := 31) hx hb dX5_cancel_18 (by decide) (fun h_1 => ?_) (fun h_1 => ?_)
  · skip
    refine lv_aload_n hx hb dX5_cancel_31 rfl (lv_at hl 1 rfl) ?_
    refine va_get (D := D) (ci := 5) (v := .ref aR0) (C := RX5) (T := TX5) (N := 3) hx hb hts iX5 hown hKK.1 hP 0 rfl rfl 1 (by decide) (hts (.fieldLink RX5 19 "TrolleyGang" "now" "LTrolleyGang$Ring;") (List.mem_of_getElem? (i := 3) rfl)) (fun _ h9 => h9) rfl dX5_cancel_32 ?_
    refine va_getN (D := D) (ci := 2) (v := .ref aG0) (C := RX2) (T := TX2) (N := 6) hx hb hts iX2 hown hKK.1 hP 4 rfl rfl 1 (by decide) (nw (w := .fieldLinkNest "TrolleyGang" 138 "TrolleyGang$Ring" "gang" "LTrolleyGang$Gang;" "TrolleyGang") nq_68) (fun _ h9 => h9) rfl dX5_cancel_35 ?_
    refine lv_iload_n hx hb dX5_cancel_38 rfl (lv_at hl 0 rfl) ?_
    have hPc := hP.sub (ws' := (cG cyI aG0 ao0 od0 g0)) [8, 9] rfl
    have hDc := hD.sub (ws' := (cG cyI aG0 ao0 od0 g0)) [8, 9] (by decide) rfl
    refine ret_vP (W1 := (cG cyI aG0 ao0 od0 g0)) (W2 := (cG cyI aG0 ao0 ((takeS od0 g0 p_ o_).1) ((takeS od0 g0 p_ o_).2))) (X1 := cX aX aT aR0 aR1 ++ cT cyI aT ac as_ cd sw fd fn ++ cR cyI cyO aR0 aW0 aw0 af0 aG0 ao0 aB0 ab0 w0 f0 ((takeS od0 g0 p_ o_).1) ((takeS od0 g0 p_ o_).2) bc0 hr0 co0 ++ cR cyI cyO aR1 aW1 aw1 af1 aG1 ao1 aB1 ab1 w1 f1 od1 g1 bc1 hr1 co1) (run_VN (q := (RX1, TX1, 6)) (n := 1) (As := [.int (nI p_)]) (rest := []) ⟨hx, hb, hml, hown, hts⟩ (c_X1_takeOut l D cyI cyO cyL aG0 ao0 od0 g0 p_ o_ hm hoc hpm _) ggX5_cancel_X1_takeOut rfl rfl rfl nq_5 (hts (.initialized RX1) (List.mem_of_getElem? (i := 11) rfl)) (hts (.instanceMethod yX1_takeOut) (List.mem_of_getElem? (i := 16) rfl)) (hts (.selects RX1 yX1_takeOut yX1_takeOut) (List.mem_of_getElem? (i := 17) rfl)) (by decide +kernel) ⟨Nat.le_of_ble_eq_true rfl, Nat.le_of_ble_eq_true rfl⟩ hKK hPc hDc (ci := 1) (q0 := 0) rfl rfl rfl hl.1 rfl (Nat.le_of_ble_eq_true rfl) dX5_cancel_39 ⟨Nat.zero_le _, Nat.zero_le _⟩) hP hD hS hA [8, 9] rfl rfl [(false, 0), (false, 1), (false, 2), (false, 3), (false, 4), (false, 5), (false, 6), (false, 7), (true, 0), (true, 1), (false, 10), (false, 11), (false, 12), (false, 13), (false, 14), (false, 15), (false, 16), (false, 17)] (by decide +kernel) rfl rfl (fun H locs hP hD hS => ?_)
    refine lv_iload_n hx hb dX5_cancel_42 rfl (lv_at hl 0 rfl) ?_
    exact end_i hx hb hrt hlocks rfl hP hS dX5_cancel_43
  · skip
    exact absurd h_1 (m1_ne (by omega))
set_option maxHeartbeats 4000000 in
set_option maxRecDepth 100000 in
theorem c_X5_gang (l : Launch) (D : va_G) (cyI cyO cyL : ClassId) (aX : Nat) (aT : Nat) (aR0 : Nat) (aR1 : Nat) (ac : Nat) (as_ : Nat) (aW0 : Nat) (aw0 : Nat) (af0 : Nat) (aG0 : Nat) (ao0 : Nat) (aB0 : Nat) (aW1 : Nat) (aw1 : Nat) (af1 : Nat) (aG1 : Nat) (ao1 : Nat) (aB1 : Nat) (cd : Nat → Int32) (sw : Nat → Int32) (fd : Int32) (fn : Int32) (ab0 : Nat → Nat) (w0 : Nat → Int32) (f0 : Nat → Int32) (od0 : Nat → Int32) (g0 : Nat → Int32) (bc0 : Int32) (hr0 : Int32) (co0 : Int32) (ab1 : Nat → Nat) (w1 : Nat → Int32) (f1 : Nat → Int32) (od1 : Nat → Int32) (g1 : Nat → Int32) (bc1 : Int32) (hr1 : Int32) (co1 : Int32) (LB : List Nat) (B : Nat → Nat → Int32) (x_ : Int32) (hx0 : ¬ x_ < 0) (hx1 : x_ < 7) : cI l yX5_gang wsX5_gang ({ frames := 2, cells := 0, slots := 0, locals := 42 }) D cyI cyO cyL [.ref aX, .int x_] ((cX aX aT aR0 aR1 ++ cT cyI aT ac as_ cd sw fd fn ++ cR cyI cyO aR0 aW0 aw0 af0 aG0 ao0 aB0 ab0 w0 f0 od0 g0 bc0 hr0 co0 ++ cR cyI cyO aR1 aW1 aw1 af1 aG1 ao1 aB1 ab1 w1 f1 od1 g1 bc1 hr1 co1) ++ pB LB B) ((cX aX aT aR0 aR1 ++ cT cyI aT ac as_ cd sw fd fn ++ cR cyI cyO aR0 aW0 aw0 af0 aG0 ao0 aB0 ab0 w0 f0 od0 g0 bc0 hr0 co0 ++ cR cyI cyO aR1 aW1 aw1 af1 aG1 ao1 aB1 ab1 w1 f1 od1 g1 bc1 hr1 co1) ++ pB LB B) (gangS x_ od0 g0) := by
  intro sz
  refine Met.ofW (cc := cX5_gang) (maxL := 3) (ret := (some .int)) (by decide) rfl ?_
  intro p e s m args below meth c s₁ B9 hml hv
  obtain ⟨rfl, hsz, hP, hKK, hD0⟩ := hv
  have hx := B9.exec
  have hb := B9.bytes
  have hrt := B9.returns
  have hts := atoms_spec (ws := wsX5_gang) B9.pre
  have hown : s.vm.findClass RX5 = some m.cls := findClass_of_methodNamed B9.named
  have hlocks := B9.notSynchronized
  have nw := fun {w : Cond} (h : w ∈ nw_all) => NW.use (args := ([.ref aX, .int x_] : List Value).toArray) hKK.2 h
  have iX1 : ∀ w ∈ wsX10, w ∈ wsX5_gang := fun _ h => List.mem_cons_of_mem _ (List.mem_append_left _ (List.mem_append_right _ h))
  have iX2 : ∀ w ∈ wsX20, w ∈ wsX5_gang := fun _ h => List.mem_cons_of_mem _ (List.mem_append_left _ (List.mem_append_left _ (List.mem_append_right _ h)))
  have iX5 : ∀ w ∈ wsX50, w ∈ wsX5_gang := fun _ h => List.mem_cons_of_mem _ (List.mem_append_left _ (List.mem_append_left _ (List.mem_append_left _ (List.mem_append_right _ h))))
  subst hsz
  have hD := hD0.self (sz := s.heap.size)
  generalize hAe : va_A ((cX aX aT aR0 aR1 ++ cT cyI aT ac as_ cd sw fd fn ++ cR cyI cyO aR0 aW0 aw0 af0 aG0 ao0 aB0 ab0 w0 f0 od0 g0 bc0 hr0 co0 ++ cR cyI cyO aR1 aW1 aw1 af1 aG1 ao1 aB1 ab1 w1 f1 od1 g1 bc1 hr1 co1) ++ pB LB B) s.heap.size = A at hD ⊢
  have hA : ∀ q : Nat, s.heap.size ≤ q → A q := fun q h => by rw [← hAe]; exact Or.inr h
  have hS : va_S A s.heap s.heap [] := va_S.rf
  have hl := lv_entry ([.ref aX, .int x_]) (n := 3) (Nat.le_of_ble_eq_true rfl)
  rw [lg_entry_eq]
  generalize (lg_sl ([.ref aX, .int x_]) ++ List.replicate (3 - (lg_sl ([.ref aX, .int x_])).length) Slot.unset).toArray = ls at hl ⊢
  have hl : lv_has ls 3 [(0, .ref aX), (1, .int x_)] := hl
  refine lv_iload_n hx hb dX5_gang_0 rfl (lv_at hl 1 rfl) ?_
  refine lv_bipush (v := 7) hx hb dX5_gang_1 (by decide) ?_
  have hPc := hP.sub (ws' := ([] : va_W)) [] rfl
  have hDc := hD.sub (ws' := ([] : va_W)) [] (by decide) rfl
  refine ret_vP (W1 := ([] : va_W)) (W2 := ([] : va_W)) (X1 := cX aX aT aR0 aR1 ++ cT cyI aT ac as_ cd sw fd fn ++ cR cyI cyO aR0 aW0 aw0 af0 aG0 ao0 aB0 ab0 w0 f0 od0 g0 bc0 hr0 co0 ++ cR cyI cyO aR1 aW1 aw1 af1 aG1 ao1 aB1 ab1 w1 f1 od1 g1 bc1 hr1 co1) (run_S (n := 2) (As := [.int x_, .int 7]) (rest := []) ⟨hx, hb, hml, hown, hts⟩ (c_X5_checkWhat l D cyI cyO cyL x_ 7 hx0 hx1 _) ggX5_gang_X5_checkWhat rfl rfl rfl (hts (.methodLink RX5 99 yX5_checkWhat) (List.mem_of_getElem? (i := 2) rfl)) (hts (.initialized RX5) (List.mem_of_getElem? (i := 4) rfl)) (hts (.static yX5_checkWhat) (List.mem_of_getElem? (i := 3) rfl)) (by decide +kernel) ⟨Nat.le_of_ble_eq_true rfl, Nat.le_of_ble_eq_true rfl⟩ hKK hPc hDc rfl hl.1 rfl (Nat.le_of_ble_eq_true rfl) dX5_gang_3 ⟨Nat.zero_le _, Nat.zero_le _⟩) hP hD hS hA [] rfl rfl [(false, 0), (false, 1), (false, 2), (false, 3), (false, 4), (false, 5), (false, 6), (false, 7), (false, 8), (false, 9), (false, 10), (false, 11), (false, 12), (false, 13), (false, 14), (false, 15), (false, 16), (false, 17)] (by decide +kernel) rfl rfl (fun H locs hP hD hS => ?_)
  refine lv_aload_n hx hb dX5_gang_6 rfl (lv_at hl 0 rfl) ?_
  refine va_get (D := D) (ci := 5) (v := .ref aR0) (C := RX5) (T := TX5) (N := 3) hx hb hts iX5 hown hKK.1 hP 0 rfl rfl 1 (by decide) (hts (.fieldLink RX5 19 "TrolleyGang" "now" "LTrolleyGang$Ring;") (List.mem_of_getElem? (i := 1) rfl)) (fun _ h9 => h9) rfl dX5_gang_7 ?_
  refine va_getN (D := D) (ci := 2) (v := .ref aG0) (C := RX2) (T := TX2) (N := 6) hx hb hts iX2 hown hKK.1 hP 4 rfl rfl 1 (by decide) (nw (w := .fieldLinkNest "TrolleyGang" 138 "TrolleyGang$Ring" "gang" "LTrolleyGang$Gang;" "TrolleyGang") nq_68) (fun _ h9 => h9) rfl dX5_gang_10 ?_
  refine lv_astore_n (lv' := [(2, .ref aG0), (0, .ref aX), (1, .int x_)]) hx hb dX5_gang_13 rfl hl (by decide) rfl (fun ls hl => ?_)
  refine lv_iload_n hx hb dX5_gang_14 rfl (lv_at hl 2 rfl) ?_
  rcases sw6 x_ with rfl | rfl | rfl | rfl | rfl | rfl | hs_1
  · skip
    refine lv_tableIn (off := 37) (tgt := 52) hx hb dX5_gang_15 (by decide) (by decide) (by decide) (by decide) ?_
    refine lv_aload_n hx hb dX5_gang_52 rfl (lv_at hl 0 rfl) ?_
    refine va_getN (D := D) (ci := 1) (v := .int (g0 1)) (C := RX1) (T := TX1) (N := 6) hx hb hts iX1 hown hKK.1 hP 8 rfl rfl 2 (by decide) (nw (w := .fieldLinkNest "TrolleyGang" 162 "TrolleyGang$Gang" "at" "I" "TrolleyGang") nq_47) (fun _ h9 => h9) rfl dX5_gang_53 ?_
    have e9 : gangS 0 od0 g0 = g0 1 := (by first | with_reducible rfl | (simp only [gangS, if_true, if_false, reduceIte, not_true_eq_false, not_false_eq_true]; done) | (simp [gangS]; done))
    exact end_i hx hb hrt hlocks (by rw [e9]) hP hS dX5_gang_56
  · skip
    refine lv_tableIn (off := 42) (tgt := 57) hx hb dX5_gang_15 (by decide) (by decide) (by decide) (by decide) ?_
    refine lv_aload_n hx hb dX5_gang_57 rfl (lv_at hl 0 rfl) ?_
    refine va_getN (D := D) (ci := 1) (v := .int (g0 0)) (C := RX1) (T := TX1) (N := 6) hx hb hts iX1 hown hKK.1 hP 8 rfl rfl 1 (by decide) (nw (w := .fieldLinkNest "TrolleyGang" 147 "TrolleyGang$Gang" "orderCount" "I" "TrolleyGang") nq_45) (fun _ h9 => h9) rfl dX5_gang_58 ?_
    refine lv_if_le (tgt := 73) hx hb dX5_gang_61 (by decide) (fun h_2 => ?_) (fun h_2 => ?_)
    · skip
      refine lv_iconst (v := (-1)) hx hb dX5_gang_73 (by decide) ?_
      have e9 : gangS 1 od0 g0 = (-1) := (by first | with_reducible rfl | (simp only [gangS, h_2, if_true, if_false, reduceIte, not_true_eq_false, not_false_eq_true]; done) | (simp [gangS, h_2]; done))
      exact end_i hx hb hrt hlocks (by rw [e9]) hP hS dX5_gang_74
    · skip
      refine lv_aload_n hx hb dX5_gang_64 rfl (lv_at hl 0 rfl) ?_
      refine va_getN (D := D) (ci := 1) (v := .ref ao0) (C := RX1) (T := TX1) (N := 6) hx hb hts iX1 hown hKK.1 hP 8 rfl rfl 0 (by decide) (nw (w := .fieldLinkNest "TrolleyGang" 154 "TrolleyGang$Gang" "orders" "[I" "TrolleyGang") nq_43) (fun _ h9 => h9) rfl dX5_gang_65 ?_
      refine lv_iconst (v := 0) hx hb dX5_gang_68 (by decide) ?_
      refine va_iald hx hb hKK.1 hP 9 0 rfl rfl (hin := (vp_in_nI (n := 0) (by omega) (by omega))) dX5_gang_69 ?_
      refine lv_tope (y := od0 0) rfl ?_
      refine lv_goto (tgt := 74) hx hb dX5_gang_70 (by decide) ?_
      have e9 : gangS 1 od0 g0 = od0 0 := (by first | with_reducible rfl | (simp only [gangS, h_2, if_true, if_false, reduceIte, not_true_eq_false, not_false_eq_true]; done) | (simp [gangS, h_2]; done))
      exact end_i hx hb hrt hlocks (by rw [e9]) hP hS dX5_gang_74
  · skip
    refine lv_tableIn (off := 60) (tgt := 75) hx hb dX5_gang_15 (by decide) (by decide) (by decide) (by decide) ?_
    refine lv_aload_n hx hb dX5_gang_75 rfl (lv_at hl 0 rfl) ?_
    refine va_getN (D := D) (ci := 1) (v := .int (g0 0)) (C := RX1) (T := TX1) (N := 6) hx hb hts iX1 hown hKK.1 hP 8 rfl rfl 1 (by decide) (nw (w := .fieldLinkNest "TrolleyGang" 147 "TrolleyGang$Gang" "orderCount" "I" "TrolleyGang") nq_45) (fun _ h9 => h9) rfl dX5_gang_76 ?_
    have e9 : gangS 2 od0 g0 = g0 0 := (by first | with_reducible rfl | (simp only [gangS, if_true, if_false, reduceIte, not_true_eq_false, not_false_eq_true]; done) | (simp [gangS]; done))
    exact end_i hx hb hrt hlocks (by rw [e9]) hP hS dX5_gang_79
  · skip
    refine lv_tableIn (off := 65) (tgt := 80) hx hb dX5_gang_15 (by decide) (by decide) (by decide) (by decide) ?_
    refine lv_aload_n hx hb dX5_gang_80 rfl (lv_at hl 0 rfl) ?_
    refine va_getN (D := D) (ci := 1) (v := .int (g0 2)) (C := RX1) (T := TX1) (N := 6) hx hb hts iX1 hown hKK.1 hP 8 rfl rfl 3 (by decide) (nw (w := .fieldLinkNest "TrolleyGang" 163 "TrolleyGang$Gang" "worksAtFirst" "I" "TrolleyGang") nq_49) (fun _ h9 => h9) rfl dX5_gang_81 ?_
    have e9 : gangS 3 od0 g0 = g0 2 := (by first | with_reducible rfl | (simp only [gangS, if_true, if_false, reduceIte, not_true_eq_false, not_false_eq_true]; done) | (simp [gangS]; done))
    exact end_i hx hb hrt hlocks (by rw [e9]) hP hS dX5_gang_84
  · skip
    refine lv_tableIn (off := 70) (tgt := 85) hx hb dX5_gang_15 (by decide) (by decide) (by decide) (by decide) ?_
    refine lv_aload_n hx hb dX5_gang_85 rfl (lv_at hl 0 rfl) ?_
    refine va_getN (D := D) (ci := 1) (v := .int (g0 3)) (C := RX1) (T := TX1) (N := 6) hx hb hts iX1 hown hKK.1 hP 8 rfl rfl 4 (by decide) (nw (w := .fieldLinkNest "TrolleyGang" 166 "TrolleyGang$Gang" "worksInAll" "I" "TrolleyGang") nq_51) (fun _ h9 => h9) rfl dX5_gang_86 ?_
    have e9 : gangS 4 od0 g0 = g0 3 := (by first | with_reducible rfl | (simp only [gangS, if_true, if_false, reduceIte, not_true_eq_false, not_false_eq_true]; done) | (simp [gangS]; done))
    exact end_i hx hb hrt hlocks (by rw [e9]) hP hS dX5_gang_89
  · skip
    refine lv_tableIn (off := 75) (tgt := 90) hx hb dX5_gang_15 (by decide) (by decide) (by decide) (by decide) ?_
    refine lv_aload_n hx hb dX5_gang_90 rfl (lv_at hl 0 rfl) ?_
    refine va_getN (D := D) (ci := 1) (v := .int (g0 4)) (C := RX1) (T := TX1) (N := 6) hx hb hts iX1 hown hKK.1 hP 8 rfl rfl 5 (by decide) (nw (w := .fieldLinkNest "TrolleyGang" 169 "TrolleyGang$Gang" "putUpInAll" "I" "TrolleyGang") nq_53) (fun _ h9 => h9) rfl dX5_gang_91 ?_
    have e9 : gangS 5 od0 g0 = g0 4 := (by first | with_reducible rfl | (simp only [gangS, if_true, if_false, reduceIte, not_true_eq_false, not_false_eq_true]; done) | (simp [gangS]; done))
    exact end_i hx hb hrt hlocks (by rw [e9]) hP hS dX5_gang_94
  · skip
    refine lv_tableOut (tgt := 95) hx hb dX5_gang_15 hs_1 (by decide) ?_
    refine lv_aload_n hx hb dX5_gang_95 rfl (lv_at hl 0 rfl) ?_
    have hPc := hP.sub (ws' := (cG cyI aG0 ao0 od0 g0)) [8, 9] rfl
    have hDc := hD.sub (ws' := (cG cyI aG0 ao0 od0 g0)) [8, 9] (by decide) rfl
    refine ret_iP (W1 := (cG cyI aG0 ao0 od0 g0)) (W2 := (cG cyI aG0 ao0 od0 g0)) (X1 := cX aX aT aR0 aR1 ++ cT cyI aT ac as_ cd sw fd fn ++ cR cyI cyO aR0 aW0 aw0 af0 aG0 ao0 aB0 ab0 w0 f0 od0 g0 bc0 hr0 co0 ++ cR cyI cyO aR1 aW1 aw1 af1 aG1 ao1 aB1 ab1 w1 f1 od1 g1 bc1 hr1 co1) (r := hrsS od0 g0) (run_VN (q := (RX1, TX1, 6)) (n := 0) (As := []) (rest := []) ⟨hx, hb, hml, hown, hts⟩ (c_X1_hoursToFirst l D cyI cyO cyL aG0 ao0 od0 g0 _) ggX5_gang_X1_hoursToFirst rfl rfl rfl nq_6 (hts (.initialized RX1) (List.mem_of_getElem? (i := 9) rfl)) (hts (.instanceMethod yX1_hoursToFirst) (List.mem_of_getElem? (i := 8) rfl)) (hts (.selects RX1 yX1_hoursToFirst yX1_hoursToFirst) (List.mem_of_getElem? (i := 10) rfl)) (by decide +kernel) ⟨Nat.le_of_ble_eq_true rfl, Nat.le_of_ble_eq_true rfl⟩ hKK hPc hDc (ci := 1) (q0 := 0) rfl rfl rfl hl.1 rfl (Nat.le_of_ble_eq_true rfl) dX5_gang_96 ⟨Nat.zero_le _, Nat.zero_le _⟩) hP hD hS hA [8, 9] rfl rfl [(false, 0), (false, 1), (false, 2), (false, 3), (false, 4), (false, 5), (false, 6), (false, 7), (true, 0), (true, 1), (false, 10), (false, 11), (false, 12), (false, 13), (false, 14), (false, 15), (false, 16), (false, 17)] (by decide +kernel) rfl rfl (fun H locs hP hD hS => ?_)
    have e9 : gangS x_ od0 g0 = hrsS od0 g0 := (by first | with_reducible rfl | (simp only [gangS, (nt6 hs_1), if_true, if_false, reduceIte, not_true_eq_false, not_false_eq_true]; done) | (simp [gangS, (nt6 hs_1)]; done))
    exact end_i hx hb hrt hlocks (by rw [e9]) hP hS dX5_gang_99
set_option maxHeartbeats 4000000 in
set_option maxRecDepth 100000 in
theorem c_X5_count (l : Launch) (D : va_G) (cyI cyO cyL : ClassId) (aX : Nat) (aT : Nat) (aR0 : Nat) (aR1 : Nat) (ac : Nat) (as_ : Nat) (aW0 : Nat) (aw0 : Nat) (af0 : Nat) (aG0 : Nat) (ao0 : Nat) (aB0 : Nat) (aW1 : Nat) (aw1 : Nat) (af1 : Nat) (aG1 : Nat) (ao1 : Nat) (aB1 : Nat) (cd : Nat → Int32) (sw : Nat → Int32) (fd : Int32) (fn : Int32) (ab0 : Nat → Nat) (w0 : Nat → Int32) (f0 : Nat → Int32) (od0 : Nat → Int32) (g0 : Nat → Int32) (bc0 : Int32) (hr0 : Int32) (co0 : Int32) (ab1 : Nat → Nat) (w1 : Nat → Int32) (f1 : Nat → Int32) (od1 : Nat → Int32) (g1 : Nat → Int32) (bc1 : Int32) (hr1 : Int32) (co1 : Int32) (LB : List Nat) (B : Nat → Nat → Int32) (x_ : Int32) (n : Nat) (hx0 : ¬ x_ < 0) (hx1 : x_ < 9) (hn : n ≤ 6) (hbc : bc0 = nI n) (hLB0 : ∀ k, k < 6 → ab0 k ∈ LB) (hhr : OkH hr0) : cI l yX5_count wsX5_count ({ frames := 3, cells := 0, slots := 0, locals := 64 }) D cyI cyO cyL [.ref aX, .int x_] ((cX aX aT aR0 aR1 ++ cT cyI aT ac as_ cd sw fd fn ++ cR cyI cyO aR0 aW0 aw0 af0 aG0 ao0 aB0 ab0 w0 f0 od0 g0 bc0 hr0 co0 ++ cR cyI cyO aR1 aW1 aw1 af1 aG1 ao1 aB1 ab1 w1 f1 od1 g1 bc1 hr1 co1) ++ pB LB B) ((cX aX aT aR0 aR1 ++ cT cyI aT ac as_ cd sw fd fn ++ cR cyI cyO aR0 aW0 aw0 af0 aG0 ao0 aB0 ab0 w0 f0 od0 g0 bc0 hr0 co0 ++ cR cyI cyO aR1 aW1 aw1 af1 aG1 ao1 aB1 ab1 w1 f1 od1 g1 bc1 hr1 co1) ++ pB LB B) (tallyS x_ n ab0 w0 f0 B bc0 hr0 co0) := by
  intro sz
  refine Met.ofW (cc := cX5_count) (maxL := 2) (ret := (some .int)) (by decide) rfl ?_
  intro p e s m args below meth c s₁ B9 hml hv
  obtain ⟨rfl, hsz, hP, hKK, hD0⟩ := hv
  have hx := B9.exec
  have hb := B9.bytes
  have hrt := B9.returns
  have hts := atoms_spec (ws := wsX5_count) B9.pre
  have hown : s.vm.findClass RX5 = some m.cls := findClass_of_methodNamed B9.named
  have hlocks := B9.notSynchronized
  have nw := fun {w : Cond} (h : w ∈ nw_all) => NW.use (args := ([.ref aX, .int x_] : List Value).toArray) hKK.2 h
  have iX5 : ∀ w ∈ wsX50, w ∈ wsX5_count := fun _ h => List.mem_cons_of_mem _ (List.mem_append_left _ (List.mem_append_left _ (List.mem_append_left _ (List.mem_append_left _ (List.mem_append_right _ h)))))
  subst hsz
  have hD := hD0.self (sz := s.heap.size)
  generalize hAe : va_A ((cX aX aT aR0 aR1 ++ cT cyI aT ac as_ cd sw fd fn ++ cR cyI cyO aR0 aW0 aw0 af0 aG0 ao0 aB0 ab0 w0 f0 od0 g0 bc0 hr0 co0 ++ cR cyI cyO aR1 aW1 aw1 af1 aG1 ao1 aB1 ab1 w1 f1 od1 g1 bc1 hr1 co1) ++ pB LB B) s.heap.size = A at hD ⊢
  have hA : ∀ q : Nat, s.heap.size ≤ q → A q := fun q h => by rw [← hAe]; exact Or.inr h
  have hS : va_S A s.heap s.heap [] := va_S.rf
  have hl := lv_entry ([.ref aX, .int x_]) (n := 2) (Nat.le_of_ble_eq_true rfl)
  rw [lg_entry_eq]
  generalize (lg_sl ([.ref aX, .int x_]) ++ List.replicate (2 - (lg_sl ([.ref aX, .int x_])).length) Slot.unset).toArray = ls at hl ⊢
  have hl : lv_has ls 2 [(0, .ref aX), (1, .int x_)] := hl
  refine lv_iload_n hx hb dX5_count_0 rfl (lv_at hl 1 rfl) ?_
  refine lv_bipush (v := 9) hx hb dX5_count_1 (by decide) ?_
  have hPc := hP.sub (ws' := ([] : va_W)) [] rfl
  have hDc := hD.sub (ws' := ([] : va_W)) [] (by decide) rfl
  refine ret_vP (W1 := ([] : va_W)) (W2 := ([] : va_W)) (X1 := cX aX aT aR0 aR1 ++ cT cyI aT ac as_ cd sw fd fn ++ cR cyI cyO aR0 aW0 aw0 af0 aG0 ao0 aB0 ab0 w0 f0 od0 g0 bc0 hr0 co0 ++ cR cyI cyO aR1 aW1 aw1 af1 aG1 ao1 aB1 ab1 w1 f1 od1 g1 bc1 hr1 co1) (run_S (n := 2) (As := [.int x_, .int 9]) (rest := []) ⟨hx, hb, hml, hown, hts⟩ (c_X5_checkWhat l D cyI cyO cyL x_ 9 hx0 hx1 _) ggX5_count_X5_checkWhat rfl rfl rfl (hts (.methodLink RX5 99 yX5_checkWhat) (List.mem_of_getElem? (i := 2) rfl)) (hts (.initialized RX5) (List.mem_of_getElem? (i := 4) rfl)) (hts (.static yX5_checkWhat) (List.mem_of_getElem? (i := 3) rfl)) (by decide +kernel) ⟨Nat.le_of_ble_eq_true rfl, Nat.le_of_ble_eq_true rfl⟩ hKK hPc hDc rfl hl.1 rfl (Nat.le_of_ble_eq_true rfl) dX5_count_3 ⟨Nat.zero_le _, Nat.zero_le _⟩) hP hD hS hA [] rfl rfl [(false, 0), (false, 1), (false, 2), (false, 3), (false, 4), (false, 5), (false, 6), (false, 7), (false, 8), (false, 9), (false, 10), (false, 11), (false, 12), (false, 13), (false, 14), (false, 15), (false, 16), (false, 17)] (by decide +kernel) rfl rfl (fun H locs hP hD hS => ?_)
  refine lv_aload_n hx hb dX5_count_6 rfl (lv_at hl 0 rfl) ?_
  refine va_get (D := D) (ci := 5) (v := .ref aR0) (C := RX5) (T := TX5) (N := 3) hx hb hts iX5 hown hKK.1 hP 0 rfl rfl 1 (by decide) (hts (.fieldLink RX5 19 "TrolleyGang" "now" "LTrolleyGang$Ring;") (List.mem_of_getElem? (i := 1) rfl)) (fun _ h9 => h9) rfl dX5_count_7 ?_
  refine lv_iload_n hx hb dX5_count_10 rfl (lv_at hl 1 rfl) ?_
  have hPc := hP.part (cx := (cR cyI cyO aR0 aW0 aw0 af0 aG0 ao0 aB0 ab0 w0 f0 od0 g0 bc0 hr0 co0)) [4, 5, 6, 7, 8, 9, 10] rfl
  have hDc := hD.part (cx := (cR cyI cyO aR0 aW0 aw0 af0 aG0 ao0 aB0 ab0 w0 f0 od0 g0 bc0 hr0 co0)) [4, 5, 6, 7, 8, 9, 10] (by decide) rfl
  refine ret_iB (cx := (cR cyI cyO aR0 aW0 aw0 af0 aG0 ao0 aB0 ab0 w0 f0 od0 g0 bc0 hr0 co0)) (cx' := (cR cyI cyO aR0 aW0 aw0 af0 aG0 ao0 aB0 ab0 w0 f0 od0 g0 bc0 hr0 co0)) (pl' := pB LB B) (X1 := cX aX aT aR0 aR1 ++ cT cyI aT ac as_ cd sw fd fn ++ cR cyI cyO aR0 aW0 aw0 af0 aG0 ao0 aB0 ab0 w0 f0 od0 g0 bc0 hr0 co0 ++ cR cyI cyO aR1 aW1 aw1 af1 aG1 ao1 aB1 ab1 w1 f1 od1 g1 bc1 hr1 co1) (r := tallyS x_ n ab0 w0 f0 B bc0 hr0 co0) (run_VN (q := (RX2, TX2, 6)) (n := 1) (As := [.int x_]) (rest := []) ⟨hx, hb, hml, hown, hts⟩ (c_X2_tally l D cyI cyO cyL aR0 aW0 aw0 af0 aG0 ao0 aB0 ab0 w0 f0 od0 g0 bc0 hr0 co0 LB B x_ n hn hbc hLB0 hhr _) ggX5_count_X2_tally rfl rfl rfl nq_7 (hts (.initialized RX2) (List.mem_of_getElem? (i := 9) rfl)) (hts (.instanceMethod yX2_tally) (List.mem_of_getElem? (i := 8) rfl)) (hts (.selects RX2 yX2_tally yX2_tally) (List.mem_of_getElem? (i := 10) rfl)) (by decide +kernel) ⟨Nat.le_of_ble_eq_true rfl, Nat.le_of_ble_eq_true rfl⟩ hKK hPc hDc (ci := 2) (q0 := 0) rfl rfl rfl hl.1 rfl (Nat.le_of_ble_eq_true rfl) dX5_count_11 ⟨Nat.zero_le _, Nat.zero_le _⟩) hP hD hS hA [4, 5, 6, 7, 8, 9, 10] (by decide) rfl rfl pB_fst [(false, 0), (false, 1), (false, 2), (false, 3), (true, 0), (true, 1), (true, 2), (true, 3), (true, 4), (true, 5), (true, 6), (false, 11), (false, 12), (false, 13), (false, 14), (false, 15), (false, 16), (false, 17)] (by decide +kernel) rfl rfl (fun H locs hP hD hS => ?_)
  have e9 : tallyS x_ n ab0 w0 f0 B bc0 hr0 co0 = tallyS x_ n ab0 w0 f0 B bc0 hr0 co0 := (by rfl)
  exact end_i hx hb hrt hlocks (by rw [e9]) hP hS dX5_count_14
