/-! the law's own methods: the class' answer into out[0], or the number of what it throws -/
set_option maxHeartbeats 4000000 in
set_option maxRecDepth 100000 in
theorem u_setCold_g (l : Launch) (D : va_G) (cyI cyO cyL : ClassId) (aX ao : Nat) (p q : Int32) (Xa Xb : va_W) (o : Nat → Int64) (fs : List Value) (hrv : Xa[0]? = some (aX, .inr (5, fs))) (r : Int32) (hf : Xb.map (fun q => q.1) = Xa.map (fun q => q.1)) (hc : GI l yX5_setCold wsX5_setCold D cyI cyO cyL [.ref aX, .int p, .int q] Xa Xb r) : cU l yL_setCold wsL_setCold RU D cyI cyO cyL [.ref aX, .int p, .int q, .ref ao] (Xa ++ cO cyL ao o) (Xb ++ cO cyL ao (vp_updL o 0 r.toInt64)) 0 := by
  obtain ⟨rm, hr1, hr2, hr3, hr4, hc⟩ := hc
  intro sz
  refine va_MetW (cc := cL_setCold) (maxL := 5) (ret := (some .int)) (hh := [(0, 10, 13, 13), (0, 10, 17, 15)]) (by decide) rfl ?_
  intro p9 e s m args below meth c s₁ B9 hml hv
  obtain ⟨rfl, ⟨hsz, hP, hKK, hXE, hD0⟩, hNC⟩ := hv
  have hx := B9.exec
  have hb := B9.bytes
  have hrt := B9.returns
  have hts := atoms_spec (ws := wsL_setCold) B9.pre
  have hown : s.vm.findClass RL = some m.cls := findClass_of_methodNamed B9.named
  have hlocks := B9.notSynchronized
  subst hsz
  have hD := hD0.self (sz := s.heap.size)
  generalize hAe : va_A (Xa ++ cO cyL ao o) s.heap.size = A at hD hXE ⊢
  have hA : ∀ q : Nat, s.heap.size ≤ q → A q := fun q h => by rw [← hAe]; exact Or.inr h
  have hS : va_S A s.heap s.heap [] := va_S.rf
  have hl := lv_entry ([.ref aX, .int p, .int q, .ref ao]) (n := 5) (Nat.le_of_ble_eq_true rfl)
  rw [lg_entry_eq]
  generalize (lg_sl ([.ref aX, .int p, .int q, .ref ao]) ++ List.replicate (5 - (lg_sl ([.ref aX, .int p, .int q, .ref ao])).length) Slot.unset).toArray = ls at hl ⊢
  have hl : lv_has ls 5 [(0, .ref aX), (1, .int p), (2, .int q), (3, .ref ao)] := hl
  refine lv_aload_n hx hb dL_setCold_0 rfl (lv_at hl 3 rfl) ?_
  refine lv_iconst (v := 0) hx hb dL_setCold_1 (by decide) ?_
  refine lv_aload_n hx hb dL_setCold_2 rfl (lv_at hl 0 rfl) ?_
  refine lv_iload_n hx hb dL_setCold_3 rfl (lv_at hl 1 rfl) ?_
  refine lv_iload_n hx hb dL_setCold_4 rfl (lv_at hl 2 rfl) ?_
  have hPc := preP hP
  have hDc := va_D_left hD
  have hFc := free_of hDc hS hA
  refine ret_iJ (ws1 := Xb ++ cO cyL ao o) (r := r) (run_V (q := (RX5, TX5, 3)) (n := 2) (As := [.int p, .int q]) (rest := [.int 0, .ref ao]) ⟨hx, hb, hml, hown, hts⟩ (hc _) ggL_setCold_X5_setCold rfl hr1 hr2 (hts (.methodLink RL 7 yX5_setCold) (List.mem_of_getElem? (i := 3) rfl)) (hts (.initialized RX5) (List.mem_of_getElem? (i := 6) rfl)) (hts (.instanceMethod yX5_setCold) (List.mem_of_getElem? (i := 4) rfl)) (hts (.selects RX5 yX5_setCold yX5_setCold) (List.mem_of_getElem? (i := 5) rfl)) (by decide +kernel) ⟨(by show rm.frames + 1 ≤ 8; omega), (by show 8 + (4 + 11) + rm.locals ≤ 180; omega)⟩ hKK hPc hDc (ci := 5) (q0 := 0) rfl hrv rfl hl.1 rfl (Nat.le_of_ble_eq_true rfl) dL_setCold_5 ⟨Nat.zero_le _, Nat.zero_le _⟩) hS hFc (fun H1 hk h => call_pre hP hD hf hk h) (fun H locs hP hD hS => ?_)
  refine lv_i2l (v := r.toInt64) hx hb dL_setCold_8 rfl ?_
  refine out_st hx hb hKK hP hD hS dL_setCold_9 (fun H locs hP hD hS => ?_)
  refine lv_goto (tgt := 21) hx hb dL_setCold_10 (by decide) ?_
  refine lv_iconst (v := 0) hx hb dL_setCold_21 (by decide) ?_
  exact end_U hx hb hrt hlocks rfl hP hS (by omega) (by omega) dL_setCold_22
set_option maxHeartbeats 4000000 in
set_option maxRecDepth 100000 in
theorem u_setCold_b1 (l : Launch) (D : va_G) (cyI cyO cyL : ClassId) (aX ao : Nat) (p q : Int32) (Xa : va_W) (o : Nat → Int64) (fs : List Value) (hrv : Xa[0]? = some (aX, .inr (5, fs))) (hlf : l.stackTraces = false) (hc : GB l yX5_setCold wsX5_setCold D cyI cyO cyL [.ref aX, .int p, .int q] Xa IOOB) : cU l yL_setCold wsL_setCold RU D cyI cyO cyL [.ref aX, .int p, .int q, .ref ao] (Xa ++ cO cyL ao o) (Xa ++ cO cyL ao o) 1 := by
  obtain ⟨rm, hr1, hr2, hr3, hr4, hc⟩ := hc
  intro sz
  refine va_MetW (cc := cL_setCold) (maxL := 5) (ret := (some .int)) (hh := [(0, 10, 13, 13), (0, 10, 17, 15)]) (by decide) rfl ?_
  intro p9 e s m args below meth c s₁ B9 hml hv
  obtain ⟨rfl, ⟨hsz, hP, hKK, hXE, hD0⟩, hNC⟩ := hv
  have hx := B9.exec
  have hb := B9.bytes
  have hrt := B9.returns
  have hts := atoms_spec (ws := wsL_setCold) B9.pre
  have hown : s.vm.findClass RL = some m.cls := findClass_of_methodNamed B9.named
  have hlocks := B9.notSynchronized
  have htab := vx_table (x := yL_setCold) B9 (hts _ List.mem_cons_self)
  subst hsz
  have hD := hD0.self (sz := s.heap.size)
  generalize hAe : va_A (Xa ++ cO cyL ao o) s.heap.size = A at hD hXE ⊢
  have hA : ∀ q : Nat, s.heap.size ≤ q → A q := fun q h => by rw [← hAe]; exact Or.inr h
  have hS : va_S A s.heap s.heap [] := va_S.rf
  have hl := lv_entry ([.ref aX, .int p, .int q, .ref ao]) (n := 5) (Nat.le_of_ble_eq_true rfl)
  rw [lg_entry_eq]
  generalize (lg_sl ([.ref aX, .int p, .int q, .ref ao]) ++ List.replicate (5 - (lg_sl ([.ref aX, .int p, .int q, .ref ao])).length) Slot.unset).toArray = ls at hl ⊢
  have hl : lv_has ls 5 [(0, .ref aX), (1, .int p), (2, .int q), (3, .ref ao)] := hl
  refine lv_aload_n hx hb dL_setCold_0 rfl (lv_at hl 3 rfl) ?_
  refine lv_iconst (v := 0) hx hb dL_setCold_1 (by decide) ?_
  refine lv_aload_n hx hb dL_setCold_2 rfl (lv_at hl 0 rfl) ?_
  refine lv_iload_n hx hb dL_setCold_3 rfl (lv_at hl 1 rfl) ?_
  refine lv_iload_n hx hb dL_setCold_4 rfl (lv_at hl 2 rfl) ?_
  have hPc := preP hP
  have hDc := va_D_left hD
  have hFc := free_of hDc hS hA
  have hXc := (hXE.kept hS.2.1).narrow hFc
  refine thrJ (ws1 := Xa ++ cO cyL ao o) (X := IOOB) (runX_V (q := (RX5, TX5, 3)) (n := 2) (As := [.int p, .int q]) (rest := [.int 0, .ref ao]) ⟨hx, hb, hml, hown, hts⟩ (hc _) ggL_setCold_X5_setCold rfl hr1 hr2 (hts (.methodLink RL 7 yX5_setCold) (List.mem_of_getElem? (i := 3) rfl)) (hts (.initialized RX5) (List.mem_of_getElem? (i := 6) rfl)) (hts (.instanceMethod yX5_setCold) (List.mem_of_getElem? (i := 4) rfl)) (hts (.selects RX5 yX5_setCold yX5_setCold) (List.mem_of_getElem? (i := 5) rfl)) (by decide +kernel) ⟨(by show rm.frames + 1 ≤ 8; omega), (by show 8 + (4 + 11) + rm.locals ≤ 180; omega)⟩ hKK hXc hPc hDc (ci := 5) (q0 := 0) rfl hrv rfl hl.1 rfl (Nat.le_of_ble_eq_true rfl) dL_setCold_5 ⟨Nat.le_of_ble_eq_true rfl, Nat.le_of_ble_eq_true rfl⟩) hS hFc (fun H1 hk h => call_pre hP hD rfl hk h) (fun ce9 q9 H locs hP hD hS hce hcv hcl => ?_)
  refine vx_catch (own := RL) (name := IOOB) (E := IOOB) hown [] (⟨0, 10, 13, 13⟩ : ExceptionTableEntry) [(⟨0, 10, 17, 15⟩ : ExceptionTableEntry)] htab (fun z hz => by cases hz) (by decide) (by decide) (hts (.classLink RL 13 "java/lang/IndexOutOfBoundsException") (List.mem_of_getElem? (i := 1) rfl)) (NGW.use hXE.1 _ (List.mem_of_getElem? (i := 0) rfl)) hce hcv hcl ?_
  refine lv_astore (lv' := [(4, .ref q9), (0, .ref aX), (1, .int p), (2, .int q), (3, .ref ao)]) hx hb dL_setCold_13 hl (by decide) rfl (fun ls hl => ?_)
  refine lv_iconst (v := 1) hx hb dL_setCold_15 (by decide) ?_
  exact end_U hx hb hrt hlocks rfl hP hS (by omega) (by omega) dL_setCold_16
set_option maxHeartbeats 4000000 in
set_option maxRecDepth 100000 in
theorem u_setCold_b2 (l : Launch) (D : va_G) (cyI cyO cyL : ClassId) (aX ao : Nat) (p q : Int32) (Xa : va_W) (o : Nat → Int64) (fs : List Value) (hrv : Xa[0]? = some (aX, .inr (5, fs))) (hlf : l.stackTraces = false) (hc : GB l yX5_setCold wsX5_setCold D cyI cyO cyL [.ref aX, .int p, .int q] Xa IARG) : cU l yL_setCold wsL_setCold RU D cyI cyO cyL [.ref aX, .int p, .int q, .ref ao] (Xa ++ cO cyL ao o) (Xa ++ cO cyL ao o) 2 := by
  obtain ⟨rm, hr1, hr2, hr3, hr4, hc⟩ := hc
  intro sz
  refine va_MetW (cc := cL_setCold) (maxL := 5) (ret := (some .int)) (hh := [(0, 10, 13, 13), (0, 10, 17, 15)]) (by decide) rfl ?_
  intro p9 e s m args below meth c s₁ B9 hml hv
  obtain ⟨rfl, ⟨hsz, hP, hKK, hXE, hD0⟩, hNC⟩ := hv
  have hx := B9.exec
  have hb := B9.bytes
  have hrt := B9.returns
  have hts := atoms_spec (ws := wsL_setCold) B9.pre
  have hown : s.vm.findClass RL = some m.cls := findClass_of_methodNamed B9.named
  have hlocks := B9.notSynchronized
  have htab := vx_table (x := yL_setCold) B9 (hts _ List.mem_cons_self)
  subst hsz
  have hD := hD0.self (sz := s.heap.size)
  generalize hAe : va_A (Xa ++ cO cyL ao o) s.heap.size = A at hD hXE ⊢
  have hA : ∀ q : Nat, s.heap.size ≤ q → A q := fun q h => by rw [← hAe]; exact Or.inr h
  have hS : va_S A s.heap s.heap [] := va_S.rf
  have hl := lv_entry ([.ref aX, .int p, .int q, .ref ao]) (n := 5) (Nat.le_of_ble_eq_true rfl)
  rw [lg_entry_eq]
  generalize (lg_sl ([.ref aX, .int p, .int q, .ref ao]) ++ List.replicate (5 - (lg_sl ([.ref aX, .int p, .int q, .ref ao])).length) Slot.unset).toArray = ls at hl ⊢
  have hl : lv_has ls 5 [(0, .ref aX), (1, .int p), (2, .int q), (3, .ref ao)] := hl
  refine lv_aload_n hx hb dL_setCold_0 rfl (lv_at hl 3 rfl) ?_
  refine lv_iconst (v := 0) hx hb dL_setCold_1 (by decide) ?_
  refine lv_aload_n hx hb dL_setCold_2 rfl (lv_at hl 0 rfl) ?_
  refine lv_iload_n hx hb dL_setCold_3 rfl (lv_at hl 1 rfl) ?_
  refine lv_iload_n hx hb dL_setCold_4 rfl (lv_at hl 2 rfl) ?_
  have hPc := preP hP
  have hDc := va_D_left hD
  have hFc := free_of hDc hS hA
  have hXc := (hXE.kept hS.2.1).narrow hFc
  refine thrJ (ws1 := Xa ++ cO cyL ao o) (X := IARG) (runX_V (q := (RX5, TX5, 3)) (n := 2) (As := [.int p, .int q]) (rest := [.int 0, .ref ao]) ⟨hx, hb, hml, hown, hts⟩ (hc _) ggL_setCold_X5_setCold rfl hr1 hr2 (hts (.methodLink RL 7 yX5_setCold) (List.mem_of_getElem? (i := 3) rfl)) (hts (.initialized RX5) (List.mem_of_getElem? (i := 6) rfl)) (hts (.instanceMethod yX5_setCold) (List.mem_of_getElem? (i := 4) rfl)) (hts (.selects RX5 yX5_setCold yX5_setCold) (List.mem_of_getElem? (i := 5) rfl)) (by decide +kernel) ⟨(by show rm.frames + 1 ≤ 8; omega), (by show 8 + (4 + 11) + rm.locals ≤ 180; omega)⟩ hKK hXc hPc hDc (ci := 5) (q0 := 0) rfl hrv rfl hl.1 rfl (Nat.le_of_ble_eq_true rfl) dL_setCold_5 ⟨Nat.le_of_ble_eq_true rfl, Nat.le_of_ble_eq_true rfl⟩) hS hFc (fun H1 hk h => call_pre hP hD rfl hk h) (fun ce9 q9 H locs hP hD hS hce hcv hcl => ?_)
  refine vx_catch (own := RL) (name := IARG) (E := IARG) hown [(⟨0, 10, 13, 13⟩ : ExceptionTableEntry)] (⟨0, 10, 17, 15⟩ : ExceptionTableEntry) [] htab (fun z hz => by cases List.mem_singleton.mp hz; exact Or.inr ⟨(by decide), IOOB, (hts (.classLink RL 13 "java/lang/IndexOutOfBoundsException") (List.mem_of_getElem? (i := 1) rfl)), hNC.1⟩) (by decide) (by decide) (hts (.classLink RL 15 "java/lang/IllegalArgumentException") (List.mem_of_getElem? (i := 2) rfl)) (NGW.use hXE.1 _ (List.mem_of_getElem? (i := 1) rfl)) hce hcv hcl ?_
  refine lv_astore (lv' := [(4, .ref q9), (0, .ref aX), (1, .int p), (2, .int q), (3, .ref ao)]) hx hb dL_setCold_17 hl (by decide) rfl (fun ls hl => ?_)
  refine lv_iconst (v := 2) hx hb dL_setCold_19 (by decide) ?_
  exact end_U hx hb hrt hlocks rfl hP hS (by omega) (by omega) dL_setCold_20
set_option maxHeartbeats 4000000 in
set_option maxRecDepth 100000 in
theorem u_setSwan_g (l : Launch) (D : va_G) (cyI cyO cyL : ClassId) (aX ao : Nat) (p q : Int32) (Xa Xb : va_W) (o : Nat → Int64) (fs : List Value) (hrv : Xa[0]? = some (aX, .inr (5, fs))) (r : Int32) (hf : Xb.map (fun q => q.1) = Xa.map (fun q => q.1)) (hc : GI l yX5_setSwan wsX5_setSwan D cyI cyO cyL [.ref aX, .int p, .int q] Xa Xb r) : cU l yL_setSwan wsL_setSwan RU D cyI cyO cyL [.ref aX, .int p, .int q, .ref ao] (Xa ++ cO cyL ao o) (Xb ++ cO cyL ao (vp_updL o 0 r.toInt64)) 0 := by
  obtain ⟨rm, hr1, hr2, hr3, hr4, hc⟩ := hc
  intro sz
  refine va_MetW (cc := cL_setSwan) (maxL := 5) (ret := (some .int)) (hh := [(0, 10, 13, 13), (0, 10, 17, 15)]) (by decide) rfl ?_
  intro p9 e s m args below meth c s₁ B9 hml hv
  obtain ⟨rfl, ⟨hsz, hP, hKK, hXE, hD0⟩, hNC⟩ := hv
  have hx := B9.exec
  have hb := B9.bytes
  have hrt := B9.returns
  have hts := atoms_spec (ws := wsL_setSwan) B9.pre
  have hown : s.vm.findClass RL = some m.cls := findClass_of_methodNamed B9.named
  have hlocks := B9.notSynchronized
  subst hsz
  have hD := hD0.self (sz := s.heap.size)
  generalize hAe : va_A (Xa ++ cO cyL ao o) s.heap.size = A at hD hXE ⊢
  have hA : ∀ q : Nat, s.heap.size ≤ q → A q := fun q h => by rw [← hAe]; exact Or.inr h
  have hS : va_S A s.heap s.heap [] := va_S.rf
  have hl := lv_entry ([.ref aX, .int p, .int q, .ref ao]) (n := 5) (Nat.le_of_ble_eq_true rfl)
  rw [lg_entry_eq]
  generalize (lg_sl ([.ref aX, .int p, .int q, .ref ao]) ++ List.replicate (5 - (lg_sl ([.ref aX, .int p, .int q, .ref ao])).length) Slot.unset).toArray = ls at hl ⊢
  have hl : lv_has ls 5 [(0, .ref aX), (1, .int p), (2, .int q), (3, .ref ao)] := hl
  refine lv_aload_n hx hb dL_setSwan_0 rfl (lv_at hl 3 rfl) ?_
  refine lv_iconst (v := 0) hx hb dL_setSwan_1 (by decide) ?_
  refine lv_aload_n hx hb dL_setSwan_2 rfl (lv_at hl 0 rfl) ?_
  refine lv_iload_n hx hb dL_setSwan_3 rfl (lv_at hl 1 rfl) ?_
  refine lv_iload_n hx hb dL_setSwan_4 rfl (lv_at hl 2 rfl) ?_
  have hPc := preP hP
  have hDc := va_D_left hD
  have hFc := free_of hDc hS hA
  refine ret_iJ (ws1 := Xb ++ cO cyL ao o) (r := r) (run_V (q := (RX5, TX5, 3)) (n := 2) (As := [.int p, .int q]) (rest := [.int 0, .ref ao]) ⟨hx, hb, hml, hown, hts⟩ (hc _) ggL_setSwan_X5_setSwan rfl hr1 hr2 (hts (.methodLink RL 17 yX5_setSwan) (List.mem_of_getElem? (i := 3) rfl)) (hts (.initialized RX5) (List.mem_of_getElem? (i := 6) rfl)) (hts (.instanceMethod yX5_setSwan) (List.mem_of_getElem? (i := 4) rfl)) (hts (.selects RX5 yX5_setSwan yX5_setSwan) (List.mem_of_getElem? (i := 5) rfl)) (by decide +kernel) ⟨(by show rm.frames + 1 ≤ 8; omega), (by show 8 + (4 + 11) + rm.locals ≤ 180; omega)⟩ hKK hPc hDc (ci := 5) (q0 := 0) rfl hrv rfl hl.1 rfl (Nat.le_of_ble_eq_true rfl) dL_setSwan_5 ⟨Nat.zero_le _, Nat.zero_le _⟩) hS hFc (fun H1 hk h => call_pre hP hD hf hk h) (fun H locs hP hD hS => ?_)
  refine lv_i2l (v := r.toInt64) hx hb dL_setSwan_8 rfl ?_
  refine out_st hx hb hKK hP hD hS dL_setSwan_9 (fun H locs hP hD hS => ?_)
  refine lv_goto (tgt := 21) hx hb dL_setSwan_10 (by decide) ?_
  refine lv_iconst (v := 0) hx hb dL_setSwan_21 (by decide) ?_
  exact end_U hx hb hrt hlocks rfl hP hS (by omega) (by omega) dL_setSwan_22
set_option maxHeartbeats 4000000 in
set_option maxRecDepth 100000 in
theorem u_setSwan_b1 (l : Launch) (D : va_G) (cyI cyO cyL : ClassId) (aX ao : Nat) (p q : Int32) (Xa : va_W) (o : Nat → Int64) (fs : List Value) (hrv : Xa[0]? = some (aX, .inr (5, fs))) (hlf : l.stackTraces = false) (hc : GB l yX5_setSwan wsX5_setSwan D cyI cyO cyL [.ref aX, .int p, .int q] Xa IOOB) : cU l yL_setSwan wsL_setSwan RU D cyI cyO cyL [.ref aX, .int p, .int q, .ref ao] (Xa ++ cO cyL ao o) (Xa ++ cO cyL ao o) 1 := by
  obtain ⟨rm, hr1, hr2, hr3, hr4, hc⟩ := hc
  intro sz
  refine va_MetW (cc := cL_setSwan) (maxL := 5) (ret := (some .int)) (hh := [(0, 10, 13, 13), (0, 10, 17, 15)]) (by decide) rfl ?_
  intro p9 e s m args below meth c s₁ B9 hml hv
  obtain ⟨rfl, ⟨hsz, hP, hKK, hXE, hD0⟩, hNC⟩ := hv
  have hx := B9.exec
  have hb := B9.bytes
  have hrt := B9.returns
  have hts := atoms_spec (ws := wsL_setSwan) B9.pre
  have hown : s.vm.findClass RL = some m.cls := findClass_of_methodNamed B9.named
  have hlocks := B9.notSynchronized
  have htab := vx_table (x := yL_setSwan) B9 (hts _ List.mem_cons_self)
  subst hsz
  have hD := hD0.self (sz := s.heap.size)
  generalize hAe : va_A (Xa ++ cO cyL ao o) s.heap.size = A at hD hXE ⊢
  have hA : ∀ q : Nat, s.heap.size ≤ q → A q := fun q h => by rw [← hAe]; exact Or.inr h
  have hS : va_S A s.heap s.heap [] := va_S.rf
  have hl := lv_entry ([.ref aX, .int p, .int q, .ref ao]) (n := 5) (Nat.le_of_ble_eq_true rfl)
  rw [lg_entry_eq]
  generalize (lg_sl ([.ref aX, .int p, .int q, .ref ao]) ++ List.replicate (5 - (lg_sl ([.ref aX, .int p, .int q, .ref ao])).length) Slot.unset).toArray = ls at hl ⊢
  have hl : lv_has ls 5 [(0, .ref aX), (1, .int p), (2, .int q), (3, .ref ao)] := hl
  refine lv_aload_n hx hb dL_setSwan_0 rfl (lv_at hl 3 rfl) ?_
  refine lv_iconst (v := 0) hx hb dL_setSwan_1 (by decide) ?_
  refine lv_aload_n hx hb dL_setSwan_2 rfl (lv_at hl 0 rfl) ?_
  refine lv_iload_n hx hb dL_setSwan_3 rfl (lv_at hl 1 rfl) ?_
  refine lv_iload_n hx hb dL_setSwan_4 rfl (lv_at hl 2 rfl) ?_
  have hPc := preP hP
  have hDc := va_D_left hD
  have hFc := free_of hDc hS hA
  have hXc := (hXE.kept hS.2.1).narrow hFc
  refine thrJ (ws1 := Xa ++ cO cyL ao o) (X := IOOB) (runX_V (q := (RX5, TX5, 3)) (n := 2) (As := [.int p, .int q]) (rest := [.int 0, .ref ao]) ⟨hx, hb, hml, hown, hts⟩ (hc _) ggL_setSwan_X5_setSwan rfl hr1 hr2 (hts (.methodLink RL 17 yX5_setSwan) (List.mem_of_getElem? (i := 3) rfl)) (hts (.initialized RX5) (List.mem_of_getElem? (i := 6) rfl)) (hts (.instanceMethod yX5_setSwan) (List.mem_of_getElem? (i := 4) rfl)) (hts (.selects RX5 yX5_setSwan yX5_setSwan) (List.mem_of_getElem? (i := 5) rfl)) (by decide +kernel) ⟨(by show rm.frames + 1 ≤ 8; omega), (by show 8 + (4 + 11) + rm.locals ≤ 180; omega)⟩ hKK hXc hPc hDc (ci := 5) (q0 := 0) rfl hrv rfl hl.1 rfl (Nat.le_of_ble_eq_true rfl) dL_setSwan_5 ⟨Nat.le_of_ble_eq_true rfl, Nat.le_of_ble_eq_true rfl⟩) hS hFc (fun H1 hk h => call_pre hP hD rfl hk h) (fun ce9 q9 H locs hP hD hS hce hcv hcl => ?_)
  refine vx_catch (own := RL) (name := IOOB) (E := IOOB) hown [] (⟨0, 10, 13, 13⟩ : ExceptionTableEntry) [(⟨0, 10, 17, 15⟩ : ExceptionTableEntry)] htab (fun z hz => by cases hz) (by decide) (by decide) (hts (.classLink RL 13 "java/lang/IndexOutOfBoundsException") (List.mem_of_getElem? (i := 1) rfl)) (NGW.use hXE.1 _ (List.mem_of_getElem? (i := 0) rfl)) hce hcv hcl ?_
  refine lv_astore (lv' := [(4, .ref q9), (0, .ref aX), (1, .int p), (2, .int q), (3, .ref ao)]) hx hb dL_setSwan_13 hl (by decide) rfl (fun ls hl => ?_)
  refine lv_iconst (v := 1) hx hb dL_setSwan_15 (by decide) ?_
  exact end_U hx hb hrt hlocks rfl hP hS (by omega) (by omega) dL_setSwan_16
set_option maxHeartbeats 4000000 in
set_option maxRecDepth 100000 in
theorem u_setSwan_b2 (l : Launch) (D : va_G) (cyI cyO cyL : ClassId) (aX ao : Nat) (p q : Int32) (Xa : va_W) (o : Nat → Int64) (fs : List Value) (hrv : Xa[0]? = some (aX, .inr (5, fs))) (hlf : l.stackTraces = false) (hc : GB l yX5_setSwan wsX5_setSwan D cyI cyO cyL [.ref aX, .int p, .int q] Xa IARG) : cU l yL_setSwan wsL_setSwan RU D cyI cyO cyL [.ref aX, .int p, .int q, .ref ao] (Xa ++ cO cyL ao o) (Xa ++ cO cyL ao o) 2 := by
  obtain ⟨rm, hr1, hr2, hr3, hr4, hc⟩ := hc
  intro sz
  refine va_MetW (cc := cL_setSwan) (maxL := 5) (ret := (some .int)) (hh := [(0, 10, 13, 13), (0, 10, 17, 15)]) (by decide) rfl ?_
  intro p9 e s m args below meth c s₁ B9 hml hv
  obtain ⟨rfl, ⟨hsz, hP, hKK, hXE, hD0⟩, hNC⟩ := hv
  have hx := B9.exec
  have hb := B9.bytes
  have hrt := B9.returns
  have hts := atoms_spec (ws := wsL_setSwan) B9.pre
  have hown : s.vm.findClass RL = some m.cls := findClass_of_methodNamed B9.named
  have hlocks := B9.notSynchronized
  have htab := vx_table (x := yL_setSwan) B9 (hts _ List.mem_cons_self)
  subst hsz
  have hD := hD0.self (sz := s.heap.size)
  generalize hAe : va_A (Xa ++ cO cyL ao o) s.heap.size = A at hD hXE ⊢
  have hA : ∀ q : Nat, s.heap.size ≤ q → A q := fun q h => by rw [← hAe]; exact Or.inr h
  have hS : va_S A s.heap s.heap [] := va_S.rf
  have hl := lv_entry ([.ref aX, .int p, .int q, .ref ao]) (n := 5) (Nat.le_of_ble_eq_true rfl)
  rw [lg_entry_eq]
  generalize (lg_sl ([.ref aX, .int p, .int q, .ref ao]) ++ List.replicate (5 - (lg_sl ([.ref aX, .int p, .int q, .ref ao])).length) Slot.unset).toArray = ls at hl ⊢
  have hl : lv_has ls 5 [(0, .ref aX), (1, .int p), (2, .int q), (3, .ref ao)] := hl
  refine lv_aload_n hx hb dL_setSwan_0 rfl (lv_at hl 3 rfl) ?_
  refine lv_iconst (v := 0) hx hb dL_setSwan_1 (by decide) ?_
  refine lv_aload_n hx hb dL_setSwan_2 rfl (lv_at hl 0 rfl) ?_
  refine lv_iload_n hx hb dL_setSwan_3 rfl (lv_at hl 1 rfl) ?_
  refine lv_iload_n hx hb dL_setSwan_4 rfl (lv_at hl 2 rfl) ?_
  have hPc := preP hP
  have hDc := va_D_left hD
  have hFc := free_of hDc hS hA
  have hXc := (hXE.kept hS.2.1).narrow hFc
  refine thrJ (ws1 := Xa ++ cO cyL ao o) (X := IARG) (runX_V (q := (RX5, TX5, 3)) (n := 2) (As := [.int p, .int q]) (rest := [.int 0, .ref ao]) ⟨hx, hb, hml, hown, hts⟩ (hc _) ggL_setSwan_X5_setSwan rfl hr1 hr2 (hts (.methodLink RL 17 yX5_setSwan) (List.mem_of_getElem? (i := 3) rfl)) (hts (.initialized RX5) (List.mem_of_getElem? (i := 6) rfl)) (hts (.instanceMethod yX5_setSwan) (List.mem_of_getElem? (i := 4) rfl)) (hts (.selects RX5 yX5_setSwan yX5_setSwan) (List.mem_of_getElem? (i := 5) rfl)) (by decide +kernel) ⟨(by show rm.frames + 1 ≤ 8; omega), (by show 8 + (4 + 11) + rm.locals ≤ 180; omega)⟩ hKK hXc hPc hDc (ci := 5) (q0 := 0) rfl hrv rfl hl.1 rfl (Nat.le_of_ble_eq_true rfl) dL_setSwan_5 ⟨Nat.le_of_ble_eq_true rfl, Nat.le_of_ble_eq_true rfl⟩) hS hFc (fun H1 hk h => call_pre hP hD rfl hk h) (fun ce9 q9 H locs hP hD hS hce hcv hcl => ?_)
  refine vx_catch (own := RL) (name := IARG) (E := IARG) hown [(⟨0, 10, 13, 13⟩ : ExceptionTableEntry)] (⟨0, 10, 17, 15⟩ : ExceptionTableEntry) [] htab (fun z hz => by cases List.mem_singleton.mp hz; exact Or.inr ⟨(by decide), IOOB, (hts (.classLink RL 13 "java/lang/IndexOutOfBoundsException") (List.mem_of_getElem? (i := 1) rfl)), hNC.1⟩) (by decide) (by decide) (hts (.classLink RL 15 "java/lang/IllegalArgumentException") (List.mem_of_getElem? (i := 2) rfl)) (NGW.use hXE.1 _ (List.mem_of_getElem? (i := 1) rfl)) hce hcv hcl ?_
  refine lv_astore (lv' := [(4, .ref q9), (0, .ref aX), (1, .int p), (2, .int q), (3, .ref ao)]) hx hb dL_setSwan_17 hl (by decide) rfl (fun ls hl => ?_)
  refine lv_iconst (v := 2) hx hb dL_setSwan_19 (by decide) ?_
  exact end_U hx hb hrt hlocks rfl hP hS (by omega) (by omega) dL_setSwan_20
set_option maxHeartbeats 4000000 in
set_option maxRecDepth 100000 in
theorem u_setFare_g (l : Launch) (D : va_G) (cyI cyO cyL : ClassId) (aX ao : Nat) (p q : Int32) (Xa Xb : va_W) (o : Nat → Int64) (fs : List Value) (hrv : Xa[0]? = some (aX, .inr (5, fs))) (r : Int32) (hf : Xb.map (fun q => q.1) = Xa.map (fun q => q.1)) (hc : GI l yX5_setFare wsX5_setFare D cyI cyO cyL [.ref aX, .int p, .int q] Xa Xb r) : cU l yL_setFare wsL_setFare RU D cyI cyO cyL [.ref aX, .int p, .int q, .ref ao] (Xa ++ cO cyL ao o) (Xb ++ cO cyL ao (vp_updL o 0 r.toInt64)) 0 := by
  obtain ⟨rm, hr1, hr2, hr3, hr4, hc⟩ := hc
  intro sz
  refine va_MetW (cc := cL_setFare) (maxL := 5) (ret := (some .int)) (hh := [(0, 10, 13, 15)]) (by decide) rfl ?_
  intro p9 e s m args below meth c s₁ B9 hml hv
  obtain ⟨rfl, ⟨hsz, hP, hKK, hXE, hD0⟩, hNC⟩ := hv
  have hx := B9.exec
  have hb := B9.bytes
  have hrt := B9.returns
  have hts := atoms_spec (ws := wsL_setFare) B9.pre
  have hown : s.vm.findClass RL = some m.cls := findClass_of_methodNamed B9.named
  have hlocks := B9.notSynchronized
  subst hsz
  have hD := hD0.self (sz := s.heap.size)
  generalize hAe : va_A (Xa ++ cO cyL ao o) s.heap.size = A at hD hXE ⊢
  have hA : ∀ q : Nat, s.heap.size ≤ q → A q := fun q h => by rw [← hAe]; exact Or.inr h
  have hS : va_S A s.heap s.heap [] := va_S.rf
  have hl := lv_entry ([.ref aX, .int p, .int q, .ref ao]) (n := 5) (Nat.le_of_ble_eq_true rfl)
  rw [lg_entry_eq]
  generalize (lg_sl ([.ref aX, .int p, .int q, .ref ao]) ++ List.replicate (5 - (lg_sl ([.ref aX, .int p, .int q, .ref ao])).length) Slot.unset).toArray = ls at hl ⊢
  have hl : lv_has ls 5 [(0, .ref aX), (1, .int p), (2, .int q), (3, .ref ao)] := hl
  refine lv_aload_n hx hb dL_setFare_0 rfl (lv_at hl 3 rfl) ?_
  refine lv_iconst (v := 0) hx hb dL_setFare_1 (by decide) ?_
  refine lv_aload_n hx hb dL_setFare_2 rfl (lv_at hl 0 rfl) ?_
  refine lv_iload_n hx hb dL_setFare_3 rfl (lv_at hl 1 rfl) ?_
  refine lv_iload_n hx hb dL_setFare_4 rfl (lv_at hl 2 rfl) ?_
  have hPc := preP hP
  have hDc := va_D_left hD
  have hFc := free_of hDc hS hA
  refine ret_iJ (ws1 := Xb ++ cO cyL ao o) (r := r) (run_V (q := (RX5, TX5, 3)) (n := 2) (As := [.int p, .int q]) (rest := [.int 0, .ref ao]) ⟨hx, hb, hml, hown, hts⟩ (hc _) ggL_setFare_X5_setFare rfl hr1 hr2 (hts (.methodLink RL 20 yX5_setFare) (List.mem_of_getElem? (i := 2) rfl)) (hts (.initialized RX5) (List.mem_of_getElem? (i := 5) rfl)) (hts (.instanceMethod yX5_setFare) (List.mem_of_getElem? (i := 3) rfl)) (hts (.selects RX5 yX5_setFare yX5_setFare) (List.mem_of_getElem? (i := 4) rfl)) (by decide +kernel) ⟨(by show rm.frames + 1 ≤ 8; omega), (by show 8 + (4 + 11) + rm.locals ≤ 180; omega)⟩ hKK hPc hDc (ci := 5) (q0 := 0) rfl hrv rfl hl.1 rfl (Nat.le_of_ble_eq_true rfl) dL_setFare_5 ⟨Nat.zero_le _, Nat.zero_le _⟩) hS hFc (fun H1 hk h => call_pre hP hD hf hk h) (fun H locs hP hD hS => ?_)
  refine lv_i2l (v := r.toInt64) hx hb dL_setFare_8 rfl ?_
  refine out_st hx hb hKK hP hD hS dL_setFare_9 (fun H locs hP hD hS => ?_)
  refine lv_goto (tgt := 17) hx hb dL_setFare_10 (by decide) ?_
  refine lv_iconst (v := 0) hx hb dL_setFare_17 (by decide) ?_
  exact end_U hx hb hrt hlocks rfl hP hS (by omega) (by omega) dL_setFare_18
set_option maxHeartbeats 4000000 in
set_option maxRecDepth 100000 in
theorem u_setFare_b1 (l : Launch) (D : va_G) (cyI cyO cyL : ClassId) (aX ao : Nat) (p q : Int32) (Xa : va_W) (o : Nat → Int64) (fs : List Value) (hrv : Xa[0]? = some (aX, .inr (5, fs))) (hlf : l.stackTraces = false) (hc : GB l yX5_setFare wsX5_setFare D cyI cyO cyL [.ref aX, .int p, .int q] Xa IARG) : cU l yL_setFare wsL_setFare RU D cyI cyO cyL [.ref aX, .int p, .int q, .ref ao] (Xa ++ cO cyL ao o) (Xa ++ cO cyL ao o) 1 := by
  obtain ⟨rm, hr1, hr2, hr3, hr4, hc⟩ := hc
  intro sz
  refine va_MetW (cc := cL_setFare) (maxL := 5) (ret := (some .int)) (hh := [(0, 10, 13, 15)]) (by decide) rfl ?_
  intro p9 e s m args below meth c s₁ B9 hml hv
  obtain ⟨rfl, ⟨hsz, hP, hKK, hXE, hD0⟩, hNC⟩ := hv
  have hx := B9.exec
  have hb := B9.bytes
  have hrt := B9.returns
  have hts := atoms_spec (ws := wsL_setFare) B9.pre
  have hown : s.vm.findClass RL = some m.cls := findClass_of_methodNamed B9.named
  have hlocks := B9.notSynchronized
  have htab := vx_table (x := yL_setFare) B9 (hts _ List.mem_cons_self)
  subst hsz
  have hD := hD0.self (sz := s.heap.size)
  generalize hAe : va_A (Xa ++ cO cyL ao o) s.heap.size = A at hD hXE ⊢
  have hA : ∀ q : Nat, s.heap.size ≤ q → A q := fun q h => by rw [← hAe]; exact Or.inr h
  have hS : va_S A s.heap s.heap [] := va_S.rf
  have hl := lv_entry ([.ref aX, .int p, .int q, .ref ao]) (n := 5) (Nat.le_of_ble_eq_true rfl)
  rw [lg_entry_eq]
  generalize (lg_sl ([.ref aX, .int p, .int q, .ref ao]) ++ List.replicate (5 - (lg_sl ([.ref aX, .int p, .int q, .ref ao])).length) Slot.unset).toArray = ls at hl ⊢
  have hl : lv_has ls 5 [(0, .ref aX), (1, .int p), (2, .int q), (3, .ref ao)] := hl
  refine lv_aload_n hx hb dL_setFare_0 rfl (lv_at hl 3 rfl) ?_
  refine lv_iconst (v := 0) hx hb dL_setFare_1 (by decide) ?_
  refine lv_aload_n hx hb dL_setFare_2 rfl (lv_at hl 0 rfl) ?_
  refine lv_iload_n hx hb dL_setFare_3 rfl (lv_at hl 1 rfl) ?_
  refine lv_iload_n hx hb dL_setFare_4 rfl (lv_at hl 2 rfl) ?_
  have hPc := preP hP
  have hDc := va_D_left hD
  have hFc := free_of hDc hS hA
  have hXc := (hXE.kept hS.2.1).narrow hFc
  refine thrJ (ws1 := Xa ++ cO cyL ao o) (X := IARG) (runX_V (q := (RX5, TX5, 3)) (n := 2) (As := [.int p, .int q]) (rest := [.int 0, .ref ao]) ⟨hx, hb, hml, hown, hts⟩ (hc _) ggL_setFare_X5_setFare rfl hr1 hr2 (hts (.methodLink RL 20 yX5_setFare) (List.mem_of_getElem? (i := 2) rfl)) (hts (.initialized RX5) (List.mem_of_getElem? (i := 5) rfl)) (hts (.instanceMethod yX5_setFare) (List.mem_of_getElem? (i := 3) rfl)) (hts (.selects RX5 yX5_setFare yX5_setFare) (List.mem_of_getElem? (i := 4) rfl)) (by decide +kernel) ⟨(by show rm.frames + 1 ≤ 8; omega), (by show 8 + (4 + 11) + rm.locals ≤ 180; omega)⟩ hKK hXc hPc hDc (ci := 5) (q0 := 0) rfl hrv rfl hl.1 rfl (Nat.le_of_ble_eq_true rfl) dL_setFare_5 ⟨Nat.le_of_ble_eq_true rfl, Nat.le_of_ble_eq_true rfl⟩) hS hFc (fun H1 hk h => call_pre hP hD rfl hk h) (fun ce9 q9 H locs hP hD hS hce hcv hcl => ?_)
  refine vx_catch (own := RL) (name := IARG) (E := IARG) hown [] (⟨0, 10, 13, 15⟩ : ExceptionTableEntry) [] htab (fun z hz => by cases hz) (by decide) (by decide) (hts (.classLink RL 15 "java/lang/IllegalArgumentException") (List.mem_of_getElem? (i := 1) rfl)) (NGW.use hXE.1 _ (List.mem_of_getElem? (i := 1) rfl)) hce hcv hcl ?_
  refine lv_astore (lv' := [(4, .ref q9), (0, .ref aX), (1, .int p), (2, .int q), (3, .ref ao)]) hx hb dL_setFare_13 hl (by decide) rfl (fun ls hl => ?_)
  refine lv_iconst (v := 1) hx hb dL_setFare_15 (by decide) ?_
  exact end_U hx hb hrt hlocks rfl hP hS (by omega) (by omega) dL_setFare_16
set_option maxHeartbeats 4000000 in
set_option maxRecDepth 100000 in
theorem u_bus_g (l : Launch) (D : va_G) (cyI cyO cyL : ClassId) (aX ao : Nat) (p q : Int32) (Xa Xb : va_W) (o : Nat → Int64) (fs : List Value) (hrv : Xa[0]? = some (aX, .inr (5, fs))) (r : Int32) (hf : Xb.map (fun q => q.1) = Xa.map (fun q => q.1)) (hc : GI l yX5_bus wsX5_bus D cyI cyO cyL [.ref aX, .int p, .int q] Xa Xb r) : cU l yL_bus wsL_bus RU D cyI cyO cyL [.ref aX, .int p, .int q, .ref ao] (Xa ++ cO cyL ao o) (Xb ++ cO cyL ao (vp_updL o 0 r.toInt64)) 0 := by
  obtain ⟨rm, hr1, hr2, hr3, hr4, hc⟩ := hc
  intro sz
  refine va_MetW (cc := cL_bus) (maxL := 5) (ret := (some .int)) (hh := [(0, 10, 13, 13), (0, 10, 17, 28)]) (by decide) rfl ?_
  intro p9 e s m args below meth c s₁ B9 hml hv
  obtain ⟨rfl, ⟨hsz, hP, hKK, hXE, hD0⟩, hNC⟩ := hv
  have hx := B9.exec
  have hb := B9.bytes
  have hrt := B9.returns
  have hts := atoms_spec (ws := wsL_bus) B9.pre
  have hown : s.vm.findClass RL = some m.cls := findClass_of_methodNamed B9.named
  have hlocks := B9.notSynchronized
  subst hsz
  have hD := hD0.self (sz := s.heap.size)
  generalize hAe : va_A (Xa ++ cO cyL ao o) s.heap.size = A at hD hXE ⊢
  have hA : ∀ q : Nat, s.heap.size ≤ q → A q := fun q h => by rw [← hAe]; exact Or.inr h
  have hS : va_S A s.heap s.heap [] := va_S.rf
  have hl := lv_entry ([.ref aX, .int p, .int q, .ref ao]) (n := 5) (Nat.le_of_ble_eq_true rfl)
  rw [lg_entry_eq]
  generalize (lg_sl ([.ref aX, .int p, .int q, .ref ao]) ++ List.replicate (5 - (lg_sl ([.ref aX, .int p, .int q, .ref ao])).length) Slot.unset).toArray = ls at hl ⊢
  have hl : lv_has ls 5 [(0, .ref aX), (1, .int p), (2, .int q), (3, .ref ao)] := hl
  refine lv_aload_n hx hb dL_bus_0 rfl (lv_at hl 3 rfl) ?_
  refine lv_iconst (v := 0) hx hb dL_bus_1 (by decide) ?_
  refine lv_aload_n hx hb dL_bus_2 rfl (lv_at hl 0 rfl) ?_
  refine lv_iload_n hx hb dL_bus_3 rfl (lv_at hl 1 rfl) ?_
  refine lv_iload_n hx hb dL_bus_4 rfl (lv_at hl 2 rfl) ?_
  have hPc := preP hP
  have hDc := va_D_left hD
  have hFc := free_of hDc hS hA
  refine ret_iJ (ws1 := Xb ++ cO cyL ao o) (r := r) (run_V (q := (RX5, TX5, 3)) (n := 2) (As := [.int p, .int q]) (rest := [.int 0, .ref ao]) ⟨hx, hb, hml, hown, hts⟩ (hc _) ggL_bus_X5_bus rfl hr1 hr2 (hts (.methodLink RL 24 yX5_bus) (List.mem_of_getElem? (i := 3) rfl)) (hts (.initialized RX5) (List.mem_of_getElem? (i := 6) rfl)) (hts (.instanceMethod yX5_bus) (List.mem_of_getElem? (i := 4) rfl)) (hts (.selects RX5 yX5_bus yX5_bus) (List.mem_of_getElem? (i := 5) rfl)) (by decide +kernel) ⟨(by show rm.frames + 1 ≤ 8; omega), (by show 8 + (4 + 11) + rm.locals ≤ 180; omega)⟩ hKK hPc hDc (ci := 5) (q0 := 0) rfl hrv rfl hl.1 rfl (Nat.le_of_ble_eq_true rfl) dL_bus_5 ⟨Nat.zero_le _, Nat.zero_le _⟩) hS hFc (fun H1 hk h => call_pre hP hD hf hk h) (fun H locs hP hD hS => ?_)
  refine lv_i2l (v := r.toInt64) hx hb dL_bus_8 rfl ?_
  refine out_st hx hb hKK hP hD hS dL_bus_9 (fun H locs hP hD hS => ?_)
  refine lv_goto (tgt := 21) hx hb dL_bus_10 (by decide) ?_
  refine lv_iconst (v := 0) hx hb dL_bus_21 (by decide) ?_
  exact end_U hx hb hrt hlocks rfl hP hS (by omega) (by omega) dL_bus_22
set_option maxHeartbeats 4000000 in
set_option maxRecDepth 100000 in
theorem u_bus_b1 (l : Launch) (D : va_G) (cyI cyO cyL : ClassId) (aX ao : Nat) (p q : Int32) (Xa : va_W) (o : Nat → Int64) (fs : List Value) (hrv : Xa[0]? = some (aX, .inr (5, fs))) (hlf : l.stackTraces = false) (hc : GB l yX5_bus wsX5_bus D cyI cyO cyL [.ref aX, .int p, .int q] Xa IOOB) : cU l yL_bus wsL_bus RU D cyI cyO cyL [.ref aX, .int p, .int q, .ref ao] (Xa ++ cO cyL ao o) (Xa ++ cO cyL ao o) 1 := by
  obtain ⟨rm, hr1, hr2, hr3, hr4, hc⟩ := hc
  intro sz
  refine va_MetW (cc := cL_bus) (maxL := 5) (ret := (some .int)) (hh := [(0, 10, 13, 13), (0, 10, 17, 28)]) (by decide) rfl ?_
  intro p9 e s m args below meth c s₁ B9 hml hv
  obtain ⟨rfl, ⟨hsz, hP, hKK, hXE, hD0⟩, hNC⟩ := hv
  have hx := B9.exec
  have hb := B9.bytes
  have hrt := B9.returns
  have hts := atoms_spec (ws := wsL_bus) B9.pre
  have hown : s.vm.findClass RL = some m.cls := findClass_of_methodNamed B9.named
  have hlocks := B9.notSynchronized
  have htab := vx_table (x := yL_bus) B9 (hts _ List.mem_cons_self)
  subst hsz
  have hD := hD0.self (sz := s.heap.size)
  generalize hAe : va_A (Xa ++ cO cyL ao o) s.heap.size = A at hD hXE ⊢
  have hA : ∀ q : Nat, s.heap.size ≤ q → A q := fun q h => by rw [← hAe]; exact Or.inr h
  have hS : va_S A s.heap s.heap [] := va_S.rf
  have hl := lv_entry ([.ref aX, .int p, .int q, .ref ao]) (n := 5) (Nat.le_of_ble_eq_true rfl)
  rw [lg_entry_eq]
  generalize (lg_sl ([.ref aX, .int p, .int q, .ref ao]) ++ List.replicate (5 - (lg_sl ([.ref aX, .int p, .int q, .ref ao])).length) Slot.unset).toArray = ls at hl ⊢
  have hl : lv_has ls 5 [(0, .ref aX), (1, .int p), (2, .int q), (3, .ref ao)] := hl
  refine lv_aload_n hx hb dL_bus_0 rfl (lv_at hl 3 rfl) ?_
  refine lv_iconst (v := 0) hx hb dL_bus_1 (by decide) ?_
  refine lv_aload_n hx hb dL_bus_2 rfl (lv_at hl 0 rfl) ?_
  refine lv_iload_n hx hb dL_bus_3 rfl (lv_at hl 1 rfl) ?_
  refine lv_iload_n hx hb dL_bus_4 rfl (lv_at hl 2 rfl) ?_
  have hPc := preP hP
  have hDc := va_D_left hD
  have hFc := free_of hDc hS hA
  have hXc := (hXE.kept hS.2.1).narrow hFc
  refine thrJ (ws1 := Xa ++ cO cyL ao o) (X := IOOB) (runX_V (q := (RX5, TX5, 3)) (n := 2) (As := [.int p, .int q]) (rest := [.int 0, .ref ao]) ⟨hx, hb, hml, hown, hts⟩ (hc _) ggL_bus_X5_bus rfl hr1 hr2 (hts (.methodLink RL 24 yX5_bus) (List.mem_of_getElem? (i := 3) rfl)) (hts (.initialized RX5) (List.mem_of_getElem? (i := 6) rfl)) (hts (.instanceMethod yX5_bus) (List.mem_of_getElem? (i := 4) rfl)) (hts (.selects RX5 yX5_bus yX5_bus) (List.mem_of_getElem? (i := 5) rfl)) (by decide +kernel) ⟨(by show rm.frames + 1 ≤ 8; omega), (by show 8 + (4 + 11) + rm.locals ≤ 180; omega)⟩ hKK hXc hPc hDc (ci := 5) (q0 := 0) rfl hrv rfl hl.1 rfl (Nat.le_of_ble_eq_true rfl) dL_bus_5 ⟨Nat.le_of_ble_eq_true rfl, Nat.le_of_ble_eq_true rfl⟩) hS hFc (fun H1 hk h => call_pre hP hD rfl hk h) (fun ce9 q9 H locs hP hD hS hce hcv hcl => ?_)
  refine vx_catch (own := RL) (name := IOOB) (E := IOOB) hown [] (⟨0, 10, 13, 13⟩ : ExceptionTableEntry) [(⟨0, 10, 17, 28⟩ : ExceptionTableEntry)] htab (fun z hz => by cases hz) (by decide) (by decide) (hts (.classLink RL 13 "java/lang/IndexOutOfBoundsException") (List.mem_of_getElem? (i := 1) rfl)) (NGW.use hXE.1 _ (List.mem_of_getElem? (i := 0) rfl)) hce hcv hcl ?_
  refine lv_astore (lv' := [(4, .ref q9), (0, .ref aX), (1, .int p), (2, .int q), (3, .ref ao)]) hx hb dL_bus_13 hl (by decide) rfl (fun ls hl => ?_)
  refine lv_iconst (v := 1) hx hb dL_bus_15 (by decide) ?_
  exact end_U hx hb hrt hlocks rfl hP hS (by omega) (by omega) dL_bus_16
set_option maxHeartbeats 4000000 in
set_option maxRecDepth 100000 in
theorem u_bus_b2 (l : Launch) (D : va_G) (cyI cyO cyL : ClassId) (aX ao : Nat) (p q : Int32) (Xa : va_W) (o : Nat → Int64) (fs : List Value) (hrv : Xa[0]? = some (aX, .inr (5, fs))) (hlf : l.stackTraces = false) (hc : GB l yX5_bus wsX5_bus D cyI cyO cyL [.ref aX, .int p, .int q] Xa ISTA) : cU l yL_bus wsL_bus RU D cyI cyO cyL [.ref aX, .int p, .int q, .ref ao] (Xa ++ cO cyL ao o) (Xa ++ cO cyL ao o) 2 := by
  obtain ⟨rm, hr1, hr2, hr3, hr4, hc⟩ := hc
  intro sz
  refine va_MetW (cc := cL_bus) (maxL := 5) (ret := (some .int)) (hh := [(0, 10, 13, 13), (0, 10, 17, 28)]) (by decide) rfl ?_
  intro p9 e s m args below meth c s₁ B9 hml hv
  obtain ⟨rfl, ⟨hsz, hP, hKK, hXE, hD0⟩, hNC⟩ := hv
  have hx := B9.exec
  have hb := B9.bytes
  have hrt := B9.returns
  have hts := atoms_spec (ws := wsL_bus) B9.pre
  have hown : s.vm.findClass RL = some m.cls := findClass_of_methodNamed B9.named
  have hlocks := B9.notSynchronized
  have htab := vx_table (x := yL_bus) B9 (hts _ List.mem_cons_self)
  subst hsz
  have hD := hD0.self (sz := s.heap.size)
  generalize hAe : va_A (Xa ++ cO cyL ao o) s.heap.size = A at hD hXE ⊢
  have hA : ∀ q : Nat, s.heap.size ≤ q → A q := fun q h => by rw [← hAe]; exact Or.inr h
  have hS : va_S A s.heap s.heap [] := va_S.rf
  have hl := lv_entry ([.ref aX, .int p, .int q, .ref ao]) (n := 5) (Nat.le_of_ble_eq_true rfl)
  rw [lg_entry_eq]
  generalize (lg_sl ([.ref aX, .int p, .int q, .ref ao]) ++ List.replicate (5 - (lg_sl ([.ref aX, .int p, .int q, .ref ao])).length) Slot.unset).toArray = ls at hl ⊢
  have hl : lv_has ls 5 [(0, .ref aX), (1, .int p), (2, .int q), (3, .ref ao)] := hl
  refine lv_aload_n hx hb dL_bus_0 rfl (lv_at hl 3 rfl) ?_
  refine lv_iconst (v := 0) hx hb dL_bus_1 (by decide) ?_
  refine lv_aload_n hx hb dL_bus_2 rfl (lv_at hl 0 rfl) ?_
  refine lv_iload_n hx hb dL_bus_3 rfl (lv_at hl 1 rfl) ?_
  refine lv_iload_n hx hb dL_bus_4 rfl (lv_at hl 2 rfl) ?_
  have hPc := preP hP
  have hDc := va_D_left hD
  have hFc := free_of hDc hS hA
  have hXc := (hXE.kept hS.2.1).narrow hFc
  refine thrJ (ws1 := Xa ++ cO cyL ao o) (X := ISTA) (runX_V (q := (RX5, TX5, 3)) (n := 2) (As := [.int p, .int q]) (rest := [.int 0, .ref ao]) ⟨hx, hb, hml, hown, hts⟩ (hc _) ggL_bus_X5_bus rfl hr1 hr2 (hts (.methodLink RL 24 yX5_bus) (List.mem_of_getElem? (i := 3) rfl)) (hts (.initialized RX5) (List.mem_of_getElem? (i := 6) rfl)) (hts (.instanceMethod yX5_bus) (List.mem_of_getElem? (i := 4) rfl)) (hts (.selects RX5 yX5_bus yX5_bus) (List.mem_of_getElem? (i := 5) rfl)) (by decide +kernel) ⟨(by show rm.frames + 1 ≤ 8; omega), (by show 8 + (4 + 11) + rm.locals ≤ 180; omega)⟩ hKK hXc hPc hDc (ci := 5) (q0 := 0) rfl hrv rfl hl.1 rfl (Nat.le_of_ble_eq_true rfl) dL_bus_5 ⟨Nat.le_of_ble_eq_true rfl, Nat.le_of_ble_eq_true rfl⟩) hS hFc (fun H1 hk h => call_pre hP hD rfl hk h) (fun ce9 q9 H locs hP hD hS hce hcv hcl => ?_)
  refine vx_catch (own := RL) (name := ISTA) (E := ISTA) hown [(⟨0, 10, 13, 13⟩ : ExceptionTableEntry)] (⟨0, 10, 17, 28⟩ : ExceptionTableEntry) [] htab (fun z hz => by cases List.mem_singleton.mp hz; exact Or.inr ⟨(by decide), IOOB, (hts (.classLink RL 13 "java/lang/IndexOutOfBoundsException") (List.mem_of_getElem? (i := 1) rfl)), hNC.2.1⟩) (by decide) (by decide) (hts (.classLink RL 28 "java/lang/IllegalStateException") (List.mem_of_getElem? (i := 2) rfl)) (NGW.use hXE.1 _ (List.mem_of_getElem? (i := 2) rfl)) hce hcv hcl ?_
  refine lv_astore (lv' := [(4, .ref q9), (0, .ref aX), (1, .int p), (2, .int q), (3, .ref ao)]) hx hb dL_bus_17 hl (by decide) rfl (fun ls hl => ?_)
  refine lv_iconst (v := 2) hx hb dL_bus_19 (by decide) ?_
  exact end_U hx hb hrt hlocks rfl hP hS (by omega) (by omega) dL_bus_20
set_option maxHeartbeats 4000000 in
set_option maxRecDepth 100000 in
theorem u_fit_g (l : Launch) (D : va_G) (cyI cyO cyL : ClassId) (aX ao : Nat) (p q : Int32) (Xa Xb : va_W) (o : Nat → Int64) (fs : List Value) (hrv : Xa[0]? = some (aX, .inr (5, fs))) (r : Int32) (hf : Xb.map (fun q => q.1) = Xa.map (fun q => q.1)) (hc : GI l yX5_fit wsX5_fit D cyI cyO cyL [.ref aX, .int p, .int q] Xa Xb r) : cU l yL_fit wsL_fit RU D cyI cyO cyL [.ref aX, .int p, .int q, .ref ao] (Xa ++ cO cyL ao o) (Xb ++ cO cyL ao (vp_updL o 0 r.toInt64)) 0 := by
  obtain ⟨rm, hr1, hr2, hr3, hr4, hc⟩ := hc
  intro sz
  refine va_MetW (cc := cL_fit) (maxL := 5) (ret := (some .int)) (hh := [(0, 10, 13, 13), (0, 10, 17, 28)]) (by decide) rfl ?_
  intro p9 e s m args below meth c s₁ B9 hml hv
  obtain ⟨rfl, ⟨hsz, hP, hKK, hXE, hD0⟩, hNC⟩ := hv
  have hx := B9.exec
  have hb := B9.bytes
  have hrt := B9.returns
  have hts := atoms_spec (ws := wsL_fit) B9.pre
  have hown : s.vm.findClass RL = some m.cls := findClass_of_methodNamed B9.named
  have hlocks := B9.notSynchronized
  subst hsz
  have hD := hD0.self (sz := s.heap.size)
  generalize hAe : va_A (Xa ++ cO cyL ao o) s.heap.size = A at hD hXE ⊢
  have hA : ∀ q : Nat, s.heap.size ≤ q → A q := fun q h => by rw [← hAe]; exact Or.inr h
  have hS : va_S A s.heap s.heap [] := va_S.rf
  have hl := lv_entry ([.ref aX, .int p, .int q, .ref ao]) (n := 5) (Nat.le_of_ble_eq_true rfl)
  rw [lg_entry_eq]
  generalize (lg_sl ([.ref aX, .int p, .int q, .ref ao]) ++ List.replicate (5 - (lg_sl ([.ref aX, .int p, .int q, .ref ao])).length) Slot.unset).toArray = ls at hl ⊢
  have hl : lv_has ls 5 [(0, .ref aX), (1, .int p), (2, .int q), (3, .ref ao)] := hl
  refine lv_aload_n hx hb dL_fit_0 rfl (lv_at hl 3 rfl) ?_
  refine lv_iconst (v := 0) hx hb dL_fit_1 (by decide) ?_
  refine lv_aload_n hx hb dL_fit_2 rfl (lv_at hl 0 rfl) ?_
  refine lv_iload_n hx hb dL_fit_3 rfl (lv_at hl 1 rfl) ?_
  refine lv_iload_n hx hb dL_fit_4 rfl (lv_at hl 2 rfl) ?_
  have hPc := preP hP
  have hDc := va_D_left hD
  have hFc := free_of hDc hS hA
  refine ret_iJ (ws1 := Xb ++ cO cyL ao o) (r := r) (run_V (q := (RX5, TX5, 3)) (n := 2) (As := [.int p, .int q]) (rest := [.int 0, .ref ao]) ⟨hx, hb, hml, hown, hts⟩ (hc _) ggL_fit_X5_fit rfl hr1 hr2 (hts (.methodLink RL 30 yX5_fit) (List.mem_of_getElem? (i := 3) rfl)) (hts (.initialized RX5) (List.mem_of_getElem? (i := 6) rfl)) (hts (.instanceMethod yX5_fit) (List.mem_of_getElem? (i := 4) rfl)) (hts (.selects RX5 yX5_fit yX5_fit) (List.mem_of_getElem? (i := 5) rfl)) (by decide +kernel) ⟨(by show rm.frames + 1 ≤ 8; omega), (by show 8 + (5 + 11) + rm.locals ≤ 180; omega)⟩ hKK hPc hDc (ci := 5) (q0 := 0) rfl hrv rfl hl.1 rfl (Nat.le_of_ble_eq_true rfl) dL_fit_5 ⟨Nat.zero_le _, Nat.zero_le _⟩) hS hFc (fun H1 hk h => call_pre hP hD hf hk h) (fun H locs hP hD hS => ?_)
  refine lv_i2l (v := r.toInt64) hx hb dL_fit_8 rfl ?_
  refine out_st hx hb hKK hP hD hS dL_fit_9 (fun H locs hP hD hS => ?_)
  refine lv_goto (tgt := 21) hx hb dL_fit_10 (by decide) ?_
  refine lv_iconst (v := 0) hx hb dL_fit_21 (by decide) ?_
  exact end_U hx hb hrt hlocks rfl hP hS (by omega) (by omega) dL_fit_22
set_option maxHeartbeats 4000000 in
set_option maxRecDepth 100000 in
theorem u_fit_b1 (l : Launch) (D : va_G) (cyI cyO cyL : ClassId) (aX ao : Nat) (p q : Int32) (Xa : va_W) (o : Nat → Int64) (fs : List Value) (hrv : Xa[0]? = some (aX, .inr (5, fs))) (hlf : l.stackTraces = false) (hc : GB l yX5_fit wsX5_fit D cyI cyO cyL [.ref aX, .int p, .int q] Xa IOOB) : cU l yL_fit wsL_fit RU D cyI cyO cyL [.ref aX, .int p, .int q, .ref ao] (Xa ++ cO cyL ao o) (Xa ++ cO cyL ao o) 1 := by
  obtain ⟨rm, hr1, hr2, hr3, hr4, hc⟩ := hc
  intro sz
  refine va_MetW (cc := cL_fit) (maxL := 5) (ret := (some .int)) (hh := [(0, 10, 13, 13), (0, 10, 17, 28)]) (by decide) rfl ?_
  intro p9 e s m args below meth c s₁ B9 hml hv
  obtain ⟨rfl, ⟨hsz, hP, hKK, hXE, hD0⟩, hNC⟩ := hv
  have hx := B9.exec
  have hb := B9.bytes
  have hrt := B9.returns
  have hts := atoms_spec (ws := wsL_fit) B9.pre
  have hown : s.vm.findClass RL = some m.cls := findClass_of_methodNamed B9.named
  have hlocks := B9.notSynchronized
  have htab := vx_table (x := yL_fit) B9 (hts _ List.mem_cons_self)
  subst hsz
  have hD := hD0.self (sz := s.heap.size)
  generalize hAe : va_A (Xa ++ cO cyL ao o) s.heap.size = A at hD hXE ⊢
  have hA : ∀ q : Nat, s.heap.size ≤ q → A q := fun q h => by rw [← hAe]; exact Or.inr h
  have hS : va_S A s.heap s.heap [] := va_S.rf
  have hl := lv_entry ([.ref aX, .int p, .int q, .ref ao]) (n := 5) (Nat.le_of_ble_eq_true rfl)
  rw [lg_entry_eq]
  generalize (lg_sl ([.ref aX, .int p, .int q, .ref ao]) ++ List.replicate (5 - (lg_sl ([.ref aX, .int p, .int q, .ref ao])).length) Slot.unset).toArray = ls at hl ⊢
  have hl : lv_has ls 5 [(0, .ref aX), (1, .int p), (2, .int q), (3, .ref ao)] := hl
  refine lv_aload_n hx hb dL_fit_0 rfl (lv_at hl 3 rfl) ?_
  refine lv_iconst (v := 0) hx hb dL_fit_1 (by decide) ?_
  refine lv_aload_n hx hb dL_fit_2 rfl (lv_at hl 0 rfl) ?_
  refine lv_iload_n hx hb dL_fit_3 rfl (lv_at hl 1 rfl) ?_
  refine lv_iload_n hx hb dL_fit_4 rfl (lv_at hl 2 rfl) ?_
  have hPc := preP hP
  have hDc := va_D_left hD
  have hFc := free_of hDc hS hA
  have hXc := (hXE.kept hS.2.1).narrow hFc
  refine thrJ (ws1 := Xa ++ cO cyL ao o) (X := IOOB) (runX_V (q := (RX5, TX5, 3)) (n := 2) (As := [.int p, .int q]) (rest := [.int 0, .ref ao]) ⟨hx, hb, hml, hown, hts⟩ (hc _) ggL_fit_X5_fit rfl hr1 hr2 (hts (.methodLink RL 30 yX5_fit) (List.mem_of_getElem? (i := 3) rfl)) (hts (.initialized RX5) (List.mem_of_getElem? (i := 6) rfl)) (hts (.instanceMethod yX5_fit) (List.mem_of_getElem? (i := 4) rfl)) (hts (.selects RX5 yX5_fit yX5_fit) (List.mem_of_getElem? (i := 5) rfl)) (by decide +kernel) ⟨(by show rm.frames + 1 ≤ 8; omega), (by show 8 + (5 + 11) + rm.locals ≤ 180; omega)⟩ hKK hXc hPc hDc (ci := 5) (q0 := 0) rfl hrv rfl hl.1 rfl (Nat.le_of_ble_eq_true rfl) dL_fit_5 ⟨Nat.le_of_ble_eq_true rfl, Nat.le_of_ble_eq_true rfl⟩) hS hFc (fun H1 hk h => call_pre hP hD rfl hk h) (fun ce9 q9 H locs hP hD hS hce hcv hcl => ?_)
  refine vx_catch (own := RL) (name := IOOB) (E := IOOB) hown [] (⟨0, 10, 13, 13⟩ : ExceptionTableEntry) [(⟨0, 10, 17, 28⟩ : ExceptionTableEntry)] htab (fun z hz => by cases hz) (by decide) (by decide) (hts (.classLink RL 13 "java/lang/IndexOutOfBoundsException") (List.mem_of_getElem? (i := 1) rfl)) (NGW.use hXE.1 _ (List.mem_of_getElem? (i := 0) rfl)) hce hcv hcl ?_
  refine lv_astore (lv' := [(4, .ref q9), (0, .ref aX), (1, .int p), (2, .int q), (3, .ref ao)]) hx hb dL_fit_13 hl (by decide) rfl (fun ls hl => ?_)
  refine lv_iconst (v := 1) hx hb dL_fit_15 (by decide) ?_
  exact end_U hx hb hrt hlocks rfl hP hS (by omega) (by omega) dL_fit_16
set_option maxHeartbeats 4000000 in
set_option maxRecDepth 100000 in
theorem u_fit_b2 (l : Launch) (D : va_G) (cyI cyO cyL : ClassId) (aX ao : Nat) (p q : Int32) (Xa : va_W) (o : Nat → Int64) (fs : List Value) (hrv : Xa[0]? = some (aX, .inr (5, fs))) (hlf : l.stackTraces = false) (hc : GB l yX5_fit wsX5_fit D cyI cyO cyL [.ref aX, .int p, .int q] Xa ISTA) : cU l yL_fit wsL_fit RU D cyI cyO cyL [.ref aX, .int p, .int q, .ref ao] (Xa ++ cO cyL ao o) (Xa ++ cO cyL ao o) 2 := by
  obtain ⟨rm, hr1, hr2, hr3, hr4, hc⟩ := hc
  intro sz
  refine va_MetW (cc := cL_fit) (maxL := 5) (ret := (some .int)) (hh := [(0, 10, 13, 13), (0, 10, 17, 28)]) (by decide) rfl ?_
  intro p9 e s m args below meth c s₁ B9 hml hv
  obtain ⟨rfl, ⟨hsz, hP, hKK, hXE, hD0⟩, hNC⟩ := hv
  have hx := B9.exec
  have hb := B9.bytes
  have hrt := B9.returns
  have hts := atoms_spec (ws := wsL_fit) B9.pre
  have hown : s.vm.findClass RL = some m.cls := findClass_of_methodNamed B9.named
  have hlocks := B9.notSynchronized
  have htab := vx_table (x := yL_fit) B9 (hts _ List.mem_cons_self)
  subst hsz
  have hD := hD0.self (sz := s.heap.size)
  generalize hAe : va_A (Xa ++ cO cyL ao o) s.heap.size = A at hD hXE ⊢
  have hA : ∀ q : Nat, s.heap.size ≤ q → A q := fun q h => by rw [← hAe]; exact Or.inr h
  have hS : va_S A s.heap s.heap [] := va_S.rf
  have hl := lv_entry ([.ref aX, .int p, .int q, .ref ao]) (n := 5) (Nat.le_of_ble_eq_true rfl)
  rw [lg_entry_eq]
  generalize (lg_sl ([.ref aX, .int p, .int q, .ref ao]) ++ List.replicate (5 - (lg_sl ([.ref aX, .int p, .int q, .ref ao])).length) Slot.unset).toArray = ls at hl ⊢
  have hl : lv_has ls 5 [(0, .ref aX), (1, .int p), (2, .int q), (3, .ref ao)] := hl
  refine lv_aload_n hx hb dL_fit_0 rfl (lv_at hl 3 rfl) ?_
  refine lv_iconst (v := 0) hx hb dL_fit_1 (by decide) ?_
  refine lv_aload_n hx hb dL_fit_2 rfl (lv_at hl 0 rfl) ?_
  refine lv_iload_n hx hb dL_fit_3 rfl (lv_at hl 1 rfl) ?_
  refine lv_iload_n hx hb dL_fit_4 rfl (lv_at hl 2 rfl) ?_
  have hPc := preP hP
  have hDc := va_D_left hD
  have hFc := free_of hDc hS hA
  have hXc := (hXE.kept hS.2.1).narrow hFc
  refine thrJ (ws1 := Xa ++ cO cyL ao o) (X := ISTA) (runX_V (q := (RX5, TX5, 3)) (n := 2) (As := [.int p, .int q]) (rest := [.int 0, .ref ao]) ⟨hx, hb, hml, hown, hts⟩ (hc _) ggL_fit_X5_fit rfl hr1 hr2 (hts (.methodLink RL 30 yX5_fit) (List.mem_of_getElem? (i := 3) rfl)) (hts (.initialized RX5) (List.mem_of_getElem? (i := 6) rfl)) (hts (.instanceMethod yX5_fit) (List.mem_of_getElem? (i := 4) rfl)) (hts (.selects RX5 yX5_fit yX5_fit) (List.mem_of_getElem? (i := 5) rfl)) (by decide +kernel) ⟨(by show rm.frames + 1 ≤ 8; omega), (by show 8 + (5 + 11) + rm.locals ≤ 180; omega)⟩ hKK hXc hPc hDc (ci := 5) (q0 := 0) rfl hrv rfl hl.1 rfl (Nat.le_of_ble_eq_true rfl) dL_fit_5 ⟨Nat.le_of_ble_eq_true rfl, Nat.le_of_ble_eq_true rfl⟩) hS hFc (fun H1 hk h => call_pre hP hD rfl hk h) (fun ce9 q9 H locs hP hD hS hce hcv hcl => ?_)
  refine vx_catch (own := RL) (name := ISTA) (E := ISTA) hown [(⟨0, 10, 13, 13⟩ : ExceptionTableEntry)] (⟨0, 10, 17, 28⟩ : ExceptionTableEntry) [] htab (fun z hz => by cases List.mem_singleton.mp hz; exact Or.inr ⟨(by decide), IOOB, (hts (.classLink RL 13 "java/lang/IndexOutOfBoundsException") (List.mem_of_getElem? (i := 1) rfl)), hNC.2.1⟩) (by decide) (by decide) (hts (.classLink RL 28 "java/lang/IllegalStateException") (List.mem_of_getElem? (i := 2) rfl)) (NGW.use hXE.1 _ (List.mem_of_getElem? (i := 2) rfl)) hce hcv hcl ?_
  refine lv_astore (lv' := [(4, .ref q9), (0, .ref aX), (1, .int p), (2, .int q), (3, .ref ao)]) hx hb dL_fit_17 hl (by decide) rfl (fun ls hl => ?_)
  refine lv_iconst (v := 2) hx hb dL_fit_19 (by decide) ?_
  exact end_U hx hb hrt hlocks rfl hP hS (by omega) (by omega) dL_fit_20
set_option maxHeartbeats 4000000 in
set_option maxRecDepth 100000 in
theorem u_park_g (l : Launch) (D : va_G) (cyI cyO cyL : ClassId) (aX ao : Nat) (p : Int32) (Xa Xb : va_W) (o : Nat → Int64) (fs : List Value) (hrv : Xa[0]? = some (aX, .inr (5, fs))) (r : Int32) (hf : Xb.map (fun q => q.1) = Xa.map (fun q => q.1)) (hc : GI l yX5_park wsX5_park D cyI cyO cyL [.ref aX, .int p] Xa Xb r) : cU l yL_park wsL_park RU D cyI cyO cyL [.ref aX, .int p, .ref ao] (Xa ++ cO cyL ao o) (Xb ++ cO cyL ao (vp_updL o 0 (if r = 0 then 0 else 1))) 0 := by
  obtain ⟨rm, hr1, hr2, hr3, hr4, hc⟩ := hc
  intro sz
  refine va_MetW (cc := cL_park) (maxL := 4) (ret := (some .int)) (hh := [(0, 16, 19, 13)]) (by decide) rfl ?_
  intro p9 e s m args below meth c s₁ B9 hml hv
  obtain ⟨rfl, ⟨hsz, hP, hKK, hXE, hD0⟩, hNC⟩ := hv
  have hx := B9.exec
  have hb := B9.bytes
  have hrt := B9.returns
  have hts := atoms_spec (ws := wsL_park) B9.pre
  have hown : s.vm.findClass RL = some m.cls := findClass_of_methodNamed B9.named
  have hlocks := B9.notSynchronized
  subst hsz
  have hD := hD0.self (sz := s.heap.size)
  generalize hAe : va_A (Xa ++ cO cyL ao o) s.heap.size = A at hD hXE ⊢
  have hA : ∀ q : Nat, s.heap.size ≤ q → A q := fun q h => by rw [← hAe]; exact Or.inr h
  have hS : va_S A s.heap s.heap [] := va_S.rf
  have hl := lv_entry ([.ref aX, .int p, .ref ao]) (n := 4) (Nat.le_of_ble_eq_true rfl)
  rw [lg_entry_eq]
  generalize (lg_sl ([.ref aX, .int p, .ref ao]) ++ List.replicate (4 - (lg_sl ([.ref aX, .int p, .ref ao])).length) Slot.unset).toArray = ls at hl ⊢
  have hl : lv_has ls 4 [(0, .ref aX), (1, .int p), (2, .ref ao)] := hl
  refine lv_aload_n hx hb dL_park_0 rfl (lv_at hl 2 rfl) ?_
  refine lv_iconst (v := 0) hx hb dL_park_1 (by decide) ?_
  refine lv_aload_n hx hb dL_park_2 rfl (lv_at hl 0 rfl) ?_
  refine lv_iload_n hx hb dL_park_3 rfl (lv_at hl 1 rfl) ?_
  have hPc := preP hP
  have hDc := va_D_left hD
  have hFc := free_of hDc hS hA
  refine ret_iJ (ws1 := Xb ++ cO cyL ao o) (r := r) (run_V (q := (RX5, TX5, 3)) (n := 1) (As := [.int p]) (rest := [.int 0, .ref ao]) ⟨hx, hb, hml, hown, hts⟩ (hc _) ggL_park_X5_park rfl hr1 hr2 (hts (.methodLink RL 33 yX5_park) (List.mem_of_getElem? (i := 2) rfl)) (hts (.initialized RX5) (List.mem_of_getElem? (i := 5) rfl)) (hts (.instanceMethod yX5_park) (List.mem_of_getElem? (i := 3) rfl)) (hts (.selects RX5 yX5_park yX5_park) (List.mem_of_getElem? (i := 4) rfl)) (by decide +kernel) ⟨(by show rm.frames + 1 ≤ 8; omega), (by show 8 + (3 + 11) + rm.locals ≤ 180; omega)⟩ hKK hPc hDc (ci := 5) (q0 := 0) rfl hrv rfl hl.1 rfl (Nat.le_of_ble_eq_true rfl) dL_park_4 ⟨Nat.zero_le _, Nat.zero_le _⟩) hS hFc (fun H1 hk h => call_pre hP hD hf hk h) (fun H locs hP hD hS => ?_)
  refine lv_if_eq (tgt := 14) hx hb dL_park_7 (by decide) (fun h0 => ?_) (fun h0 => ?_)
  · rw [if_pos h0]
    refine lv_lconst (v := 0) hx hb dL_park_14 (by decide) ?_
    refine out_st hx hb hKK hP hD hS dL_park_15 (fun H locs hP hD hS => ?_)
    refine lv_goto (tgt := 22) hx hb dL_park_16 (by decide) ?_
    refine lv_iconst (v := 0) hx hb dL_park_22 (by decide) ?_
    exact end_U hx hb hrt hlocks rfl hP hS (by omega) (by omega) dL_park_23
  · rw [if_neg h0]
    refine lv_lconst (v := 1) hx hb dL_park_10 (by decide) ?_
    refine lv_goto (tgt := 15) hx hb dL_park_11 (by decide) ?_
    refine out_st hx hb hKK hP hD hS dL_park_15 (fun H locs hP hD hS => ?_)
    refine lv_goto (tgt := 22) hx hb dL_park_16 (by decide) ?_
    refine lv_iconst (v := 0) hx hb dL_park_22 (by decide) ?_
    exact end_U hx hb hrt hlocks rfl hP hS (by omega) (by omega) dL_park_23
set_option maxHeartbeats 4000000 in
set_option maxRecDepth 100000 in
theorem u_park_b1 (l : Launch) (D : va_G) (cyI cyO cyL : ClassId) (aX ao : Nat) (p : Int32) (Xa : va_W) (o : Nat → Int64) (fs : List Value) (hrv : Xa[0]? = some (aX, .inr (5, fs))) (hlf : l.stackTraces = false) (hc : GB l yX5_park wsX5_park D cyI cyO cyL [.ref aX, .int p] Xa IOOB) : cU l yL_park wsL_park RU D cyI cyO cyL [.ref aX, .int p, .ref ao] (Xa ++ cO cyL ao o) (Xa ++ cO cyL ao o) 1 := by
  obtain ⟨rm, hr1, hr2, hr3, hr4, hc⟩ := hc
  intro sz
  refine va_MetW (cc := cL_park) (maxL := 4) (ret := (some .int)) (hh := [(0, 16, 19, 13)]) (by decide) rfl ?_
  intro p9 e s m args below meth c s₁ B9 hml hv
  obtain ⟨rfl, ⟨hsz, hP, hKK, hXE, hD0⟩, hNC⟩ := hv
  have hx := B9.exec
  have hb := B9.bytes
  have hrt := B9.returns
  have hts := atoms_spec (ws := wsL_park) B9.pre
  have hown : s.vm.findClass RL = some m.cls := findClass_of_methodNamed B9.named
  have hlocks := B9.notSynchronized
  have htab := vx_table (x := yL_park) B9 (hts _ List.mem_cons_self)
  subst hsz
  have hD := hD0.self (sz := s.heap.size)
  generalize hAe : va_A (Xa ++ cO cyL ao o) s.heap.size = A at hD hXE ⊢
  have hA : ∀ q : Nat, s.heap.size ≤ q → A q := fun q h => by rw [← hAe]; exact Or.inr h
  have hS : va_S A s.heap s.heap [] := va_S.rf
  have hl := lv_entry ([.ref aX, .int p, .ref ao]) (n := 4) (Nat.le_of_ble_eq_true rfl)
  rw [lg_entry_eq]
  generalize (lg_sl ([.ref aX, .int p, .ref ao]) ++ List.replicate (4 - (lg_sl ([.ref aX, .int p, .ref ao])).length) Slot.unset).toArray = ls at hl ⊢
  have hl : lv_has ls 4 [(0, .ref aX), (1, .int p), (2, .ref ao)] := hl
  refine lv_aload_n hx hb dL_park_0 rfl (lv_at hl 2 rfl) ?_
  refine lv_iconst (v := 0) hx hb dL_park_1 (by decide) ?_
  refine lv_aload_n hx hb dL_park_2 rfl (lv_at hl 0 rfl) ?_
  refine lv_iload_n hx hb dL_park_3 rfl (lv_at hl 1 rfl) ?_
  have hPc := preP hP
  have hDc := va_D_left hD
  have hFc := free_of hDc hS hA
  have hXc := (hXE.kept hS.2.1).narrow hFc
  refine thrJ (ws1 := Xa ++ cO cyL ao o) (X := IOOB) (runX_V (q := (RX5, TX5, 3)) (n := 1) (As := [.int p]) (rest := [.int 0, .ref ao]) ⟨hx, hb, hml, hown, hts⟩ (hc _) ggL_park_X5_park rfl hr1 hr2 (hts (.methodLink RL 33 yX5_park) (List.mem_of_getElem? (i := 2) rfl)) (hts (.initialized RX5) (List.mem_of_getElem? (i := 5) rfl)) (hts (.instanceMethod yX5_park) (List.mem_of_getElem? (i := 3) rfl)) (hts (.selects RX5 yX5_park yX5_park) (List.mem_of_getElem? (i := 4) rfl)) (by decide +kernel) ⟨(by show rm.frames + 1 ≤ 8; omega), (by show 8 + (3 + 11) + rm.locals ≤ 180; omega)⟩ hKK hXc hPc hDc (ci := 5) (q0 := 0) rfl hrv rfl hl.1 rfl (Nat.le_of_ble_eq_true rfl) dL_park_4 ⟨Nat.le_of_ble_eq_true rfl, Nat.le_of_ble_eq_true rfl⟩) hS hFc (fun H1 hk h => call_pre hP hD rfl hk h) (fun ce9 q9 H locs hP hD hS hce hcv hcl => ?_)
  refine vx_catch (own := RL) (name := IOOB) (E := IOOB) hown [] (⟨0, 16, 19, 13⟩ : ExceptionTableEntry) [] htab (fun z hz => by cases hz) (by decide) (by decide) (hts (.classLink RL 13 "java/lang/IndexOutOfBoundsException") (List.mem_of_getElem? (i := 1) rfl)) (NGW.use hXE.1 _ (List.mem_of_getElem? (i := 0) rfl)) hce hcv hcl ?_
  refine lv_astore_n (lv' := [(3, .ref q9), (0, .ref aX), (1, .int p), (2, .ref ao)]) hx hb dL_park_19 rfl hl (by decide) rfl (fun ls hl => ?_)
  refine lv_iconst (v := 1) hx hb dL_park_20 (by decide) ?_
  exact end_U hx hb hrt hlocks rfl hP hS (by omega) (by omega) dL_park_21
set_option maxHeartbeats 4000000 in
set_option maxRecDepth 100000 in
theorem u_told_g (l : Launch) (D : va_G) (cyI cyO cyL : ClassId) (aX ao : Nat) (p q : Int32) (Xa Xb : va_W) (o : Nat → Int64) (fs : List Value) (hrv : Xa[0]? = some (aX, .inr (5, fs))) (r : Int32) (hf : Xb.map (fun q => q.1) = Xa.map (fun q => q.1)) (hc : GI l yX5_told wsX5_told D cyI cyO cyL [.ref aX, .int p, .int q] Xa Xb r) : cU l yL_told wsL_told RU D cyI cyO cyL [.ref aX, .int p, .int q, .ref ao] (Xa ++ cO cyL ao o) (Xb ++ cO cyL ao (vp_updL o 0 r.toInt64)) 0 := by
  obtain ⟨rm, hr1, hr2, hr3, hr4, hc⟩ := hc
  intro sz
  refine va_MetW (cc := cL_told) (maxL := 5) (ret := (some .int)) (hh := [(0, 10, 13, 13)]) (by decide) rfl ?_
  intro p9 e s m args below meth c s₁ B9 hml hv
  obtain ⟨rfl, ⟨hsz, hP, hKK, hXE, hD0⟩, hNC⟩ := hv
  have hx := B9.exec
  have hb := B9.bytes
  have hrt := B9.returns
  have hts := atoms_spec (ws := wsL_told) B9.pre
  have hown : s.vm.findClass RL = some m.cls := findClass_of_methodNamed B9.named
  have hlocks := B9.notSynchronized
  subst hsz
  have hD := hD0.self (sz := s.heap.size)
  generalize hAe : va_A (Xa ++ cO cyL ao o) s.heap.size = A at hD hXE ⊢
  have hA : ∀ q : Nat, s.heap.size ≤ q → A q := fun q h => by rw [← hAe]; exact Or.inr h
  have hS : va_S A s.heap s.heap [] := va_S.rf
  have hl := lv_entry ([.ref aX, .int p, .int q, .ref ao]) (n := 5) (Nat.le_of_ble_eq_true rfl)
  rw [lg_entry_eq]
  generalize (lg_sl ([.ref aX, .int p, .int q, .ref ao]) ++ List.replicate (5 - (lg_sl ([.ref aX, .int p, .int q, .ref ao])).length) Slot.unset).toArray = ls at hl ⊢
  have hl : lv_has ls 5 [(0, .ref aX), (1, .int p), (2, .int q), (3, .ref ao)] := hl
  refine lv_aload_n hx hb dL_told_0 rfl (lv_at hl 3 rfl) ?_
  refine lv_iconst (v := 0) hx hb dL_told_1 (by decide) ?_
  refine lv_aload_n hx hb dL_told_2 rfl (lv_at hl 0 rfl) ?_
  refine lv_iload_n hx hb dL_told_3 rfl (lv_at hl 1 rfl) ?_
  refine lv_iload_n hx hb dL_told_4 rfl (lv_at hl 2 rfl) ?_
  have hPc := preP hP
  have hDc := va_D_left hD
  have hFc := free_of hDc hS hA
  refine ret_iJ (ws1 := Xb ++ cO cyL ao o) (r := r) (run_V (q := (RX5, TX5, 3)) (n := 2) (As := [.int p, .int q]) (rest := [.int 0, .ref ao]) ⟨hx, hb, hml, hown, hts⟩ (hc _) ggL_told_X5_told rfl hr1 hr2 (hts (.methodLink RL 37 yX5_told) (List.mem_of_getElem? (i := 2) rfl)) (hts (.initialized RX5) (List.mem_of_getElem? (i := 5) rfl)) (hts (.instanceMethod yX5_told) (List.mem_of_getElem? (i := 3) rfl)) (hts (.selects RX5 yX5_told yX5_told) (List.mem_of_getElem? (i := 4) rfl)) (by decide +kernel) ⟨(by show rm.frames + 1 ≤ 8; omega), (by show 8 + (4 + 11) + rm.locals ≤ 180; omega)⟩ hKK hPc hDc (ci := 5) (q0 := 0) rfl hrv rfl hl.1 rfl (Nat.le_of_ble_eq_true rfl) dL_told_5 ⟨Nat.zero_le _, Nat.zero_le _⟩) hS hFc (fun H1 hk h => call_pre hP hD hf hk h) (fun H locs hP hD hS => ?_)
  refine lv_i2l (v := r.toInt64) hx hb dL_told_8 rfl ?_
  refine out_st hx hb hKK hP hD hS dL_told_9 (fun H locs hP hD hS => ?_)
  refine lv_goto (tgt := 17) hx hb dL_told_10 (by decide) ?_
  refine lv_iconst (v := 0) hx hb dL_told_17 (by decide) ?_
  exact end_U hx hb hrt hlocks rfl hP hS (by omega) (by omega) dL_told_18
set_option maxHeartbeats 4000000 in
set_option maxRecDepth 100000 in
theorem u_told_b1 (l : Launch) (D : va_G) (cyI cyO cyL : ClassId) (aX ao : Nat) (p q : Int32) (Xa : va_W) (o : Nat → Int64) (fs : List Value) (hrv : Xa[0]? = some (aX, .inr (5, fs))) (hlf : l.stackTraces = false) (hc : GB l yX5_told wsX5_told D cyI cyO cyL [.ref aX, .int p, .int q] Xa IOOB) : cU l yL_told wsL_told RU D cyI cyO cyL [.ref aX, .int p, .int q, .ref ao] (Xa ++ cO cyL ao o) (Xa ++ cO cyL ao o) 1 := by
  obtain ⟨rm, hr1, hr2, hr3, hr4, hc⟩ := hc
  intro sz
  refine va_MetW (cc := cL_told) (maxL := 5) (ret := (some .int)) (hh := [(0, 10, 13, 13)]) (by decide) rfl ?_
  intro p9 e s m args below meth c s₁ B9 hml hv
  obtain ⟨rfl, ⟨hsz, hP, hKK, hXE, hD0⟩, hNC⟩ := hv
  have hx := B9.exec
  have hb := B9.bytes
  have hrt := B9.returns
  have hts := atoms_spec (ws := wsL_told) B9.pre
  have hown : s.vm.findClass RL = some m.cls := findClass_of_methodNamed B9.named
  have hlocks := B9.notSynchronized
  have htab := vx_table (x := yL_told) B9 (hts _ List.mem_cons_self)
  subst hsz
  have hD := hD0.self (sz := s.heap.size)
  generalize hAe : va_A (Xa ++ cO cyL ao o) s.heap.size = A at hD hXE ⊢
  have hA : ∀ q : Nat, s.heap.size ≤ q → A q := fun q h => by rw [← hAe]; exact Or.inr h
  have hS : va_S A s.heap s.heap [] := va_S.rf
  have hl := lv_entry ([.ref aX, .int p, .int q, .ref ao]) (n := 5) (Nat.le_of_ble_eq_true rfl)
  rw [lg_entry_eq]
  generalize (lg_sl ([.ref aX, .int p, .int q, .ref ao]) ++ List.replicate (5 - (lg_sl ([.ref aX, .int p, .int q, .ref ao])).length) Slot.unset).toArray = ls at hl ⊢
  have hl : lv_has ls 5 [(0, .ref aX), (1, .int p), (2, .int q), (3, .ref ao)] := hl
  refine lv_aload_n hx hb dL_told_0 rfl (lv_at hl 3 rfl) ?_
  refine lv_iconst (v := 0) hx hb dL_told_1 (by decide) ?_
  refine lv_aload_n hx hb dL_told_2 rfl (lv_at hl 0 rfl) ?_
  refine lv_iload_n hx hb dL_told_3 rfl (lv_at hl 1 rfl) ?_
  refine lv_iload_n hx hb dL_told_4 rfl (lv_at hl 2 rfl) ?_
  have hPc := preP hP
  have hDc := va_D_left hD
  have hFc := free_of hDc hS hA
  have hXc := (hXE.kept hS.2.1).narrow hFc
  refine thrJ (ws1 := Xa ++ cO cyL ao o) (X := IOOB) (runX_V (q := (RX5, TX5, 3)) (n := 2) (As := [.int p, .int q]) (rest := [.int 0, .ref ao]) ⟨hx, hb, hml, hown, hts⟩ (hc _) ggL_told_X5_told rfl hr1 hr2 (hts (.methodLink RL 37 yX5_told) (List.mem_of_getElem? (i := 2) rfl)) (hts (.initialized RX5) (List.mem_of_getElem? (i := 5) rfl)) (hts (.instanceMethod yX5_told) (List.mem_of_getElem? (i := 3) rfl)) (hts (.selects RX5 yX5_told yX5_told) (List.mem_of_getElem? (i := 4) rfl)) (by decide +kernel) ⟨(by show rm.frames + 1 ≤ 8; omega), (by show 8 + (4 + 11) + rm.locals ≤ 180; omega)⟩ hKK hXc hPc hDc (ci := 5) (q0 := 0) rfl hrv rfl hl.1 rfl (Nat.le_of_ble_eq_true rfl) dL_told_5 ⟨Nat.le_of_ble_eq_true rfl, Nat.le_of_ble_eq_true rfl⟩) hS hFc (fun H1 hk h => call_pre hP hD rfl hk h) (fun ce9 q9 H locs hP hD hS hce hcv hcl => ?_)
  refine vx_catch (own := RL) (name := IOOB) (E := IOOB) hown [] (⟨0, 10, 13, 13⟩ : ExceptionTableEntry) [] htab (fun z hz => by cases hz) (by decide) (by decide) (hts (.classLink RL 13 "java/lang/IndexOutOfBoundsException") (List.mem_of_getElem? (i := 1) rfl)) (NGW.use hXE.1 _ (List.mem_of_getElem? (i := 0) rfl)) hce hcv hcl ?_
  refine lv_astore (lv' := [(4, .ref q9), (0, .ref aX), (1, .int p), (2, .int q), (3, .ref ao)]) hx hb dL_told_13 hl (by decide) rfl (fun ls hl => ?_)
  refine lv_iconst (v := 1) hx hb dL_told_15 (by decide) ?_
  exact end_U hx hb hrt hlocks rfl hP hS (by omega) (by omega) dL_told_16
set_option maxHeartbeats 4000000 in
set_option maxRecDepth 100000 in
theorem u_span_g (l : Launch) (D : va_G) (cyI cyO cyL : ClassId) (aX ao : Nat) (p q : Int32) (Xa Xb : va_W) (o : Nat → Int64) (fs : List Value) (hrv : Xa[0]? = some (aX, .inr (5, fs))) (r : Int32) (hf : Xb.map (fun q => q.1) = Xa.map (fun q => q.1)) (hc : GI l yX5_span wsX5_span D cyI cyO cyL [.ref aX, .int p, .int q] Xa Xb r) : cU l yL_span wsL_span RU D cyI cyO cyL [.ref aX, .int p, .int q, .ref ao] (Xa ++ cO cyL ao o) (Xb ++ cO cyL ao (vp_updL o 0 r.toInt64)) 0 := by
  obtain ⟨rm, hr1, hr2, hr3, hr4, hc⟩ := hc
  intro sz
  refine va_MetW (cc := cL_span) (maxL := 5) (ret := (some .int)) (hh := [(0, 10, 13, 13)]) (by decide) rfl ?_
  intro p9 e s m args below meth c s₁ B9 hml hv
  obtain ⟨rfl, ⟨hsz, hP, hKK, hXE, hD0⟩, hNC⟩ := hv
  have hx := B9.exec
  have hb := B9.bytes
  have hrt := B9.returns
  have hts := atoms_spec (ws := wsL_span) B9.pre
  have hown : s.vm.findClass RL = some m.cls := findClass_of_methodNamed B9.named
  have hlocks := B9.notSynchronized
  subst hsz
  have hD := hD0.self (sz := s.heap.size)
  generalize hAe : va_A (Xa ++ cO cyL ao o) s.heap.size = A at hD hXE ⊢
  have hA : ∀ q : Nat, s.heap.size ≤ q → A q := fun q h => by rw [← hAe]; exact Or.inr h
  have hS : va_S A s.heap s.heap [] := va_S.rf
  have hl := lv_entry ([.ref aX, .int p, .int q, .ref ao]) (n := 5) (Nat.le_of_ble_eq_true rfl)
  rw [lg_entry_eq]
  generalize (lg_sl ([.ref aX, .int p, .int q, .ref ao]) ++ List.replicate (5 - (lg_sl ([.ref aX, .int p, .int q, .ref ao])).length) Slot.unset).toArray = ls at hl ⊢
  have hl : lv_has ls 5 [(0, .ref aX), (1, .int p), (2, .int q), (3, .ref ao)] := hl
  refine lv_aload_n hx hb dL_span_0 rfl (lv_at hl 3 rfl) ?_
  refine lv_iconst (v := 0) hx hb dL_span_1 (by decide) ?_
  refine lv_aload_n hx hb dL_span_2 rfl (lv_at hl 0 rfl) ?_
  refine lv_iload_n hx hb dL_span_3 rfl (lv_at hl 1 rfl) ?_
  refine lv_iload_n hx hb dL_span_4 rfl (lv_at hl 2 rfl) ?_
  have hPc := preP hP
  have hDc := va_D_left hD
  have hFc := free_of hDc hS hA
  refine ret_iJ (ws1 := Xb ++ cO cyL ao o) (r := r) (run_V (q := (RX5, TX5, 3)) (n := 2) (As := [.int p, .int q]) (rest := [.int 0, .ref ao]) ⟨hx, hb, hml, hown, hts⟩ (hc _) ggL_span_X5_span rfl hr1 hr2 (hts (.methodLink RL 40 yX5_span) (List.mem_of_getElem? (i := 2) rfl)) (hts (.initialized RX5) (List.mem_of_getElem? (i := 5) rfl)) (hts (.instanceMethod yX5_span) (List.mem_of_getElem? (i := 3) rfl)) (hts (.selects RX5 yX5_span yX5_span) (List.mem_of_getElem? (i := 4) rfl)) (by decide +kernel) ⟨(by show rm.frames + 1 ≤ 8; omega), (by show 8 + (3 + 11) + rm.locals ≤ 180; omega)⟩ hKK hPc hDc (ci := 5) (q0 := 0) rfl hrv rfl hl.1 rfl (Nat.le_of_ble_eq_true rfl) dL_span_5 ⟨Nat.zero_le _, Nat.zero_le _⟩) hS hFc (fun H1 hk h => call_pre hP hD hf hk h) (fun H locs hP hD hS => ?_)
  refine lv_i2l (v := r.toInt64) hx hb dL_span_8 rfl ?_
  refine out_st hx hb hKK hP hD hS dL_span_9 (fun H locs hP hD hS => ?_)
  refine lv_goto (tgt := 17) hx hb dL_span_10 (by decide) ?_
  refine lv_iconst (v := 0) hx hb dL_span_17 (by decide) ?_
  exact end_U hx hb hrt hlocks rfl hP hS (by omega) (by omega) dL_span_18
set_option maxHeartbeats 4000000 in
set_option maxRecDepth 100000 in
theorem u_span_b1 (l : Launch) (D : va_G) (cyI cyO cyL : ClassId) (aX ao : Nat) (p q : Int32) (Xa : va_W) (o : Nat → Int64) (fs : List Value) (hrv : Xa[0]? = some (aX, .inr (5, fs))) (hlf : l.stackTraces = false) (hc : GB l yX5_span wsX5_span D cyI cyO cyL [.ref aX, .int p, .int q] Xa IOOB) : cU l yL_span wsL_span RU D cyI cyO cyL [.ref aX, .int p, .int q, .ref ao] (Xa ++ cO cyL ao o) (Xa ++ cO cyL ao o) 1 := by
  obtain ⟨rm, hr1, hr2, hr3, hr4, hc⟩ := hc
  intro sz
  refine va_MetW (cc := cL_span) (maxL := 5) (ret := (some .int)) (hh := [(0, 10, 13, 13)]) (by decide) rfl ?_
  intro p9 e s m args below meth c s₁ B9 hml hv
  obtain ⟨rfl, ⟨hsz, hP, hKK, hXE, hD0⟩, hNC⟩ := hv
  have hx := B9.exec
  have hb := B9.bytes
  have hrt := B9.returns
  have hts := atoms_spec (ws := wsL_span) B9.pre
  have hown : s.vm.findClass RL = some m.cls := findClass_of_methodNamed B9.named
  have hlocks := B9.notSynchronized
  have htab := vx_table (x := yL_span) B9 (hts _ List.mem_cons_self)
  subst hsz
  have hD := hD0.self (sz := s.heap.size)
  generalize hAe : va_A (Xa ++ cO cyL ao o) s.heap.size = A at hD hXE ⊢
  have hA : ∀ q : Nat, s.heap.size ≤ q → A q := fun q h => by rw [← hAe]; exact Or.inr h
  have hS : va_S A s.heap s.heap [] := va_S.rf
  have hl := lv_entry ([.ref aX, .int p, .int q, .ref ao]) (n := 5) (Nat.le_of_ble_eq_true rfl)
  rw [lg_entry_eq]
  generalize (lg_sl ([.ref aX, .int p, .int q, .ref ao]) ++ List.replicate (5 - (lg_sl ([.ref aX, .int p, .int q, .ref ao])).length) Slot.unset).toArray = ls at hl ⊢
  have hl : lv_has ls 5 [(0, .ref aX), (1, .int p), (2, .int q), (3, .ref ao)] := hl
  refine lv_aload_n hx hb dL_span_0 rfl (lv_at hl 3 rfl) ?_
  refine lv_iconst (v := 0) hx hb dL_span_1 (by decide) ?_
  refine lv_aload_n hx hb dL_span_2 rfl (lv_at hl 0 rfl) ?_
  refine lv_iload_n hx hb dL_span_3 rfl (lv_at hl 1 rfl) ?_
  refine lv_iload_n hx hb dL_span_4 rfl (lv_at hl 2 rfl) ?_
  have hPc := preP hP
  have hDc := va_D_left hD
  have hFc := free_of hDc hS hA
  have hXc := (hXE.kept hS.2.1).narrow hFc
  refine thrJ (ws1 := Xa ++ cO cyL ao o) (X := IOOB) (runX_V (q := (RX5, TX5, 3)) (n := 2) (As := [.int p, .int q]) (rest := [.int 0, .ref ao]) ⟨hx, hb, hml, hown, hts⟩ (hc _) ggL_span_X5_span rfl hr1 hr2 (hts (.methodLink RL 40 yX5_span) (List.mem_of_getElem? (i := 2) rfl)) (hts (.initialized RX5) (List.mem_of_getElem? (i := 5) rfl)) (hts (.instanceMethod yX5_span) (List.mem_of_getElem? (i := 3) rfl)) (hts (.selects RX5 yX5_span yX5_span) (List.mem_of_getElem? (i := 4) rfl)) (by decide +kernel) ⟨(by show rm.frames + 1 ≤ 8; omega), (by show 8 + (3 + 11) + rm.locals ≤ 180; omega)⟩ hKK hXc hPc hDc (ci := 5) (q0 := 0) rfl hrv rfl hl.1 rfl (Nat.le_of_ble_eq_true rfl) dL_span_5 ⟨Nat.le_of_ble_eq_true rfl, Nat.le_of_ble_eq_true rfl⟩) hS hFc (fun H1 hk h => call_pre hP hD rfl hk h) (fun ce9 q9 H locs hP hD hS hce hcv hcl => ?_)
  refine vx_catch (own := RL) (name := IOOB) (E := IOOB) hown [] (⟨0, 10, 13, 13⟩ : ExceptionTableEntry) [] htab (fun z hz => by cases hz) (by decide) (by decide) (hts (.classLink RL 13 "java/lang/IndexOutOfBoundsException") (List.mem_of_getElem? (i := 1) rfl)) (NGW.use hXE.1 _ (List.mem_of_getElem? (i := 0) rfl)) hce hcv hcl ?_
  refine lv_astore (lv' := [(4, .ref q9), (0, .ref aX), (1, .int p), (2, .int q), (3, .ref ao)]) hx hb dL_span_13 hl (by decide) rfl (fun ls hl => ?_)
  refine lv_iconst (v := 1) hx hb dL_span_15 (by decide) ?_
  exact end_U hx hb hrt hlocks rfl hP hS (by omega) (by omega) dL_span_16
set_option maxHeartbeats 4000000 in
set_option maxRecDepth 100000 in
theorem u_order_g (l : Launch) (D : va_G) (cyI cyO cyL : ClassId) (aX ao : Nat) (p : Int32) (Xa Xb : va_W) (o : Nat → Int64) (fs : List Value) (hrv : Xa[0]? = some (aX, .inr (5, fs))) (r : Int32) (hf : Xb.map (fun q => q.1) = Xa.map (fun q => q.1)) (hc : GI l yX5_order wsX5_order D cyI cyO cyL [.ref aX, .int p] Xa Xb r) : cU l yL_order wsL_order RU D cyI cyO cyL [.ref aX, .int p, .ref ao] (Xa ++ cO cyL ao o) (Xb ++ cO cyL ao (vp_updL o 0 r.toInt64)) 0 := by
  obtain ⟨rm, hr1, hr2, hr3, hr4, hc⟩ := hc
  intro sz
  refine va_MetW (cc := cL_order) (maxL := 4) (ret := (some .int)) (hh := [(0, 9, 12, 13), (0, 9, 15, 28)]) (by decide) rfl ?_
  intro p9 e s m args below meth c s₁ B9 hml hv
  obtain ⟨rfl, ⟨hsz, hP, hKK, hXE, hD0⟩, hNC⟩ := hv
  have hx := B9.exec
  have hb := B9.bytes
  have hrt := B9.returns
  have hts := atoms_spec (ws := wsL_order) B9.pre
  have hown : s.vm.findClass RL = some m.cls := findClass_of_methodNamed B9.named
  have hlocks := B9.notSynchronized
  subst hsz
  have hD := hD0.self (sz := s.heap.size)
  generalize hAe : va_A (Xa ++ cO cyL ao o) s.heap.size = A at hD hXE ⊢
  have hA : ∀ q : Nat, s.heap.size ≤ q → A q := fun q h => by rw [← hAe]; exact Or.inr h
  have hS : va_S A s.heap s.heap [] := va_S.rf
  have hl := lv_entry ([.ref aX, .int p, .ref ao]) (n := 4) (Nat.le_of_ble_eq_true rfl)
  rw [lg_entry_eq]
  generalize (lg_sl ([.ref aX, .int p, .ref ao]) ++ List.replicate (4 - (lg_sl ([.ref aX, .int p, .ref ao])).length) Slot.unset).toArray = ls at hl ⊢
  have hl : lv_has ls 4 [(0, .ref aX), (1, .int p), (2, .ref ao)] := hl
  refine lv_aload_n hx hb dL_order_0 rfl (lv_at hl 2 rfl) ?_
  refine lv_iconst (v := 0) hx hb dL_order_1 (by decide) ?_
  refine lv_aload_n hx hb dL_order_2 rfl (lv_at hl 0 rfl) ?_
  refine lv_iload_n hx hb dL_order_3 rfl (lv_at hl 1 rfl) ?_
  have hPc := preP hP
  have hDc := va_D_left hD
  have hFc := free_of hDc hS hA
  refine ret_iJ (ws1 := Xb ++ cO cyL ao o) (r := r) (run_V (q := (RX5, TX5, 3)) (n := 1) (As := [.int p]) (rest := [.int 0, .ref ao]) ⟨hx, hb, hml, hown, hts⟩ (hc _) ggL_order_X5_order rfl hr1 hr2 (hts (.methodLink RL 43 yX5_order) (List.mem_of_getElem? (i := 3) rfl)) (hts (.initialized RX5) (List.mem_of_getElem? (i := 6) rfl)) (hts (.instanceMethod yX5_order) (List.mem_of_getElem? (i := 4) rfl)) (hts (.selects RX5 yX5_order yX5_order) (List.mem_of_getElem? (i := 5) rfl)) (by decide +kernel) ⟨(by show rm.frames + 1 ≤ 8; omega), (by show 8 + (2 + 11) + rm.locals ≤ 180; omega)⟩ hKK hPc hDc (ci := 5) (q0 := 0) rfl hrv rfl hl.1 rfl (Nat.le_of_ble_eq_true rfl) dL_order_4 ⟨Nat.zero_le _, Nat.zero_le _⟩) hS hFc (fun H1 hk h => call_pre hP hD hf hk h) (fun H locs hP hD hS => ?_)
  refine lv_i2l (v := r.toInt64) hx hb dL_order_7 rfl ?_
  refine out_st hx hb hKK hP hD hS dL_order_8 (fun H locs hP hD hS => ?_)
  refine lv_goto (tgt := 18) hx hb dL_order_9 (by decide) ?_
  refine lv_iconst (v := 0) hx hb dL_order_18 (by decide) ?_
  exact end_U hx hb hrt hlocks rfl hP hS (by omega) (by omega) dL_order_19
set_option maxHeartbeats 4000000 in
set_option maxRecDepth 100000 in
theorem u_order_b1 (l : Launch) (D : va_G) (cyI cyO cyL : ClassId) (aX ao : Nat) (p : Int32) (Xa : va_W) (o : Nat → Int64) (fs : List Value) (hrv : Xa[0]? = some (aX, .inr (5, fs))) (hlf : l.stackTraces = false) (hc : GB l yX5_order wsX5_order D cyI cyO cyL [.ref aX, .int p] Xa IOOB) : cU l yL_order wsL_order RU D cyI cyO cyL [.ref aX, .int p, .ref ao] (Xa ++ cO cyL ao o) (Xa ++ cO cyL ao o) 1 := by
  obtain ⟨rm, hr1, hr2, hr3, hr4, hc⟩ := hc
  intro sz
  refine va_MetW (cc := cL_order) (maxL := 4) (ret := (some .int)) (hh := [(0, 9, 12, 13), (0, 9, 15, 28)]) (by decide) rfl ?_
  intro p9 e s m args below meth c s₁ B9 hml hv
  obtain ⟨rfl, ⟨hsz, hP, hKK, hXE, hD0⟩, hNC⟩ := hv
  have hx := B9.exec
  have hb := B9.bytes
  have hrt := B9.returns
  have hts := atoms_spec (ws := wsL_order) B9.pre
  have hown : s.vm.findClass RL = some m.cls := findClass_of_methodNamed B9.named
  have hlocks := B9.notSynchronized
  have htab := vx_table (x := yL_order) B9 (hts _ List.mem_cons_self)
  subst hsz
  have hD := hD0.self (sz := s.heap.size)
  generalize hAe : va_A (Xa ++ cO cyL ao o) s.heap.size = A at hD hXE ⊢
  have hA : ∀ q : Nat, s.heap.size ≤ q → A q := fun q h => by rw [← hAe]; exact Or.inr h
  have hS : va_S A s.heap s.heap [] := va_S.rf
  have hl := lv_entry ([.ref aX, .int p, .ref ao]) (n := 4) (Nat.le_of_ble_eq_true rfl)
  rw [lg_entry_eq]
  generalize (lg_sl ([.ref aX, .int p, .ref ao]) ++ List.replicate (4 - (lg_sl ([.ref aX, .int p, .ref ao])).length) Slot.unset).toArray = ls at hl ⊢
  have hl : lv_has ls 4 [(0, .ref aX), (1, .int p), (2, .ref ao)] := hl
  refine lv_aload_n hx hb dL_order_0 rfl (lv_at hl 2 rfl) ?_
  refine lv_iconst (v := 0) hx hb dL_order_1 (by decide) ?_
  refine lv_aload_n hx hb dL_order_2 rfl (lv_at hl 0 rfl) ?_
  refine lv_iload_n hx hb dL_order_3 rfl (lv_at hl 1 rfl) ?_
  have hPc := preP hP
  have hDc := va_D_left hD
  have hFc := free_of hDc hS hA
  have hXc := (hXE.kept hS.2.1).narrow hFc
  refine thrJ (ws1 := Xa ++ cO cyL ao o) (X := IOOB) (runX_V (q := (RX5, TX5, 3)) (n := 1) (As := [.int p]) (rest := [.int 0, .ref ao]) ⟨hx, hb, hml, hown, hts⟩ (hc _) ggL_order_X5_order rfl hr1 hr2 (hts (.methodLink RL 43 yX5_order) (List.mem_of_getElem? (i := 3) rfl)) (hts (.initialized RX5) (List.mem_of_getElem? (i := 6) rfl)) (hts (.instanceMethod yX5_order) (List.mem_of_getElem? (i := 4) rfl)) (hts (.selects RX5 yX5_order yX5_order) (List.mem_of_getElem? (i := 5) rfl)) (by decide +kernel) ⟨(by show rm.frames + 1 ≤ 8; omega), (by show 8 + (2 + 11) + rm.locals ≤ 180; omega)⟩ hKK hXc hPc hDc (ci := 5) (q0 := 0) rfl hrv rfl hl.1 rfl (Nat.le_of_ble_eq_true rfl) dL_order_4 ⟨Nat.le_of_ble_eq_true rfl, Nat.le_of_ble_eq_true rfl⟩) hS hFc (fun H1 hk h => call_pre hP hD rfl hk h) (fun ce9 q9 H locs hP hD hS hce hcv hcl => ?_)
  refine vx_catch (own := RL) (name := IOOB) (E := IOOB) hown [] (⟨0, 9, 12, 13⟩ : ExceptionTableEntry) [(⟨0, 9, 15, 28⟩ : ExceptionTableEntry)] htab (fun z hz => by cases hz) (by decide) (by decide) (hts (.classLink RL 13 "java/lang/IndexOutOfBoundsException") (List.mem_of_getElem? (i := 1) rfl)) (NGW.use hXE.1 _ (List.mem_of_getElem? (i := 0) rfl)) hce hcv hcl ?_
  refine lv_astore_n (lv' := [(3, .ref q9), (0, .ref aX), (1, .int p), (2, .ref ao)]) hx hb dL_order_12 rfl hl (by decide) rfl (fun ls hl => ?_)
  refine lv_iconst (v := 1) hx hb dL_order_13 (by decide) ?_
  exact end_U hx hb hrt hlocks rfl hP hS (by omega) (by omega) dL_order_14
set_option maxHeartbeats 4000000 in
set_option maxRecDepth 100000 in
theorem u_order_b2 (l : Launch) (D : va_G) (cyI cyO cyL : ClassId) (aX ao : Nat) (p : Int32) (Xa : va_W) (o : Nat → Int64) (fs : List Value) (hrv : Xa[0]? = some (aX, .inr (5, fs))) (hlf : l.stackTraces = false) (hc : GB l yX5_order wsX5_order D cyI cyO cyL [.ref aX, .int p] Xa ISTA) : cU l yL_order wsL_order RU D cyI cyO cyL [.ref aX, .int p, .ref ao] (Xa ++ cO cyL ao o) (Xa ++ cO cyL ao o) 2 := by
  obtain ⟨rm, hr1, hr2, hr3, hr4, hc⟩ := hc
  intro sz
  refine va_MetW (cc := cL_order) (maxL := 4) (ret := (some .int)) (hh := [(0, 9, 12, 13), (0, 9, 15, 28)]) (by decide) rfl ?_
  intro p9 e s m args below meth c s₁ B9 hml hv
  obtain ⟨rfl, ⟨hsz, hP, hKK, hXE, hD0⟩, hNC⟩ := hv
  have hx := B9.exec
  have hb := B9.bytes
  have hrt := B9.returns
  have hts := atoms_spec (ws := wsL_order) B9.pre
  have hown : s.vm.findClass RL = some m.cls := findClass_of_methodNamed B9.named
  have hlocks := B9.notSynchronized
  have htab := vx_table (x := yL_order) B9 (hts _ List.mem_cons_self)
  subst hsz
  have hD := hD0.self (sz := s.heap.size)
  generalize hAe : va_A (Xa ++ cO cyL ao o) s.heap.size = A at hD hXE ⊢
  have hA : ∀ q : Nat, s.heap.size ≤ q → A q := fun q h => by rw [← hAe]; exact Or.inr h
  have hS : va_S A s.heap s.heap [] := va_S.rf
  have hl := lv_entry ([.ref aX, .int p, .ref ao]) (n := 4) (Nat.le_of_ble_eq_true rfl)
  rw [lg_entry_eq]
  generalize (lg_sl ([.ref aX, .int p, .ref ao]) ++ List.replicate (4 - (lg_sl ([.ref aX, .int p, .ref ao])).length) Slot.unset).toArray = ls at hl ⊢
  have hl : lv_has ls 4 [(0, .ref aX), (1, .int p), (2, .ref ao)] := hl
  refine lv_aload_n hx hb dL_order_0 rfl (lv_at hl 2 rfl) ?_
  refine lv_iconst (v := 0) hx hb dL_order_1 (by decide) ?_
  refine lv_aload_n hx hb dL_order_2 rfl (lv_at hl 0 rfl) ?_
  refine lv_iload_n hx hb dL_order_3 rfl (lv_at hl 1 rfl) ?_
  have hPc := preP hP
  have hDc := va_D_left hD
  have hFc := free_of hDc hS hA
  have hXc := (hXE.kept hS.2.1).narrow hFc
  refine thrJ (ws1 := Xa ++ cO cyL ao o) (X := ISTA) (runX_V (q := (RX5, TX5, 3)) (n := 1) (As := [.int p]) (rest := [.int 0, .ref ao]) ⟨hx, hb, hml, hown, hts⟩ (hc _) ggL_order_X5_order rfl hr1 hr2 (hts (.methodLink RL 43 yX5_order) (List.mem_of_getElem? (i := 3) rfl)) (hts (.initialized RX5) (List.mem_of_getElem? (i := 6) rfl)) (hts (.instanceMethod yX5_order) (List.mem_of_getElem? (i := 4) rfl)) (hts (.selects RX5 yX5_order yX5_order) (List.mem_of_getElem? (i := 5) rfl)) (by decide +kernel) ⟨(by show rm.frames + 1 ≤ 8; omega), (by show 8 + (2 + 11) + rm.locals ≤ 180; omega)⟩ hKK hXc hPc hDc (ci := 5) (q0 := 0) rfl hrv rfl hl.1 rfl (Nat.le_of_ble_eq_true rfl) dL_order_4 ⟨Nat.le_of_ble_eq_true rfl, Nat.le_of_ble_eq_true rfl⟩) hS hFc (fun H1 hk h => call_pre hP hD rfl hk h) (fun ce9 q9 H locs hP hD hS hce hcv hcl => ?_)
  refine vx_catch (own := RL) (name := ISTA) (E := ISTA) hown [(⟨0, 9, 12, 13⟩ : ExceptionTableEntry)] (⟨0, 9, 15, 28⟩ : ExceptionTableEntry) [] htab (fun z hz => by cases List.mem_singleton.mp hz; exact Or.inr ⟨(by decide), IOOB, (hts (.classLink RL 13 "java/lang/IndexOutOfBoundsException") (List.mem_of_getElem? (i := 1) rfl)), hNC.2.1⟩) (by decide) (by decide) (hts (.classLink RL 28 "java/lang/IllegalStateException") (List.mem_of_getElem? (i := 2) rfl)) (NGW.use hXE.1 _ (List.mem_of_getElem? (i := 2) rfl)) hce hcv hcl ?_
  refine lv_astore_n (lv' := [(3, .ref q9), (0, .ref aX), (1, .int p), (2, .ref ao)]) hx hb dL_order_15 rfl hl (by decide) rfl (fun ls hl => ?_)
  refine lv_iconst (v := 2) hx hb dL_order_16 (by decide) ?_
  exact end_U hx hb hrt hlocks rfl hP hS (by omega) (by omega) dL_order_17
set_option maxHeartbeats 4000000 in
set_option maxRecDepth 100000 in
theorem u_cancel_g (l : Launch) (D : va_G) (cyI cyO cyL : ClassId) (aX ao : Nat) (p : Int32) (Xa Xb : va_W) (o : Nat → Int64) (fs : List Value) (hrv : Xa[0]? = some (aX, .inr (5, fs))) (r : Int32) (hf : Xb.map (fun q => q.1) = Xa.map (fun q => q.1)) (hc : GI l yX5_cancel wsX5_cancel D cyI cyO cyL [.ref aX, .int p] Xa Xb r) : cU l yL_cancel wsL_cancel RU D cyI cyO cyL [.ref aX, .int p, .ref ao] (Xa ++ cO cyL ao o) (Xb ++ cO cyL ao (vp_updL o 0 r.toInt64)) 0 := by
  obtain ⟨rm, hr1, hr2, hr3, hr4, hc⟩ := hc
  intro sz
  refine va_MetW (cc := cL_cancel) (maxL := 4) (ret := (some .int)) (hh := [(0, 9, 12, 13), (0, 9, 15, 28)]) (by decide) rfl ?_
  intro p9 e s m args below meth c s₁ B9 hml hv
  obtain ⟨rfl, ⟨hsz, hP, hKK, hXE, hD0⟩, hNC⟩ := hv
  have hx := B9.exec
  have hb := B9.bytes
  have hrt := B9.returns
  have hts := atoms_spec (ws := wsL_cancel) B9.pre
  have hown : s.vm.findClass RL = some m.cls := findClass_of_methodNamed B9.named
  have hlocks := B9.notSynchronized
  subst hsz
  have hD := hD0.self (sz := s.heap.size)
  generalize hAe : va_A (Xa ++ cO cyL ao o) s.heap.size = A at hD hXE ⊢
  have hA : ∀ q : Nat, s.heap.size ≤ q → A q := fun q h => by rw [← hAe]; exact Or.inr h
  have hS : va_S A s.heap s.heap [] := va_S.rf
  have hl := lv_entry ([.ref aX, .int p, .ref ao]) (n := 4) (Nat.le_of_ble_eq_true rfl)
  rw [lg_entry_eq]
  generalize (lg_sl ([.ref aX, .int p, .ref ao]) ++ List.replicate (4 - (lg_sl ([.ref aX, .int p, .ref ao])).length) Slot.unset).toArray = ls at hl ⊢
  have hl : lv_has ls 4 [(0, .ref aX), (1, .int p), (2, .ref ao)] := hl
  refine lv_aload_n hx hb dL_cancel_0 rfl (lv_at hl 2 rfl) ?_
  refine lv_iconst (v := 0) hx hb dL_cancel_1 (by decide) ?_
  refine lv_aload_n hx hb dL_cancel_2 rfl (lv_at hl 0 rfl) ?_
  refine lv_iload_n hx hb dL_cancel_3 rfl (lv_at hl 1 rfl) ?_
  have hPc := preP hP
  have hDc := va_D_left hD
  have hFc := free_of hDc hS hA
  refine ret_iJ (ws1 := Xb ++ cO cyL ao o) (r := r) (run_V (q := (RX5, TX5, 3)) (n := 1) (As := [.int p]) (rest := [.int 0, .ref ao]) ⟨hx, hb, hml, hown, hts⟩ (hc _) ggL_cancel_X5_cancel rfl hr1 hr2 (hts (.methodLink RL 47 yX5_cancel) (List.mem_of_getElem? (i := 3) rfl)) (hts (.initialized RX5) (List.mem_of_getElem? (i := 6) rfl)) (hts (.instanceMethod yX5_cancel) (List.mem_of_getElem? (i := 4) rfl)) (hts (.selects RX5 yX5_cancel yX5_cancel) (List.mem_of_getElem? (i := 5) rfl)) (by decide +kernel) ⟨(by show rm.frames + 1 ≤ 8; omega), (by show 8 + (3 + 11) + rm.locals ≤ 180; omega)⟩ hKK hPc hDc (ci := 5) (q0 := 0) rfl hrv rfl hl.1 rfl (Nat.le_of_ble_eq_true rfl) dL_cancel_4 ⟨Nat.zero_le _, Nat.zero_le _⟩) hS hFc (fun H1 hk h => call_pre hP hD hf hk h) (fun H locs hP hD hS => ?_)
  refine lv_i2l (v := r.toInt64) hx hb dL_cancel_7 rfl ?_
  refine out_st hx hb hKK hP hD hS dL_cancel_8 (fun H locs hP hD hS => ?_)
  refine lv_goto (tgt := 18) hx hb dL_cancel_9 (by decide) ?_
  refine lv_iconst (v := 0) hx hb dL_cancel_18 (by decide) ?_
  exact end_U hx hb hrt hlocks rfl hP hS (by omega) (by omega) dL_cancel_19
set_option maxHeartbeats 4000000 in
set_option maxRecDepth 100000 in
theorem u_cancel_b1 (l : Launch) (D : va_G) (cyI cyO cyL : ClassId) (aX ao : Nat) (p : Int32) (Xa : va_W) (o : Nat → Int64) (fs : List Value) (hrv : Xa[0]? = some (aX, .inr (5, fs))) (hlf : l.stackTraces = false) (hc : GB l yX5_cancel wsX5_cancel D cyI cyO cyL [.ref aX, .int p] Xa IOOB) : cU l yL_cancel wsL_cancel RU D cyI cyO cyL [.ref aX, .int p, .ref ao] (Xa ++ cO cyL ao o) (Xa ++ cO cyL ao o) 1 := by
  obtain ⟨rm, hr1, hr2, hr3, hr4, hc⟩ := hc
  intro sz
  refine va_MetW (cc := cL_cancel) (maxL := 4) (ret := (some .int)) (hh := [(0, 9, 12, 13), (0, 9, 15, 28)]) (by decide) rfl ?_
  intro p9 e s m args below meth c s₁ B9 hml hv
  obtain ⟨rfl, ⟨hsz, hP, hKK, hXE, hD0⟩, hNC⟩ := hv
  have hx := B9.exec
  have hb := B9.bytes
  have hrt := B9.returns
  have hts := atoms_spec (ws := wsL_cancel) B9.pre
  have hown : s.vm.findClass RL = some m.cls := findClass_of_methodNamed B9.named
  have hlocks := B9.notSynchronized
  have htab := vx_table (x := yL_cancel) B9 (hts _ List.mem_cons_self)
  subst hsz
  have hD := hD0.self (sz := s.heap.size)
  generalize hAe : va_A (Xa ++ cO cyL ao o) s.heap.size = A at hD hXE ⊢
  have hA : ∀ q : Nat, s.heap.size ≤ q → A q := fun q h => by rw [← hAe]; exact Or.inr h
  have hS : va_S A s.heap s.heap [] := va_S.rf
  have hl := lv_entry ([.ref aX, .int p, .ref ao]) (n := 4) (Nat.le_of_ble_eq_true rfl)
  rw [lg_entry_eq]
  generalize (lg_sl ([.ref aX, .int p, .ref ao]) ++ List.replicate (4 - (lg_sl ([.ref aX, .int p, .ref ao])).length) Slot.unset).toArray = ls at hl ⊢
  have hl : lv_has ls 4 [(0, .ref aX), (1, .int p), (2, .ref ao)] := hl
  refine lv_aload_n hx hb dL_cancel_0 rfl (lv_at hl 2 rfl) ?_
  refine lv_iconst (v := 0) hx hb dL_cancel_1 (by decide) ?_
  refine lv_aload_n hx hb dL_cancel_2 rfl (lv_at hl 0 rfl) ?_
  refine lv_iload_n hx hb dL_cancel_3 rfl (lv_at hl 1 rfl) ?_
  have hPc := preP hP
  have hDc := va_D_left hD
  have hFc := free_of hDc hS hA
  have hXc := (hXE.kept hS.2.1).narrow hFc
  refine thrJ (ws1 := Xa ++ cO cyL ao o) (X := IOOB) (runX_V (q := (RX5, TX5, 3)) (n := 1) (As := [.int p]) (rest := [.int 0, .ref ao]) ⟨hx, hb, hml, hown, hts⟩ (hc _) ggL_cancel_X5_cancel rfl hr1 hr2 (hts (.methodLink RL 47 yX5_cancel) (List.mem_of_getElem? (i := 3) rfl)) (hts (.initialized RX5) (List.mem_of_getElem? (i := 6) rfl)) (hts (.instanceMethod yX5_cancel) (List.mem_of_getElem? (i := 4) rfl)) (hts (.selects RX5 yX5_cancel yX5_cancel) (List.mem_of_getElem? (i := 5) rfl)) (by decide +kernel) ⟨(by show rm.frames + 1 ≤ 8; omega), (by show 8 + (3 + 11) + rm.locals ≤ 180; omega)⟩ hKK hXc hPc hDc (ci := 5) (q0 := 0) rfl hrv rfl hl.1 rfl (Nat.le_of_ble_eq_true rfl) dL_cancel_4 ⟨Nat.le_of_ble_eq_true rfl, Nat.le_of_ble_eq_true rfl⟩) hS hFc (fun H1 hk h => call_pre hP hD rfl hk h) (fun ce9 q9 H locs hP hD hS hce hcv hcl => ?_)
  refine vx_catch (own := RL) (name := IOOB) (E := IOOB) hown [] (⟨0, 9, 12, 13⟩ : ExceptionTableEntry) [(⟨0, 9, 15, 28⟩ : ExceptionTableEntry)] htab (fun z hz => by cases hz) (by decide) (by decide) (hts (.classLink RL 13 "java/lang/IndexOutOfBoundsException") (List.mem_of_getElem? (i := 1) rfl)) (NGW.use hXE.1 _ (List.mem_of_getElem? (i := 0) rfl)) hce hcv hcl ?_
  refine lv_astore_n (lv' := [(3, .ref q9), (0, .ref aX), (1, .int p), (2, .ref ao)]) hx hb dL_cancel_12 rfl hl (by decide) rfl (fun ls hl => ?_)
  refine lv_iconst (v := 1) hx hb dL_cancel_13 (by decide) ?_
  exact end_U hx hb hrt hlocks rfl hP hS (by omega) (by omega) dL_cancel_14
set_option maxHeartbeats 4000000 in
set_option maxRecDepth 100000 in
theorem u_cancel_b2 (l : Launch) (D : va_G) (cyI cyO cyL : ClassId) (aX ao : Nat) (p : Int32) (Xa : va_W) (o : Nat → Int64) (fs : List Value) (hrv : Xa[0]? = some (aX, .inr (5, fs))) (hlf : l.stackTraces = false) (hc : GB l yX5_cancel wsX5_cancel D cyI cyO cyL [.ref aX, .int p] Xa ISTA) : cU l yL_cancel wsL_cancel RU D cyI cyO cyL [.ref aX, .int p, .ref ao] (Xa ++ cO cyL ao o) (Xa ++ cO cyL ao o) 2 := by
  obtain ⟨rm, hr1, hr2, hr3, hr4, hc⟩ := hc
  intro sz
  refine va_MetW (cc := cL_cancel) (maxL := 4) (ret := (some .int)) (hh := [(0, 9, 12, 13), (0, 9, 15, 28)]) (by decide) rfl ?_
  intro p9 e s m args below meth c s₁ B9 hml hv
  obtain ⟨rfl, ⟨hsz, hP, hKK, hXE, hD0⟩, hNC⟩ := hv
  have hx := B9.exec
  have hb := B9.bytes
  have hrt := B9.returns
  have hts := atoms_spec (ws := wsL_cancel) B9.pre
  have hown : s.vm.findClass RL = some m.cls := findClass_of_methodNamed B9.named
  have hlocks := B9.notSynchronized
  have htab := vx_table (x := yL_cancel) B9 (hts _ List.mem_cons_self)
  subst hsz
  have hD := hD0.self (sz := s.heap.size)
  generalize hAe : va_A (Xa ++ cO cyL ao o) s.heap.size = A at hD hXE ⊢
  have hA : ∀ q : Nat, s.heap.size ≤ q → A q := fun q h => by rw [← hAe]; exact Or.inr h
  have hS : va_S A s.heap s.heap [] := va_S.rf
  have hl := lv_entry ([.ref aX, .int p, .ref ao]) (n := 4) (Nat.le_of_ble_eq_true rfl)
  rw [lg_entry_eq]
  generalize (lg_sl ([.ref aX, .int p, .ref ao]) ++ List.replicate (4 - (lg_sl ([.ref aX, .int p, .ref ao])).length) Slot.unset).toArray = ls at hl ⊢
  have hl : lv_has ls 4 [(0, .ref aX), (1, .int p), (2, .ref ao)] := hl
  refine lv_aload_n hx hb dL_cancel_0 rfl (lv_at hl 2 rfl) ?_
  refine lv_iconst (v := 0) hx hb dL_cancel_1 (by decide) ?_
  refine lv_aload_n hx hb dL_cancel_2 rfl (lv_at hl 0 rfl) ?_
  refine lv_iload_n hx hb dL_cancel_3 rfl (lv_at hl 1 rfl) ?_
  have hPc := preP hP
  have hDc := va_D_left hD
  have hFc := free_of hDc hS hA
  have hXc := (hXE.kept hS.2.1).narrow hFc
  refine thrJ (ws1 := Xa ++ cO cyL ao o) (X := ISTA) (runX_V (q := (RX5, TX5, 3)) (n := 1) (As := [.int p]) (rest := [.int 0, .ref ao]) ⟨hx, hb, hml, hown, hts⟩ (hc _) ggL_cancel_X5_cancel rfl hr1 hr2 (hts (.methodLink RL 47 yX5_cancel) (List.mem_of_getElem? (i := 3) rfl)) (hts (.initialized RX5) (List.mem_of_getElem? (i := 6) rfl)) (hts (.instanceMethod yX5_cancel) (List.mem_of_getElem? (i := 4) rfl)) (hts (.selects RX5 yX5_cancel yX5_cancel) (List.mem_of_getElem? (i := 5) rfl)) (by decide +kernel) ⟨(by show rm.frames + 1 ≤ 8; omega), (by show 8 + (3 + 11) + rm.locals ≤ 180; omega)⟩ hKK hXc hPc hDc (ci := 5) (q0 := 0) rfl hrv rfl hl.1 rfl (Nat.le_of_ble_eq_true rfl) dL_cancel_4 ⟨Nat.le_of_ble_eq_true rfl, Nat.le_of_ble_eq_true rfl⟩) hS hFc (fun H1 hk h => call_pre hP hD rfl hk h) (fun ce9 q9 H locs hP hD hS hce hcv hcl => ?_)
  refine vx_catch (own := RL) (name := ISTA) (E := ISTA) hown [(⟨0, 9, 12, 13⟩ : ExceptionTableEntry)] (⟨0, 9, 15, 28⟩ : ExceptionTableEntry) [] htab (fun z hz => by cases List.mem_singleton.mp hz; exact Or.inr ⟨(by decide), IOOB, (hts (.classLink RL 13 "java/lang/IndexOutOfBoundsException") (List.mem_of_getElem? (i := 1) rfl)), hNC.2.1⟩) (by decide) (by decide) (hts (.classLink RL 28 "java/lang/IllegalStateException") (List.mem_of_getElem? (i := 2) rfl)) (NGW.use hXE.1 _ (List.mem_of_getElem? (i := 2) rfl)) hce hcv hcl ?_
  refine lv_astore_n (lv' := [(3, .ref q9), (0, .ref aX), (1, .int p), (2, .ref ao)]) hx hb dL_cancel_15 rfl hl (by decide) rfl (fun ls hl => ?_)
  refine lv_iconst (v := 2) hx hb dL_cancel_16 (by decide) ?_
  exact end_U hx hb hrt hlocks rfl hP hS (by omega) (by omega) dL_cancel_17
set_option maxHeartbeats 4000000 in
set_option maxRecDepth 100000 in
theorem u_gang_g (l : Launch) (D : va_G) (cyI cyO cyL : ClassId) (aX ao : Nat) (p : Int32) (Xa Xb : va_W) (o : Nat → Int64) (fs : List Value) (hrv : Xa[0]? = some (aX, .inr (5, fs))) (r : Int32) (hf : Xb.map (fun q => q.1) = Xa.map (fun q => q.1)) (hc : GI l yX5_gang wsX5_gang D cyI cyO cyL [.ref aX, .int p] Xa Xb r) : cU l yL_gang wsL_gang RU D cyI cyO cyL [.ref aX, .int p, .ref ao] (Xa ++ cO cyL ao o) (Xb ++ cO cyL ao (vp_updL o 0 r.toInt64)) 0 := by
  obtain ⟨rm, hr1, hr2, hr3, hr4, hc⟩ := hc
  intro sz
  refine va_MetW (cc := cL_gang) (maxL := 4) (ret := (some .int)) (hh := [(0, 9, 12, 13)]) (by decide) rfl ?_
  intro p9 e s m args below meth c s₁ B9 hml hv
  obtain ⟨rfl, ⟨hsz, hP, hKK, hXE, hD0⟩, hNC⟩ := hv
  have hx := B9.exec
  have hb := B9.bytes
  have hrt := B9.returns
  have hts := atoms_spec (ws := wsL_gang) B9.pre
  have hown : s.vm.findClass RL = some m.cls := findClass_of_methodNamed B9.named
  have hlocks := B9.notSynchronized
  subst hsz
  have hD := hD0.self (sz := s.heap.size)
  generalize hAe : va_A (Xa ++ cO cyL ao o) s.heap.size = A at hD hXE ⊢
  have hA : ∀ q : Nat, s.heap.size ≤ q → A q := fun q h => by rw [← hAe]; exact Or.inr h
  have hS : va_S A s.heap s.heap [] := va_S.rf
  have hl := lv_entry ([.ref aX, .int p, .ref ao]) (n := 4) (Nat.le_of_ble_eq_true rfl)
  rw [lg_entry_eq]
  generalize (lg_sl ([.ref aX, .int p, .ref ao]) ++ List.replicate (4 - (lg_sl ([.ref aX, .int p, .ref ao])).length) Slot.unset).toArray = ls at hl ⊢
  have hl : lv_has ls 4 [(0, .ref aX), (1, .int p), (2, .ref ao)] := hl
  refine lv_aload_n hx hb dL_gang_0 rfl (lv_at hl 2 rfl) ?_
  refine lv_iconst (v := 0) hx hb dL_gang_1 (by decide) ?_
  refine lv_aload_n hx hb dL_gang_2 rfl (lv_at hl 0 rfl) ?_
  refine lv_iload_n hx hb dL_gang_3 rfl (lv_at hl 1 rfl) ?_
  have hPc := preP hP
  have hDc := va_D_left hD
  have hFc := free_of hDc hS hA
  refine ret_iJ (ws1 := Xb ++ cO cyL ao o) (r := r) (run_V (q := (RX5, TX5, 3)) (n := 1) (As := [.int p]) (rest := [.int 0, .ref ao]) ⟨hx, hb, hml, hown, hts⟩ (hc _) ggL_gang_X5_gang rfl hr1 hr2 (hts (.methodLink RL 50 yX5_gang) (List.mem_of_getElem? (i := 2) rfl)) (hts (.initialized RX5) (List.mem_of_getElem? (i := 5) rfl)) (hts (.instanceMethod yX5_gang) (List.mem_of_getElem? (i := 3) rfl)) (hts (.selects RX5 yX5_gang yX5_gang) (List.mem_of_getElem? (i := 4) rfl)) (by decide +kernel) ⟨(by show rm.frames + 1 ≤ 8; omega), (by show 8 + (3 + 11) + rm.locals ≤ 180; omega)⟩ hKK hPc hDc (ci := 5) (q0 := 0) rfl hrv rfl hl.1 rfl (Nat.le_of_ble_eq_true rfl) dL_gang_4 ⟨Nat.zero_le _, Nat.zero_le _⟩) hS hFc (fun H1 hk h => call_pre hP hD hf hk h) (fun H locs hP hD hS => ?_)
  refine lv_i2l (v := r.toInt64) hx hb dL_gang_7 rfl ?_
  refine out_st hx hb hKK hP hD hS dL_gang_8 (fun H locs hP hD hS => ?_)
  refine lv_goto (tgt := 15) hx hb dL_gang_9 (by decide) ?_
  refine lv_iconst (v := 0) hx hb dL_gang_15 (by decide) ?_
  exact end_U hx hb hrt hlocks rfl hP hS (by omega) (by omega) dL_gang_16
set_option maxHeartbeats 4000000 in
set_option maxRecDepth 100000 in
theorem u_gang_b1 (l : Launch) (D : va_G) (cyI cyO cyL : ClassId) (aX ao : Nat) (p : Int32) (Xa : va_W) (o : Nat → Int64) (fs : List Value) (hrv : Xa[0]? = some (aX, .inr (5, fs))) (hlf : l.stackTraces = false) (hc : GB l yX5_gang wsX5_gang D cyI cyO cyL [.ref aX, .int p] Xa IOOB) : cU l yL_gang wsL_gang RU D cyI cyO cyL [.ref aX, .int p, .ref ao] (Xa ++ cO cyL ao o) (Xa ++ cO cyL ao o) 1 := by
  obtain ⟨rm, hr1, hr2, hr3, hr4, hc⟩ := hc
  intro sz
  refine va_MetW (cc := cL_gang) (maxL := 4) (ret := (some .int)) (hh := [(0, 9, 12, 13)]) (by decide) rfl ?_
  intro p9 e s m args below meth c s₁ B9 hml hv
  obtain ⟨rfl, ⟨hsz, hP, hKK, hXE, hD0⟩, hNC⟩ := hv
  have hx := B9.exec
  have hb := B9.bytes
  have hrt := B9.returns
  have hts := atoms_spec (ws := wsL_gang) B9.pre
  have hown : s.vm.findClass RL = some m.cls := findClass_of_methodNamed B9.named
  have hlocks := B9.notSynchronized
  have htab := vx_table (x := yL_gang) B9 (hts _ List.mem_cons_self)
  subst hsz
  have hD := hD0.self (sz := s.heap.size)
  generalize hAe : va_A (Xa ++ cO cyL ao o) s.heap.size = A at hD hXE ⊢
  have hA : ∀ q : Nat, s.heap.size ≤ q → A q := fun q h => by rw [← hAe]; exact Or.inr h
  have hS : va_S A s.heap s.heap [] := va_S.rf
  have hl := lv_entry ([.ref aX, .int p, .ref ao]) (n := 4) (Nat.le_of_ble_eq_true rfl)
  rw [lg_entry_eq]
  generalize (lg_sl ([.ref aX, .int p, .ref ao]) ++ List.replicate (4 - (lg_sl ([.ref aX, .int p, .ref ao])).length) Slot.unset).toArray = ls at hl ⊢
  have hl : lv_has ls 4 [(0, .ref aX), (1, .int p), (2, .ref ao)] := hl
  refine lv_aload_n hx hb dL_gang_0 rfl (lv_at hl 2 rfl) ?_
  refine lv_iconst (v := 0) hx hb dL_gang_1 (by decide) ?_
  refine lv_aload_n hx hb dL_gang_2 rfl (lv_at hl 0 rfl) ?_
  refine lv_iload_n hx hb dL_gang_3 rfl (lv_at hl 1 rfl) ?_
  have hPc := preP hP
  have hDc := va_D_left hD
  have hFc := free_of hDc hS hA
  have hXc := (hXE.kept hS.2.1).narrow hFc
  refine thrJ (ws1 := Xa ++ cO cyL ao o) (X := IOOB) (runX_V (q := (RX5, TX5, 3)) (n := 1) (As := [.int p]) (rest := [.int 0, .ref ao]) ⟨hx, hb, hml, hown, hts⟩ (hc _) ggL_gang_X5_gang rfl hr1 hr2 (hts (.methodLink RL 50 yX5_gang) (List.mem_of_getElem? (i := 2) rfl)) (hts (.initialized RX5) (List.mem_of_getElem? (i := 5) rfl)) (hts (.instanceMethod yX5_gang) (List.mem_of_getElem? (i := 3) rfl)) (hts (.selects RX5 yX5_gang yX5_gang) (List.mem_of_getElem? (i := 4) rfl)) (by decide +kernel) ⟨(by show rm.frames + 1 ≤ 8; omega), (by show 8 + (3 + 11) + rm.locals ≤ 180; omega)⟩ hKK hXc hPc hDc (ci := 5) (q0 := 0) rfl hrv rfl hl.1 rfl (Nat.le_of_ble_eq_true rfl) dL_gang_4 ⟨Nat.le_of_ble_eq_true rfl, Nat.le_of_ble_eq_true rfl⟩) hS hFc (fun H1 hk h => call_pre hP hD rfl hk h) (fun ce9 q9 H locs hP hD hS hce hcv hcl => ?_)
  refine vx_catch (own := RL) (name := IOOB) (E := IOOB) hown [] (⟨0, 9, 12, 13⟩ : ExceptionTableEntry) [] htab (fun z hz => by cases hz) (by decide) (by decide) (hts (.classLink RL 13 "java/lang/IndexOutOfBoundsException") (List.mem_of_getElem? (i := 1) rfl)) (NGW.use hXE.1 _ (List.mem_of_getElem? (i := 0) rfl)) hce hcv hcl ?_
  refine lv_astore_n (lv' := [(3, .ref q9), (0, .ref aX), (1, .int p), (2, .ref ao)]) hx hb dL_gang_12 rfl hl (by decide) rfl (fun ls hl => ?_)
  refine lv_iconst (v := 1) hx hb dL_gang_13 (by decide) ?_
  exact end_U hx hb hrt hlocks rfl hP hS (by omega) (by omega) dL_gang_14
set_option maxHeartbeats 4000000 in
set_option maxRecDepth 100000 in
theorem u_count_g (l : Launch) (D : va_G) (cyI cyO cyL : ClassId) (aX ao : Nat) (p : Int32) (Xa Xb : va_W) (o : Nat → Int64) (fs : List Value) (hrv : Xa[0]? = some (aX, .inr (5, fs))) (r : Int32) (hf : Xb.map (fun q => q.1) = Xa.map (fun q => q.1)) (hc : GI l yX5_count wsX5_count D cyI cyO cyL [.ref aX, .int p] Xa Xb r) : cU l yL_count wsL_count RU D cyI cyO cyL [.ref aX, .int p, .ref ao] (Xa ++ cO cyL ao o) (Xb ++ cO cyL ao (vp_updL o 0 r.toInt64)) 0 := by
  obtain ⟨rm, hr1, hr2, hr3, hr4, hc⟩ := hc
  intro sz
  refine va_MetW (cc := cL_count) (maxL := 4) (ret := (some .int)) (hh := [(0, 9, 12, 13)]) (by decide) rfl ?_
  intro p9 e s m args below meth c s₁ B9 hml hv
  obtain ⟨rfl, ⟨hsz, hP, hKK, hXE, hD0⟩, hNC⟩ := hv
  have hx := B9.exec
  have hb := B9.bytes
  have hrt := B9.returns
  have hts := atoms_spec (ws := wsL_count) B9.pre
  have hown : s.vm.findClass RL = some m.cls := findClass_of_methodNamed B9.named
  have hlocks := B9.notSynchronized
  subst hsz
  have hD := hD0.self (sz := s.heap.size)
  generalize hAe : va_A (Xa ++ cO cyL ao o) s.heap.size = A at hD hXE ⊢
  have hA : ∀ q : Nat, s.heap.size ≤ q → A q := fun q h => by rw [← hAe]; exact Or.inr h
  have hS : va_S A s.heap s.heap [] := va_S.rf
  have hl := lv_entry ([.ref aX, .int p, .ref ao]) (n := 4) (Nat.le_of_ble_eq_true rfl)
  rw [lg_entry_eq]
  generalize (lg_sl ([.ref aX, .int p, .ref ao]) ++ List.replicate (4 - (lg_sl ([.ref aX, .int p, .ref ao])).length) Slot.unset).toArray = ls at hl ⊢
  have hl : lv_has ls 4 [(0, .ref aX), (1, .int p), (2, .ref ao)] := hl
  refine lv_aload_n hx hb dL_count_0 rfl (lv_at hl 2 rfl) ?_
  refine lv_iconst (v := 0) hx hb dL_count_1 (by decide) ?_
  refine lv_aload_n hx hb dL_count_2 rfl (lv_at hl 0 rfl) ?_
  refine lv_iload_n hx hb dL_count_3 rfl (lv_at hl 1 rfl) ?_
  have hPc := preP hP
  have hDc := va_D_left hD
  have hFc := free_of hDc hS hA
  refine ret_iJ (ws1 := Xb ++ cO cyL ao o) (r := r) (run_V (q := (RX5, TX5, 3)) (n := 1) (As := [.int p]) (rest := [.int 0, .ref ao]) ⟨hx, hb, hml, hown, hts⟩ (hc _) ggL_count_X5_count rfl hr1 hr2 (hts (.methodLink RL 53 yX5_count) (List.mem_of_getElem? (i := 2) rfl)) (hts (.initialized RX5) (List.mem_of_getElem? (i := 5) rfl)) (hts (.instanceMethod yX5_count) (List.mem_of_getElem? (i := 3) rfl)) (hts (.selects RX5 yX5_count yX5_count) (List.mem_of_getElem? (i := 4) rfl)) (by decide +kernel) ⟨(by show rm.frames + 1 ≤ 8; omega), (by show 8 + (2 + 11) + rm.locals ≤ 180; omega)⟩ hKK hPc hDc (ci := 5) (q0 := 0) rfl hrv rfl hl.1 rfl (Nat.le_of_ble_eq_true rfl) dL_count_4 ⟨Nat.zero_le _, Nat.zero_le _⟩) hS hFc (fun H1 hk h => call_pre hP hD hf hk h) (fun H locs hP hD hS => ?_)
  refine lv_i2l (v := r.toInt64) hx hb dL_count_7 rfl ?_
  refine out_st hx hb hKK hP hD hS dL_count_8 (fun H locs hP hD hS => ?_)
  refine lv_goto (tgt := 15) hx hb dL_count_9 (by decide) ?_
  refine lv_iconst (v := 0) hx hb dL_count_15 (by decide) ?_
  exact end_U hx hb hrt hlocks rfl hP hS (by omega) (by omega) dL_count_16
set_option maxHeartbeats 4000000 in
set_option maxRecDepth 100000 in
theorem u_count_b1 (l : Launch) (D : va_G) (cyI cyO cyL : ClassId) (aX ao : Nat) (p : Int32) (Xa : va_W) (o : Nat → Int64) (fs : List Value) (hrv : Xa[0]? = some (aX, .inr (5, fs))) (hlf : l.stackTraces = false) (hc : GB l yX5_count wsX5_count D cyI cyO cyL [.ref aX, .int p] Xa IOOB) : cU l yL_count wsL_count RU D cyI cyO cyL [.ref aX, .int p, .ref ao] (Xa ++ cO cyL ao o) (Xa ++ cO cyL ao o) 1 := by
  obtain ⟨rm, hr1, hr2, hr3, hr4, hc⟩ := hc
  intro sz
  refine va_MetW (cc := cL_count) (maxL := 4) (ret := (some .int)) (hh := [(0, 9, 12, 13)]) (by decide) rfl ?_
  intro p9 e s m args below meth c s₁ B9 hml hv
  obtain ⟨rfl, ⟨hsz, hP, hKK, hXE, hD0⟩, hNC⟩ := hv
  have hx := B9.exec
  have hb := B9.bytes
  have hrt := B9.returns
  have hts := atoms_spec (ws := wsL_count) B9.pre
  have hown : s.vm.findClass RL = some m.cls := findClass_of_methodNamed B9.named
  have hlocks := B9.notSynchronized
  have htab := vx_table (x := yL_count) B9 (hts _ List.mem_cons_self)
  subst hsz
  have hD := hD0.self (sz := s.heap.size)
  generalize hAe : va_A (Xa ++ cO cyL ao o) s.heap.size = A at hD hXE ⊢
  have hA : ∀ q : Nat, s.heap.size ≤ q → A q := fun q h => by rw [← hAe]; exact Or.inr h
  have hS : va_S A s.heap s.heap [] := va_S.rf
  have hl := lv_entry ([.ref aX, .int p, .ref ao]) (n := 4) (Nat.le_of_ble_eq_true rfl)
  rw [lg_entry_eq]
  generalize (lg_sl ([.ref aX, .int p, .ref ao]) ++ List.replicate (4 - (lg_sl ([.ref aX, .int p, .ref ao])).length) Slot.unset).toArray = ls at hl ⊢
  have hl : lv_has ls 4 [(0, .ref aX), (1, .int p), (2, .ref ao)] := hl
  refine lv_aload_n hx hb dL_count_0 rfl (lv_at hl 2 rfl) ?_
  refine lv_iconst (v := 0) hx hb dL_count_1 (by decide) ?_
  refine lv_aload_n hx hb dL_count_2 rfl (lv_at hl 0 rfl) ?_
  refine lv_iload_n hx hb dL_count_3 rfl (lv_at hl 1 rfl) ?_
  have hPc := preP hP
  have hDc := va_D_left hD
  have hFc := free_of hDc hS hA
  have hXc := (hXE.kept hS.2.1).narrow hFc
  refine thrJ (ws1 := Xa ++ cO cyL ao o) (X := IOOB) (runX_V (q := (RX5, TX5, 3)) (n := 1) (As := [.int p]) (rest := [.int 0, .ref ao]) ⟨hx, hb, hml, hown, hts⟩ (hc _) ggL_count_X5_count rfl hr1 hr2 (hts (.methodLink RL 53 yX5_count) (List.mem_of_getElem? (i := 2) rfl)) (hts (.initialized RX5) (List.mem_of_getElem? (i := 5) rfl)) (hts (.instanceMethod yX5_count) (List.mem_of_getElem? (i := 3) rfl)) (hts (.selects RX5 yX5_count yX5_count) (List.mem_of_getElem? (i := 4) rfl)) (by decide +kernel) ⟨(by show rm.frames + 1 ≤ 8; omega), (by show 8 + (2 + 11) + rm.locals ≤ 180; omega)⟩ hKK hXc hPc hDc (ci := 5) (q0 := 0) rfl hrv rfl hl.1 rfl (Nat.le_of_ble_eq_true rfl) dL_count_4 ⟨Nat.le_of_ble_eq_true rfl, Nat.le_of_ble_eq_true rfl⟩) hS hFc (fun H1 hk h => call_pre hP hD rfl hk h) (fun ce9 q9 H locs hP hD hS hce hcv hcl => ?_)
  refine vx_catch (own := RL) (name := IOOB) (E := IOOB) hown [] (⟨0, 9, 12, 13⟩ : ExceptionTableEntry) [] htab (fun z hz => by cases hz) (by decide) (by decide) (hts (.classLink RL 13 "java/lang/IndexOutOfBoundsException") (List.mem_of_getElem? (i := 1) rfl)) (NGW.use hXE.1 _ (List.mem_of_getElem? (i := 0) rfl)) hce hcv hcl ?_
  refine lv_astore_n (lv' := [(3, .ref q9), (0, .ref aX), (1, .int p), (2, .ref ao)]) hx hb dL_count_12 rfl hl (by decide) rfl (fun ls hl => ?_)
  refine lv_iconst (v := 1) hx hb dL_count_13 (by decide) ?_
  exact end_U hx hb hrt hlocks rfl hP hS (by omega) (by omega) dL_count_14
set_option maxHeartbeats 4000000 in
set_option maxRecDepth 100000 in
theorem u_pass_g (l : Launch) (D : va_G) (cyI cyO cyL : ClassId) (aX ao : Nat) (p : Int32) (Xa Xb : va_W) (o : Nat → Int64) (fs : List Value) (hrv : Xa[0]? = some (aX, .inr (5, fs))) (r : Int32) (hf : Xb.map (fun q => q.1) = Xa.map (fun q => q.1)) (hc : GI l yX5_pass wsX5_pass D cyI cyO cyL [.ref aX, .int p] Xa Xb r) : cU l yL_pass wsL_pass RU D cyI cyO cyL [.ref aX, .int p, .ref ao] (Xa ++ cO cyL ao o) (Xb ++ cO cyL ao (vp_updL o 0 r.toInt64)) 0 := by
  obtain ⟨rm, hr1, hr2, hr3, hr4, hc⟩ := hc
  intro sz
  refine va_MetW (cc := cL_pass) (maxL := 4) (ret := (some .int)) (hh := [(0, 9, 12, 15)]) (by decide) rfl ?_
  intro p9 e s m args below meth c s₁ B9 hml hv
  obtain ⟨rfl, ⟨hsz, hP, hKK, hXE, hD0⟩, hNC⟩ := hv
  have hx := B9.exec
  have hb := B9.bytes
  have hrt := B9.returns
  have hts := atoms_spec (ws := wsL_pass) B9.pre
  have hown : s.vm.findClass RL = some m.cls := findClass_of_methodNamed B9.named
  have hlocks := B9.notSynchronized
  subst hsz
  have hD := hD0.self (sz := s.heap.size)
  generalize hAe : va_A (Xa ++ cO cyL ao o) s.heap.size = A at hD hXE ⊢
  have hA : ∀ q : Nat, s.heap.size ≤ q → A q := fun q h => by rw [← hAe]; exact Or.inr h
  have hS : va_S A s.heap s.heap [] := va_S.rf
  have hl := lv_entry ([.ref aX, .int p, .ref ao]) (n := 4) (Nat.le_of_ble_eq_true rfl)
  rw [lg_entry_eq]
  generalize (lg_sl ([.ref aX, .int p, .ref ao]) ++ List.replicate (4 - (lg_sl ([.ref aX, .int p, .ref ao])).length) Slot.unset).toArray = ls at hl ⊢
  have hl : lv_has ls 4 [(0, .ref aX), (1, .int p), (2, .ref ao)] := hl
  refine lv_aload_n hx hb dL_pass_0 rfl (lv_at hl 2 rfl) ?_
  refine lv_iconst (v := 0) hx hb dL_pass_1 (by decide) ?_
  refine lv_aload_n hx hb dL_pass_2 rfl (lv_at hl 0 rfl) ?_
  refine lv_iload_n hx hb dL_pass_3 rfl (lv_at hl 1 rfl) ?_
  have hPc := preP hP
  have hDc := va_D_left hD
  have hFc := free_of hDc hS hA
  refine ret_iJ (ws1 := Xb ++ cO cyL ao o) (r := r) (run_V (q := (RX5, TX5, 3)) (n := 1) (As := [.int p]) (rest := [.int 0, .ref ao]) ⟨hx, hb, hml, hown, hts⟩ (hc _) ggL_pass_X5_pass rfl hr1 hr2 (hts (.methodLink RL 56 yX5_pass) (List.mem_of_getElem? (i := 2) rfl)) (hts (.initialized RX5) (List.mem_of_getElem? (i := 5) rfl)) (hts (.instanceMethod yX5_pass) (List.mem_of_getElem? (i := 3) rfl)) (hts (.selects RX5 yX5_pass yX5_pass) (List.mem_of_getElem? (i := 4) rfl)) (by decide +kernel) ⟨(by show rm.frames + 1 ≤ 8; omega), (by show 8 + (3 + 11) + rm.locals ≤ 180; omega)⟩ hKK hPc hDc (ci := 5) (q0 := 0) rfl hrv rfl hl.1 rfl (Nat.le_of_ble_eq_true rfl) dL_pass_4 ⟨Nat.zero_le _, Nat.zero_le _⟩) hS hFc (fun H1 hk h => call_pre hP hD hf hk h) (fun H locs hP hD hS => ?_)
  refine lv_i2l (v := r.toInt64) hx hb dL_pass_7 rfl ?_
  refine out_st hx hb hKK hP hD hS dL_pass_8 (fun H locs hP hD hS => ?_)
  refine lv_goto (tgt := 15) hx hb dL_pass_9 (by decide) ?_
  refine lv_iconst (v := 0) hx hb dL_pass_15 (by decide) ?_
  exact end_U hx hb hrt hlocks rfl hP hS (by omega) (by omega) dL_pass_16
set_option maxHeartbeats 4000000 in
set_option maxRecDepth 100000 in
theorem u_pass_b1 (l : Launch) (D : va_G) (cyI cyO cyL : ClassId) (aX ao : Nat) (p : Int32) (Xa : va_W) (o : Nat → Int64) (fs : List Value) (hrv : Xa[0]? = some (aX, .inr (5, fs))) (hlf : l.stackTraces = false) (hc : GB l yX5_pass wsX5_pass D cyI cyO cyL [.ref aX, .int p] Xa IARG) : cU l yL_pass wsL_pass RU D cyI cyO cyL [.ref aX, .int p, .ref ao] (Xa ++ cO cyL ao o) (Xa ++ cO cyL ao o) 1 := by
  obtain ⟨rm, hr1, hr2, hr3, hr4, hc⟩ := hc
  intro sz
  refine va_MetW (cc := cL_pass) (maxL := 4) (ret := (some .int)) (hh := [(0, 9, 12, 15)]) (by decide) rfl ?_
  intro p9 e s m args below meth c s₁ B9 hml hv
  obtain ⟨rfl, ⟨hsz, hP, hKK, hXE, hD0⟩, hNC⟩ := hv
  have hx := B9.exec
  have hb := B9.bytes
  have hrt := B9.returns
  have hts := atoms_spec (ws := wsL_pass) B9.pre
  have hown : s.vm.findClass RL = some m.cls := findClass_of_methodNamed B9.named
  have hlocks := B9.notSynchronized
  have htab := vx_table (x := yL_pass) B9 (hts _ List.mem_cons_self)
  subst hsz
  have hD := hD0.self (sz := s.heap.size)
  generalize hAe : va_A (Xa ++ cO cyL ao o) s.heap.size = A at hD hXE ⊢
  have hA : ∀ q : Nat, s.heap.size ≤ q → A q := fun q h => by rw [← hAe]; exact Or.inr h
  have hS : va_S A s.heap s.heap [] := va_S.rf
  have hl := lv_entry ([.ref aX, .int p, .ref ao]) (n := 4) (Nat.le_of_ble_eq_true rfl)
  rw [lg_entry_eq]
  generalize (lg_sl ([.ref aX, .int p, .ref ao]) ++ List.replicate (4 - (lg_sl ([.ref aX, .int p, .ref ao])).length) Slot.unset).toArray = ls at hl ⊢
  have hl : lv_has ls 4 [(0, .ref aX), (1, .int p), (2, .ref ao)] := hl
  refine lv_aload_n hx hb dL_pass_0 rfl (lv_at hl 2 rfl) ?_
  refine lv_iconst (v := 0) hx hb dL_pass_1 (by decide) ?_
  refine lv_aload_n hx hb dL_pass_2 rfl (lv_at hl 0 rfl) ?_
  refine lv_iload_n hx hb dL_pass_3 rfl (lv_at hl 1 rfl) ?_
  have hPc := preP hP
  have hDc := va_D_left hD
  have hFc := free_of hDc hS hA
  have hXc := (hXE.kept hS.2.1).narrow hFc
  refine thrJ (ws1 := Xa ++ cO cyL ao o) (X := IARG) (runX_V (q := (RX5, TX5, 3)) (n := 1) (As := [.int p]) (rest := [.int 0, .ref ao]) ⟨hx, hb, hml, hown, hts⟩ (hc _) ggL_pass_X5_pass rfl hr1 hr2 (hts (.methodLink RL 56 yX5_pass) (List.mem_of_getElem? (i := 2) rfl)) (hts (.initialized RX5) (List.mem_of_getElem? (i := 5) rfl)) (hts (.instanceMethod yX5_pass) (List.mem_of_getElem? (i := 3) rfl)) (hts (.selects RX5 yX5_pass yX5_pass) (List.mem_of_getElem? (i := 4) rfl)) (by decide +kernel) ⟨(by show rm.frames + 1 ≤ 8; omega), (by show 8 + (3 + 11) + rm.locals ≤ 180; omega)⟩ hKK hXc hPc hDc (ci := 5) (q0 := 0) rfl hrv rfl hl.1 rfl (Nat.le_of_ble_eq_true rfl) dL_pass_4 ⟨Nat.le_of_ble_eq_true rfl, Nat.le_of_ble_eq_true rfl⟩) hS hFc (fun H1 hk h => call_pre hP hD rfl hk h) (fun ce9 q9 H locs hP hD hS hce hcv hcl => ?_)
  refine vx_catch (own := RL) (name := IARG) (E := IARG) hown [] (⟨0, 9, 12, 15⟩ : ExceptionTableEntry) [] htab (fun z hz => by cases hz) (by decide) (by decide) (hts (.classLink RL 15 "java/lang/IllegalArgumentException") (List.mem_of_getElem? (i := 1) rfl)) (NGW.use hXE.1 _ (List.mem_of_getElem? (i := 1) rfl)) hce hcv hcl ?_
  refine lv_astore_n (lv' := [(3, .ref q9), (0, .ref aX), (1, .int p), (2, .ref ao)]) hx hb dL_pass_12 rfl hl (by decide) rfl (fun ls hl => ?_)
  refine lv_iconst (v := 1) hx hb dL_pass_13 (by decide) ?_
  exact end_U hx hb hrt hlocks rfl hP hS (by omega) (by omega) dL_pass_14
set_option maxHeartbeats 4000000 in
set_option maxRecDepth 100000 in
theorem u_falls_g (l : Launch) (D : va_G) (cyI cyO cyL : ClassId) (aX ao : Nat) (p : Int32) (Xa Xb : va_W) (o : Nat → Int64) (fs : List Value) (hrv : Xa[0]? = some (aX, .inr (5, fs))) (r : Int32) (hf : Xb.map (fun q => q.1) = Xa.map (fun q => q.1)) (hc : GI l yX5_falls wsX5_falls D cyI cyO cyL [.ref aX, .int p] Xa Xb r) : cU l yL_falls wsL_falls RU D cyI cyO cyL [.ref aX, .int p, .ref ao] (Xa ++ cO cyL ao o) (Xb ++ cO cyL ao (vp_updL o 0 r.toInt64)) 0 := by
  obtain ⟨rm, hr1, hr2, hr3, hr4, hc⟩ := hc
  intro sz
  refine va_MetW (cc := cL_falls) (maxL := 4) (ret := (some .int)) (hh := [(0, 9, 12, 13)]) (by decide) rfl ?_
  intro p9 e s m args below meth c s₁ B9 hml hv
  obtain ⟨rfl, ⟨hsz, hP, hKK, hXE, hD0⟩, hNC⟩ := hv
  have hx := B9.exec
  have hb := B9.bytes
  have hrt := B9.returns
  have hts := atoms_spec (ws := wsL_falls) B9.pre
  have hown : s.vm.findClass RL = some m.cls := findClass_of_methodNamed B9.named
  have hlocks := B9.notSynchronized
  subst hsz
  have hD := hD0.self (sz := s.heap.size)
  generalize hAe : va_A (Xa ++ cO cyL ao o) s.heap.size = A at hD hXE ⊢
  have hA : ∀ q : Nat, s.heap.size ≤ q → A q := fun q h => by rw [← hAe]; exact Or.inr h
  have hS : va_S A s.heap s.heap [] := va_S.rf
  have hl := lv_entry ([.ref aX, .int p, .ref ao]) (n := 4) (Nat.le_of_ble_eq_true rfl)
  rw [lg_entry_eq]
  generalize (lg_sl ([.ref aX, .int p, .ref ao]) ++ List.replicate (4 - (lg_sl ([.ref aX, .int p, .ref ao])).length) Slot.unset).toArray = ls at hl ⊢
  have hl : lv_has ls 4 [(0, .ref aX), (1, .int p), (2, .ref ao)] := hl
  refine lv_aload_n hx hb dL_falls_0 rfl (lv_at hl 2 rfl) ?_
  refine lv_iconst (v := 0) hx hb dL_falls_1 (by decide) ?_
  refine lv_aload_n hx hb dL_falls_2 rfl (lv_at hl 0 rfl) ?_
  refine lv_iload_n hx hb dL_falls_3 rfl (lv_at hl 1 rfl) ?_
  have hPc := preP hP
  have hDc := va_D_left hD
  have hFc := free_of hDc hS hA
  refine ret_iJ (ws1 := Xb ++ cO cyL ao o) (r := r) (run_V (q := (RX5, TX5, 3)) (n := 1) (As := [.int p]) (rest := [.int 0, .ref ao]) ⟨hx, hb, hml, hown, hts⟩ (hc _) ggL_falls_X5_falls rfl hr1 hr2 (hts (.methodLink RL 59 yX5_falls) (List.mem_of_getElem? (i := 2) rfl)) (hts (.initialized RX5) (List.mem_of_getElem? (i := 5) rfl)) (hts (.instanceMethod yX5_falls) (List.mem_of_getElem? (i := 3) rfl)) (hts (.selects RX5 yX5_falls yX5_falls) (List.mem_of_getElem? (i := 4) rfl)) (by decide +kernel) ⟨(by show rm.frames + 1 ≤ 8; omega), (by show 8 + (3 + 11) + rm.locals ≤ 180; omega)⟩ hKK hPc hDc (ci := 5) (q0 := 0) rfl hrv rfl hl.1 rfl (Nat.le_of_ble_eq_true rfl) dL_falls_4 ⟨Nat.zero_le _, Nat.zero_le _⟩) hS hFc (fun H1 hk h => call_pre hP hD hf hk h) (fun H locs hP hD hS => ?_)
  refine lv_i2l (v := r.toInt64) hx hb dL_falls_7 rfl ?_
  refine out_st hx hb hKK hP hD hS dL_falls_8 (fun H locs hP hD hS => ?_)
  refine lv_goto (tgt := 15) hx hb dL_falls_9 (by decide) ?_
  refine lv_iconst (v := 0) hx hb dL_falls_15 (by decide) ?_
  exact end_U hx hb hrt hlocks rfl hP hS (by omega) (by omega) dL_falls_16
set_option maxHeartbeats 4000000 in
set_option maxRecDepth 100000 in
theorem u_falls_b1 (l : Launch) (D : va_G) (cyI cyO cyL : ClassId) (aX ao : Nat) (p : Int32) (Xa : va_W) (o : Nat → Int64) (fs : List Value) (hrv : Xa[0]? = some (aX, .inr (5, fs))) (hlf : l.stackTraces = false) (hc : GB l yX5_falls wsX5_falls D cyI cyO cyL [.ref aX, .int p] Xa IOOB) : cU l yL_falls wsL_falls RU D cyI cyO cyL [.ref aX, .int p, .ref ao] (Xa ++ cO cyL ao o) (Xa ++ cO cyL ao o) 1 := by
  obtain ⟨rm, hr1, hr2, hr3, hr4, hc⟩ := hc
  intro sz
  refine va_MetW (cc := cL_falls) (maxL := 4) (ret := (some .int)) (hh := [(0, 9, 12, 13)]) (by decide) rfl ?_
  intro p9 e s m args below meth c s₁ B9 hml hv
  obtain ⟨rfl, ⟨hsz, hP, hKK, hXE, hD0⟩, hNC⟩ := hv
  have hx := B9.exec
  have hb := B9.bytes
  have hrt := B9.returns
  have hts := atoms_spec (ws := wsL_falls) B9.pre
  have hown : s.vm.findClass RL = some m.cls := findClass_of_methodNamed B9.named
  have hlocks := B9.notSynchronized
  have htab := vx_table (x := yL_falls) B9 (hts _ List.mem_cons_self)
  subst hsz
  have hD := hD0.self (sz := s.heap.size)
  generalize hAe : va_A (Xa ++ cO cyL ao o) s.heap.size = A at hD hXE ⊢
  have hA : ∀ q : Nat, s.heap.size ≤ q → A q := fun q h => by rw [← hAe]; exact Or.inr h
  have hS : va_S A s.heap s.heap [] := va_S.rf
  have hl := lv_entry ([.ref aX, .int p, .ref ao]) (n := 4) (Nat.le_of_ble_eq_true rfl)
  rw [lg_entry_eq]
  generalize (lg_sl ([.ref aX, .int p, .ref ao]) ++ List.replicate (4 - (lg_sl ([.ref aX, .int p, .ref ao])).length) Slot.unset).toArray = ls at hl ⊢
  have hl : lv_has ls 4 [(0, .ref aX), (1, .int p), (2, .ref ao)] := hl
  refine lv_aload_n hx hb dL_falls_0 rfl (lv_at hl 2 rfl) ?_
  refine lv_iconst (v := 0) hx hb dL_falls_1 (by decide) ?_
  refine lv_aload_n hx hb dL_falls_2 rfl (lv_at hl 0 rfl) ?_
  refine lv_iload_n hx hb dL_falls_3 rfl (lv_at hl 1 rfl) ?_
  have hPc := preP hP
  have hDc := va_D_left hD
  have hFc := free_of hDc hS hA
  have hXc := (hXE.kept hS.2.1).narrow hFc
  refine thrJ (ws1 := Xa ++ cO cyL ao o) (X := IOOB) (runX_V (q := (RX5, TX5, 3)) (n := 1) (As := [.int p]) (rest := [.int 0, .ref ao]) ⟨hx, hb, hml, hown, hts⟩ (hc _) ggL_falls_X5_falls rfl hr1 hr2 (hts (.methodLink RL 59 yX5_falls) (List.mem_of_getElem? (i := 2) rfl)) (hts (.initialized RX5) (List.mem_of_getElem? (i := 5) rfl)) (hts (.instanceMethod yX5_falls) (List.mem_of_getElem? (i := 3) rfl)) (hts (.selects RX5 yX5_falls yX5_falls) (List.mem_of_getElem? (i := 4) rfl)) (by decide +kernel) ⟨(by show rm.frames + 1 ≤ 8; omega), (by show 8 + (3 + 11) + rm.locals ≤ 180; omega)⟩ hKK hXc hPc hDc (ci := 5) (q0 := 0) rfl hrv rfl hl.1 rfl (Nat.le_of_ble_eq_true rfl) dL_falls_4 ⟨Nat.le_of_ble_eq_true rfl, Nat.le_of_ble_eq_true rfl⟩) hS hFc (fun H1 hk h => call_pre hP hD rfl hk h) (fun ce9 q9 H locs hP hD hS hce hcv hcl => ?_)
  refine vx_catch (own := RL) (name := IOOB) (E := IOOB) hown [] (⟨0, 9, 12, 13⟩ : ExceptionTableEntry) [] htab (fun z hz => by cases hz) (by decide) (by decide) (hts (.classLink RL 13 "java/lang/IndexOutOfBoundsException") (List.mem_of_getElem? (i := 1) rfl)) (NGW.use hXE.1 _ (List.mem_of_getElem? (i := 0) rfl)) hce hcv hcl ?_
  refine lv_astore_n (lv' := [(3, .ref q9), (0, .ref aX), (1, .int p), (2, .ref ao)]) hx hb dL_falls_12 rfl hl (by decide) rfl (fun ls hl => ?_)
  refine lv_iconst (v := 1) hx hb dL_falls_13 (by decide) ?_
  exact end_U hx hb hrt hlocks rfl hP hS (by omega) (by omega) dL_falls_14
set_option maxHeartbeats 4000000 in
set_option maxRecDepth 100000 in
theorem u_foresee_g (l : Launch) (D : va_G) (cyI cyO cyL : ClassId) (aX ao : Nat) (p q : Int32) (Xa Xb : va_W) (o : Nat → Int64) (fs : List Value) (hrv : Xa[0]? = some (aX, .inr (5, fs))) (r : Int32) (hf : Xb.map (fun q => q.1) = Xa.map (fun q => q.1)) (hc : GI l yX5_foresee wsX5_foresee D cyI cyO cyL [.ref aX, .int p, .int q] Xa Xb r) : cU l yL_foresee wsL_foresee RU D cyI cyO cyL [.ref aX, .int p, .int q, .ref ao] (Xa ++ cO cyL ao o) (Xb ++ cO cyL ao (vp_updL o 0 r.toInt64)) 0 := by
  obtain ⟨rm, hr1, hr2, hr3, hr4, hc⟩ := hc
  intro sz
  refine va_MetW (cc := cL_foresee) (maxL := 5) (ret := (some .int)) (hh := [(0, 10, 13, 15), (0, 10, 17, 13)]) (by decide) rfl ?_
  intro p9 e s m args below meth c s₁ B9 hml hv
  obtain ⟨rfl, ⟨hsz, hP, hKK, hXE, hD0⟩, hNC⟩ := hv
  have hx := B9.exec
  have hb := B9.bytes
  have hrt := B9.returns
  have hts := atoms_spec (ws := wsL_foresee) B9.pre
  have hown : s.vm.findClass RL = some m.cls := findClass_of_methodNamed B9.named
  have hlocks := B9.notSynchronized
  subst hsz
  have hD := hD0.self (sz := s.heap.size)
  generalize hAe : va_A (Xa ++ cO cyL ao o) s.heap.size = A at hD hXE ⊢
  have hA : ∀ q : Nat, s.heap.size ≤ q → A q := fun q h => by rw [← hAe]; exact Or.inr h
  have hS : va_S A s.heap s.heap [] := va_S.rf
  have hl := lv_entry ([.ref aX, .int p, .int q, .ref ao]) (n := 5) (Nat.le_of_ble_eq_true rfl)
  rw [lg_entry_eq]
  generalize (lg_sl ([.ref aX, .int p, .int q, .ref ao]) ++ List.replicate (5 - (lg_sl ([.ref aX, .int p, .int q, .ref ao])).length) Slot.unset).toArray = ls at hl ⊢
  have hl : lv_has ls 5 [(0, .ref aX), (1, .int p), (2, .int q), (3, .ref ao)] := hl
  refine lv_aload_n hx hb dL_foresee_0 rfl (lv_at hl 3 rfl) ?_
  refine lv_iconst (v := 0) hx hb dL_foresee_1 (by decide) ?_
  refine lv_aload_n hx hb dL_foresee_2 rfl (lv_at hl 0 rfl) ?_
  refine lv_iload_n hx hb dL_foresee_3 rfl (lv_at hl 1 rfl) ?_
  refine lv_iload_n hx hb dL_foresee_4 rfl (lv_at hl 2 rfl) ?_
  have hPc := preP hP
  have hDc := va_D_left hD
  have hFc := free_of hDc hS hA
  refine ret_iJ (ws1 := Xb ++ cO cyL ao o) (r := r) (run_V (q := (RX5, TX5, 3)) (n := 2) (As := [.int p, .int q]) (rest := [.int 0, .ref ao]) ⟨hx, hb, hml, hown, hts⟩ (hc _) ggL_foresee_X5_foresee rfl hr1 hr2 (hts (.methodLink RL 62 yX5_foresee) (List.mem_of_getElem? (i := 3) rfl)) (hts (.initialized RX5) (List.mem_of_getElem? (i := 6) rfl)) (hts (.instanceMethod yX5_foresee) (List.mem_of_getElem? (i := 4) rfl)) (hts (.selects RX5 yX5_foresee yX5_foresee) (List.mem_of_getElem? (i := 5) rfl)) (by decide +kernel) ⟨(by show rm.frames + 1 ≤ 8; omega), (by show 8 + (3 + 11) + rm.locals ≤ 180; omega)⟩ hKK hPc hDc (ci := 5) (q0 := 0) rfl hrv rfl hl.1 rfl (Nat.le_of_ble_eq_true rfl) dL_foresee_5 ⟨Nat.zero_le _, Nat.zero_le _⟩) hS hFc (fun H1 hk h => call_pre hP hD hf hk h) (fun H locs hP hD hS => ?_)
  refine lv_i2l (v := r.toInt64) hx hb dL_foresee_8 rfl ?_
  refine out_st hx hb hKK hP hD hS dL_foresee_9 (fun H locs hP hD hS => ?_)
  refine lv_goto (tgt := 21) hx hb dL_foresee_10 (by decide) ?_
  refine lv_iconst (v := 0) hx hb dL_foresee_21 (by decide) ?_
  exact end_U hx hb hrt hlocks rfl hP hS (by omega) (by omega) dL_foresee_22
set_option maxHeartbeats 4000000 in
set_option maxRecDepth 100000 in
theorem u_foresee_b1 (l : Launch) (D : va_G) (cyI cyO cyL : ClassId) (aX ao : Nat) (p q : Int32) (Xa : va_W) (o : Nat → Int64) (fs : List Value) (hrv : Xa[0]? = some (aX, .inr (5, fs))) (hlf : l.stackTraces = false) (hc : GB l yX5_foresee wsX5_foresee D cyI cyO cyL [.ref aX, .int p, .int q] Xa IARG) : cU l yL_foresee wsL_foresee RU D cyI cyO cyL [.ref aX, .int p, .int q, .ref ao] (Xa ++ cO cyL ao o) (Xa ++ cO cyL ao o) 1 := by
  obtain ⟨rm, hr1, hr2, hr3, hr4, hc⟩ := hc
  intro sz
  refine va_MetW (cc := cL_foresee) (maxL := 5) (ret := (some .int)) (hh := [(0, 10, 13, 15), (0, 10, 17, 13)]) (by decide) rfl ?_
  intro p9 e s m args below meth c s₁ B9 hml hv
  obtain ⟨rfl, ⟨hsz, hP, hKK, hXE, hD0⟩, hNC⟩ := hv
  have hx := B9.exec
  have hb := B9.bytes
  have hrt := B9.returns
  have hts := atoms_spec (ws := wsL_foresee) B9.pre
  have hown : s.vm.findClass RL = some m.cls := findClass_of_methodNamed B9.named
  have hlocks := B9.notSynchronized
  have htab := vx_table (x := yL_foresee) B9 (hts _ List.mem_cons_self)
  subst hsz
  have hD := hD0.self (sz := s.heap.size)
  generalize hAe : va_A (Xa ++ cO cyL ao o) s.heap.size = A at hD hXE ⊢
  have hA : ∀ q : Nat, s.heap.size ≤ q → A q := fun q h => by rw [← hAe]; exact Or.inr h
  have hS : va_S A s.heap s.heap [] := va_S.rf
  have hl := lv_entry ([.ref aX, .int p, .int q, .ref ao]) (n := 5) (Nat.le_of_ble_eq_true rfl)
  rw [lg_entry_eq]
  generalize (lg_sl ([.ref aX, .int p, .int q, .ref ao]) ++ List.replicate (5 - (lg_sl ([.ref aX, .int p, .int q, .ref ao])).length) Slot.unset).toArray = ls at hl ⊢
  have hl : lv_has ls 5 [(0, .ref aX), (1, .int p), (2, .int q), (3, .ref ao)] := hl
  refine lv_aload_n hx hb dL_foresee_0 rfl (lv_at hl 3 rfl) ?_
  refine lv_iconst (v := 0) hx hb dL_foresee_1 (by decide) ?_
  refine lv_aload_n hx hb dL_foresee_2 rfl (lv_at hl 0 rfl) ?_
  refine lv_iload_n hx hb dL_foresee_3 rfl (lv_at hl 1 rfl) ?_
  refine lv_iload_n hx hb dL_foresee_4 rfl (lv_at hl 2 rfl) ?_
  have hPc := preP hP
  have hDc := va_D_left hD
  have hFc := free_of hDc hS hA
  have hXc := (hXE.kept hS.2.1).narrow hFc
  refine thrJ (ws1 := Xa ++ cO cyL ao o) (X := IARG) (runX_V (q := (RX5, TX5, 3)) (n := 2) (As := [.int p, .int q]) (rest := [.int 0, .ref ao]) ⟨hx, hb, hml, hown, hts⟩ (hc _) ggL_foresee_X5_foresee rfl hr1 hr2 (hts (.methodLink RL 62 yX5_foresee) (List.mem_of_getElem? (i := 3) rfl)) (hts (.initialized RX5) (List.mem_of_getElem? (i := 6) rfl)) (hts (.instanceMethod yX5_foresee) (List.mem_of_getElem? (i := 4) rfl)) (hts (.selects RX5 yX5_foresee yX5_foresee) (List.mem_of_getElem? (i := 5) rfl)) (by decide +kernel) ⟨(by show rm.frames + 1 ≤ 8; omega), (by show 8 + (3 + 11) + rm.locals ≤ 180; omega)⟩ hKK hXc hPc hDc (ci := 5) (q0 := 0) rfl hrv rfl hl.1 rfl (Nat.le_of_ble_eq_true rfl) dL_foresee_5 ⟨Nat.le_of_ble_eq_true rfl, Nat.le_of_ble_eq_true rfl⟩) hS hFc (fun H1 hk h => call_pre hP hD rfl hk h) (fun ce9 q9 H locs hP hD hS hce hcv hcl => ?_)
  refine vx_catch (own := RL) (name := IARG) (E := IARG) hown [] (⟨0, 10, 13, 15⟩ : ExceptionTableEntry) [(⟨0, 10, 17, 13⟩ : ExceptionTableEntry)] htab (fun z hz => by cases hz) (by decide) (by decide) (hts (.classLink RL 15 "java/lang/IllegalArgumentException") (List.mem_of_getElem? (i := 1) rfl)) (NGW.use hXE.1 _ (List.mem_of_getElem? (i := 1) rfl)) hce hcv hcl ?_
  refine lv_astore (lv' := [(4, .ref q9), (0, .ref aX), (1, .int p), (2, .int q), (3, .ref ao)]) hx hb dL_foresee_13 hl (by decide) rfl (fun ls hl => ?_)
  refine lv_iconst (v := 1) hx hb dL_foresee_15 (by decide) ?_
  exact end_U hx hb hrt hlocks rfl hP hS (by omega) (by omega) dL_foresee_16
set_option maxHeartbeats 4000000 in
set_option maxRecDepth 100000 in
theorem u_foresee_b2 (l : Launch) (D : va_G) (cyI cyO cyL : ClassId) (aX ao : Nat) (p q : Int32) (Xa : va_W) (o : Nat → Int64) (fs : List Value) (hrv : Xa[0]? = some (aX, .inr (5, fs))) (hlf : l.stackTraces = false) (hc : GB l yX5_foresee wsX5_foresee D cyI cyO cyL [.ref aX, .int p, .int q] Xa IOOB) : cU l yL_foresee wsL_foresee RU D cyI cyO cyL [.ref aX, .int p, .int q, .ref ao] (Xa ++ cO cyL ao o) (Xa ++ cO cyL ao o) 2 := by
  obtain ⟨rm, hr1, hr2, hr3, hr4, hc⟩ := hc
  intro sz
  refine va_MetW (cc := cL_foresee) (maxL := 5) (ret := (some .int)) (hh := [(0, 10, 13, 15), (0, 10, 17, 13)]) (by decide) rfl ?_
  intro p9 e s m args below meth c s₁ B9 hml hv
  obtain ⟨rfl, ⟨hsz, hP, hKK, hXE, hD0⟩, hNC⟩ := hv
  have hx := B9.exec
  have hb := B9.bytes
  have hrt := B9.returns
  have hts := atoms_spec (ws := wsL_foresee) B9.pre
  have hown : s.vm.findClass RL = some m.cls := findClass_of_methodNamed B9.named
  have hlocks := B9.notSynchronized
  have htab := vx_table (x := yL_foresee) B9 (hts _ List.mem_cons_self)
  subst hsz
  have hD := hD0.self (sz := s.heap.size)
  generalize hAe : va_A (Xa ++ cO cyL ao o) s.heap.size = A at hD hXE ⊢
  have hA : ∀ q : Nat, s.heap.size ≤ q → A q := fun q h => by rw [← hAe]; exact Or.inr h
  have hS : va_S A s.heap s.heap [] := va_S.rf
  have hl := lv_entry ([.ref aX, .int p, .int q, .ref ao]) (n := 5) (Nat.le_of_ble_eq_true rfl)
  rw [lg_entry_eq]
  generalize (lg_sl ([.ref aX, .int p, .int q, .ref ao]) ++ List.replicate (5 - (lg_sl ([.ref aX, .int p, .int q, .ref ao])).length) Slot.unset).toArray = ls at hl ⊢
  have hl : lv_has ls 5 [(0, .ref aX), (1, .int p), (2, .int q), (3, .ref ao)] := hl
  refine lv_aload_n hx hb dL_foresee_0 rfl (lv_at hl 3 rfl) ?_
  refine lv_iconst (v := 0) hx hb dL_foresee_1 (by decide) ?_
  refine lv_aload_n hx hb dL_foresee_2 rfl (lv_at hl 0 rfl) ?_
  refine lv_iload_n hx hb dL_foresee_3 rfl (lv_at hl 1 rfl) ?_
  refine lv_iload_n hx hb dL_foresee_4 rfl (lv_at hl 2 rfl) ?_
  have hPc := preP hP
  have hDc := va_D_left hD
  have hFc := free_of hDc hS hA
  have hXc := (hXE.kept hS.2.1).narrow hFc
  refine thrJ (ws1 := Xa ++ cO cyL ao o) (X := IOOB) (runX_V (q := (RX5, TX5, 3)) (n := 2) (As := [.int p, .int q]) (rest := [.int 0, .ref ao]) ⟨hx, hb, hml, hown, hts⟩ (hc _) ggL_foresee_X5_foresee rfl hr1 hr2 (hts (.methodLink RL 62 yX5_foresee) (List.mem_of_getElem? (i := 3) rfl)) (hts (.initialized RX5) (List.mem_of_getElem? (i := 6) rfl)) (hts (.instanceMethod yX5_foresee) (List.mem_of_getElem? (i := 4) rfl)) (hts (.selects RX5 yX5_foresee yX5_foresee) (List.mem_of_getElem? (i := 5) rfl)) (by decide +kernel) ⟨(by show rm.frames + 1 ≤ 8; omega), (by show 8 + (3 + 11) + rm.locals ≤ 180; omega)⟩ hKK hXc hPc hDc (ci := 5) (q0 := 0) rfl hrv rfl hl.1 rfl (Nat.le_of_ble_eq_true rfl) dL_foresee_5 ⟨Nat.le_of_ble_eq_true rfl, Nat.le_of_ble_eq_true rfl⟩) hS hFc (fun H1 hk h => call_pre hP hD rfl hk h) (fun ce9 q9 H locs hP hD hS hce hcv hcl => ?_)
  refine vx_catch (own := RL) (name := IOOB) (E := IOOB) hown [(⟨0, 10, 13, 15⟩ : ExceptionTableEntry)] (⟨0, 10, 17, 13⟩ : ExceptionTableEntry) [] htab (fun z hz => by cases List.mem_singleton.mp hz; exact Or.inr ⟨(by decide), IARG, (hts (.classLink RL 15 "java/lang/IllegalArgumentException") (List.mem_of_getElem? (i := 1) rfl)), hNC.2.2⟩) (by decide) (by decide) (hts (.classLink RL 13 "java/lang/IndexOutOfBoundsException") (List.mem_of_getElem? (i := 2) rfl)) (NGW.use hXE.1 _ (List.mem_of_getElem? (i := 0) rfl)) hce hcv hcl ?_
  refine lv_astore (lv' := [(4, .ref q9), (0, .ref aX), (1, .int p), (2, .int q), (3, .ref ao)]) hx hb dL_foresee_17 hl (by decide) rfl (fun ls hl => ?_)
  refine lv_iconst (v := 2) hx hb dL_foresee_19 (by decide) ?_
  exact end_U hx hb hrt hlocks rfl hP hS (by omega) (by omega) dL_foresee_20
set_option maxHeartbeats 4000000 in
set_option maxRecDepth 100000 in
theorem u_advise_g (l : Launch) (D : va_G) (cyI cyO cyL : ClassId) (aX ao : Nat) (p : Int32) (Xa Xb : va_W) (o : Nat → Int64) (fs : List Value) (hrv : Xa[0]? = some (aX, .inr (5, fs))) (r : Int32) (hf : Xb.map (fun q => q.1) = Xa.map (fun q => q.1)) (hc : GI l yX5_advise wsX5_advise D cyI cyO cyL [.ref aX, .int p] Xa Xb r) : cU l yL_advise wsL_advise RU D cyI cyO cyL [.ref aX, .int p, .ref ao] (Xa ++ cO cyL ao o) (Xb ++ cO cyL ao (vp_updL o 0 r.toInt64)) 0 := by
  obtain ⟨rm, hr1, hr2, hr3, hr4, hc⟩ := hc
  intro sz
  refine va_MetW (cc := cL_advise) (maxL := 4) (ret := (some .int)) (hh := [(0, 9, 12, 15)]) (by decide) rfl ?_
  intro p9 e s m args below meth c s₁ B9 hml hv
  obtain ⟨rfl, ⟨hsz, hP, hKK, hXE, hD0⟩, hNC⟩ := hv
  have hx := B9.exec
  have hb := B9.bytes
  have hrt := B9.returns
  have hts := atoms_spec (ws := wsL_advise) B9.pre
  have hown : s.vm.findClass RL = some m.cls := findClass_of_methodNamed B9.named
  have hlocks := B9.notSynchronized
  subst hsz
  have hD := hD0.self (sz := s.heap.size)
  generalize hAe : va_A (Xa ++ cO cyL ao o) s.heap.size = A at hD hXE ⊢
  have hA : ∀ q : Nat, s.heap.size ≤ q → A q := fun q h => by rw [← hAe]; exact Or.inr h
  have hS : va_S A s.heap s.heap [] := va_S.rf
  have hl := lv_entry ([.ref aX, .int p, .ref ao]) (n := 4) (Nat.le_of_ble_eq_true rfl)
  rw [lg_entry_eq]
  generalize (lg_sl ([.ref aX, .int p, .ref ao]) ++ List.replicate (4 - (lg_sl ([.ref aX, .int p, .ref ao])).length) Slot.unset).toArray = ls at hl ⊢
  have hl : lv_has ls 4 [(0, .ref aX), (1, .int p), (2, .ref ao)] := hl
  refine lv_aload_n hx hb dL_advise_0 rfl (lv_at hl 2 rfl) ?_
  refine lv_iconst (v := 0) hx hb dL_advise_1 (by decide) ?_
  refine lv_aload_n hx hb dL_advise_2 rfl (lv_at hl 0 rfl) ?_
  refine lv_iload_n hx hb dL_advise_3 rfl (lv_at hl 1 rfl) ?_
  have hPc := preP hP
  have hDc := va_D_left hD
  have hFc := free_of hDc hS hA
  refine ret_iJ (ws1 := Xb ++ cO cyL ao o) (r := r) (run_V (q := (RX5, TX5, 3)) (n := 1) (As := [.int p]) (rest := [.int 0, .ref ao]) ⟨hx, hb, hml, hown, hts⟩ (hc _) ggL_advise_X5_advise rfl hr1 hr2 (hts (.methodLink RL 65 yX5_advise) (List.mem_of_getElem? (i := 2) rfl)) (hts (.initialized RX5) (List.mem_of_getElem? (i := 5) rfl)) (hts (.instanceMethod yX5_advise) (List.mem_of_getElem? (i := 3) rfl)) (hts (.selects RX5 yX5_advise yX5_advise) (List.mem_of_getElem? (i := 4) rfl)) (by decide +kernel) ⟨(by show rm.frames + 1 ≤ 8; omega), (by show 8 + (6 + 11) + rm.locals ≤ 180; omega)⟩ hKK hPc hDc (ci := 5) (q0 := 0) rfl hrv rfl hl.1 rfl (Nat.le_of_ble_eq_true rfl) dL_advise_4 ⟨Nat.zero_le _, Nat.zero_le _⟩) hS hFc (fun H1 hk h => call_pre hP hD hf hk h) (fun H locs hP hD hS => ?_)
  refine lv_i2l (v := r.toInt64) hx hb dL_advise_7 rfl ?_
  refine out_st hx hb hKK hP hD hS dL_advise_8 (fun H locs hP hD hS => ?_)
  refine lv_goto (tgt := 15) hx hb dL_advise_9 (by decide) ?_
  refine lv_iconst (v := 0) hx hb dL_advise_15 (by decide) ?_
  exact end_U hx hb hrt hlocks rfl hP hS (by omega) (by omega) dL_advise_16
set_option maxHeartbeats 4000000 in
set_option maxRecDepth 100000 in
theorem u_advise_b1 (l : Launch) (D : va_G) (cyI cyO cyL : ClassId) (aX ao : Nat) (p : Int32) (Xa : va_W) (o : Nat → Int64) (fs : List Value) (hrv : Xa[0]? = some (aX, .inr (5, fs))) (hlf : l.stackTraces = false) (hc : GB l yX5_advise wsX5_advise D cyI cyO cyL [.ref aX, .int p] Xa IARG) : cU l yL_advise wsL_advise RU D cyI cyO cyL [.ref aX, .int p, .ref ao] (Xa ++ cO cyL ao o) (Xa ++ cO cyL ao o) 1 := by
  obtain ⟨rm, hr1, hr2, hr3, hr4, hc⟩ := hc
  intro sz
  refine va_MetW (cc := cL_advise) (maxL := 4) (ret := (some .int)) (hh := [(0, 9, 12, 15)]) (by decide) rfl ?_
  intro p9 e s m args below meth c s₁ B9 hml hv
  obtain ⟨rfl, ⟨hsz, hP, hKK, hXE, hD0⟩, hNC⟩ := hv
  have hx := B9.exec
  have hb := B9.bytes
  have hrt := B9.returns
  have hts := atoms_spec (ws := wsL_advise) B9.pre
  have hown : s.vm.findClass RL = some m.cls := findClass_of_methodNamed B9.named
  have hlocks := B9.notSynchronized
  have htab := vx_table (x := yL_advise) B9 (hts _ List.mem_cons_self)
  subst hsz
  have hD := hD0.self (sz := s.heap.size)
  generalize hAe : va_A (Xa ++ cO cyL ao o) s.heap.size = A at hD hXE ⊢
  have hA : ∀ q : Nat, s.heap.size ≤ q → A q := fun q h => by rw [← hAe]; exact Or.inr h
  have hS : va_S A s.heap s.heap [] := va_S.rf
  have hl := lv_entry ([.ref aX, .int p, .ref ao]) (n := 4) (Nat.le_of_ble_eq_true rfl)
  rw [lg_entry_eq]
  generalize (lg_sl ([.ref aX, .int p, .ref ao]) ++ List.replicate (4 - (lg_sl ([.ref aX, .int p, .ref ao])).length) Slot.unset).toArray = ls at hl ⊢
  have hl : lv_has ls 4 [(0, .ref aX), (1, .int p), (2, .ref ao)] := hl
  refine lv_aload_n hx hb dL_advise_0 rfl (lv_at hl 2 rfl) ?_
  refine lv_iconst (v := 0) hx hb dL_advise_1 (by decide) ?_
  refine lv_aload_n hx hb dL_advise_2 rfl (lv_at hl 0 rfl) ?_
  refine lv_iload_n hx hb dL_advise_3 rfl (lv_at hl 1 rfl) ?_
  have hPc := preP hP
  have hDc := va_D_left hD
  have hFc := free_of hDc hS hA
  have hXc := (hXE.kept hS.2.1).narrow hFc
  refine thrJ (ws1 := Xa ++ cO cyL ao o) (X := IARG) (runX_V (q := (RX5, TX5, 3)) (n := 1) (As := [.int p]) (rest := [.int 0, .ref ao]) ⟨hx, hb, hml, hown, hts⟩ (hc _) ggL_advise_X5_advise rfl hr1 hr2 (hts (.methodLink RL 65 yX5_advise) (List.mem_of_getElem? (i := 2) rfl)) (hts (.initialized RX5) (List.mem_of_getElem? (i := 5) rfl)) (hts (.instanceMethod yX5_advise) (List.mem_of_getElem? (i := 3) rfl)) (hts (.selects RX5 yX5_advise yX5_advise) (List.mem_of_getElem? (i := 4) rfl)) (by decide +kernel) ⟨(by show rm.frames + 1 ≤ 8; omega), (by show 8 + (6 + 11) + rm.locals ≤ 180; omega)⟩ hKK hXc hPc hDc (ci := 5) (q0 := 0) rfl hrv rfl hl.1 rfl (Nat.le_of_ble_eq_true rfl) dL_advise_4 ⟨Nat.le_of_ble_eq_true rfl, Nat.le_of_ble_eq_true rfl⟩) hS hFc (fun H1 hk h => call_pre hP hD rfl hk h) (fun ce9 q9 H locs hP hD hS hce hcv hcl => ?_)
  refine vx_catch (own := RL) (name := IARG) (E := IARG) hown [] (⟨0, 9, 12, 15⟩ : ExceptionTableEntry) [] htab (fun z hz => by cases hz) (by decide) (by decide) (hts (.classLink RL 15 "java/lang/IllegalArgumentException") (List.mem_of_getElem? (i := 1) rfl)) (NGW.use hXE.1 _ (List.mem_of_getElem? (i := 1) rfl)) hce hcv hcl ?_
  refine lv_astore_n (lv' := [(3, .ref q9), (0, .ref aX), (1, .int p), (2, .ref ao)]) hx hb dL_advise_12 rfl hl (by decide) rfl (fun ls hl => ?_)
  refine lv_iconst (v := 1) hx hb dL_advise_13 (by decide) ?_
  exact end_U hx hb hrt hlocks rfl hP hS (by omega) (by omega) dL_advise_14
