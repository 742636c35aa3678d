/-! the law's cases -/
set_option maxHeartbeats 4000000 in
set_option maxRecDepth 100000 in
theorem law_4 {p : Program} {l : Launch} {e : Env} {s : State} {m : MethodId} {below : List Frame} {meth : Method} {c : Code} {b L : Nat} {xs : Nat → Int32} (hL : L ≤ 1536) (C0 : lw_At p s m meth c b L xs) (hlf : l.stackTraces = false) {D : va_G} {cyI cyO cyL : ClassId} (hKK : KK D cyI cyO cyL s) (hXE : XE (fun q : Nat => s.heap.size ≤ q) s s.heap) (hNC : NCW s) {a : AX} {am : AM} {ao : Nat} (hAd : Adr a) {j : Nat} (h3 : 3 * j + 3 ≤ L) {g : SG} {o : Nat → Int64} (hI : Inv a j g) {H : Heap} {locs : List Loc} {ls : Array Slot} (hP : va_P D vwCl ((WXs cyI cyO a g ++ cO cyL ao o) ++ WMs cyI am g) H) (hD : va_D (fun q : Nat => s.heap.size ≤ q) ((WXs cyI cyO a g ++ cO cyL ao o) ++ WMs cyI am g)) (hS : va_S (fun q : Nat => s.heap.size ≤ q) s.heap H locs) (hl : lv_has ls 9 [(0, .ref b), (1, .ref a.1), (2, .ref am.1), (3, .ref ao), (4, .int (nI (3 * j)))]) (K : ∀ (g2 : SG) (o2 : Nat → Int64) (H2 : Heap) (locs2 : List Loc) (ls2 : Array Slot), Inv a (j + 1) g2 → va_P D vwCl ((WXs cyI cyO a g2 ++ cO cyL ao o2) ++ WMs cyI am g2) H2 → va_D (fun q : Nat => s.heap.size ≤ q) ((WXs cyI cyO a g2 ++ cO cyL ao o2) ++ WMs cyI am g2) → va_S (fun q : Nat => s.heap.size ≤ q) s.heap H2 locs2 → lv_has ls2 9 [(0, .ref b), (1, .ref a.1), (2, .ref am.1), (3, .ref ao), (4, .int (nI (3 * j)))] → W p l e room_1 s m #[Value.ref b] below meth c H2 locs2 (36 + (j + 1)) (518 + 6 * (j + 1)) (lw_Z below #[Value.ref b] s) (F0 m 1210 ls2 [])) : W p l e room_1 s m #[Value.ref b] below meth c H locs (36 + j) (518 + 6 * j) (lw_Z below #[Value.ref b] s) (F0 m 428 ls []) := by
  obtain ⟨hx, hb, hr, hml, hown, hts, hX, hbl, hlocks, hgv⟩ := C0
  have hj : j < 512 := by omega
  have hA : ∀ q : Nat, s.heap.size ≤ q → (fun q : Nat => s.heap.size ≤ q) q := fun _ h => h
  have hbA : ¬ (fun q : Nat => s.heap.size ≤ q) b := Nat.not_le.mpr hbl
  have htsL : ∀ w ∈ wsL_law, w.before #[Value.ref b] s = true := fun w h => hts w (wsL_law_in w h)
  have hown : s.vm.findClass RL = some m.cls := hown
  have hb : c.code = cL_law := hb
  obtain ⟨k, b9, g', o', hU, ⟨rm, hr1, hr2, hr3, hr4, hM⟩, hth, hout, hI'⟩ := st_fit l D cyI cyO cyL hlf a am ao j hj g o hAd hI (xs (3 * j + 1)) (xs (3 * j + 2))
  refine lv_aload_n hx hb dL_law_428 rfl (lv_at hl 1 rfl) ?_
  refine lv_aload_n hx hb dL_law_429 rfl (lv_at hl 0 rfl) ?_
  refine lv_iload hx hb dL_law_430 (lv_at hl 4 rfl) ?_
  refine lv_iconst (v := 1) hx hb dL_law_432 (by decide) ?_
  refine lv_iadd hx hb dL_law_433 ?_
  refine lv_tope (y := nI (3 * j + 1)) (nI_add (3 * j) 1) ?_
  refine va_sld hx hb hX hbl hbA hS (vp_in_nI (by omega) (by omega)) dL_law_434 ?_
  refine lv_tope (y := xs (3 * j + 1)) (by rw [nI_clamp (by omega)]) ?_
  refine lv_aload_n hx hb dL_law_435 rfl (lv_at hl 0 rfl) ?_
  refine lv_iload hx hb dL_law_436 (lv_at hl 4 rfl) ?_
  refine lv_iconst (v := 2) hx hb dL_law_438 (by decide) ?_
  refine lv_iadd hx hb dL_law_439 ?_
  refine lv_tope (y := nI (3 * j + 2)) (nI_add (3 * j) 2) ?_
  refine va_sld hx hb hX hbl hbA hS (vp_in_nI (by omega) (by omega)) dL_law_440 ?_
  refine lv_tope (y := xs (3 * j + 2)) (by rw [nI_clamp (by omega)]) ?_
  refine lv_aload_n hx hb dL_law_441 rfl (lv_at hl 3 rfl) ?_
  have hPc := preP hP
  have hDc := va_D_left hD
  have hFc := free_of hDc hS hA
  have hXc := (hXE.kept hS.2.1).narrow hFc
  refine ret_iJ (ws1 := (WXs cyI cyO a g' ++ cO cyL ao o') ++ WMs cyI am g) (r := k) (run_SU (n := 4) (As := [.ref a.1, .int (xs (3 * j + 1)), .int (xs (3 * j + 2)), .ref ao]) (rest := []) ⟨hx, hb, hml, hown, htsL⟩ hU gL_law_L_fit rfl (by decide +kernel) ⟨Nat.le_of_ble_eq_true rfl, Nat.le_of_ble_eq_true rfl⟩ hKK hXc hNC hPc hDc rfl hl.1 rfl (Nat.le_of_ble_eq_true rfl) dL_law_442 ⟨(by show 36 + j + 1 ≤ 650194; omega), (by show 518 + 6 * j + 6 ≤ 7145523; omega)⟩) hS hFc (fun H1 hk h => call_pre hP hD rfl hk h) (fun H locs hP hD hS => ?_)
  refine lv_istore (lv' := [(5, .int k), (0, .ref b), (1, .ref a.1), (2, .ref am.1), (3, .ref ao), (4, .int (nI (3 * j)))]) hx hb dL_law_445 hl (by decide) rfl (fun ls hl => ?_)
  refine lv_aload_n hx hb dL_law_447 rfl (lv_at hl 3 rfl) ?_
  refine lv_aload_n hx hb dL_law_448 rfl (lv_at hl 1 rfl) ?_
  refine lv_iload hx hb dL_law_449 (lv_at hl 5 rfl) ?_
  refine lv_iconst (v := 1) hx hb dL_law_451 (by decide) ?_
  refine lv_iadd hx hb dL_law_452 ?_
  refine lv_tope (y := nI (3 * j + 1)) (nI_add (3 * j) 1) ?_
  refine va_sld hx hb hX hbl hbA hS (vp_in_nI (by omega) (by omega)) dL_law_453 ?_
  refine lv_tope (y := xs (3 * j + 1)) (by rw [nI_clamp (by omega)]) ?_
  refine lv_aload_n hx hb dL_law_454 rfl (lv_at hl 1 rfl) ?_
  refine lv_iload hx hb dL_law_455 (lv_at hl 5 rfl) ?_
  refine lv_iconst (v := 2) hx hb dL_law_457 (by decide) ?_
  refine lv_iadd hx hb dL_law_458 ?_
  refine lv_tope (y := nI (3 * j + 2)) (nI_add (3 * j) 2) ?_
  refine va_sld hx hb hX hbl hbA hS (vp_in_nI (by omega) (by omega)) dL_law_459 ?_
  refine lv_tope (y := xs (3 * j + 2)) (by rw [nI_clamp (by omega)]) ?_
  have hPc := sufP hP
  have hDc := sufD hD
  have hFc := free_of hDc hS hA
  refine ret_iJ (ws1 := (WXs cyI cyO a g' ++ cO cyL ao o') ++ WMs cyI am g') (r := b9) (run_VL (q := (RX6, TX6, 8)) (n := 2) (As := [.int (xs (3 * j + 1)), .int (xs (3 * j + 2))]) (rest := []) ⟨hx, hb, hml, hown, htsL⟩ (hM _) gL_law_X6_fit rfl hr1 hr2 (by decide +kernel) ⟨(by show rm.frames + 1 ≤ 11; omega), (by show 8 + (3 + 11) + rm.locals ≤ 402; omega)⟩ hKK hPc hDc (ci := 6) (q0 := 0) rfl (WMs_recv am g) rfl hl.1 rfl (Nat.le_of_ble_eq_true rfl) dL_law_460 ⟨(by show 36 + j + 1 + 0 ≤ 650194; omega), (by show 518 + 6 * j + 6 + 0 ≤ 7145523; omega)⟩) hS hFc (fun H1 hk h => call_suf hP hD rfl hk h) (fun H locs hP hD hS => ?_)
  refine lv_istore (lv' := [(6, .int b9), (5, .int k), (0, .ref b), (1, .ref a.1), (2, .ref am.1), (3, .ref ao), (4, .int (nI (3 * j)))]) hx hb dL_law_463 hl (by decide) rfl (fun ls hl => ?_)
  refine lv_aload_n hx hb dL_law_465 rfl (lv_at hl 4 rfl) ?_
  obtain ⟨rt, ht1, ht2, ht3, ht4, hT⟩ := gi_thrown l D cyI cyO cyL am g'
  have hPc := sufP hP
  have hDc := sufD hD
  have hFc := free_of hDc hS hA
  refine ret_iJ (ws1 := (WXs cyI cyO a g' ++ cO cyL ao o') ++ WMs cyI am g') (r := g'.2.2.2.2.2.2.2.2.1) (run_VL (q := (RX6, TX6, 8)) (n := 0) (As := []) (rest := []) ⟨hx, hb, hml, hown, htsL⟩ (hT _) gL_law_X6_thrown rfl ht1 ht2 (by decide +kernel) ⟨(by show rt.frames + 1 ≤ 11; omega), (by show 8 + (1 + 11) + rt.locals ≤ 402; omega)⟩ hKK hPc hDc (ci := 6) (q0 := 0) rfl (WMs_recv am g') rfl hl.1 rfl (Nat.le_of_ble_eq_true rfl) dL_law_466 ⟨(by show 36 + j + 1 + 0 + 0 ≤ 650194; omega), (by show 518 + 6 * j + 6 + 0 + 0 ≤ 7145523; omega)⟩) hS hFc (fun H1 hk h => call_suf hP hD rfl hk h) (fun H locs hP hD hS => ?_)
  refine lv_iload hx hb dL_law_469 (lv_at hl 1 rfl) ?_
  refine lv_icmp_eq (tgt := 476) hx hb dL_law_471 (by decide) (fun _ => ?_) (fun h9 => absurd hth h9)
  refine lv_iload hx hb dL_law_476 (lv_at hl 1 rfl) ?_
  refine lv_if_ne (tgt := 493) hx hb dL_law_478 (by decide) (fun _ => ?_) (fun hk => ?_)
  · skip
    refine lv_goto (tgt := 1210) hx hb dL_law_493 (by decide) ?_
    refine W.widen (k := 36 + (j + 1)) (n := 518 + 6 * (j + 1)) (by omega) (by omega) ?_
    exact K g' o' _ _ _ hI' hP hD hS (lv_sub hl [2, 3, 4, 5, 6] rfl)
  · skip
    refine lv_aload_n hx hb dL_law_481 rfl (lv_at hl 5 rfl) ?_
    refine lv_iconst (v := 0) hx hb dL_law_482 (by decide) ?_
    refine va_lald hx hb hKK.1 hP 30 2 (WL_out a am ao g' g' o') rfl (i := 0) (vp_in_nI (n := 0) (by decide) (by decide)) dL_law_483 ?_
    refine lv_iload hx hb dL_law_484 (lv_at hl 0 rfl) ?_
    refine lv_i2l (v := b9.toInt64) hx hb dL_law_486 rfl ?_
    refine W.lcmp hx hb dL_law_487 ?_
    refine lv_tope (y := 0) (by rw [show o' (0 : Int32).toNatClampNeg = b9.toInt64 from hout hk]; exact lg_cmp_self _) ?_
    refine lv_if_eq (tgt := 493) hx hb dL_law_488 (by decide) (fun _ => ?_) (fun h9 => absurd rfl h9)
    refine lv_goto (tgt := 1210) hx hb dL_law_493 (by decide) ?_
    refine W.widen (k := 36 + (j + 1)) (n := 518 + 6 * (j + 1)) (by omega) (by omega) ?_
    exact K g' o' _ _ _ hI' hP hD hS (lv_sub hl [2, 3, 4, 5, 6] rfl)
set_option maxHeartbeats 4000000 in
set_option maxRecDepth 100000 in
theorem law_5 {p : Program} {l : Launch} {e : Env} {s : State} {m : MethodId} {below : List Frame} {meth : Method} {c : Code} {b L : Nat} {xs : Nat → Int32} (hL : L ≤ 1536) (C0 : lw_At p s m meth c b L xs) (hlf : l.stackTraces = false) {D : va_G} {cyI cyO cyL : ClassId} (hKK : KK D cyI cyO cyL s) (hXE : XE (fun q : Nat => s.heap.size ≤ q) s s.heap) (hNC : NCW s) {a : AX} {am : AM} {ao : Nat} (hAd : Adr a) {j : Nat} (h3 : 3 * j + 3 ≤ L) {g : SG} {o : Nat → Int64} (hI : Inv a j g) {H : Heap} {locs : List Loc} {ls : Array Slot} (hP : va_P D vwCl ((WXs cyI cyO a g ++ cO cyL ao o) ++ WMs cyI am g) H) (hD : va_D (fun q : Nat => s.heap.size ≤ q) ((WXs cyI cyO a g ++ cO cyL ao o) ++ WMs cyI am g)) (hS : va_S (fun q : Nat => s.heap.size ≤ q) s.heap H locs) (hl : lv_has ls 9 [(0, .ref b), (1, .ref a.1), (2, .ref am.1), (3, .ref ao), (4, .int (nI (3 * j)))]) (K : ∀ (g2 : SG) (o2 : Nat → Int64) (H2 : Heap) (locs2 : List Loc) (ls2 : Array Slot), Inv a (j + 1) g2 → va_P D vwCl ((WXs cyI cyO a g2 ++ cO cyL ao o2) ++ WMs cyI am g2) H2 → va_D (fun q : Nat => s.heap.size ≤ q) ((WXs cyI cyO a g2 ++ cO cyL ao o2) ++ WMs cyI am g2) → va_S (fun q : Nat => s.heap.size ≤ q) s.heap H2 locs2 → lv_has ls2 9 [(0, .ref b), (1, .ref a.1), (2, .ref am.1), (3, .ref ao), (4, .int (nI (3 * j)))] → W p l e room_1 s m #[Value.ref b] below meth c H2 locs2 (36 + (j + 1)) (518 + 6 * (j + 1)) (lw_Z below #[Value.ref b] s) (F0 m 1210 ls2 [])) : W p l e room_1 s m #[Value.ref b] below meth c H locs (36 + j) (518 + 6 * j) (lw_Z below #[Value.ref b] s) (F0 m 496 ls []) := by
  obtain ⟨hx, hb, hr, hml, hown, hts, hX, hbl, hlocks, hgv⟩ := C0
  have hj : j < 512 := by omega
  have hA : ∀ q : Nat, s.heap.size ≤ q → (fun q : Nat => s.heap.size ≤ q) q := fun _ h => h
  have hbA : ¬ (fun q : Nat => s.heap.size ≤ q) b := Nat.not_le.mpr hbl
  have htsL : ∀ w ∈ wsL_law, w.before #[Value.ref b] s = true := fun w h => hts w (wsL_law_in w h)
  have hown : s.vm.findClass RL = some m.cls := hown
  have hb : c.code = cL_law := hb
  obtain ⟨k, b9, g', o', hU, ⟨rm, hr1, hr2, hr3, hr4, hM⟩, hth, hout, hI'⟩ := st_park l D cyI cyO cyL hlf a am ao j hj g o hAd hI (xs (3 * j + 1))
  refine lv_aload_n hx hb dL_law_496 rfl (lv_at hl 1 rfl) ?_
  refine lv_aload_n hx hb dL_law_497 rfl (lv_at hl 0 rfl) ?_
  refine lv_iload hx hb dL_law_498 (lv_at hl 4 rfl) ?_
  refine lv_iconst (v := 1) hx hb dL_law_500 (by decide) ?_
  refine lv_iadd hx hb dL_law_501 ?_
  refine lv_tope (y := nI (3 * j + 1)) (nI_add (3 * j) 1) ?_
  refine va_sld hx hb hX hbl hbA hS (vp_in_nI (by omega) (by omega)) dL_law_502 ?_
  refine lv_tope (y := xs (3 * j + 1)) (by rw [nI_clamp (by omega)]) ?_
  refine lv_aload_n hx hb dL_law_503 rfl (lv_at hl 3 rfl) ?_
  have hPc := preP hP
  have hDc := va_D_left hD
  have hFc := free_of hDc hS hA
  have hXc := (hXE.kept hS.2.1).narrow hFc
  refine ret_iJ (ws1 := (WXs cyI cyO a g' ++ cO cyL ao o') ++ WMs cyI am g) (r := k) (run_SU (n := 3) (As := [.ref a.1, .int (xs (3 * j + 1)), .ref ao]) (rest := []) ⟨hx, hb, hml, hown, htsL⟩ hU gL_law_L_park rfl (by decide +kernel) ⟨Nat.le_of_ble_eq_true rfl, Nat.le_of_ble_eq_true rfl⟩ hKK hXc hNC hPc hDc rfl hl.1 rfl (Nat.le_of_ble_eq_true rfl) dL_law_504 ⟨(by show 36 + j + 1 ≤ 650194; omega), (by show 518 + 6 * j + 6 ≤ 7145523; omega)⟩) hS hFc (fun H1 hk h => call_pre hP hD rfl hk h) (fun H locs hP hD hS => ?_)
  refine lv_istore (lv' := [(5, .int k), (0, .ref b), (1, .ref a.1), (2, .ref am.1), (3, .ref ao), (4, .int (nI (3 * j)))]) hx hb dL_law_507 hl (by decide) rfl (fun ls hl => ?_)
  refine lv_aload_n hx hb dL_law_509 rfl (lv_at hl 3 rfl) ?_
  refine lv_aload_n hx hb dL_law_510 rfl (lv_at hl 1 rfl) ?_
  refine lv_iload hx hb dL_law_511 (lv_at hl 5 rfl) ?_
  refine lv_iconst (v := 1) hx hb dL_law_513 (by decide) ?_
  refine lv_iadd hx hb dL_law_514 ?_
  refine lv_tope (y := nI (3 * j + 1)) (nI_add (3 * j) 1) ?_
  refine va_sld hx hb hX hbl hbA hS (vp_in_nI (by omega) (by omega)) dL_law_515 ?_
  refine lv_tope (y := xs (3 * j + 1)) (by rw [nI_clamp (by omega)]) ?_
  have hPc := sufP hP
  have hDc := sufD hD
  have hFc := free_of hDc hS hA
  refine ret_iJ (ws1 := (WXs cyI cyO a g' ++ cO cyL ao o') ++ WMs cyI am g') (r := b9) (run_VL (q := (RX6, TX6, 8)) (n := 1) (As := [.int (xs (3 * j + 1))]) (rest := []) ⟨hx, hb, hml, hown, htsL⟩ (hM _) gL_law_X6_park rfl hr1 hr2 (by decide +kernel) ⟨(by show rm.frames + 1 ≤ 11; omega), (by show 8 + (2 + 11) + rm.locals ≤ 402; omega)⟩ hKK hPc hDc (ci := 6) (q0 := 0) rfl (WMs_recv am g) rfl hl.1 rfl (Nat.le_of_ble_eq_true rfl) dL_law_516 ⟨(by show 36 + j + 1 + 0 ≤ 650194; omega), (by show 518 + 6 * j + 6 + 0 ≤ 7145523; omega)⟩) hS hFc (fun H1 hk h => call_suf hP hD rfl hk h) (fun H locs hP hD hS => ?_)
  refine lv_istore (lv' := [(6, .int b9), (5, .int k), (0, .ref b), (1, .ref a.1), (2, .ref am.1), (3, .ref ao), (4, .int (nI (3 * j)))]) hx hb dL_law_519 hl (by decide) rfl (fun ls hl => ?_)
  refine lv_aload_n hx hb dL_law_521 rfl (lv_at hl 4 rfl) ?_
  obtain ⟨rt, ht1, ht2, ht3, ht4, hT⟩ := gi_thrown l D cyI cyO cyL am g'
  have hPc := sufP hP
  have hDc := sufD hD
  have hFc := free_of hDc hS hA
  refine ret_iJ (ws1 := (WXs cyI cyO a g' ++ cO cyL ao o') ++ WMs cyI am g') (r := g'.2.2.2.2.2.2.2.2.1) (run_VL (q := (RX6, TX6, 8)) (n := 0) (As := []) (rest := []) ⟨hx, hb, hml, hown, htsL⟩ (hT _) gL_law_X6_thrown rfl ht1 ht2 (by decide +kernel) ⟨(by show rt.frames + 1 ≤ 11; omega), (by show 8 + (1 + 11) + rt.locals ≤ 402; omega)⟩ hKK hPc hDc (ci := 6) (q0 := 0) rfl (WMs_recv am g') rfl hl.1 rfl (Nat.le_of_ble_eq_true rfl) dL_law_522 ⟨(by show 36 + j + 1 + 0 + 0 ≤ 650194; omega), (by show 518 + 6 * j + 6 + 0 + 0 ≤ 7145523; omega)⟩) hS hFc (fun H1 hk h => call_suf hP hD rfl hk h) (fun H locs hP hD hS => ?_)
  refine lv_iload hx hb dL_law_525 (lv_at hl 1 rfl) ?_
  refine lv_icmp_eq (tgt := 532) hx hb dL_law_527 (by decide) (fun _ => ?_) (fun h9 => absurd hth h9)
  refine lv_iload hx hb dL_law_532 (lv_at hl 1 rfl) ?_
  refine lv_if_ne (tgt := 556) hx hb dL_law_534 (by decide) (fun _ => ?_) (fun hk => ?_)
  · skip
    refine lv_goto (tgt := 1210) hx hb dL_law_556 (by decide) ?_
    refine W.widen (k := 36 + (j + 1)) (n := 518 + 6 * (j + 1)) (by omega) (by omega) ?_
    exact K g' o' _ _ _ hI' hP hD hS (lv_sub hl [2, 3, 4, 5, 6] rfl)
  · skip
    refine lv_aload_n hx hb dL_law_537 rfl (lv_at hl 5 rfl) ?_
    refine lv_iconst (v := 0) hx hb dL_law_538 (by decide) ?_
    refine va_lald hx hb hKK.1 hP 30 2 (WL_out a am ao g' g' o') rfl (i := 0) (vp_in_nI (n := 0) (by decide) (by decide)) dL_law_539 ?_
    refine lv_iload hx hb dL_law_540 (lv_at hl 0 rfl) ?_
    refine lv_if_eq (tgt := 549) hx hb dL_law_542 (by decide) (fun h5 => ?_) (fun h5 => ?_)
    · skip
      refine lv_lconst (v := 0) hx hb dL_law_549 (by decide) ?_
      refine W.lcmp hx hb dL_law_550 ?_
      refine lv_tope (y := 0) (by rw [show o' (0 : Int32).toNatClampNeg = 0 from (hout hk).trans (if_pos h5)]; exact lg_cmp_self _) ?_
      refine lv_if_eq (tgt := 556) hx hb dL_law_551 (by decide) (fun _ => ?_) (fun h9 => absurd rfl h9)
      refine lv_goto (tgt := 1210) hx hb dL_law_556 (by decide) ?_
      refine W.widen (k := 36 + (j + 1)) (n := 518 + 6 * (j + 1)) (by omega) (by omega) ?_
      exact K g' o' _ _ _ hI' hP hD hS (lv_sub hl [2, 3, 4, 5, 6] rfl)
    · skip
      refine lv_lconst (v := 1) hx hb dL_law_545 (by decide) ?_
      refine lv_goto (tgt := 550) hx hb dL_law_546 (by decide) ?_
      refine W.lcmp hx hb dL_law_550 ?_
      refine lv_tope (y := 0) (by rw [show o' (0 : Int32).toNatClampNeg = 1 from (hout hk).trans (if_neg h5)]; exact lg_cmp_self _) ?_
      refine lv_if_eq (tgt := 556) hx hb dL_law_551 (by decide) (fun _ => ?_) (fun h9 => absurd rfl h9)
      refine lv_goto (tgt := 1210) hx hb dL_law_556 (by decide) ?_
      refine W.widen (k := 36 + (j + 1)) (n := 518 + 6 * (j + 1)) (by omega) (by omega) ?_
      exact K g' o' _ _ _ hI' hP hD hS (lv_sub hl [2, 3, 4, 5, 6] rfl)
set_option maxHeartbeats 4000000 in
set_option maxRecDepth 100000 in
theorem law_6 {p : Program} {l : Launch} {e : Env} {s : State} {m : MethodId} {below : List Frame} {meth : Method} {c : Code} {b L : Nat} {xs : Nat → Int32} (hL : L ≤ 1536) (C0 : lw_At p s m meth c b L xs) (hlf : l.stackTraces = false) {D : va_G} {cyI cyO cyL : ClassId} (hKK : KK D cyI cyO cyL s) (hXE : XE (fun q : Nat => s.heap.size ≤ q) s s.heap) (hNC : NCW s) {a : AX} {am : AM} {ao : Nat} (hAd : Adr a) {j : Nat} (h3 : 3 * j + 3 ≤ L) {g : SG} {o : Nat → Int64} (hI : Inv a j g) {H : Heap} {locs : List Loc} {ls : Array Slot} (hP : va_P D vwCl ((WXs cyI cyO a g ++ cO cyL ao o) ++ WMs cyI am g) H) (hD : va_D (fun q : Nat => s.heap.size ≤ q) ((WXs cyI cyO a g ++ cO cyL ao o) ++ WMs cyI am g)) (hS : va_S (fun q : Nat => s.heap.size ≤ q) s.heap H locs) (hl : lv_has ls 9 [(0, .ref b), (1, .ref a.1), (2, .ref am.1), (3, .ref ao), (4, .int (nI (3 * j)))]) (K : ∀ (g2 : SG) (o2 : Nat → Int64) (H2 : Heap) (locs2 : List Loc) (ls2 : Array Slot), Inv a (j + 1) g2 → va_P D vwCl ((WXs cyI cyO a g2 ++ cO cyL ao o2) ++ WMs cyI am g2) H2 → va_D (fun q : Nat => s.heap.size ≤ q) ((WXs cyI cyO a g2 ++ cO cyL ao o2) ++ WMs cyI am g2) → va_S (fun q : Nat => s.heap.size ≤ q) s.heap H2 locs2 → lv_has ls2 9 [(0, .ref b), (1, .ref a.1), (2, .ref am.1), (3, .ref ao), (4, .int (nI (3 * j)))] → W p l e room_1 s m #[Value.ref b] below meth c H2 locs2 (36 + (j + 1)) (518 + 6 * (j + 1)) (lw_Z below #[Value.ref b] s) (F0 m 1210 ls2 [])) : W p l e room_1 s m #[Value.ref b] below meth c H locs (36 + j) (518 + 6 * j) (lw_Z below #[Value.ref b] s) (F0 m 559 ls []) := by
  obtain ⟨hx, hb, hr, hml, hown, hts, hX, hbl, hlocks, hgv⟩ := C0
  have hj : j < 512 := by omega
  have hA : ∀ q : Nat, s.heap.size ≤ q → (fun q : Nat => s.heap.size ≤ q) q := fun _ h => h
  have hbA : ¬ (fun q : Nat => s.heap.size ≤ q) b := Nat.not_le.mpr hbl
  have htsL : ∀ w ∈ wsL_law, w.before #[Value.ref b] s = true := fun w h => hts w (wsL_law_in w h)
  have hown : s.vm.findClass RL = some m.cls := hown
  have hb : c.code = cL_law := hb
  obtain ⟨k, b9, g', o', hU, ⟨rm, hr1, hr2, hr3, hr4, hM⟩, hth, hout, hI'⟩ := st_told l D cyI cyO cyL hlf a am ao j hj g o hAd hI (xs (3 * j + 1)) (xs (3 * j + 2))
  refine lv_aload_n hx hb dL_law_559 rfl (lv_at hl 1 rfl) ?_
  refine lv_aload_n hx hb dL_law_560 rfl (lv_at hl 0 rfl) ?_
  refine lv_iload hx hb dL_law_561 (lv_at hl 4 rfl) ?_
  refine lv_iconst (v := 1) hx hb dL_law_563 (by decide) ?_
  refine lv_iadd hx hb dL_law_564 ?_
  refine lv_tope (y := nI (3 * j + 1)) (nI_add (3 * j) 1) ?_
  refine va_sld hx hb hX hbl hbA hS (vp_in_nI (by omega) (by omega)) dL_law_565 ?_
  refine lv_tope (y := xs (3 * j + 1)) (by rw [nI_clamp (by omega)]) ?_
  refine lv_aload_n hx hb dL_law_566 rfl (lv_at hl 0 rfl) ?_
  refine lv_iload hx hb dL_law_567 (lv_at hl 4 rfl) ?_
  refine lv_iconst (v := 2) hx hb dL_law_569 (by decide) ?_
  refine lv_iadd hx hb dL_law_570 ?_
  refine lv_tope (y := nI (3 * j + 2)) (nI_add (3 * j) 2) ?_
  refine va_sld hx hb hX hbl hbA hS (vp_in_nI (by omega) (by omega)) dL_law_571 ?_
  refine lv_tope (y := xs (3 * j + 2)) (by rw [nI_clamp (by omega)]) ?_
  refine lv_aload_n hx hb dL_law_572 rfl (lv_at hl 3 rfl) ?_
  have hPc := preP hP
  have hDc := va_D_left hD
  have hFc := free_of hDc hS hA
  have hXc := (hXE.kept hS.2.1).narrow hFc
  refine ret_iJ (ws1 := (WXs cyI cyO a g' ++ cO cyL ao o') ++ WMs cyI am g) (r := k) (run_SU (n := 4) (As := [.ref a.1, .int (xs (3 * j + 1)), .int (xs (3 * j + 2)), .ref ao]) (rest := []) ⟨hx, hb, hml, hown, htsL⟩ hU gL_law_L_told rfl (by decide +kernel) ⟨Nat.le_of_ble_eq_true rfl, Nat.le_of_ble_eq_true rfl⟩ hKK hXc hNC hPc hDc rfl hl.1 rfl (Nat.le_of_ble_eq_true rfl) dL_law_573 ⟨(by show 36 + j + 1 ≤ 650194; omega), (by show 518 + 6 * j + 6 ≤ 7145523; omega)⟩) hS hFc (fun H1 hk h => call_pre hP hD rfl hk h) (fun H locs hP hD hS => ?_)
  refine lv_istore (lv' := [(5, .int k), (0, .ref b), (1, .ref a.1), (2, .ref am.1), (3, .ref ao), (4, .int (nI (3 * j)))]) hx hb dL_law_576 hl (by decide) rfl (fun ls hl => ?_)
  refine lv_aload_n hx hb dL_law_578 rfl (lv_at hl 3 rfl) ?_
  refine lv_aload_n hx hb dL_law_579 rfl (lv_at hl 1 rfl) ?_
  refine lv_iload hx hb dL_law_580 (lv_at hl 5 rfl) ?_
  refine lv_iconst (v := 1) hx hb dL_law_582 (by decide) ?_
  refine lv_iadd hx hb dL_law_583 ?_
  refine lv_tope (y := nI (3 * j + 1)) (nI_add (3 * j) 1) ?_
  refine va_sld hx hb hX hbl hbA hS (vp_in_nI (by omega) (by omega)) dL_law_584 ?_
  refine lv_tope (y := xs (3 * j + 1)) (by rw [nI_clamp (by omega)]) ?_
  refine lv_aload_n hx hb dL_law_585 rfl (lv_at hl 1 rfl) ?_
  refine lv_iload hx hb dL_law_586 (lv_at hl 5 rfl) ?_
  refine lv_iconst (v := 2) hx hb dL_law_588 (by decide) ?_
  refine lv_iadd hx hb dL_law_589 ?_
  refine lv_tope (y := nI (3 * j + 2)) (nI_add (3 * j) 2) ?_
  refine va_sld hx hb hX hbl hbA hS (vp_in_nI (by omega) (by omega)) dL_law_590 ?_
  refine lv_tope (y := xs (3 * j + 2)) (by rw [nI_clamp (by omega)]) ?_
  have hPc := sufP hP
  have hDc := sufD hD
  have hFc := free_of hDc hS hA
  refine ret_iJ (ws1 := (WXs cyI cyO a g' ++ cO cyL ao o') ++ WMs cyI am g') (r := b9) (run_VL (q := (RX6, TX6, 8)) (n := 2) (As := [.int (xs (3 * j + 1)), .int (xs (3 * j + 2))]) (rest := []) ⟨hx, hb, hml, hown, htsL⟩ (hM _) gL_law_X6_told rfl hr1 hr2 (by decide +kernel) ⟨(by show rm.frames + 1 ≤ 11; omega), (by show 8 + (3 + 11) + rm.locals ≤ 402; omega)⟩ hKK hPc hDc (ci := 6) (q0 := 0) rfl (WMs_recv am g) rfl hl.1 rfl (Nat.le_of_ble_eq_true rfl) dL_law_591 ⟨(by show 36 + j + 1 + 0 ≤ 650194; omega), (by show 518 + 6 * j + 6 + 0 ≤ 7145523; omega)⟩) hS hFc (fun H1 hk h => call_suf hP hD rfl hk h) (fun H locs hP hD hS => ?_)
  refine lv_istore (lv' := [(6, .int b9), (5, .int k), (0, .ref b), (1, .ref a.1), (2, .ref am.1), (3, .ref ao), (4, .int (nI (3 * j)))]) hx hb dL_law_594 hl (by decide) rfl (fun ls hl => ?_)
  refine lv_aload_n hx hb dL_law_596 rfl (lv_at hl 4 rfl) ?_
  obtain ⟨rt, ht1, ht2, ht3, ht4, hT⟩ := gi_thrown l D cyI cyO cyL am g'
  have hPc := sufP hP
  have hDc := sufD hD
  have hFc := free_of hDc hS hA
  refine ret_iJ (ws1 := (WXs cyI cyO a g' ++ cO cyL ao o') ++ WMs cyI am g') (r := g'.2.2.2.2.2.2.2.2.1) (run_VL (q := (RX6, TX6, 8)) (n := 0) (As := []) (rest := []) ⟨hx, hb, hml, hown, htsL⟩ (hT _) gL_law_X6_thrown rfl ht1 ht2 (by decide +kernel) ⟨(by show rt.frames + 1 ≤ 11; omega), (by show 8 + (1 + 11) + rt.locals ≤ 402; omega)⟩ hKK hPc hDc (ci := 6) (q0 := 0) rfl (WMs_recv am g') rfl hl.1 rfl (Nat.le_of_ble_eq_true rfl) dL_law_597 ⟨(by show 36 + j + 1 + 0 + 0 ≤ 650194; omega), (by show 518 + 6 * j + 6 + 0 + 0 ≤ 7145523; omega)⟩) hS hFc (fun H1 hk h => call_suf hP hD rfl hk h) (fun H locs hP hD hS => ?_)
  refine lv_iload hx hb dL_law_600 (lv_at hl 1 rfl) ?_
  refine lv_icmp_eq (tgt := 607) hx hb dL_law_602 (by decide) (fun _ => ?_) (fun h9 => absurd hth h9)
  refine lv_iload hx hb dL_law_607 (lv_at hl 1 rfl) ?_
  refine lv_if_ne (tgt := 624) hx hb dL_law_609 (by decide) (fun _ => ?_) (fun hk => ?_)
  · skip
    refine lv_goto (tgt := 1210) hx hb dL_law_624 (by decide) ?_
    refine W.widen (k := 36 + (j + 1)) (n := 518 + 6 * (j + 1)) (by omega) (by omega) ?_
    exact K g' o' _ _ _ hI' hP hD hS (lv_sub hl [2, 3, 4, 5, 6] rfl)
  · skip
    refine lv_aload_n hx hb dL_law_612 rfl (lv_at hl 5 rfl) ?_
    refine lv_iconst (v := 0) hx hb dL_law_613 (by decide) ?_
    refine va_lald hx hb hKK.1 hP 30 2 (WL_out a am ao g' g' o') rfl (i := 0) (vp_in_nI (n := 0) (by decide) (by decide)) dL_law_614 ?_
    refine lv_iload hx hb dL_law_615 (lv_at hl 0 rfl) ?_
    refine lv_i2l (v := b9.toInt64) hx hb dL_law_617 rfl ?_
    refine W.lcmp hx hb dL_law_618 ?_
    refine lv_tope (y := 0) (by rw [show o' (0 : Int32).toNatClampNeg = b9.toInt64 from hout hk]; exact lg_cmp_self _) ?_
    refine lv_if_eq (tgt := 624) hx hb dL_law_619 (by decide) (fun _ => ?_) (fun h9 => absurd rfl h9)
    refine lv_goto (tgt := 1210) hx hb dL_law_624 (by decide) ?_
    refine W.widen (k := 36 + (j + 1)) (n := 518 + 6 * (j + 1)) (by omega) (by omega) ?_
    exact K g' o' _ _ _ hI' hP hD hS (lv_sub hl [2, 3, 4, 5, 6] rfl)
set_option maxHeartbeats 4000000 in
set_option maxRecDepth 100000 in
theorem law_7 {p : Program} {l : Launch} {e : Env} {s : State} {m : MethodId} {below : List Frame} {meth : Method} {c : Code} {b L : Nat} {xs : Nat → Int32} (hL : L ≤ 1536) (C0 : lw_At p s m meth c b L xs) (hlf : l.stackTraces = false) {D : va_G} {cyI cyO cyL : ClassId} (hKK : KK D cyI cyO cyL s) (hXE : XE (fun q : Nat => s.heap.size ≤ q) s s.heap) (hNC : NCW s) {a : AX} {am : AM} {ao : Nat} (hAd : Adr a) {j : Nat} (h3 : 3 * j + 3 ≤ L) {g : SG} {o : Nat → Int64} (hI : Inv a j g) {H : Heap} {locs : List Loc} {ls : Array Slot} (hP : va_P D vwCl ((WXs cyI cyO a g ++ cO cyL ao o) ++ WMs cyI am g) H) (hD : va_D (fun q : Nat => s.heap.size ≤ q) ((WXs cyI cyO a g ++ cO cyL ao o) ++ WMs cyI am g)) (hS : va_S (fun q : Nat => s.heap.size ≤ q) s.heap H locs) (hl : lv_has ls 9 [(0, .ref b), (1, .ref a.1), (2, .ref am.1), (3, .ref ao), (4, .int (nI (3 * j)))]) (K : ∀ (g2 : SG) (o2 : Nat → Int64) (H2 : Heap) (locs2 : List Loc) (ls2 : Array Slot), Inv a (j + 1) g2 → va_P D vwCl ((WXs cyI cyO a g2 ++ cO cyL ao o2) ++ WMs cyI am g2) H2 → va_D (fun q : Nat => s.heap.size ≤ q) ((WXs cyI cyO a g2 ++ cO cyL ao o2) ++ WMs cyI am g2) → va_S (fun q : Nat => s.heap.size ≤ q) s.heap H2 locs2 → lv_has ls2 9 [(0, .ref b), (1, .ref a.1), (2, .ref am.1), (3, .ref ao), (4, .int (nI (3 * j)))] → W p l e room_1 s m #[Value.ref b] below meth c H2 locs2 (36 + (j + 1)) (518 + 6 * (j + 1)) (lw_Z below #[Value.ref b] s) (F0 m 1210 ls2 [])) : W p l e room_1 s m #[Value.ref b] below meth c H locs (36 + j) (518 + 6 * j) (lw_Z below #[Value.ref b] s) (F0 m 627 ls []) := by
  obtain ⟨hx, hb, hr, hml, hown, hts, hX, hbl, hlocks, hgv⟩ := C0
  have hj : j < 512 := by omega
  have hA : ∀ q : Nat, s.heap.size ≤ q → (fun q : Nat => s.heap.size ≤ q) q := fun _ h => h
  have hbA : ¬ (fun q : Nat => s.heap.size ≤ q) b := Nat.not_le.mpr hbl
  have htsL : ∀ w ∈ wsL_law, w.before #[Value.ref b] s = true := fun w h => hts w (wsL_law_in w h)
  have hown : s.vm.findClass RL = some m.cls := hown
  have hb : c.code = cL_law := hb
  obtain ⟨k, b9, g', o', hU, ⟨rm, hr1, hr2, hr3, hr4, hM⟩, hth, hout, hI'⟩ := st_span l D cyI cyO cyL hlf a am ao j hj g o hAd hI (xs (3 * j + 1)) (xs (3 * j + 2))
  refine lv_aload_n hx hb dL_law_627 rfl (lv_at hl 1 rfl) ?_
  refine lv_aload_n hx hb dL_law_628 rfl (lv_at hl 0 rfl) ?_
  refine lv_iload hx hb dL_law_629 (lv_at hl 4 rfl) ?_
  refine lv_iconst (v := 1) hx hb dL_law_631 (by decide) ?_
  refine lv_iadd hx hb dL_law_632 ?_
  refine lv_tope (y := nI (3 * j + 1)) (nI_add (3 * j) 1) ?_
  refine va_sld hx hb hX hbl hbA hS (vp_in_nI (by omega) (by omega)) dL_law_633 ?_
  refine lv_tope (y := xs (3 * j + 1)) (by rw [nI_clamp (by omega)]) ?_
  refine lv_aload_n hx hb dL_law_634 rfl (lv_at hl 0 rfl) ?_
  refine lv_iload hx hb dL_law_635 (lv_at hl 4 rfl) ?_
  refine lv_iconst (v := 2) hx hb dL_law_637 (by decide) ?_
  refine lv_iadd hx hb dL_law_638 ?_
  refine lv_tope (y := nI (3 * j + 2)) (nI_add (3 * j) 2) ?_
  refine va_sld hx hb hX hbl hbA hS (vp_in_nI (by omega) (by omega)) dL_law_639 ?_
  refine lv_tope (y := xs (3 * j + 2)) (by rw [nI_clamp (by omega)]) ?_
  refine lv_aload_n hx hb dL_law_640 rfl (lv_at hl 3 rfl) ?_
  have hPc := preP hP
  have hDc := va_D_left hD
  have hFc := free_of hDc hS hA
  have hXc := (hXE.kept hS.2.1).narrow hFc
  refine ret_iJ (ws1 := (WXs cyI cyO a g' ++ cO cyL ao o') ++ WMs cyI am g) (r := k) (run_SU (n := 4) (As := [.ref a.1, .int (xs (3 * j + 1)), .int (xs (3 * j + 2)), .ref ao]) (rest := []) ⟨hx, hb, hml, hown, htsL⟩ hU gL_law_L_span rfl (by decide +kernel) ⟨Nat.le_of_ble_eq_true rfl, Nat.le_of_ble_eq_true rfl⟩ hKK hXc hNC hPc hDc rfl hl.1 rfl (Nat.le_of_ble_eq_true rfl) dL_law_641 ⟨(by show 36 + j + 1 ≤ 650194; omega), (by show 518 + 6 * j + 6 ≤ 7145523; omega)⟩) hS hFc (fun H1 hk h => call_pre hP hD rfl hk h) (fun H locs hP hD hS => ?_)
  refine lv_istore (lv' := [(5, .int k), (0, .ref b), (1, .ref a.1), (2, .ref am.1), (3, .ref ao), (4, .int (nI (3 * j)))]) hx hb dL_law_644 hl (by decide) rfl (fun ls hl => ?_)
  refine lv_aload_n hx hb dL_law_646 rfl (lv_at hl 3 rfl) ?_
  refine lv_aload_n hx hb dL_law_647 rfl (lv_at hl 1 rfl) ?_
  refine lv_iload hx hb dL_law_648 (lv_at hl 5 rfl) ?_
  refine lv_iconst (v := 1) hx hb dL_law_650 (by decide) ?_
  refine lv_iadd hx hb dL_law_651 ?_
  refine lv_tope (y := nI (3 * j + 1)) (nI_add (3 * j) 1) ?_
  refine va_sld hx hb hX hbl hbA hS (vp_in_nI (by omega) (by omega)) dL_law_652 ?_
  refine lv_tope (y := xs (3 * j + 1)) (by rw [nI_clamp (by omega)]) ?_
  refine lv_aload_n hx hb dL_law_653 rfl (lv_at hl 1 rfl) ?_
  refine lv_iload hx hb dL_law_654 (lv_at hl 5 rfl) ?_
  refine lv_iconst (v := 2) hx hb dL_law_656 (by decide) ?_
  refine lv_iadd hx hb dL_law_657 ?_
  refine lv_tope (y := nI (3 * j + 2)) (nI_add (3 * j) 2) ?_
  refine va_sld hx hb hX hbl hbA hS (vp_in_nI (by omega) (by omega)) dL_law_658 ?_
  refine lv_tope (y := xs (3 * j + 2)) (by rw [nI_clamp (by omega)]) ?_
  have hPc := sufP hP
  have hDc := sufD hD
  have hFc := free_of hDc hS hA
  refine ret_iJ (ws1 := (WXs cyI cyO a g' ++ cO cyL ao o') ++ WMs cyI am g') (r := b9) (run_VL (q := (RX6, TX6, 8)) (n := 2) (As := [.int (xs (3 * j + 1)), .int (xs (3 * j + 2))]) (rest := []) ⟨hx, hb, hml, hown, htsL⟩ (hM _) gL_law_X6_span rfl hr1 hr2 (by decide +kernel) ⟨(by show rm.frames + 1 ≤ 11; omega), (by show 8 + (3 + 11) + rm.locals ≤ 402; omega)⟩ hKK hPc hDc (ci := 6) (q0 := 0) rfl (WMs_recv am g) rfl hl.1 rfl (Nat.le_of_ble_eq_true rfl) dL_law_659 ⟨(by show 36 + j + 1 + 0 ≤ 650194; omega), (by show 518 + 6 * j + 6 + 0 ≤ 7145523; omega)⟩) hS hFc (fun H1 hk h => call_suf hP hD rfl hk h) (fun H locs hP hD hS => ?_)
  refine lv_istore (lv' := [(6, .int b9), (5, .int k), (0, .ref b), (1, .ref a.1), (2, .ref am.1), (3, .ref ao), (4, .int (nI (3 * j)))]) hx hb dL_law_662 hl (by decide) rfl (fun ls hl => ?_)
  refine lv_aload_n hx hb dL_law_664 rfl (lv_at hl 4 rfl) ?_
  obtain ⟨rt, ht1, ht2, ht3, ht4, hT⟩ := gi_thrown l D cyI cyO cyL am g'
  have hPc := sufP hP
  have hDc := sufD hD
  have hFc := free_of hDc hS hA
  refine ret_iJ (ws1 := (WXs cyI cyO a g' ++ cO cyL ao o') ++ WMs cyI am g') (r := g'.2.2.2.2.2.2.2.2.1) (run_VL (q := (RX6, TX6, 8)) (n := 0) (As := []) (rest := []) ⟨hx, hb, hml, hown, htsL⟩ (hT _) gL_law_X6_thrown rfl ht1 ht2 (by decide +kernel) ⟨(by show rt.frames + 1 ≤ 11; omega), (by show 8 + (1 + 11) + rt.locals ≤ 402; omega)⟩ hKK hPc hDc (ci := 6) (q0 := 0) rfl (WMs_recv am g') rfl hl.1 rfl (Nat.le_of_ble_eq_true rfl) dL_law_665 ⟨(by show 36 + j + 1 + 0 + 0 ≤ 650194; omega), (by show 518 + 6 * j + 6 + 0 + 0 ≤ 7145523; omega)⟩) hS hFc (fun H1 hk h => call_suf hP hD rfl hk h) (fun H locs hP hD hS => ?_)
  refine lv_iload hx hb dL_law_668 (lv_at hl 1 rfl) ?_
  refine lv_icmp_eq (tgt := 675) hx hb dL_law_670 (by decide) (fun _ => ?_) (fun h9 => absurd hth h9)
  refine lv_iload hx hb dL_law_675 (lv_at hl 1 rfl) ?_
  refine lv_if_ne (tgt := 692) hx hb dL_law_677 (by decide) (fun _ => ?_) (fun hk => ?_)
  · skip
    refine lv_goto (tgt := 1210) hx hb dL_law_692 (by decide) ?_
    refine W.widen (k := 36 + (j + 1)) (n := 518 + 6 * (j + 1)) (by omega) (by omega) ?_
    exact K g' o' _ _ _ hI' hP hD hS (lv_sub hl [2, 3, 4, 5, 6] rfl)
  · skip
    refine lv_aload_n hx hb dL_law_680 rfl (lv_at hl 5 rfl) ?_
    refine lv_iconst (v := 0) hx hb dL_law_681 (by decide) ?_
    refine va_lald hx hb hKK.1 hP 30 2 (WL_out a am ao g' g' o') rfl (i := 0) (vp_in_nI (n := 0) (by decide) (by decide)) dL_law_682 ?_
    refine lv_iload hx hb dL_law_683 (lv_at hl 0 rfl) ?_
    refine lv_i2l (v := b9.toInt64) hx hb dL_law_685 rfl ?_
    refine W.lcmp hx hb dL_law_686 ?_
    refine lv_tope (y := 0) (by rw [show o' (0 : Int32).toNatClampNeg = b9.toInt64 from hout hk]; exact lg_cmp_self _) ?_
    refine lv_if_eq (tgt := 692) hx hb dL_law_687 (by decide) (fun _ => ?_) (fun h9 => absurd rfl h9)
    refine lv_goto (tgt := 1210) hx hb dL_law_692 (by decide) ?_
    refine W.widen (k := 36 + (j + 1)) (n := 518 + 6 * (j + 1)) (by omega) (by omega) ?_
    exact K g' o' _ _ _ hI' hP hD hS (lv_sub hl [2, 3, 4, 5, 6] rfl)
set_option maxHeartbeats 4000000 in
set_option maxRecDepth 100000 in
theorem law_8 {p : Program} {l : Launch} {e : Env} {s : State} {m : MethodId} {below : List Frame} {meth : Method} {c : Code} {b L : Nat} {xs : Nat → Int32} (hL : L ≤ 1536) (C0 : lw_At p s m meth c b L xs) (hlf : l.stackTraces = false) {D : va_G} {cyI cyO cyL : ClassId} (hKK : KK D cyI cyO cyL s) (hXE : XE (fun q : Nat => s.heap.size ≤ q) s s.heap) (hNC : NCW s) {a : AX} {am : AM} {ao : Nat} (hAd : Adr a) {j : Nat} (h3 : 3 * j + 3 ≤ L) {g : SG} {o : Nat → Int64} (hI : Inv a j g) {H : Heap} {locs : List Loc} {ls : Array Slot} (hP : va_P D vwCl ((WXs cyI cyO a g ++ cO cyL ao o) ++ WMs cyI am g) H) (hD : va_D (fun q : Nat => s.heap.size ≤ q) ((WXs cyI cyO a g ++ cO cyL ao o) ++ WMs cyI am g)) (hS : va_S (fun q : Nat => s.heap.size ≤ q) s.heap H locs) (hl : lv_has ls 9 [(0, .ref b), (1, .ref a.1), (2, .ref am.1), (3, .ref ao), (4, .int (nI (3 * j)))]) (K : ∀ (g2 : SG) (o2 : Nat → Int64) (H2 : Heap) (locs2 : List Loc) (ls2 : Array Slot), Inv a (j + 1) g2 → va_P D vwCl ((WXs cyI cyO a g2 ++ cO cyL ao o2) ++ WMs cyI am g2) H2 → va_D (fun q : Nat => s.heap.size ≤ q) ((WXs cyI cyO a g2 ++ cO cyL ao o2) ++ WMs cyI am g2) → va_S (fun q : Nat => s.heap.size ≤ q) s.heap H2 locs2 → lv_has ls2 9 [(0, .ref b), (1, .ref a.1), (2, .ref am.1), (3, .ref ao), (4, .int (nI (3 * j)))] → W p l e room_1 s m #[Value.ref b] below meth c H2 locs2 (36 + (j + 1)) (518 + 6 * (j + 1)) (lw_Z below #[Value.ref b] s) (F0 m 1210 ls2 [])) : W p l e room_1 s m #[Value.ref b] below meth c H locs (36 + j) (518 + 6 * j) (lw_Z below #[Value.ref b] s) (F0 m 695 ls []) := by
  obtain ⟨hx, hb, hr, hml, hown, hts, hX, hbl, hlocks, hgv⟩ := C0
  have hj : j < 512 := by omega
  have hA : ∀ q : Nat, s.heap.size ≤ q → (fun q : Nat => s.heap.size ≤ q) q := fun _ h => h
  have hbA : ¬ (fun q : Nat => s.heap.size ≤ q) b := Nat.not_le.mpr hbl
  have htsL : ∀ w ∈ wsL_law, w.before #[Value.ref b] s = true := fun w h => hts w (wsL_law_in w h)
  have hown : s.vm.findClass RL = some m.cls := hown
  have hb : c.code = cL_law := hb
  obtain ⟨k, b9, g', o', hU, ⟨rm, hr1, hr2, hr3, hr4, hM⟩, hth, hout, hI'⟩ := st_order l D cyI cyO cyL hlf a am ao j hj g o hAd hI (xs (3 * j + 1))
  refine lv_aload_n hx hb dL_law_695 rfl (lv_at hl 1 rfl) ?_
  refine lv_aload_n hx hb dL_law_696 rfl (lv_at hl 0 rfl) ?_
  refine lv_iload hx hb dL_law_697 (lv_at hl 4 rfl) ?_
  refine lv_iconst (v := 1) hx hb dL_law_699 (by decide) ?_
  refine lv_iadd hx hb dL_law_700 ?_
  refine lv_tope (y := nI (3 * j + 1)) (nI_add (3 * j) 1) ?_
  refine va_sld hx hb hX hbl hbA hS (vp_in_nI (by omega) (by omega)) dL_law_701 ?_
  refine lv_tope (y := xs (3 * j + 1)) (by rw [nI_clamp (by omega)]) ?_
  refine lv_aload_n hx hb dL_law_702 rfl (lv_at hl 3 rfl) ?_
  have hPc := preP hP
  have hDc := va_D_left hD
  have hFc := free_of hDc hS hA
  have hXc := (hXE.kept hS.2.1).narrow hFc
  refine ret_iJ (ws1 := (WXs cyI cyO a g' ++ cO cyL ao o') ++ WMs cyI am g) (r := k) (run_SU (n := 3) (As := [.ref a.1, .int (xs (3 * j + 1)), .ref ao]) (rest := []) ⟨hx, hb, hml, hown, htsL⟩ hU gL_law_L_order rfl (by decide +kernel) ⟨Nat.le_of_ble_eq_true rfl, Nat.le_of_ble_eq_true rfl⟩ hKK hXc hNC hPc hDc rfl hl.1 rfl (Nat.le_of_ble_eq_true rfl) dL_law_703 ⟨(by show 36 + j + 1 ≤ 650194; omega), (by show 518 + 6 * j + 6 ≤ 7145523; omega)⟩) hS hFc (fun H1 hk h => call_pre hP hD rfl hk h) (fun H locs hP hD hS => ?_)
  refine lv_istore (lv' := [(5, .int k), (0, .ref b), (1, .ref a.1), (2, .ref am.1), (3, .ref ao), (4, .int (nI (3 * j)))]) hx hb dL_law_706 hl (by decide) rfl (fun ls hl => ?_)
  refine lv_aload_n hx hb dL_law_708 rfl (lv_at hl 3 rfl) ?_
  refine lv_aload_n hx hb dL_law_709 rfl (lv_at hl 1 rfl) ?_
  refine lv_iload hx hb dL_law_710 (lv_at hl 5 rfl) ?_
  refine lv_iconst (v := 1) hx hb dL_law_712 (by decide) ?_
  refine lv_iadd hx hb dL_law_713 ?_
  refine lv_tope (y := nI (3 * j + 1)) (nI_add (3 * j) 1) ?_
  refine va_sld hx hb hX hbl hbA hS (vp_in_nI (by omega) (by omega)) dL_law_714 ?_
  refine lv_tope (y := xs (3 * j + 1)) (by rw [nI_clamp (by omega)]) ?_
  have hPc := sufP hP
  have hDc := sufD hD
  have hFc := free_of hDc hS hA
  refine ret_iJ (ws1 := (WXs cyI cyO a g' ++ cO cyL ao o') ++ WMs cyI am g') (r := b9) (run_VL (q := (RX6, TX6, 8)) (n := 1) (As := [.int (xs (3 * j + 1))]) (rest := []) ⟨hx, hb, hml, hown, htsL⟩ (hM _) gL_law_X6_order rfl hr1 hr2 (by decide +kernel) ⟨(by show rm.frames + 1 ≤ 11; omega), (by show 8 + (2 + 11) + rm.locals ≤ 402; omega)⟩ hKK hPc hDc (ci := 6) (q0 := 0) rfl (WMs_recv am g) rfl hl.1 rfl (Nat.le_of_ble_eq_true rfl) dL_law_715 ⟨(by show 36 + j + 1 + 0 ≤ 650194; omega), (by show 518 + 6 * j + 6 + 0 ≤ 7145523; omega)⟩) hS hFc (fun H1 hk h => call_suf hP hD rfl hk h) (fun H locs hP hD hS => ?_)
  refine lv_istore (lv' := [(6, .int b9), (5, .int k), (0, .ref b), (1, .ref a.1), (2, .ref am.1), (3, .ref ao), (4, .int (nI (3 * j)))]) hx hb dL_law_718 hl (by decide) rfl (fun ls hl => ?_)
  refine lv_aload_n hx hb dL_law_720 rfl (lv_at hl 4 rfl) ?_
  obtain ⟨rt, ht1, ht2, ht3, ht4, hT⟩ := gi_thrown l D cyI cyO cyL am g'
  have hPc := sufP hP
  have hDc := sufD hD
  have hFc := free_of hDc hS hA
  refine ret_iJ (ws1 := (WXs cyI cyO a g' ++ cO cyL ao o') ++ WMs cyI am g') (r := g'.2.2.2.2.2.2.2.2.1) (run_VL (q := (RX6, TX6, 8)) (n := 0) (As := []) (rest := []) ⟨hx, hb, hml, hown, htsL⟩ (hT _) gL_law_X6_thrown rfl ht1 ht2 (by decide +kernel) ⟨(by show rt.frames + 1 ≤ 11; omega), (by show 8 + (1 + 11) + rt.locals ≤ 402; omega)⟩ hKK hPc hDc (ci := 6) (q0 := 0) rfl (WMs_recv am g') rfl hl.1 rfl (Nat.le_of_ble_eq_true rfl) dL_law_721 ⟨(by show 36 + j + 1 + 0 + 0 ≤ 650194; omega), (by show 518 + 6 * j + 6 + 0 + 0 ≤ 7145523; omega)⟩) hS hFc (fun H1 hk h => call_suf hP hD rfl hk h) (fun H locs hP hD hS => ?_)
  refine lv_iload hx hb dL_law_724 (lv_at hl 1 rfl) ?_
  refine lv_icmp_eq (tgt := 731) hx hb dL_law_726 (by decide) (fun _ => ?_) (fun h9 => absurd hth h9)
  refine lv_iload hx hb dL_law_731 (lv_at hl 1 rfl) ?_
  refine lv_if_ne (tgt := 748) hx hb dL_law_733 (by decide) (fun _ => ?_) (fun hk => ?_)
  · skip
    refine lv_goto (tgt := 1210) hx hb dL_law_748 (by decide) ?_
    refine W.widen (k := 36 + (j + 1)) (n := 518 + 6 * (j + 1)) (by omega) (by omega) ?_
    exact K g' o' _ _ _ hI' hP hD hS (lv_sub hl [2, 3, 4, 5, 6] rfl)
  · skip
    refine lv_aload_n hx hb dL_law_736 rfl (lv_at hl 5 rfl) ?_
    refine lv_iconst (v := 0) hx hb dL_law_737 (by decide) ?_
    refine va_lald hx hb hKK.1 hP 30 2 (WL_out a am ao g' g' o') rfl (i := 0) (vp_in_nI (n := 0) (by decide) (by decide)) dL_law_738 ?_
    refine lv_iload hx hb dL_law_739 (lv_at hl 0 rfl) ?_
    refine lv_i2l (v := b9.toInt64) hx hb dL_law_741 rfl ?_
    refine W.lcmp hx hb dL_law_742 ?_
    refine lv_tope (y := 0) (by rw [show o' (0 : Int32).toNatClampNeg = b9.toInt64 from hout hk]; exact lg_cmp_self _) ?_
    refine lv_if_eq (tgt := 748) hx hb dL_law_743 (by decide) (fun _ => ?_) (fun h9 => absurd rfl h9)
    refine lv_goto (tgt := 1210) hx hb dL_law_748 (by decide) ?_
    refine W.widen (k := 36 + (j + 1)) (n := 518 + 6 * (j + 1)) (by omega) (by omega) ?_
    exact K g' o' _ _ _ hI' hP hD hS (lv_sub hl [2, 3, 4, 5, 6] rfl)
