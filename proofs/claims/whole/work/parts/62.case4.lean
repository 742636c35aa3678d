/-! the law's cases -/
set_option maxHeartbeats 4000000 in
set_option maxRecDepth 100000 in
theorem law_14 {p : Program} {l : Launch} {e : Env} {s : State} {m : MethodId} {below : List Frame} {meth : Method} {c : Code} {b L : Nat} {xs : Nat → Int32} (hL : L ≤ 1536) (C0 : lw_At p s m meth c b L xs) (hlf : l.stackTraces = false) {D : va_G} {cyI cyO cyL : ClassId} (hKK : KK D cyI cyO cyL s) (hXE : XE (fun q : Nat => s.heap.size ≤ q) s s.heap) (hNC : NCW s) {a : AX} {am : AM} {ao : Nat} (hAd : Adr a) {j : Nat} (h3 : 3 * j + 3 ≤ L) {g : SG} {o : Nat → Int64} (hI : Inv a j g) {H : Heap} {locs : List Loc} {ls : Array Slot} (hP : va_P D vwCl ((WXs cyI cyO a g ++ cO cyL ao o) ++ WMs cyI am g) H) (hD : va_D (fun q : Nat => s.heap.size ≤ q) ((WXs cyI cyO a g ++ cO cyL ao o) ++ WMs cyI am g)) (hS : va_S (fun q : Nat => s.heap.size ≤ q) s.heap H locs) (hl : lv_has ls 9 [(0, .ref b), (1, .ref a.1), (2, .ref am.1), (3, .ref ao), (4, .int (nI (3 * j)))]) (K : ∀ (g2 : SG) (o2 : Nat → Int64) (H2 : Heap) (locs2 : List Loc) (ls2 : Array Slot), Inv a (j + 1) g2 → va_P D vwCl ((WXs cyI cyO a g2 ++ cO cyL ao o2) ++ WMs cyI am g2) H2 → va_D (fun q : Nat => s.heap.size ≤ q) ((WXs cyI cyO a g2 ++ cO cyL ao o2) ++ WMs cyI am g2) → va_S (fun q : Nat => s.heap.size ≤ q) s.heap H2 locs2 → lv_has ls2 9 [(0, .ref b), (1, .ref a.1), (2, .ref am.1), (3, .ref ao), (4, .int (nI (3 * j)))] → W p l e room_1 s m #[Value.ref b] below meth c H2 locs2 (36 + (j + 1)) (518 + 6 * (j + 1)) (lw_Z below #[Value.ref b] s) (F0 m 1210 ls2 [])) : W p l e room_1 s m #[Value.ref b] below meth c H locs (36 + j) (518 + 6 * j) (lw_Z below #[Value.ref b] s) (F0 m 1031 ls []) := by
  obtain ⟨hx, hb, hr, hml, hown, hts, hX, hbl, hlocks, hgv⟩ := C0
  have hj : j < 512 := by omega
  have hA : ∀ q : Nat, s.heap.size ≤ q → (fun q : Nat => s.heap.size ≤ q) q := fun _ h => h
  have hbA : ¬ (fun q : Nat => s.heap.size ≤ q) b := Nat.not_le.mpr hbl
  have htsL : ∀ w ∈ wsL_law, w.before #[Value.ref b] s = true := fun w h => hts w (wsL_law_in w h)
  have hown : s.vm.findClass RL = some m.cls := hown
  have hb : c.code = cL_law := hb
  obtain ⟨k, b9, g', o', hU, ⟨rm, hr1, hr2, hr3, hr4, hM⟩, hth, hout, hI'⟩ := st_foresee l D cyI cyO cyL hlf a am ao j hj g o hAd hI (xs (3 * j + 1)) (xs (3 * j + 2))
  refine lv_aload_n hx hb dL_law_1031 rfl (lv_at hl 1 rfl) ?_
  refine lv_aload_n hx hb dL_law_1032 rfl (lv_at hl 0 rfl) ?_
  refine lv_iload hx hb dL_law_1033 (lv_at hl 4 rfl) ?_
  refine lv_iconst (v := 1) hx hb dL_law_1035 (by decide) ?_
  refine lv_iadd hx hb dL_law_1036 ?_
  refine lv_tope (y := nI (3 * j + 1)) (nI_add (3 * j) 1) ?_
  refine va_sld hx hb hX hbl hbA hS (vp_in_nI (by omega) (by omega)) dL_law_1037 ?_
  refine lv_tope (y := xs (3 * j + 1)) (by rw [nI_clamp (by omega)]) ?_
  refine lv_aload_n hx hb dL_law_1038 rfl (lv_at hl 0 rfl) ?_
  refine lv_iload hx hb dL_law_1039 (lv_at hl 4 rfl) ?_
  refine lv_iconst (v := 2) hx hb dL_law_1041 (by decide) ?_
  refine lv_iadd hx hb dL_law_1042 ?_
  refine lv_tope (y := nI (3 * j + 2)) (nI_add (3 * j) 2) ?_
  refine va_sld hx hb hX hbl hbA hS (vp_in_nI (by omega) (by omega)) dL_law_1043 ?_
  refine lv_tope (y := xs (3 * j + 2)) (by rw [nI_clamp (by omega)]) ?_
  refine lv_aload_n hx hb dL_law_1044 rfl (lv_at hl 3 rfl) ?_
  have hPc := preP hP
  have hDc := va_D_left hD
  have hFc := free_of hDc hS hA
  have hXc := (hXE.kept hS.2.1).narrow hFc
  refine ret_iJ (ws1 := (WXs cyI cyO a g' ++ cO cyL ao o') ++ WMs cyI am g) (r := k) (run_SU (n := 4) (As := [.ref a.1, .int (xs (3 * j + 1)), .int (xs (3 * j + 2)), .ref ao]) (rest := []) ⟨hx, hb, hml, hown, htsL⟩ hU gL_law_L_foresee rfl (by decide +kernel) ⟨Nat.le_of_ble_eq_true rfl, Nat.le_of_ble_eq_true rfl⟩ hKK hXc hNC hPc hDc rfl hl.1 rfl (Nat.le_of_ble_eq_true rfl) dL_law_1045 ⟨(by show 36 + j + 1 ≤ 650194; omega), (by show 518 + 6 * j + 6 ≤ 7145523; omega)⟩) hS hFc (fun H1 hk h => call_pre hP hD rfl hk h) (fun H locs hP hD hS => ?_)
  refine lv_istore (lv' := [(5, .int k), (0, .ref b), (1, .ref a.1), (2, .ref am.1), (3, .ref ao), (4, .int (nI (3 * j)))]) hx hb dL_law_1048 hl (by decide) rfl (fun ls hl => ?_)
  refine lv_aload_n hx hb dL_law_1050 rfl (lv_at hl 3 rfl) ?_
  refine lv_aload_n hx hb dL_law_1051 rfl (lv_at hl 1 rfl) ?_
  refine lv_iload hx hb dL_law_1052 (lv_at hl 5 rfl) ?_
  refine lv_iconst (v := 1) hx hb dL_law_1054 (by decide) ?_
  refine lv_iadd hx hb dL_law_1055 ?_
  refine lv_tope (y := nI (3 * j + 1)) (nI_add (3 * j) 1) ?_
  refine va_sld hx hb hX hbl hbA hS (vp_in_nI (by omega) (by omega)) dL_law_1056 ?_
  refine lv_tope (y := xs (3 * j + 1)) (by rw [nI_clamp (by omega)]) ?_
  refine lv_aload_n hx hb dL_law_1057 rfl (lv_at hl 1 rfl) ?_
  refine lv_iload hx hb dL_law_1058 (lv_at hl 5 rfl) ?_
  refine lv_iconst (v := 2) hx hb dL_law_1060 (by decide) ?_
  refine lv_iadd hx hb dL_law_1061 ?_
  refine lv_tope (y := nI (3 * j + 2)) (nI_add (3 * j) 2) ?_
  refine va_sld hx hb hX hbl hbA hS (vp_in_nI (by omega) (by omega)) dL_law_1062 ?_
  refine lv_tope (y := xs (3 * j + 2)) (by rw [nI_clamp (by omega)]) ?_
  have hPc := sufP hP
  have hDc := sufD hD
  have hFc := free_of hDc hS hA
  refine ret_iJ (ws1 := (WXs cyI cyO a g' ++ cO cyL ao o') ++ WMs cyI am g') (r := b9) (run_VL (q := (RX6, TX6, 8)) (n := 2) (As := [.int (xs (3 * j + 1)), .int (xs (3 * j + 2))]) (rest := []) ⟨hx, hb, hml, hown, htsL⟩ (hM _) gL_law_X6_foresee rfl hr1 hr2 (by decide +kernel) ⟨(by show rm.frames + 1 ≤ 11; omega), (by show 8 + (3 + 11) + rm.locals ≤ 402; omega)⟩ hKK hPc hDc (ci := 6) (q0 := 0) rfl (WMs_recv am g) rfl hl.1 rfl (Nat.le_of_ble_eq_true rfl) dL_law_1063 ⟨(by show 36 + j + 1 + 0 ≤ 650194; omega), (by show 518 + 6 * j + 6 + 0 ≤ 7145523; omega)⟩) hS hFc (fun H1 hk h => call_suf hP hD rfl hk h) (fun H locs hP hD hS => ?_)
  refine lv_istore (lv' := [(6, .int b9), (5, .int k), (0, .ref b), (1, .ref a.1), (2, .ref am.1), (3, .ref ao), (4, .int (nI (3 * j)))]) hx hb dL_law_1066 hl (by decide) rfl (fun ls hl => ?_)
  refine lv_aload_n hx hb dL_law_1068 rfl (lv_at hl 4 rfl) ?_
  obtain ⟨rt, ht1, ht2, ht3, ht4, hT⟩ := gi_thrown l D cyI cyO cyL am g'
  have hPc := sufP hP
  have hDc := sufD hD
  have hFc := free_of hDc hS hA
  refine ret_iJ (ws1 := (WXs cyI cyO a g' ++ cO cyL ao o') ++ WMs cyI am g') (r := g'.2.2.2.2.2.2.2.2.1) (run_VL (q := (RX6, TX6, 8)) (n := 0) (As := []) (rest := []) ⟨hx, hb, hml, hown, htsL⟩ (hT _) gL_law_X6_thrown rfl ht1 ht2 (by decide +kernel) ⟨(by show rt.frames + 1 ≤ 11; omega), (by show 8 + (1 + 11) + rt.locals ≤ 402; omega)⟩ hKK hPc hDc (ci := 6) (q0 := 0) rfl (WMs_recv am g') rfl hl.1 rfl (Nat.le_of_ble_eq_true rfl) dL_law_1069 ⟨(by show 36 + j + 1 + 0 + 0 ≤ 650194; omega), (by show 518 + 6 * j + 6 + 0 + 0 ≤ 7145523; omega)⟩) hS hFc (fun H1 hk h => call_suf hP hD rfl hk h) (fun H locs hP hD hS => ?_)
  refine lv_iload hx hb dL_law_1072 (lv_at hl 1 rfl) ?_
  refine lv_icmp_eq (tgt := 1079) hx hb dL_law_1074 (by decide) (fun _ => ?_) (fun h9 => absurd hth h9)
  refine lv_iload hx hb dL_law_1079 (lv_at hl 1 rfl) ?_
  refine lv_if_ne (tgt := 1096) hx hb dL_law_1081 (by decide) (fun _ => ?_) (fun hk => ?_)
  · skip
    refine lv_goto (tgt := 1210) hx hb dL_law_1096 (by decide) ?_
    refine W.widen (k := 36 + (j + 1)) (n := 518 + 6 * (j + 1)) (by omega) (by omega) ?_
    exact K g' o' _ _ _ hI' hP hD hS (lv_sub hl [2, 3, 4, 5, 6] rfl)
  · skip
    refine lv_aload_n hx hb dL_law_1084 rfl (lv_at hl 5 rfl) ?_
    refine lv_iconst (v := 0) hx hb dL_law_1085 (by decide) ?_
    refine va_lald hx hb hKK.1 hP 30 2 (WL_out a am ao g' g' o') rfl (i := 0) (vp_in_nI (n := 0) (by decide) (by decide)) dL_law_1086 ?_
    refine lv_iload hx hb dL_law_1087 (lv_at hl 0 rfl) ?_
    refine lv_i2l (v := b9.toInt64) hx hb dL_law_1089 rfl ?_
    refine W.lcmp hx hb dL_law_1090 ?_
    refine lv_tope (y := 0) (by rw [show o' (0 : Int32).toNatClampNeg = b9.toInt64 from hout hk]; exact lg_cmp_self _) ?_
    refine lv_if_eq (tgt := 1096) hx hb dL_law_1091 (by decide) (fun _ => ?_) (fun h9 => absurd rfl h9)
    refine lv_goto (tgt := 1210) hx hb dL_law_1096 (by decide) ?_
    refine W.widen (k := 36 + (j + 1)) (n := 518 + 6 * (j + 1)) (by omega) (by omega) ?_
    exact K g' o' _ _ _ hI' hP hD hS (lv_sub hl [2, 3, 4, 5, 6] rfl)
set_option maxHeartbeats 4000000 in
set_option maxRecDepth 100000 in
theorem law_15 {p : Program} {l : Launch} {e : Env} {s : State} {m : MethodId} {below : List Frame} {meth : Method} {c : Code} {b L : Nat} {xs : Nat → Int32} (hL : L ≤ 1536) (C0 : lw_At p s m meth c b L xs) (hlf : l.stackTraces = false) {D : va_G} {cyI cyO cyL : ClassId} (hKK : KK D cyI cyO cyL s) (hXE : XE (fun q : Nat => s.heap.size ≤ q) s s.heap) (hNC : NCW s) {a : AX} {am : AM} {ao : Nat} (hAd : Adr a) {j : Nat} (h3 : 3 * j + 3 ≤ L) {g : SG} {o : Nat → Int64} (hI : Inv a j g) {H : Heap} {locs : List Loc} {ls : Array Slot} (hP : va_P D vwCl ((WXs cyI cyO a g ++ cO cyL ao o) ++ WMs cyI am g) H) (hD : va_D (fun q : Nat => s.heap.size ≤ q) ((WXs cyI cyO a g ++ cO cyL ao o) ++ WMs cyI am g)) (hS : va_S (fun q : Nat => s.heap.size ≤ q) s.heap H locs) (hl : lv_has ls 9 [(0, .ref b), (1, .ref a.1), (2, .ref am.1), (3, .ref ao), (4, .int (nI (3 * j)))]) (K : ∀ (g2 : SG) (o2 : Nat → Int64) (H2 : Heap) (locs2 : List Loc) (ls2 : Array Slot), Inv a (j + 1) g2 → va_P D vwCl ((WXs cyI cyO a g2 ++ cO cyL ao o2) ++ WMs cyI am g2) H2 → va_D (fun q : Nat => s.heap.size ≤ q) ((WXs cyI cyO a g2 ++ cO cyL ao o2) ++ WMs cyI am g2) → va_S (fun q : Nat => s.heap.size ≤ q) s.heap H2 locs2 → lv_has ls2 9 [(0, .ref b), (1, .ref a.1), (2, .ref am.1), (3, .ref ao), (4, .int (nI (3 * j)))] → W p l e room_1 s m #[Value.ref b] below meth c H2 locs2 (36 + (j + 1)) (518 + 6 * (j + 1)) (lw_Z below #[Value.ref b] s) (F0 m 1210 ls2 [])) : W p l e room_1 s m #[Value.ref b] below meth c H locs (36 + j) (518 + 6 * j) (lw_Z below #[Value.ref b] s) (F0 m 1099 ls []) := by
  obtain ⟨hx, hb, hr, hml, hown, hts, hX, hbl, hlocks, hgv⟩ := C0
  have hj : j < 512 := by omega
  have hA : ∀ q : Nat, s.heap.size ≤ q → (fun q : Nat => s.heap.size ≤ q) q := fun _ h => h
  have hbA : ¬ (fun q : Nat => s.heap.size ≤ q) b := Nat.not_le.mpr hbl
  have htsL : ∀ w ∈ wsL_law, w.before #[Value.ref b] s = true := fun w h => hts w (wsL_law_in w h)
  have hown : s.vm.findClass RL = some m.cls := hown
  have hb : c.code = cL_law := hb
  obtain ⟨k, b9, g', o', hU, ⟨rm, hr1, hr2, hr3, hr4, hM⟩, hth, hout, hI'⟩ := st_advise l D cyI cyO cyL hlf a am ao j hj g o hAd hI (xs (3 * j + 1))
  refine lv_aload_n hx hb dL_law_1099 rfl (lv_at hl 1 rfl) ?_
  refine lv_aload_n hx hb dL_law_1100 rfl (lv_at hl 0 rfl) ?_
  refine lv_iload hx hb dL_law_1101 (lv_at hl 4 rfl) ?_
  refine lv_iconst (v := 1) hx hb dL_law_1103 (by decide) ?_
  refine lv_iadd hx hb dL_law_1104 ?_
  refine lv_tope (y := nI (3 * j + 1)) (nI_add (3 * j) 1) ?_
  refine va_sld hx hb hX hbl hbA hS (vp_in_nI (by omega) (by omega)) dL_law_1105 ?_
  refine lv_tope (y := xs (3 * j + 1)) (by rw [nI_clamp (by omega)]) ?_
  refine lv_aload_n hx hb dL_law_1106 rfl (lv_at hl 3 rfl) ?_
  have hPc := preP hP
  have hDc := va_D_left hD
  have hFc := free_of hDc hS hA
  have hXc := (hXE.kept hS.2.1).narrow hFc
  refine ret_iJ (ws1 := (WXs cyI cyO a g' ++ cO cyL ao o') ++ WMs cyI am g) (r := k) (run_SU (n := 3) (As := [.ref a.1, .int (xs (3 * j + 1)), .ref ao]) (rest := []) ⟨hx, hb, hml, hown, htsL⟩ hU gL_law_L_advise rfl (by decide +kernel) ⟨Nat.le_of_ble_eq_true rfl, Nat.le_of_ble_eq_true rfl⟩ hKK hXc hNC hPc hDc rfl hl.1 rfl (Nat.le_of_ble_eq_true rfl) dL_law_1107 ⟨(by show 36 + j + 1 ≤ 650194; omega), (by show 518 + 6 * j + 6 ≤ 7145523; omega)⟩) hS hFc (fun H1 hk h => call_pre hP hD rfl hk h) (fun H locs hP hD hS => ?_)
  refine lv_istore (lv' := [(5, .int k), (0, .ref b), (1, .ref a.1), (2, .ref am.1), (3, .ref ao), (4, .int (nI (3 * j)))]) hx hb dL_law_1110 hl (by decide) rfl (fun ls hl => ?_)
  refine lv_aload_n hx hb dL_law_1112 rfl (lv_at hl 3 rfl) ?_
  refine lv_aload_n hx hb dL_law_1113 rfl (lv_at hl 1 rfl) ?_
  refine lv_iload hx hb dL_law_1114 (lv_at hl 5 rfl) ?_
  refine lv_iconst (v := 1) hx hb dL_law_1116 (by decide) ?_
  refine lv_iadd hx hb dL_law_1117 ?_
  refine lv_tope (y := nI (3 * j + 1)) (nI_add (3 * j) 1) ?_
  refine va_sld hx hb hX hbl hbA hS (vp_in_nI (by omega) (by omega)) dL_law_1118 ?_
  refine lv_tope (y := xs (3 * j + 1)) (by rw [nI_clamp (by omega)]) ?_
  have hPc := sufP hP
  have hDc := sufD hD
  have hFc := free_of hDc hS hA
  refine ret_iJ (ws1 := (WXs cyI cyO a g' ++ cO cyL ao o') ++ WMs cyI am g') (r := b9) (run_VL (q := (RX6, TX6, 8)) (n := 1) (As := [.int (xs (3 * j + 1))]) (rest := []) ⟨hx, hb, hml, hown, htsL⟩ (hM _) gL_law_X6_advise rfl hr1 hr2 (by decide +kernel) ⟨(by show rm.frames + 1 ≤ 11; omega), (by show 8 + (6 + 11) + rm.locals ≤ 402; omega)⟩ hKK hPc hDc (ci := 6) (q0 := 0) rfl (WMs_recv am g) rfl hl.1 rfl (Nat.le_of_ble_eq_true rfl) dL_law_1119 ⟨(by show 36 + j + 1 + 0 ≤ 650194; omega), (by show 518 + 6 * j + 6 + 0 ≤ 7145523; omega)⟩) hS hFc (fun H1 hk h => call_suf hP hD rfl hk h) (fun H locs hP hD hS => ?_)
  refine lv_istore (lv' := [(6, .int b9), (5, .int k), (0, .ref b), (1, .ref a.1), (2, .ref am.1), (3, .ref ao), (4, .int (nI (3 * j)))]) hx hb dL_law_1122 hl (by decide) rfl (fun ls hl => ?_)
  refine lv_aload_n hx hb dL_law_1124 rfl (lv_at hl 4 rfl) ?_
  obtain ⟨rt, ht1, ht2, ht3, ht4, hT⟩ := gi_thrown l D cyI cyO cyL am g'
  have hPc := sufP hP
  have hDc := sufD hD
  have hFc := free_of hDc hS hA
  refine ret_iJ (ws1 := (WXs cyI cyO a g' ++ cO cyL ao o') ++ WMs cyI am g') (r := g'.2.2.2.2.2.2.2.2.1) (run_VL (q := (RX6, TX6, 8)) (n := 0) (As := []) (rest := []) ⟨hx, hb, hml, hown, htsL⟩ (hT _) gL_law_X6_thrown rfl ht1 ht2 (by decide +kernel) ⟨(by show rt.frames + 1 ≤ 11; omega), (by show 8 + (1 + 11) + rt.locals ≤ 402; omega)⟩ hKK hPc hDc (ci := 6) (q0 := 0) rfl (WMs_recv am g') rfl hl.1 rfl (Nat.le_of_ble_eq_true rfl) dL_law_1125 ⟨(by show 36 + j + 1 + 0 + 0 ≤ 650194; omega), (by show 518 + 6 * j + 6 + 0 + 0 ≤ 7145523; omega)⟩) hS hFc (fun H1 hk h => call_suf hP hD rfl hk h) (fun H locs hP hD hS => ?_)
  refine lv_iload hx hb dL_law_1128 (lv_at hl 1 rfl) ?_
  refine lv_icmp_eq (tgt := 1135) hx hb dL_law_1130 (by decide) (fun _ => ?_) (fun h9 => absurd hth h9)
  refine lv_iload hx hb dL_law_1135 (lv_at hl 1 rfl) ?_
  refine lv_if_ne (tgt := 1152) hx hb dL_law_1137 (by decide) (fun _ => ?_) (fun hk => ?_)
  · skip
    refine lv_goto (tgt := 1210) hx hb dL_law_1152 (by decide) ?_
    refine W.widen (k := 36 + (j + 1)) (n := 518 + 6 * (j + 1)) (by omega) (by omega) ?_
    exact K g' o' _ _ _ hI' hP hD hS (lv_sub hl [2, 3, 4, 5, 6] rfl)
  · skip
    refine lv_aload_n hx hb dL_law_1140 rfl (lv_at hl 5 rfl) ?_
    refine lv_iconst (v := 0) hx hb dL_law_1141 (by decide) ?_
    refine va_lald hx hb hKK.1 hP 30 2 (WL_out a am ao g' g' o') rfl (i := 0) (vp_in_nI (n := 0) (by decide) (by decide)) dL_law_1142 ?_
    refine lv_iload hx hb dL_law_1143 (lv_at hl 0 rfl) ?_
    refine lv_i2l (v := b9.toInt64) hx hb dL_law_1145 rfl ?_
    refine W.lcmp hx hb dL_law_1146 ?_
    refine lv_tope (y := 0) (by rw [show o' (0 : Int32).toNatClampNeg = b9.toInt64 from hout hk]; exact lg_cmp_self _) ?_
    refine lv_if_eq (tgt := 1152) hx hb dL_law_1147 (by decide) (fun _ => ?_) (fun h9 => absurd rfl h9)
    refine lv_goto (tgt := 1210) hx hb dL_law_1152 (by decide) ?_
    refine W.widen (k := 36 + (j + 1)) (n := 518 + 6 * (j + 1)) (by omega) (by omega) ?_
    exact K g' o' _ _ _ hI' hP hD hS (lv_sub hl [2, 3, 4, 5, 6] rfl)
set_option maxHeartbeats 4000000 in
set_option maxRecDepth 100000 in
theorem law_16 {p : Program} {l : Launch} {e : Env} {s : State} {m : MethodId} {below : List Frame} {meth : Method} {c : Code} {b L : Nat} {xs : Nat → Int32} (hL : L ≤ 1536) (C0 : lw_At p s m meth c b L xs) (hlf : l.stackTraces = false) {D : va_G} {cyI cyO cyL : ClassId} (hKK : KK D cyI cyO cyL s) (hXE : XE (fun q : Nat => s.heap.size ≤ q) s s.heap) (hNC : NCW s) {a : AX} {am : AM} {ao : Nat} (hAd : Adr a) {j : Nat} (h3 : 3 * j + 3 ≤ L) {g : SG} {o : Nat → Int64} (hI : Inv a j g) {H : Heap} {locs : List Loc} {ls : Array Slot} (hP : va_P D vwCl ((WXs cyI cyO a g ++ cO cyL ao o) ++ WMs cyI am g) H) (hD : va_D (fun q : Nat => s.heap.size ≤ q) ((WXs cyI cyO a g ++ cO cyL ao o) ++ WMs cyI am g)) (hS : va_S (fun q : Nat => s.heap.size ≤ q) s.heap H locs) (hl : lv_has ls 9 [(0, .ref b), (1, .ref a.1), (2, .ref am.1), (3, .ref ao), (4, .int (nI (3 * j)))]) (K : ∀ (g2 : SG) (o2 : Nat → Int64) (H2 : Heap) (locs2 : List Loc) (ls2 : Array Slot), Inv a (j + 1) g2 → va_P D vwCl ((WXs cyI cyO a g2 ++ cO cyL ao o2) ++ WMs cyI am g2) H2 → va_D (fun q : Nat => s.heap.size ≤ q) ((WXs cyI cyO a g2 ++ cO cyL ao o2) ++ WMs cyI am g2) → va_S (fun q : Nat => s.heap.size ≤ q) s.heap H2 locs2 → lv_has ls2 9 [(0, .ref b), (1, .ref a.1), (2, .ref am.1), (3, .ref ao), (4, .int (nI (3 * j)))] → W p l e room_1 s m #[Value.ref b] below meth c H2 locs2 (36 + (j + 1)) (518 + 6 * (j + 1)) (lw_Z below #[Value.ref b] s) (F0 m 1210 ls2 [])) : W p l e room_1 s m #[Value.ref b] below meth c H locs (36 + j) (518 + 6 * j) (lw_Z below #[Value.ref b] s) (F0 m 1155 ls []) := by
  obtain ⟨hx, hb, hr, hml, hown, hts, hX, hbl, hlocks, hgv⟩ := C0
  have hj : j < 512 := by omega
  have hA : ∀ q : Nat, s.heap.size ≤ q → (fun q : Nat => s.heap.size ≤ q) q := fun _ h => h
  have hbA : ¬ (fun q : Nat => s.heap.size ≤ q) b := Nat.not_le.mpr hbl
  have htsL : ∀ w ∈ wsL_law, w.before #[Value.ref b] s = true := fun w h => hts w (wsL_law_in w h)
  have hown : s.vm.findClass RL = some m.cls := hown
  have hb : c.code = cL_law := hb
  obtain ⟨r, g', ⟨rm, hr1, hr2, hr3, hr4, hC⟩, ⟨rn, hn1, hn2, hn3, hn4, hM⟩, hI', -⟩ := st_mean l D cyI cyO cyL a am j g hI
  refine lv_aload_n hx hb dL_law_1155 rfl (lv_at hl 1 rfl) ?_
  have hP2 : va_P D vwCl (WXs cyI cyO a g ++ (cO cyL ao o ++ WMs cyI am g)) H := by rw [← List.append_assoc]; exact hP
  have hD2 : va_D (fun q : Nat => s.heap.size ≤ q) (WXs cyI cyO a g ++ (cO cyL ao o ++ WMs cyI am g)) := by rw [← List.append_assoc]; exact hD
  have hPc := preP hP2
  have hDc := va_D_left hD2
  have hFc := free_of hDc hS hA
  refine ret_dJ (ws1 := WXs cyI cyO a g' ++ (cO cyL ao o ++ WMs cyI am g)) (r := r) (run_VL (q := (RX5, TX5, 3)) (n := 0) (As := []) (rest := []) ⟨hx, hb, hml, hown, htsL⟩ (hC _) gL_law_X5_mean rfl hr1 hr2 (by decide +kernel) ⟨(by show rm.frames + 1 ≤ 11; omega), (by show 8 + (1 + 11) + rm.locals ≤ 402; omega)⟩ hKK hPc hDc (ci := 5) (q0 := 0) rfl (WXs_recv a g) rfl hl.1 rfl (Nat.le_of_ble_eq_true rfl) dL_law_1156 ⟨(by show 36 + j + 0 ≤ 650194; omega), (by show 518 + 6 * j + 0 ≤ 7145523; omega)⟩) hS hFc (fun H1 hk h => call_pre hP2 hD2 rfl hk h) (fun H locs hP hD hS => ?_)
  have hP : va_P D vwCl ((WXs cyI cyO a g' ++ cO cyL ao o) ++ WMs cyI am g) H := by rw [List.append_assoc]; exact hP
  have hD : va_D (fun q : Nat => s.heap.size ≤ q) ((WXs cyI cyO a g' ++ cO cyL ao o) ++ WMs cyI am g) := by rw [List.append_assoc]; exact hD
  refine lv_dstore (lv' := [(5, .double r), (0, .ref b), (1, .ref a.1), (2, .ref am.1), (3, .ref ao), (4, .int (nI (3 * j)))]) hx hb dL_law_1159 hl (by decide) rfl (fun ls hl => ?_)
  refine lv_aload_n hx hb dL_law_1161 rfl (lv_at hl 3 rfl) ?_
  have hPc := sufP hP
  have hDc := sufD hD
  have hFc := free_of hDc hS hA
  refine ret_dJ (ws1 := (WXs cyI cyO a g' ++ cO cyL ao o) ++ WMs cyI am g') (r := r) (run_VL (q := (RX6, TX6, 8)) (n := 0) (As := []) (rest := []) ⟨hx, hb, hml, hown, htsL⟩ (hM _) gL_law_X6_mean rfl hn1 hn2 (by decide +kernel) ⟨(by show rn.frames + 1 ≤ 11; omega), (by show 8 + (1 + 11) + rn.locals ≤ 402; omega)⟩ hKK hPc hDc (ci := 6) (q0 := 0) rfl (WMs_recv am g) rfl hl.1 rfl (Nat.le_of_ble_eq_true rfl) dL_law_1162 ⟨(by show 36 + j + 0 + 0 ≤ 650194; omega), (by show 518 + 6 * j + 0 + 0 ≤ 7145523; omega)⟩) hS hFc (fun H1 hk h => call_suf hP hD rfl hk h) (fun H locs hP hD hS => ?_)
  refine lv_dstore (lv' := [(7, .double r), (5, .double r), (0, .ref b), (1, .ref a.1), (2, .ref am.1), (3, .ref ao), (4, .int (nI (3 * j)))]) hx hb dL_law_1165 hl (by decide) rfl (fun ls hl => ?_)
  refine lv_dload hx hb dL_law_1167 (lv_at hl 1 rfl) ?_
  refine lv_dload hx hb dL_law_1169 (lv_at hl 0 rfl) ?_
  refine lv_dcmp hx hb dL_law_1171 ?_
  refine lv_if_eq (tgt := 1193) hx hb dL_law_1172 (by decide) (fun _ => ?_) (fun hne => ?_)
  · skip
    refine lv_goto (tgt := 1210) hx hb dL_law_1193 (by decide) ?_
    refine W.widen (k := 36 + (j + 1)) (n := 518 + 6 * (j + 1)) (by omega) (by omega) ?_
    exact K g' o _ _ _ hI' hP hD hS (lv_sub hl [2, 3, 4, 5, 6] rfl)
  · skip
    refine lv_dload hx hb dL_law_1175 (lv_at hl 1 rfl) ?_
    refine lv_dload hx hb dL_law_1177 (lv_at hl 1 rfl) ?_
    refine lv_dcmp hx hb dL_law_1179 ?_
    refine lv_if_eq (tgt := 1191) hx hb dL_law_1180 (by decide) (fun h9 => absurd h9 hne) (fun _ => ?_)
    refine lv_dload hx hb dL_law_1183 (lv_at hl 0 rfl) ?_
    refine lv_dload hx hb dL_law_1185 (lv_at hl 0 rfl) ?_
    refine lv_dcmp hx hb dL_law_1187 ?_
    refine lv_if_ne (tgt := 1193) hx hb dL_law_1188 (by decide) (fun _ => ?_) (fun h9 => absurd h9 hne)
    refine lv_goto (tgt := 1210) hx hb dL_law_1193 (by decide) ?_
    refine W.widen (k := 36 + (j + 1)) (n := 518 + 6 * (j + 1)) (by omega) (by omega) ?_
    exact K g' o _ _ _ hI' hP hD hS (lv_sub hl [2, 3, 4, 5, 6] rfl)
set_option maxHeartbeats 4000000 in
set_option maxRecDepth 100000 in
theorem law_17 {p : Program} {l : Launch} {e : Env} {s : State} {m : MethodId} {below : List Frame} {meth : Method} {c : Code} {b L : Nat} {xs : Nat → Int32} (hL : L ≤ 1536) (C0 : lw_At p s m meth c b L xs) (hlf : l.stackTraces = false) {D : va_G} {cyI cyO cyL : ClassId} (hKK : KK D cyI cyO cyL s) (hXE : XE (fun q : Nat => s.heap.size ≤ q) s s.heap) (hNC : NCW s) {a : AX} {am : AM} {ao : Nat} (hAd : Adr a) {j : Nat} (h3 : 3 * j + 3 ≤ L) {g : SG} {o : Nat → Int64} (hI : Inv a j g) {H : Heap} {locs : List Loc} {ls : Array Slot} (hP : va_P D vwCl ((WXs cyI cyO a g ++ cO cyL ao o) ++ WMs cyI am g) H) (hD : va_D (fun q : Nat => s.heap.size ≤ q) ((WXs cyI cyO a g ++ cO cyL ao o) ++ WMs cyI am g)) (hS : va_S (fun q : Nat => s.heap.size ≤ q) s.heap H locs) (hl : lv_has ls 9 [(0, .ref b), (1, .ref a.1), (2, .ref am.1), (3, .ref ao), (4, .int (nI (3 * j)))]) (K : ∀ (g2 : SG) (o2 : Nat → Int64) (H2 : Heap) (locs2 : List Loc) (ls2 : Array Slot), Inv a (j + 1) g2 → va_P D vwCl ((WXs cyI cyO a g2 ++ cO cyL ao o2) ++ WMs cyI am g2) H2 → va_D (fun q : Nat => s.heap.size ≤ q) ((WXs cyI cyO a g2 ++ cO cyL ao o2) ++ WMs cyI am g2) → va_S (fun q : Nat => s.heap.size ≤ q) s.heap H2 locs2 → lv_has ls2 9 [(0, .ref b), (1, .ref a.1), (2, .ref am.1), (3, .ref ao), (4, .int (nI (3 * j)))] → W p l e room_1 s m #[Value.ref b] below meth c H2 locs2 (36 + (j + 1)) (518 + 6 * (j + 1)) (lw_Z below #[Value.ref b] s) (F0 m 1210 ls2 [])) : W p l e room_1 s m #[Value.ref b] below meth c H locs (36 + j) (518 + 6 * j) (lw_Z below #[Value.ref b] s) (F0 m 1196 ls []) := by
  obtain ⟨hx, hb, hr, hml, hown, hts, hX, hbl, hlocks, hgv⟩ := C0
  have hj : j < 512 := by omega
  have hA : ∀ q : Nat, s.heap.size ≤ q → (fun q : Nat => s.heap.size ≤ q) q := fun _ h => h
  have hbA : ¬ (fun q : Nat => s.heap.size ≤ q) b := Nat.not_le.mpr hbl
  have htsL : ∀ w ∈ wsL_law, w.before #[Value.ref b] s = true := fun w h => hts w (wsL_law_in w h)
  have hown : s.vm.findClass RL = some m.cls := hown
  have hb : c.code = cL_law := hb
  obtain ⟨r, g', ⟨rm, hr1, hr2, hr3, hr4, hC⟩, ⟨rn, hn1, hn2, hn3, hn4, hM⟩, hI'⟩ := st_digest l D cyI cyO cyL a am j g hI
  refine lv_aload_n hx hb dL_law_1196 rfl (lv_at hl 1 rfl) ?_
  have hP2 : va_P D vwCl (WXs cyI cyO a g ++ (cO cyL ao o ++ WMs cyI am g)) H := by rw [← List.append_assoc]; exact hP
  have hD2 : va_D (fun q : Nat => s.heap.size ≤ q) (WXs cyI cyO a g ++ (cO cyL ao o ++ WMs cyI am g)) := by rw [← List.append_assoc]; exact hD
  have hPc := preP hP2
  have hDc := va_D_left hD2
  have hFc := free_of hDc hS hA
  refine ret_lJ (ws1 := WXs cyI cyO a g' ++ (cO cyL ao o ++ WMs cyI am g)) (r := r) (run_VL (q := (RX5, TX5, 3)) (n := 0) (As := []) (rest := []) ⟨hx, hb, hml, hown, htsL⟩ (hC _) gL_law_X5_digest rfl hr1 hr2 (by decide +kernel) ⟨(by show rm.frames + 1 ≤ 11; omega), (by show 8 + (5 + 11) + rm.locals ≤ 402; omega)⟩ hKK hPc hDc (ci := 5) (q0 := 0) rfl (WXs_recv a g) rfl hl.1 rfl (Nat.le_of_ble_eq_true rfl) dL_law_1197 ⟨(by show 36 + j + 0 ≤ 650194; omega), (by show 518 + 6 * j + 0 ≤ 7145523; omega)⟩) hS hFc (fun H1 hk h => call_pre hP2 hD2 rfl hk h) (fun H locs hP hD hS => ?_)
  have hP : va_P D vwCl ((WXs cyI cyO a g' ++ cO cyL ao o) ++ WMs cyI am g) H := by rw [List.append_assoc]; exact hP
  have hD : va_D (fun q : Nat => s.heap.size ≤ q) ((WXs cyI cyO a g' ++ cO cyL ao o) ++ WMs cyI am g) := by rw [List.append_assoc]; exact hD
  refine lv_aload_n hx hb dL_law_1200 rfl (lv_at hl 2 rfl) ?_
  have hPc := sufP hP
  have hDc := sufD hD
  have hFc := free_of hDc hS hA
  refine ret_lJ (ws1 := (WXs cyI cyO a g' ++ cO cyL ao o) ++ WMs cyI am g') (r := r) (run_VL (q := (RX6, TX6, 8)) (n := 0) (As := []) (rest := [.long r]) ⟨hx, hb, hml, hown, htsL⟩ (hM _) gL_law_X6_digest rfl hn1 hn2 (by decide +kernel) ⟨(by show rn.frames + 1 ≤ 11; omega), (by show 8 + (7 + 11) + rn.locals ≤ 402; omega)⟩ hKK hPc hDc (ci := 6) (q0 := 0) rfl (WMs_recv am g) rfl hl.1 rfl (Nat.le_of_ble_eq_true rfl) dL_law_1201 ⟨(by show 36 + j + 0 + 0 ≤ 650194; omega), (by show 518 + 6 * j + 0 + 0 ≤ 7145523; omega)⟩) hS hFc (fun H1 hk h => call_suf hP hD rfl hk h) (fun H locs hP hD hS => ?_)
  refine W.lcmp hx hb dL_law_1204 ?_
  refine lv_tope (y := 0) (lg_cmp_self _) ?_
  refine lv_if_eq (tgt := 1210) hx hb dL_law_1205 (by decide) (fun _ => ?_) (fun h9 => absurd rfl h9)
  refine W.widen (k := 36 + (j + 1)) (n := 518 + 6 * (j + 1)) (by omega) (by omega) ?_
  exact K g' o _ _ _ hI' hP hD hS (lv_sub hl [0, 1, 2, 3, 4] rfl)
