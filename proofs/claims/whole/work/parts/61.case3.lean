/-! the law's cases -/
set_option maxHeartbeats 4000000 in
set_option maxRecDepth 100000 in
theorem law_9 {p : Program} {l : Launch} {e : Env} {s : State} {m : MethodId} {below : List Frame} {meth : Method} {c : Code} {b L : Nat} {xs : Nat → Int32} (hL : L ≤ 1536) (C0 : lw_At p s m meth c b L xs) (hlf : l.stackTraces = false) {D : va_G} {cyI cyO cyL : ClassId} (hKK : KK D cyI cyO cyL s) (hXE : XE (fun q : Nat => s.heap.size ≤ q) s s.heap) (hNC : NCW s) {a : AX} {am : AM} {ao : Nat} (hAd : Adr a) {j : Nat} (h3 : 3 * j + 3 ≤ L) {g : SG} {o : Nat → Int64} (hI : Inv a j g) {H : Heap} {locs : List Loc} {ls : Array Slot} (hP : va_P D vwCl ((WXs cyI cyO a g ++ cO cyL ao o) ++ WMs cyI am g) H) (hD : va_D (fun q : Nat => s.heap.size ≤ q) ((WXs cyI cyO a g ++ cO cyL ao o) ++ WMs cyI am g)) (hS : va_S (fun q : Nat => s.heap.size ≤ q) s.heap H locs) (hl : lv_has ls 9 [(0, .ref b), (1, .ref a.1), (2, .ref am.1), (3, .ref ao), (4, .int (nI (3 * j)))]) (K : ∀ (g2 : SG) (o2 : Nat → Int64) (H2 : Heap) (locs2 : List Loc) (ls2 : Array Slot), Inv a (j + 1) g2 → va_P D vwCl ((WXs cyI cyO a g2 ++ cO cyL ao o2) ++ WMs cyI am g2) H2 → va_D (fun q : Nat => s.heap.size ≤ q) ((WXs cyI cyO a g2 ++ cO cyL ao o2) ++ WMs cyI am g2) → va_S (fun q : Nat => s.heap.size ≤ q) s.heap H2 locs2 → lv_has ls2 9 [(0, .ref b), (1, .ref a.1), (2, .ref am.1), (3, .ref ao), (4, .int (nI (3 * j)))] → W p l e room_1 s m #[Value.ref b] below meth c H2 locs2 (36 + (j + 1)) (518 + 6 * (j + 1)) (lw_Z below #[Value.ref b] s) (F0 m 1210 ls2 [])) : W p l e room_1 s m #[Value.ref b] below meth c H locs (36 + j) (518 + 6 * j) (lw_Z below #[Value.ref b] s) (F0 m 751 ls []) := by
  obtain ⟨hx, hb, hr, hml, hown, hts, hX, hbl, hlocks, hgv⟩ := C0
  have hj : j < 512 := by omega
  have hA : ∀ q : Nat, s.heap.size ≤ q → (fun q : Nat => s.heap.size ≤ q) q := fun _ h => h
  have hbA : ¬ (fun q : Nat => s.heap.size ≤ q) b := Nat.not_le.mpr hbl
  have htsL : ∀ w ∈ wsL_law, w.before #[Value.ref b] s = true := fun w h => hts w (wsL_law_in w h)
  have hown : s.vm.findClass RL = some m.cls := hown
  have hb : c.code = cL_law := hb
  obtain ⟨k, b9, g', o', hU, ⟨rm, hr1, hr2, hr3, hr4, hM⟩, hth, hout, hI'⟩ := st_cancel l D cyI cyO cyL hlf a am ao j hj g o hAd hI (xs (3 * j + 1))
  refine lv_aload_n hx hb dL_law_751 rfl (lv_at hl 1 rfl) ?_
  refine lv_aload_n hx hb dL_law_752 rfl (lv_at hl 0 rfl) ?_
  refine lv_iload hx hb dL_law_753 (lv_at hl 4 rfl) ?_
  refine lv_iconst (v := 1) hx hb dL_law_755 (by decide) ?_
  refine lv_iadd hx hb dL_law_756 ?_
  refine lv_tope (y := nI (3 * j + 1)) (nI_add (3 * j) 1) ?_
  refine va_sld hx hb hX hbl hbA hS (vp_in_nI (by omega) (by omega)) dL_law_757 ?_
  refine lv_tope (y := xs (3 * j + 1)) (by rw [nI_clamp (by omega)]) ?_
  refine lv_aload_n hx hb dL_law_758 rfl (lv_at hl 3 rfl) ?_
  have hPc := preP hP
  have hDc := va_D_left hD
  have hFc := free_of hDc hS hA
  have hXc := (hXE.kept hS.2.1).narrow hFc
  refine ret_iJ (ws1 := (WXs cyI cyO a g' ++ cO cyL ao o') ++ WMs cyI am g) (r := k) (run_SU (n := 3) (As := [.ref a.1, .int (xs (3 * j + 1)), .ref ao]) (rest := []) ⟨hx, hb, hml, hown, htsL⟩ hU gL_law_L_cancel rfl (by decide +kernel) ⟨Nat.le_of_ble_eq_true rfl, Nat.le_of_ble_eq_true rfl⟩ hKK hXc hNC hPc hDc rfl hl.1 rfl (Nat.le_of_ble_eq_true rfl) dL_law_759 ⟨(by show 36 + j + 1 ≤ 650194; omega), (by show 518 + 6 * j + 6 ≤ 7145523; omega)⟩) hS hFc (fun H1 hk h => call_pre hP hD rfl hk h) (fun H locs hP hD hS => ?_)
  refine lv_istore (lv' := [(5, .int k), (0, .ref b), (1, .ref a.1), (2, .ref am.1), (3, .ref ao), (4, .int (nI (3 * j)))]) hx hb dL_law_762 hl (by decide) rfl (fun ls hl => ?_)
  refine lv_aload_n hx hb dL_law_764 rfl (lv_at hl 3 rfl) ?_
  refine lv_aload_n hx hb dL_law_765 rfl (lv_at hl 1 rfl) ?_
  refine lv_iload hx hb dL_law_766 (lv_at hl 5 rfl) ?_
  refine lv_iconst (v := 1) hx hb dL_law_768 (by decide) ?_
  refine lv_iadd hx hb dL_law_769 ?_
  refine lv_tope (y := nI (3 * j + 1)) (nI_add (3 * j) 1) ?_
  refine va_sld hx hb hX hbl hbA hS (vp_in_nI (by omega) (by omega)) dL_law_770 ?_
  refine lv_tope (y := xs (3 * j + 1)) (by rw [nI_clamp (by omega)]) ?_
  have hPc := sufP hP
  have hDc := sufD hD
  have hFc := free_of hDc hS hA
  refine ret_iJ (ws1 := (WXs cyI cyO a g' ++ cO cyL ao o') ++ WMs cyI am g') (r := b9) (run_VL (q := (RX6, TX6, 8)) (n := 1) (As := [.int (xs (3 * j + 1))]) (rest := []) ⟨hx, hb, hml, hown, htsL⟩ (hM _) gL_law_X6_cancel rfl hr1 hr2 (by decide +kernel) ⟨(by show rm.frames + 1 ≤ 11; omega), (by show 8 + (3 + 11) + rm.locals ≤ 402; omega)⟩ hKK hPc hDc (ci := 6) (q0 := 0) rfl (WMs_recv am g) rfl hl.1 rfl (Nat.le_of_ble_eq_true rfl) dL_law_771 ⟨(by show 36 + j + 1 + 0 ≤ 650194; omega), (by show 518 + 6 * j + 6 + 0 ≤ 7145523; omega)⟩) hS hFc (fun H1 hk h => call_suf hP hD rfl hk h) (fun H locs hP hD hS => ?_)
  refine lv_istore (lv' := [(6, .int b9), (5, .int k), (0, .ref b), (1, .ref a.1), (2, .ref am.1), (3, .ref ao), (4, .int (nI (3 * j)))]) hx hb dL_law_774 hl (by decide) rfl (fun ls hl => ?_)
  refine lv_aload_n hx hb dL_law_776 rfl (lv_at hl 4 rfl) ?_
  obtain ⟨rt, ht1, ht2, ht3, ht4, hT⟩ := gi_thrown l D cyI cyO cyL am g'
  have hPc := sufP hP
  have hDc := sufD hD
  have hFc := free_of hDc hS hA
  refine ret_iJ (ws1 := (WXs cyI cyO a g' ++ cO cyL ao o') ++ WMs cyI am g') (r := g'.2.2.2.2.2.2.2.2.1) (run_VL (q := (RX6, TX6, 8)) (n := 0) (As := []) (rest := []) ⟨hx, hb, hml, hown, htsL⟩ (hT _) gL_law_X6_thrown rfl ht1 ht2 (by decide +kernel) ⟨(by show rt.frames + 1 ≤ 11; omega), (by show 8 + (1 + 11) + rt.locals ≤ 402; omega)⟩ hKK hPc hDc (ci := 6) (q0 := 0) rfl (WMs_recv am g') rfl hl.1 rfl (Nat.le_of_ble_eq_true rfl) dL_law_777 ⟨(by show 36 + j + 1 + 0 + 0 ≤ 650194; omega), (by show 518 + 6 * j + 6 + 0 + 0 ≤ 7145523; omega)⟩) hS hFc (fun H1 hk h => call_suf hP hD rfl hk h) (fun H locs hP hD hS => ?_)
  refine lv_iload hx hb dL_law_780 (lv_at hl 1 rfl) ?_
  refine lv_icmp_eq (tgt := 787) hx hb dL_law_782 (by decide) (fun _ => ?_) (fun h9 => absurd hth h9)
  refine lv_iload hx hb dL_law_787 (lv_at hl 1 rfl) ?_
  refine lv_if_ne (tgt := 804) hx hb dL_law_789 (by decide) (fun _ => ?_) (fun hk => ?_)
  · skip
    refine lv_goto (tgt := 1210) hx hb dL_law_804 (by decide) ?_
    refine W.widen (k := 36 + (j + 1)) (n := 518 + 6 * (j + 1)) (by omega) (by omega) ?_
    exact K g' o' _ _ _ hI' hP hD hS (lv_sub hl [2, 3, 4, 5, 6] rfl)
  · skip
    refine lv_aload_n hx hb dL_law_792 rfl (lv_at hl 5 rfl) ?_
    refine lv_iconst (v := 0) hx hb dL_law_793 (by decide) ?_
    refine va_lald hx hb hKK.1 hP 30 2 (WL_out a am ao g' g' o') rfl (i := 0) (vp_in_nI (n := 0) (by decide) (by decide)) dL_law_794 ?_
    refine lv_iload hx hb dL_law_795 (lv_at hl 0 rfl) ?_
    refine lv_i2l (v := b9.toInt64) hx hb dL_law_797 rfl ?_
    refine W.lcmp hx hb dL_law_798 ?_
    refine lv_tope (y := 0) (by rw [show o' (0 : Int32).toNatClampNeg = b9.toInt64 from hout hk]; exact lg_cmp_self _) ?_
    refine lv_if_eq (tgt := 804) hx hb dL_law_799 (by decide) (fun _ => ?_) (fun h9 => absurd rfl h9)
    refine lv_goto (tgt := 1210) hx hb dL_law_804 (by decide) ?_
    refine W.widen (k := 36 + (j + 1)) (n := 518 + 6 * (j + 1)) (by omega) (by omega) ?_
    exact K g' o' _ _ _ hI' hP hD hS (lv_sub hl [2, 3, 4, 5, 6] rfl)
set_option maxHeartbeats 4000000 in
set_option maxRecDepth 100000 in
theorem law_10 {p : Program} {l : Launch} {e : Env} {s : State} {m : MethodId} {below : List Frame} {meth : Method} {c : Code} {b L : Nat} {xs : Nat → Int32} (hL : L ≤ 1536) (C0 : lw_At p s m meth c b L xs) (hlf : l.stackTraces = false) {D : va_G} {cyI cyO cyL : ClassId} (hKK : KK D cyI cyO cyL s) (hXE : XE (fun q : Nat => s.heap.size ≤ q) s s.heap) (hNC : NCW s) {a : AX} {am : AM} {ao : Nat} (hAd : Adr a) {j : Nat} (h3 : 3 * j + 3 ≤ L) {g : SG} {o : Nat → Int64} (hI : Inv a j g) {H : Heap} {locs : List Loc} {ls : Array Slot} (hP : va_P D vwCl ((WXs cyI cyO a g ++ cO cyL ao o) ++ WMs cyI am g) H) (hD : va_D (fun q : Nat => s.heap.size ≤ q) ((WXs cyI cyO a g ++ cO cyL ao o) ++ WMs cyI am g)) (hS : va_S (fun q : Nat => s.heap.size ≤ q) s.heap H locs) (hl : lv_has ls 9 [(0, .ref b), (1, .ref a.1), (2, .ref am.1), (3, .ref ao), (4, .int (nI (3 * j)))]) (K : ∀ (g2 : SG) (o2 : Nat → Int64) (H2 : Heap) (locs2 : List Loc) (ls2 : Array Slot), Inv a (j + 1) g2 → va_P D vwCl ((WXs cyI cyO a g2 ++ cO cyL ao o2) ++ WMs cyI am g2) H2 → va_D (fun q : Nat => s.heap.size ≤ q) ((WXs cyI cyO a g2 ++ cO cyL ao o2) ++ WMs cyI am g2) → va_S (fun q : Nat => s.heap.size ≤ q) s.heap H2 locs2 → lv_has ls2 9 [(0, .ref b), (1, .ref a.1), (2, .ref am.1), (3, .ref ao), (4, .int (nI (3 * j)))] → W p l e room_1 s m #[Value.ref b] below meth c H2 locs2 (36 + (j + 1)) (518 + 6 * (j + 1)) (lw_Z below #[Value.ref b] s) (F0 m 1210 ls2 [])) : W p l e room_1 s m #[Value.ref b] below meth c H locs (36 + j) (518 + 6 * j) (lw_Z below #[Value.ref b] s) (F0 m 807 ls []) := by
  obtain ⟨hx, hb, hr, hml, hown, hts, hX, hbl, hlocks, hgv⟩ := C0
  have hj : j < 512 := by omega
  have hA : ∀ q : Nat, s.heap.size ≤ q → (fun q : Nat => s.heap.size ≤ q) q := fun _ h => h
  have hbA : ¬ (fun q : Nat => s.heap.size ≤ q) b := Nat.not_le.mpr hbl
  have htsL : ∀ w ∈ wsL_law, w.before #[Value.ref b] s = true := fun w h => hts w (wsL_law_in w h)
  have hown : s.vm.findClass RL = some m.cls := hown
  have hb : c.code = cL_law := hb
  obtain ⟨k, b9, g', o', hU, ⟨rm, hr1, hr2, hr3, hr4, hM⟩, hth, hout, hI'⟩ := st_gang l D cyI cyO cyL hlf a am ao j hj g o hAd hI (xs (3 * j + 1))
  refine lv_aload_n hx hb dL_law_807 rfl (lv_at hl 1 rfl) ?_
  refine lv_aload_n hx hb dL_law_808 rfl (lv_at hl 0 rfl) ?_
  refine lv_iload hx hb dL_law_809 (lv_at hl 4 rfl) ?_
  refine lv_iconst (v := 1) hx hb dL_law_811 (by decide) ?_
  refine lv_iadd hx hb dL_law_812 ?_
  refine lv_tope (y := nI (3 * j + 1)) (nI_add (3 * j) 1) ?_
  refine va_sld hx hb hX hbl hbA hS (vp_in_nI (by omega) (by omega)) dL_law_813 ?_
  refine lv_tope (y := xs (3 * j + 1)) (by rw [nI_clamp (by omega)]) ?_
  refine lv_aload_n hx hb dL_law_814 rfl (lv_at hl 3 rfl) ?_
  have hPc := preP hP
  have hDc := va_D_left hD
  have hFc := free_of hDc hS hA
  have hXc := (hXE.kept hS.2.1).narrow hFc
  refine ret_iJ (ws1 := (WXs cyI cyO a g' ++ cO cyL ao o') ++ WMs cyI am g) (r := k) (run_SU (n := 3) (As := [.ref a.1, .int (xs (3 * j + 1)), .ref ao]) (rest := []) ⟨hx, hb, hml, hown, htsL⟩ hU gL_law_L_gang rfl (by decide +kernel) ⟨Nat.le_of_ble_eq_true rfl, Nat.le_of_ble_eq_true rfl⟩ hKK hXc hNC hPc hDc rfl hl.1 rfl (Nat.le_of_ble_eq_true rfl) dL_law_815 ⟨(by show 36 + j + 1 ≤ 650194; omega), (by show 518 + 6 * j + 6 ≤ 7145523; omega)⟩) hS hFc (fun H1 hk h => call_pre hP hD rfl hk h) (fun H locs hP hD hS => ?_)
  refine lv_istore (lv' := [(5, .int k), (0, .ref b), (1, .ref a.1), (2, .ref am.1), (3, .ref ao), (4, .int (nI (3 * j)))]) hx hb dL_law_818 hl (by decide) rfl (fun ls hl => ?_)
  refine lv_aload_n hx hb dL_law_820 rfl (lv_at hl 3 rfl) ?_
  refine lv_aload_n hx hb dL_law_821 rfl (lv_at hl 1 rfl) ?_
  refine lv_iload hx hb dL_law_822 (lv_at hl 5 rfl) ?_
  refine lv_iconst (v := 1) hx hb dL_law_824 (by decide) ?_
  refine lv_iadd hx hb dL_law_825 ?_
  refine lv_tope (y := nI (3 * j + 1)) (nI_add (3 * j) 1) ?_
  refine va_sld hx hb hX hbl hbA hS (vp_in_nI (by omega) (by omega)) dL_law_826 ?_
  refine lv_tope (y := xs (3 * j + 1)) (by rw [nI_clamp (by omega)]) ?_
  have hPc := sufP hP
  have hDc := sufD hD
  have hFc := free_of hDc hS hA
  refine ret_iJ (ws1 := (WXs cyI cyO a g' ++ cO cyL ao o') ++ WMs cyI am g') (r := b9) (run_VL (q := (RX6, TX6, 8)) (n := 1) (As := [.int (xs (3 * j + 1))]) (rest := []) ⟨hx, hb, hml, hown, htsL⟩ (hM _) gL_law_X6_gang rfl hr1 hr2 (by decide +kernel) ⟨(by show rm.frames + 1 ≤ 11; omega), (by show 8 + (2 + 11) + rm.locals ≤ 402; omega)⟩ hKK hPc hDc (ci := 6) (q0 := 0) rfl (WMs_recv am g) rfl hl.1 rfl (Nat.le_of_ble_eq_true rfl) dL_law_827 ⟨(by show 36 + j + 1 + 0 ≤ 650194; omega), (by show 518 + 6 * j + 6 + 0 ≤ 7145523; omega)⟩) hS hFc (fun H1 hk h => call_suf hP hD rfl hk h) (fun H locs hP hD hS => ?_)
  refine lv_istore (lv' := [(6, .int b9), (5, .int k), (0, .ref b), (1, .ref a.1), (2, .ref am.1), (3, .ref ao), (4, .int (nI (3 * j)))]) hx hb dL_law_830 hl (by decide) rfl (fun ls hl => ?_)
  refine lv_aload_n hx hb dL_law_832 rfl (lv_at hl 4 rfl) ?_
  obtain ⟨rt, ht1, ht2, ht3, ht4, hT⟩ := gi_thrown l D cyI cyO cyL am g'
  have hPc := sufP hP
  have hDc := sufD hD
  have hFc := free_of hDc hS hA
  refine ret_iJ (ws1 := (WXs cyI cyO a g' ++ cO cyL ao o') ++ WMs cyI am g') (r := g'.2.2.2.2.2.2.2.2.1) (run_VL (q := (RX6, TX6, 8)) (n := 0) (As := []) (rest := []) ⟨hx, hb, hml, hown, htsL⟩ (hT _) gL_law_X6_thrown rfl ht1 ht2 (by decide +kernel) ⟨(by show rt.frames + 1 ≤ 11; omega), (by show 8 + (1 + 11) + rt.locals ≤ 402; omega)⟩ hKK hPc hDc (ci := 6) (q0 := 0) rfl (WMs_recv am g') rfl hl.1 rfl (Nat.le_of_ble_eq_true rfl) dL_law_833 ⟨(by show 36 + j + 1 + 0 + 0 ≤ 650194; omega), (by show 518 + 6 * j + 6 + 0 + 0 ≤ 7145523; omega)⟩) hS hFc (fun H1 hk h => call_suf hP hD rfl hk h) (fun H locs hP hD hS => ?_)
  refine lv_iload hx hb dL_law_836 (lv_at hl 1 rfl) ?_
  refine lv_icmp_eq (tgt := 843) hx hb dL_law_838 (by decide) (fun _ => ?_) (fun h9 => absurd hth h9)
  refine lv_iload hx hb dL_law_843 (lv_at hl 1 rfl) ?_
  refine lv_if_ne (tgt := 860) hx hb dL_law_845 (by decide) (fun _ => ?_) (fun hk => ?_)
  · skip
    refine lv_goto (tgt := 1210) hx hb dL_law_860 (by decide) ?_
    refine W.widen (k := 36 + (j + 1)) (n := 518 + 6 * (j + 1)) (by omega) (by omega) ?_
    exact K g' o' _ _ _ hI' hP hD hS (lv_sub hl [2, 3, 4, 5, 6] rfl)
  · skip
    refine lv_aload_n hx hb dL_law_848 rfl (lv_at hl 5 rfl) ?_
    refine lv_iconst (v := 0) hx hb dL_law_849 (by decide) ?_
    refine va_lald hx hb hKK.1 hP 30 2 (WL_out a am ao g' g' o') rfl (i := 0) (vp_in_nI (n := 0) (by decide) (by decide)) dL_law_850 ?_
    refine lv_iload hx hb dL_law_851 (lv_at hl 0 rfl) ?_
    refine lv_i2l (v := b9.toInt64) hx hb dL_law_853 rfl ?_
    refine W.lcmp hx hb dL_law_854 ?_
    refine lv_tope (y := 0) (by rw [show o' (0 : Int32).toNatClampNeg = b9.toInt64 from hout hk]; exact lg_cmp_self _) ?_
    refine lv_if_eq (tgt := 860) hx hb dL_law_855 (by decide) (fun _ => ?_) (fun h9 => absurd rfl h9)
    refine lv_goto (tgt := 1210) hx hb dL_law_860 (by decide) ?_
    refine W.widen (k := 36 + (j + 1)) (n := 518 + 6 * (j + 1)) (by omega) (by omega) ?_
    exact K g' o' _ _ _ hI' hP hD hS (lv_sub hl [2, 3, 4, 5, 6] rfl)
set_option maxHeartbeats 4000000 in
set_option maxRecDepth 100000 in
theorem law_11 {p : Program} {l : Launch} {e : Env} {s : State} {m : MethodId} {below : List Frame} {meth : Method} {c : Code} {b L : Nat} {xs : Nat → Int32} (hL : L ≤ 1536) (C0 : lw_At p s m meth c b L xs) (hlf : l.stackTraces = false) {D : va_G} {cyI cyO cyL : ClassId} (hKK : KK D cyI cyO cyL s) (hXE : XE (fun q : Nat => s.heap.size ≤ q) s s.heap) (hNC : NCW s) {a : AX} {am : AM} {ao : Nat} (hAd : Adr a) {j : Nat} (h3 : 3 * j + 3 ≤ L) {g : SG} {o : Nat → Int64} (hI : Inv a j g) {H : Heap} {locs : List Loc} {ls : Array Slot} (hP : va_P D vwCl ((WXs cyI cyO a g ++ cO cyL ao o) ++ WMs cyI am g) H) (hD : va_D (fun q : Nat => s.heap.size ≤ q) ((WXs cyI cyO a g ++ cO cyL ao o) ++ WMs cyI am g)) (hS : va_S (fun q : Nat => s.heap.size ≤ q) s.heap H locs) (hl : lv_has ls 9 [(0, .ref b), (1, .ref a.1), (2, .ref am.1), (3, .ref ao), (4, .int (nI (3 * j)))]) (K : ∀ (g2 : SG) (o2 : Nat → Int64) (H2 : Heap) (locs2 : List Loc) (ls2 : Array Slot), Inv a (j + 1) g2 → va_P D vwCl ((WXs cyI cyO a g2 ++ cO cyL ao o2) ++ WMs cyI am g2) H2 → va_D (fun q : Nat => s.heap.size ≤ q) ((WXs cyI cyO a g2 ++ cO cyL ao o2) ++ WMs cyI am g2) → va_S (fun q : Nat => s.heap.size ≤ q) s.heap H2 locs2 → lv_has ls2 9 [(0, .ref b), (1, .ref a.1), (2, .ref am.1), (3, .ref ao), (4, .int (nI (3 * j)))] → W p l e room_1 s m #[Value.ref b] below meth c H2 locs2 (36 + (j + 1)) (518 + 6 * (j + 1)) (lw_Z below #[Value.ref b] s) (F0 m 1210 ls2 [])) : W p l e room_1 s m #[Value.ref b] below meth c H locs (36 + j) (518 + 6 * j) (lw_Z below #[Value.ref b] s) (F0 m 863 ls []) := by
  obtain ⟨hx, hb, hr, hml, hown, hts, hX, hbl, hlocks, hgv⟩ := C0
  have hj : j < 512 := by omega
  have hA : ∀ q : Nat, s.heap.size ≤ q → (fun q : Nat => s.heap.size ≤ q) q := fun _ h => h
  have hbA : ¬ (fun q : Nat => s.heap.size ≤ q) b := Nat.not_le.mpr hbl
  have htsL : ∀ w ∈ wsL_law, w.before #[Value.ref b] s = true := fun w h => hts w (wsL_law_in w h)
  have hown : s.vm.findClass RL = some m.cls := hown
  have hb : c.code = cL_law := hb
  obtain ⟨k, b9, g', o', hU, ⟨rm, hr1, hr2, hr3, hr4, hM⟩, hth, hout, hI'⟩ := st_count l D cyI cyO cyL hlf a am ao j hj g o hAd hI (xs (3 * j + 1))
  refine lv_aload_n hx hb dL_law_863 rfl (lv_at hl 1 rfl) ?_
  refine lv_aload_n hx hb dL_law_864 rfl (lv_at hl 0 rfl) ?_
  refine lv_iload hx hb dL_law_865 (lv_at hl 4 rfl) ?_
  refine lv_iconst (v := 1) hx hb dL_law_867 (by decide) ?_
  refine lv_iadd hx hb dL_law_868 ?_
  refine lv_tope (y := nI (3 * j + 1)) (nI_add (3 * j) 1) ?_
  refine va_sld hx hb hX hbl hbA hS (vp_in_nI (by omega) (by omega)) dL_law_869 ?_
  refine lv_tope (y := xs (3 * j + 1)) (by rw [nI_clamp (by omega)]) ?_
  refine lv_aload_n hx hb dL_law_870 rfl (lv_at hl 3 rfl) ?_
  have hPc := preP hP
  have hDc := va_D_left hD
  have hFc := free_of hDc hS hA
  have hXc := (hXE.kept hS.2.1).narrow hFc
  refine ret_iJ (ws1 := (WXs cyI cyO a g' ++ cO cyL ao o') ++ WMs cyI am g) (r := k) (run_SU (n := 3) (As := [.ref a.1, .int (xs (3 * j + 1)), .ref ao]) (rest := []) ⟨hx, hb, hml, hown, htsL⟩ hU gL_law_L_count rfl (by decide +kernel) ⟨Nat.le_of_ble_eq_true rfl, Nat.le_of_ble_eq_true rfl⟩ hKK hXc hNC hPc hDc rfl hl.1 rfl (Nat.le_of_ble_eq_true rfl) dL_law_871 ⟨(by show 36 + j + 1 ≤ 650194; omega), (by show 518 + 6 * j + 6 ≤ 7145523; omega)⟩) hS hFc (fun H1 hk h => call_pre hP hD rfl hk h) (fun H locs hP hD hS => ?_)
  refine lv_istore (lv' := [(5, .int k), (0, .ref b), (1, .ref a.1), (2, .ref am.1), (3, .ref ao), (4, .int (nI (3 * j)))]) hx hb dL_law_874 hl (by decide) rfl (fun ls hl => ?_)
  refine lv_aload_n hx hb dL_law_876 rfl (lv_at hl 3 rfl) ?_
  refine lv_aload_n hx hb dL_law_877 rfl (lv_at hl 1 rfl) ?_
  refine lv_iload hx hb dL_law_878 (lv_at hl 5 rfl) ?_
  refine lv_iconst (v := 1) hx hb dL_law_880 (by decide) ?_
  refine lv_iadd hx hb dL_law_881 ?_
  refine lv_tope (y := nI (3 * j + 1)) (nI_add (3 * j) 1) ?_
  refine va_sld hx hb hX hbl hbA hS (vp_in_nI (by omega) (by omega)) dL_law_882 ?_
  refine lv_tope (y := xs (3 * j + 1)) (by rw [nI_clamp (by omega)]) ?_
  have hPc := sufP hP
  have hDc := sufD hD
  have hFc := free_of hDc hS hA
  refine ret_iJ (ws1 := (WXs cyI cyO a g' ++ cO cyL ao o') ++ WMs cyI am g') (r := b9) (run_VL (q := (RX6, TX6, 8)) (n := 1) (As := [.int (xs (3 * j + 1))]) (rest := []) ⟨hx, hb, hml, hown, htsL⟩ (hM _) gL_law_X6_count rfl hr1 hr2 (by decide +kernel) ⟨(by show rm.frames + 1 ≤ 11; omega), (by show 8 + (2 + 11) + rm.locals ≤ 402; omega)⟩ hKK hPc hDc (ci := 6) (q0 := 0) rfl (WMs_recv am g) rfl hl.1 rfl (Nat.le_of_ble_eq_true rfl) dL_law_883 ⟨(by show 36 + j + 1 + 0 ≤ 650194; omega), (by show 518 + 6 * j + 6 + 0 ≤ 7145523; omega)⟩) hS hFc (fun H1 hk h => call_suf hP hD rfl hk h) (fun H locs hP hD hS => ?_)
  refine lv_istore (lv' := [(6, .int b9), (5, .int k), (0, .ref b), (1, .ref a.1), (2, .ref am.1), (3, .ref ao), (4, .int (nI (3 * j)))]) hx hb dL_law_886 hl (by decide) rfl (fun ls hl => ?_)
  refine lv_aload_n hx hb dL_law_888 rfl (lv_at hl 4 rfl) ?_
  obtain ⟨rt, ht1, ht2, ht3, ht4, hT⟩ := gi_thrown l D cyI cyO cyL am g'
  have hPc := sufP hP
  have hDc := sufD hD
  have hFc := free_of hDc hS hA
  refine ret_iJ (ws1 := (WXs cyI cyO a g' ++ cO cyL ao o') ++ WMs cyI am g') (r := g'.2.2.2.2.2.2.2.2.1) (run_VL (q := (RX6, TX6, 8)) (n := 0) (As := []) (rest := []) ⟨hx, hb, hml, hown, htsL⟩ (hT _) gL_law_X6_thrown rfl ht1 ht2 (by decide +kernel) ⟨(by show rt.frames + 1 ≤ 11; omega), (by show 8 + (1 + 11) + rt.locals ≤ 402; omega)⟩ hKK hPc hDc (ci := 6) (q0 := 0) rfl (WMs_recv am g') rfl hl.1 rfl (Nat.le_of_ble_eq_true rfl) dL_law_889 ⟨(by show 36 + j + 1 + 0 + 0 ≤ 650194; omega), (by show 518 + 6 * j + 6 + 0 + 0 ≤ 7145523; omega)⟩) hS hFc (fun H1 hk h => call_suf hP hD rfl hk h) (fun H locs hP hD hS => ?_)
  refine lv_iload hx hb dL_law_892 (lv_at hl 1 rfl) ?_
  refine lv_icmp_eq (tgt := 899) hx hb dL_law_894 (by decide) (fun _ => ?_) (fun h9 => absurd hth h9)
  refine lv_iload hx hb dL_law_899 (lv_at hl 1 rfl) ?_
  refine lv_if_ne (tgt := 916) hx hb dL_law_901 (by decide) (fun _ => ?_) (fun hk => ?_)
  · skip
    refine lv_goto (tgt := 1210) hx hb dL_law_916 (by decide) ?_
    refine W.widen (k := 36 + (j + 1)) (n := 518 + 6 * (j + 1)) (by omega) (by omega) ?_
    exact K g' o' _ _ _ hI' hP hD hS (lv_sub hl [2, 3, 4, 5, 6] rfl)
  · skip
    refine lv_aload_n hx hb dL_law_904 rfl (lv_at hl 5 rfl) ?_
    refine lv_iconst (v := 0) hx hb dL_law_905 (by decide) ?_
    refine va_lald hx hb hKK.1 hP 30 2 (WL_out a am ao g' g' o') rfl (i := 0) (vp_in_nI (n := 0) (by decide) (by decide)) dL_law_906 ?_
    refine lv_iload hx hb dL_law_907 (lv_at hl 0 rfl) ?_
    refine lv_i2l (v := b9.toInt64) hx hb dL_law_909 rfl ?_
    refine W.lcmp hx hb dL_law_910 ?_
    refine lv_tope (y := 0) (by rw [show o' (0 : Int32).toNatClampNeg = b9.toInt64 from hout hk]; exact lg_cmp_self _) ?_
    refine lv_if_eq (tgt := 916) hx hb dL_law_911 (by decide) (fun _ => ?_) (fun h9 => absurd rfl h9)
    refine lv_goto (tgt := 1210) hx hb dL_law_916 (by decide) ?_
    refine W.widen (k := 36 + (j + 1)) (n := 518 + 6 * (j + 1)) (by omega) (by omega) ?_
    exact K g' o' _ _ _ hI' hP hD hS (lv_sub hl [2, 3, 4, 5, 6] rfl)
set_option maxHeartbeats 4000000 in
set_option maxRecDepth 100000 in
theorem law_12 {p : Program} {l : Launch} {e : Env} {s : State} {m : MethodId} {below : List Frame} {meth : Method} {c : Code} {b L : Nat} {xs : Nat → Int32} (hL : L ≤ 1536) (C0 : lw_At p s m meth c b L xs) (hlf : l.stackTraces = false) {D : va_G} {cyI cyO cyL : ClassId} (hKK : KK D cyI cyO cyL s) (hXE : XE (fun q : Nat => s.heap.size ≤ q) s s.heap) (hNC : NCW s) {a : AX} {am : AM} {ao : Nat} (hAd : Adr a) {j : Nat} (h3 : 3 * j + 3 ≤ L) {g : SG} {o : Nat → Int64} (hI : Inv a j g) {H : Heap} {locs : List Loc} {ls : Array Slot} (hP : va_P D vwCl ((WXs cyI cyO a g ++ cO cyL ao o) ++ WMs cyI am g) H) (hD : va_D (fun q : Nat => s.heap.size ≤ q) ((WXs cyI cyO a g ++ cO cyL ao o) ++ WMs cyI am g)) (hS : va_S (fun q : Nat => s.heap.size ≤ q) s.heap H locs) (hl : lv_has ls 9 [(0, .ref b), (1, .ref a.1), (2, .ref am.1), (3, .ref ao), (4, .int (nI (3 * j)))]) (K : ∀ (g2 : SG) (o2 : Nat → Int64) (H2 : Heap) (locs2 : List Loc) (ls2 : Array Slot), Inv a (j + 1) g2 → va_P D vwCl ((WXs cyI cyO a g2 ++ cO cyL ao o2) ++ WMs cyI am g2) H2 → va_D (fun q : Nat => s.heap.size ≤ q) ((WXs cyI cyO a g2 ++ cO cyL ao o2) ++ WMs cyI am g2) → va_S (fun q : Nat => s.heap.size ≤ q) s.heap H2 locs2 → lv_has ls2 9 [(0, .ref b), (1, .ref a.1), (2, .ref am.1), (3, .ref ao), (4, .int (nI (3 * j)))] → W p l e room_1 s m #[Value.ref b] below meth c H2 locs2 (36 + (j + 1)) (518 + 6 * (j + 1)) (lw_Z below #[Value.ref b] s) (F0 m 1210 ls2 [])) : W p l e room_1 s m #[Value.ref b] below meth c H locs (36 + j) (518 + 6 * j) (lw_Z below #[Value.ref b] s) (F0 m 919 ls []) := by
  obtain ⟨hx, hb, hr, hml, hown, hts, hX, hbl, hlocks, hgv⟩ := C0
  have hj : j < 512 := by omega
  have hA : ∀ q : Nat, s.heap.size ≤ q → (fun q : Nat => s.heap.size ≤ q) q := fun _ h => h
  have hbA : ¬ (fun q : Nat => s.heap.size ≤ q) b := Nat.not_le.mpr hbl
  have htsL : ∀ w ∈ wsL_law, w.before #[Value.ref b] s = true := fun w h => hts w (wsL_law_in w h)
  have hown : s.vm.findClass RL = some m.cls := hown
  have hb : c.code = cL_law := hb
  obtain ⟨k, b9, g', o', hU, ⟨rm, hr1, hr2, hr3, hr4, hM⟩, hth, hout, hI'⟩ := st_pass l D cyI cyO cyL hlf a am ao j hj g o hAd hI (xs (3 * j + 1))
  refine lv_aload_n hx hb dL_law_919 rfl (lv_at hl 1 rfl) ?_
  refine lv_aload_n hx hb dL_law_920 rfl (lv_at hl 0 rfl) ?_
  refine lv_iload hx hb dL_law_921 (lv_at hl 4 rfl) ?_
  refine lv_iconst (v := 1) hx hb dL_law_923 (by decide) ?_
  refine lv_iadd hx hb dL_law_924 ?_
  refine lv_tope (y := nI (3 * j + 1)) (nI_add (3 * j) 1) ?_
  refine va_sld hx hb hX hbl hbA hS (vp_in_nI (by omega) (by omega)) dL_law_925 ?_
  refine lv_tope (y := xs (3 * j + 1)) (by rw [nI_clamp (by omega)]) ?_
  refine lv_aload_n hx hb dL_law_926 rfl (lv_at hl 3 rfl) ?_
  have hPc := preP hP
  have hDc := va_D_left hD
  have hFc := free_of hDc hS hA
  have hXc := (hXE.kept hS.2.1).narrow hFc
  refine ret_iJ (ws1 := (WXs cyI cyO a g' ++ cO cyL ao o') ++ WMs cyI am g) (r := k) (run_SU (n := 3) (As := [.ref a.1, .int (xs (3 * j + 1)), .ref ao]) (rest := []) ⟨hx, hb, hml, hown, htsL⟩ hU gL_law_L_pass rfl (by decide +kernel) ⟨Nat.le_of_ble_eq_true rfl, Nat.le_of_ble_eq_true rfl⟩ hKK hXc hNC hPc hDc rfl hl.1 rfl (Nat.le_of_ble_eq_true rfl) dL_law_927 ⟨(by show 36 + j + 1 ≤ 650194; omega), (by show 518 + 6 * j + 6 ≤ 7145523; omega)⟩) hS hFc (fun H1 hk h => call_pre hP hD rfl hk h) (fun H locs hP hD hS => ?_)
  refine lv_istore (lv' := [(5, .int k), (0, .ref b), (1, .ref a.1), (2, .ref am.1), (3, .ref ao), (4, .int (nI (3 * j)))]) hx hb dL_law_930 hl (by decide) rfl (fun ls hl => ?_)
  refine lv_aload_n hx hb dL_law_932 rfl (lv_at hl 3 rfl) ?_
  refine lv_aload_n hx hb dL_law_933 rfl (lv_at hl 1 rfl) ?_
  refine lv_iload hx hb dL_law_934 (lv_at hl 5 rfl) ?_
  refine lv_iconst (v := 1) hx hb dL_law_936 (by decide) ?_
  refine lv_iadd hx hb dL_law_937 ?_
  refine lv_tope (y := nI (3 * j + 1)) (nI_add (3 * j) 1) ?_
  refine va_sld hx hb hX hbl hbA hS (vp_in_nI (by omega) (by omega)) dL_law_938 ?_
  refine lv_tope (y := xs (3 * j + 1)) (by rw [nI_clamp (by omega)]) ?_
  have hPc := sufP hP
  have hDc := sufD hD
  have hFc := free_of hDc hS hA
  refine ret_iJ (ws1 := (WXs cyI cyO a g' ++ cO cyL ao o') ++ WMs cyI am g') (r := b9) (run_VL (q := (RX6, TX6, 8)) (n := 1) (As := [.int (xs (3 * j + 1))]) (rest := []) ⟨hx, hb, hml, hown, htsL⟩ (hM _) gL_law_X6_pass_ rfl hr1 hr2 (by decide +kernel) ⟨(by show rm.frames + 1 ≤ 11; omega), (by show 8 + (3 + 11) + rm.locals ≤ 402; omega)⟩ hKK hPc hDc (ci := 6) (q0 := 0) rfl (WMs_recv am g) rfl hl.1 rfl (Nat.le_of_ble_eq_true rfl) dL_law_939 ⟨(by show 36 + j + 1 + 0 ≤ 650194; omega), (by show 518 + 6 * j + 6 + 0 ≤ 7145523; omega)⟩) hS hFc (fun H1 hk h => call_suf hP hD rfl hk h) (fun H locs hP hD hS => ?_)
  refine lv_istore (lv' := [(6, .int b9), (5, .int k), (0, .ref b), (1, .ref a.1), (2, .ref am.1), (3, .ref ao), (4, .int (nI (3 * j)))]) hx hb dL_law_942 hl (by decide) rfl (fun ls hl => ?_)
  refine lv_aload_n hx hb dL_law_944 rfl (lv_at hl 4 rfl) ?_
  obtain ⟨rt, ht1, ht2, ht3, ht4, hT⟩ := gi_thrown l D cyI cyO cyL am g'
  have hPc := sufP hP
  have hDc := sufD hD
  have hFc := free_of hDc hS hA
  refine ret_iJ (ws1 := (WXs cyI cyO a g' ++ cO cyL ao o') ++ WMs cyI am g') (r := g'.2.2.2.2.2.2.2.2.1) (run_VL (q := (RX6, TX6, 8)) (n := 0) (As := []) (rest := []) ⟨hx, hb, hml, hown, htsL⟩ (hT _) gL_law_X6_thrown rfl ht1 ht2 (by decide +kernel) ⟨(by show rt.frames + 1 ≤ 11; omega), (by show 8 + (1 + 11) + rt.locals ≤ 402; omega)⟩ hKK hPc hDc (ci := 6) (q0 := 0) rfl (WMs_recv am g') rfl hl.1 rfl (Nat.le_of_ble_eq_true rfl) dL_law_945 ⟨(by show 36 + j + 1 + 0 + 0 ≤ 650194; omega), (by show 518 + 6 * j + 6 + 0 + 0 ≤ 7145523; omega)⟩) hS hFc (fun H1 hk h => call_suf hP hD rfl hk h) (fun H locs hP hD hS => ?_)
  refine lv_iload hx hb dL_law_948 (lv_at hl 1 rfl) ?_
  refine lv_icmp_eq (tgt := 955) hx hb dL_law_950 (by decide) (fun _ => ?_) (fun h9 => absurd hth h9)
  refine lv_iload hx hb dL_law_955 (lv_at hl 1 rfl) ?_
  refine lv_if_ne (tgt := 972) hx hb dL_law_957 (by decide) (fun _ => ?_) (fun hk => ?_)
  · skip
    refine lv_goto (tgt := 1210) hx hb dL_law_972 (by decide) ?_
    refine W.widen (k := 36 + (j + 1)) (n := 518 + 6 * (j + 1)) (by omega) (by omega) ?_
    exact K g' o' _ _ _ hI' hP hD hS (lv_sub hl [2, 3, 4, 5, 6] rfl)
  · skip
    refine lv_aload_n hx hb dL_law_960 rfl (lv_at hl 5 rfl) ?_
    refine lv_iconst (v := 0) hx hb dL_law_961 (by decide) ?_
    refine va_lald hx hb hKK.1 hP 30 2 (WL_out a am ao g' g' o') rfl (i := 0) (vp_in_nI (n := 0) (by decide) (by decide)) dL_law_962 ?_
    refine lv_iload hx hb dL_law_963 (lv_at hl 0 rfl) ?_
    refine lv_i2l (v := b9.toInt64) hx hb dL_law_965 rfl ?_
    refine W.lcmp hx hb dL_law_966 ?_
    refine lv_tope (y := 0) (by rw [show o' (0 : Int32).toNatClampNeg = b9.toInt64 from hout hk]; exact lg_cmp_self _) ?_
    refine lv_if_eq (tgt := 972) hx hb dL_law_967 (by decide) (fun _ => ?_) (fun h9 => absurd rfl h9)
    refine lv_goto (tgt := 1210) hx hb dL_law_972 (by decide) ?_
    refine W.widen (k := 36 + (j + 1)) (n := 518 + 6 * (j + 1)) (by omega) (by omega) ?_
    exact K g' o' _ _ _ hI' hP hD hS (lv_sub hl [2, 3, 4, 5, 6] rfl)
set_option maxHeartbeats 4000000 in
set_option maxRecDepth 100000 in
theorem law_13 {p : Program} {l : Launch} {e : Env} {s : State} {m : MethodId} {below : List Frame} {meth : Method} {c : Code} {b L : Nat} {xs : Nat → Int32} (hL : L ≤ 1536) (C0 : lw_At p s m meth c b L xs) (hlf : l.stackTraces = false) {D : va_G} {cyI cyO cyL : ClassId} (hKK : KK D cyI cyO cyL s) (hXE : XE (fun q : Nat => s.heap.size ≤ q) s s.heap) (hNC : NCW s) {a : AX} {am : AM} {ao : Nat} (hAd : Adr a) {j : Nat} (h3 : 3 * j + 3 ≤ L) {g : SG} {o : Nat → Int64} (hI : Inv a j g) {H : Heap} {locs : List Loc} {ls : Array Slot} (hP : va_P D vwCl ((WXs cyI cyO a g ++ cO cyL ao o) ++ WMs cyI am g) H) (hD : va_D (fun q : Nat => s.heap.size ≤ q) ((WXs cyI cyO a g ++ cO cyL ao o) ++ WMs cyI am g)) (hS : va_S (fun q : Nat => s.heap.size ≤ q) s.heap H locs) (hl : lv_has ls 9 [(0, .ref b), (1, .ref a.1), (2, .ref am.1), (3, .ref ao), (4, .int (nI (3 * j)))]) (K : ∀ (g2 : SG) (o2 : Nat → Int64) (H2 : Heap) (locs2 : List Loc) (ls2 : Array Slot), Inv a (j + 1) g2 → va_P D vwCl ((WXs cyI cyO a g2 ++ cO cyL ao o2) ++ WMs cyI am g2) H2 → va_D (fun q : Nat => s.heap.size ≤ q) ((WXs cyI cyO a g2 ++ cO cyL ao o2) ++ WMs cyI am g2) → va_S (fun q : Nat => s.heap.size ≤ q) s.heap H2 locs2 → lv_has ls2 9 [(0, .ref b), (1, .ref a.1), (2, .ref am.1), (3, .ref ao), (4, .int (nI (3 * j)))] → W p l e room_1 s m #[Value.ref b] below meth c H2 locs2 (36 + (j + 1)) (518 + 6 * (j + 1)) (lw_Z below #[Value.ref b] s) (F0 m 1210 ls2 [])) : W p l e room_1 s m #[Value.ref b] below meth c H locs (36 + j) (518 + 6 * j) (lw_Z below #[Value.ref b] s) (F0 m 975 ls []) := by
  obtain ⟨hx, hb, hr, hml, hown, hts, hX, hbl, hlocks, hgv⟩ := C0
  have hj : j < 512 := by omega
  have hA : ∀ q : Nat, s.heap.size ≤ q → (fun q : Nat => s.heap.size ≤ q) q := fun _ h => h
  have hbA : ¬ (fun q : Nat => s.heap.size ≤ q) b := Nat.not_le.mpr hbl
  have htsL : ∀ w ∈ wsL_law, w.before #[Value.ref b] s = true := fun w h => hts w (wsL_law_in w h)
  have hown : s.vm.findClass RL = some m.cls := hown
  have hb : c.code = cL_law := hb
  obtain ⟨k, b9, g', o', hU, ⟨rm, hr1, hr2, hr3, hr4, hM⟩, hth, hout, hI'⟩ := st_falls l D cyI cyO cyL hlf a am ao j hj g o hAd hI (xs (3 * j + 1))
  refine lv_aload_n hx hb dL_law_975 rfl (lv_at hl 1 rfl) ?_
  refine lv_aload_n hx hb dL_law_976 rfl (lv_at hl 0 rfl) ?_
  refine lv_iload hx hb dL_law_977 (lv_at hl 4 rfl) ?_
  refine lv_iconst (v := 1) hx hb dL_law_979 (by decide) ?_
  refine lv_iadd hx hb dL_law_980 ?_
  refine lv_tope (y := nI (3 * j + 1)) (nI_add (3 * j) 1) ?_
  refine va_sld hx hb hX hbl hbA hS (vp_in_nI (by omega) (by omega)) dL_law_981 ?_
  refine lv_tope (y := xs (3 * j + 1)) (by rw [nI_clamp (by omega)]) ?_
  refine lv_aload_n hx hb dL_law_982 rfl (lv_at hl 3 rfl) ?_
  have hPc := preP hP
  have hDc := va_D_left hD
  have hFc := free_of hDc hS hA
  have hXc := (hXE.kept hS.2.1).narrow hFc
  refine ret_iJ (ws1 := (WXs cyI cyO a g' ++ cO cyL ao o') ++ WMs cyI am g) (r := k) (run_SU (n := 3) (As := [.ref a.1, .int (xs (3 * j + 1)), .ref ao]) (rest := []) ⟨hx, hb, hml, hown, htsL⟩ hU gL_law_L_falls rfl (by decide +kernel) ⟨Nat.le_of_ble_eq_true rfl, Nat.le_of_ble_eq_true rfl⟩ hKK hXc hNC hPc hDc rfl hl.1 rfl (Nat.le_of_ble_eq_true rfl) dL_law_983 ⟨(by show 36 + j + 1 ≤ 650194; omega), (by show 518 + 6 * j + 6 ≤ 7145523; omega)⟩) hS hFc (fun H1 hk h => call_pre hP hD rfl hk h) (fun H locs hP hD hS => ?_)
  refine lv_istore (lv' := [(5, .int k), (0, .ref b), (1, .ref a.1), (2, .ref am.1), (3, .ref ao), (4, .int (nI (3 * j)))]) hx hb dL_law_986 hl (by decide) rfl (fun ls hl => ?_)
  refine lv_aload_n hx hb dL_law_988 rfl (lv_at hl 3 rfl) ?_
  refine lv_aload_n hx hb dL_law_989 rfl (lv_at hl 1 rfl) ?_
  refine lv_iload hx hb dL_law_990 (lv_at hl 5 rfl) ?_
  refine lv_iconst (v := 1) hx hb dL_law_992 (by decide) ?_
  refine lv_iadd hx hb dL_law_993 ?_
  refine lv_tope (y := nI (3 * j + 1)) (nI_add (3 * j) 1) ?_
  refine va_sld hx hb hX hbl hbA hS (vp_in_nI (by omega) (by omega)) dL_law_994 ?_
  refine lv_tope (y := xs (3 * j + 1)) (by rw [nI_clamp (by omega)]) ?_
  have hPc := sufP hP
  have hDc := sufD hD
  have hFc := free_of hDc hS hA
  refine ret_iJ (ws1 := (WXs cyI cyO a g' ++ cO cyL ao o') ++ WMs cyI am g') (r := b9) (run_VL (q := (RX6, TX6, 8)) (n := 1) (As := [.int (xs (3 * j + 1))]) (rest := []) ⟨hx, hb, hml, hown, htsL⟩ (hM _) gL_law_X6_falls rfl hr1 hr2 (by decide +kernel) ⟨(by show rm.frames + 1 ≤ 11; omega), (by show 8 + (3 + 11) + rm.locals ≤ 402; omega)⟩ hKK hPc hDc (ci := 6) (q0 := 0) rfl (WMs_recv am g) rfl hl.1 rfl (Nat.le_of_ble_eq_true rfl) dL_law_995 ⟨(by show 36 + j + 1 + 0 ≤ 650194; omega), (by show 518 + 6 * j + 6 + 0 ≤ 7145523; omega)⟩) hS hFc (fun H1 hk h => call_suf hP hD rfl hk h) (fun H locs hP hD hS => ?_)
  refine lv_istore (lv' := [(6, .int b9), (5, .int k), (0, .ref b), (1, .ref a.1), (2, .ref am.1), (3, .ref ao), (4, .int (nI (3 * j)))]) hx hb dL_law_998 hl (by decide) rfl (fun ls hl => ?_)
  refine lv_aload_n hx hb dL_law_1000 rfl (lv_at hl 4 rfl) ?_
  obtain ⟨rt, ht1, ht2, ht3, ht4, hT⟩ := gi_thrown l D cyI cyO cyL am g'
  have hPc := sufP hP
  have hDc := sufD hD
  have hFc := free_of hDc hS hA
  refine ret_iJ (ws1 := (WXs cyI cyO a g' ++ cO cyL ao o') ++ WMs cyI am g') (r := g'.2.2.2.2.2.2.2.2.1) (run_VL (q := (RX6, TX6, 8)) (n := 0) (As := []) (rest := []) ⟨hx, hb, hml, hown, htsL⟩ (hT _) gL_law_X6_thrown rfl ht1 ht2 (by decide +kernel) ⟨(by show rt.frames + 1 ≤ 11; omega), (by show 8 + (1 + 11) + rt.locals ≤ 402; omega)⟩ hKK hPc hDc (ci := 6) (q0 := 0) rfl (WMs_recv am g') rfl hl.1 rfl (Nat.le_of_ble_eq_true rfl) dL_law_1001 ⟨(by show 36 + j + 1 + 0 + 0 ≤ 650194; omega), (by show 518 + 6 * j + 6 + 0 + 0 ≤ 7145523; omega)⟩) hS hFc (fun H1 hk h => call_suf hP hD rfl hk h) (fun H locs hP hD hS => ?_)
  refine lv_iload hx hb dL_law_1004 (lv_at hl 1 rfl) ?_
  refine lv_icmp_eq (tgt := 1011) hx hb dL_law_1006 (by decide) (fun _ => ?_) (fun h9 => absurd hth h9)
  refine lv_iload hx hb dL_law_1011 (lv_at hl 1 rfl) ?_
  refine lv_if_ne (tgt := 1028) hx hb dL_law_1013 (by decide) (fun _ => ?_) (fun hk => ?_)
  · skip
    refine lv_goto (tgt := 1210) hx hb dL_law_1028 (by decide) ?_
    refine W.widen (k := 36 + (j + 1)) (n := 518 + 6 * (j + 1)) (by omega) (by omega) ?_
    exact K g' o' _ _ _ hI' hP hD hS (lv_sub hl [2, 3, 4, 5, 6] rfl)
  · skip
    refine lv_aload_n hx hb dL_law_1016 rfl (lv_at hl 5 rfl) ?_
    refine lv_iconst (v := 0) hx hb dL_law_1017 (by decide) ?_
    refine va_lald hx hb hKK.1 hP 30 2 (WL_out a am ao g' g' o') rfl (i := 0) (vp_in_nI (n := 0) (by decide) (by decide)) dL_law_1018 ?_
    refine lv_iload hx hb dL_law_1019 (lv_at hl 0 rfl) ?_
    refine lv_i2l (v := b9.toInt64) hx hb dL_law_1021 rfl ?_
    refine W.lcmp hx hb dL_law_1022 ?_
    refine lv_tope (y := 0) (by rw [show o' (0 : Int32).toNatClampNeg = b9.toInt64 from hout hk]; exact lg_cmp_self _) ?_
    refine lv_if_eq (tgt := 1028) hx hb dL_law_1023 (by decide) (fun _ => ?_) (fun h9 => absurd rfl h9)
    refine lv_goto (tgt := 1210) hx hb dL_law_1028 (by decide) ?_
    refine W.widen (k := 36 + (j + 1)) (n := 518 + 6 * (j + 1)) (by omega) (by omega) ?_
    exact K g' o' _ _ _ hI' hP hD hS (lv_sub hl [2, 3, 4, 5, 6] rfl)
