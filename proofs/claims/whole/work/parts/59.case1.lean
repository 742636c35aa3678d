/-! the law's cases -/
set_option maxHeartbeats 4000000 in
set_option maxRecDepth 100000 in
theorem law_0 {p : Program} {l : Launch} {e : Env} {s : State} {m : MethodId} {below : List Frame} {meth : Method} {c : Code} {b L : Nat} {xs : Nat → Int32} (hL : L ≤ 1536) (C0 : lw_At p s m meth c b L xs) (hlf : l.stackTraces = false) {D : va_G} {cyI cyO cyL : ClassId} (hKK : KK D cyI cyO cyL s) (hXE : XE (fun q : Nat => s.heap.size ≤ q) s s.heap) (hNC : NCW s) {a : AX} {am : AM} {ao : Nat} (hAd : Adr a) {j : Nat} (h3 : 3 * j + 3 ≤ L) {g : SG} {o : Nat → Int64} (hI : Inv a j g) {H : Heap} {locs : List Loc} {ls : Array Slot} (hP : va_P D vwCl ((WXs cyI cyO a g ++ cO cyL ao o) ++ WMs cyI am g) H) (hD : va_D (fun q : Nat => s.heap.size ≤ q) ((WXs cyI cyO a g ++ cO cyL ao o) ++ WMs cyI am g)) (hS : va_S (fun q : Nat => s.heap.size ≤ q) s.heap H locs) (hl : lv_has ls 9 [(0, .ref b), (1, .ref a.1), (2, .ref am.1), (3, .ref ao), (4, .int (nI (3 * j)))]) (K : ∀ (g2 : SG) (o2 : Nat → Int64) (H2 : Heap) (locs2 : List Loc) (ls2 : Array Slot), Inv a (j + 1) g2 → va_P D vwCl ((WXs cyI cyO a g2 ++ cO cyL ao o2) ++ WMs cyI am g2) H2 → va_D (fun q : Nat => s.heap.size ≤ q) ((WXs cyI cyO a g2 ++ cO cyL ao o2) ++ WMs cyI am g2) → va_S (fun q : Nat => s.heap.size ≤ q) s.heap H2 locs2 → lv_has ls2 9 [(0, .ref b), (1, .ref a.1), (2, .ref am.1), (3, .ref ao), (4, .int (nI (3 * j)))] → W p l e room_1 s m #[Value.ref b] below meth c H2 locs2 (36 + (j + 1)) (518 + 6 * (j + 1)) (lw_Z below #[Value.ref b] s) (F0 m 1210 ls2 [])) : W p l e room_1 s m #[Value.ref b] below meth c H locs (36 + j) (518 + 6 * j) (lw_Z below #[Value.ref b] s) (F0 m 124 ls []) := by
  obtain ⟨hx, hb, hr, hml, hown, hts, hX, hbl, hlocks, hgv⟩ := C0
  have hj : j < 512 := by omega
  have hA : ∀ q : Nat, s.heap.size ≤ q → (fun q : Nat => s.heap.size ≤ q) q := fun _ h => h
  have hbA : ¬ (fun q : Nat => s.heap.size ≤ q) b := Nat.not_le.mpr hbl
  have htsL : ∀ w ∈ wsL_law, w.before #[Value.ref b] s = true := fun w h => hts w (wsL_law_in w h)
  have hown : s.vm.findClass RL = some m.cls := hown
  have hb : c.code = cL_law := hb
  obtain ⟨k, b9, g', o', hU, ⟨rm, hr1, hr2, hr3, hr4, hM⟩, hth, hout, hI'⟩ := st_setCold l D cyI cyO cyL hlf a am ao j hj g o hAd hI (xs (3 * j + 1)) (xs (3 * j + 2))
  refine lv_aload_n hx hb dL_law_124 rfl (lv_at hl 1 rfl) ?_
  refine lv_aload_n hx hb dL_law_125 rfl (lv_at hl 0 rfl) ?_
  refine lv_iload hx hb dL_law_126 (lv_at hl 4 rfl) ?_
  refine lv_iconst (v := 1) hx hb dL_law_128 (by decide) ?_
  refine lv_iadd hx hb dL_law_129 ?_
  refine lv_tope (y := nI (3 * j + 1)) (nI_add (3 * j) 1) ?_
  refine va_sld hx hb hX hbl hbA hS (vp_in_nI (by omega) (by omega)) dL_law_130 ?_
  refine lv_tope (y := xs (3 * j + 1)) (by rw [nI_clamp (by omega)]) ?_
  refine lv_aload_n hx hb dL_law_131 rfl (lv_at hl 0 rfl) ?_
  refine lv_iload hx hb dL_law_132 (lv_at hl 4 rfl) ?_
  refine lv_iconst (v := 2) hx hb dL_law_134 (by decide) ?_
  refine lv_iadd hx hb dL_law_135 ?_
  refine lv_tope (y := nI (3 * j + 2)) (nI_add (3 * j) 2) ?_
  refine va_sld hx hb hX hbl hbA hS (vp_in_nI (by omega) (by omega)) dL_law_136 ?_
  refine lv_tope (y := xs (3 * j + 2)) (by rw [nI_clamp (by omega)]) ?_
  refine lv_aload_n hx hb dL_law_137 rfl (lv_at hl 3 rfl) ?_
  have hPc := preP hP
  have hDc := va_D_left hD
  have hFc := free_of hDc hS hA
  have hXc := (hXE.kept hS.2.1).narrow hFc
  refine ret_iJ (ws1 := (WXs cyI cyO a g' ++ cO cyL ao o') ++ WMs cyI am g) (r := k) (run_SU (n := 4) (As := [.ref a.1, .int (xs (3 * j + 1)), .int (xs (3 * j + 2)), .ref ao]) (rest := []) ⟨hx, hb, hml, hown, htsL⟩ hU gL_law_L_setCold rfl (by decide +kernel) ⟨Nat.le_of_ble_eq_true rfl, Nat.le_of_ble_eq_true rfl⟩ hKK hXc hNC hPc hDc rfl hl.1 rfl (Nat.le_of_ble_eq_true rfl) dL_law_138 ⟨(by show 36 + j + 1 ≤ 650194; omega), (by show 518 + 6 * j + 6 ≤ 7145523; omega)⟩) hS hFc (fun H1 hk h => call_pre hP hD rfl hk h) (fun H locs hP hD hS => ?_)
  refine lv_istore (lv' := [(5, .int k), (0, .ref b), (1, .ref a.1), (2, .ref am.1), (3, .ref ao), (4, .int (nI (3 * j)))]) hx hb dL_law_141 hl (by decide) rfl (fun ls hl => ?_)
  refine lv_aload_n hx hb dL_law_143 rfl (lv_at hl 3 rfl) ?_
  refine lv_aload_n hx hb dL_law_144 rfl (lv_at hl 1 rfl) ?_
  refine lv_iload hx hb dL_law_145 (lv_at hl 5 rfl) ?_
  refine lv_iconst (v := 1) hx hb dL_law_147 (by decide) ?_
  refine lv_iadd hx hb dL_law_148 ?_
  refine lv_tope (y := nI (3 * j + 1)) (nI_add (3 * j) 1) ?_
  refine va_sld hx hb hX hbl hbA hS (vp_in_nI (by omega) (by omega)) dL_law_149 ?_
  refine lv_tope (y := xs (3 * j + 1)) (by rw [nI_clamp (by omega)]) ?_
  refine lv_aload_n hx hb dL_law_150 rfl (lv_at hl 1 rfl) ?_
  refine lv_iload hx hb dL_law_151 (lv_at hl 5 rfl) ?_
  refine lv_iconst (v := 2) hx hb dL_law_153 (by decide) ?_
  refine lv_iadd hx hb dL_law_154 ?_
  refine lv_tope (y := nI (3 * j + 2)) (nI_add (3 * j) 2) ?_
  refine va_sld hx hb hX hbl hbA hS (vp_in_nI (by omega) (by omega)) dL_law_155 ?_
  refine lv_tope (y := xs (3 * j + 2)) (by rw [nI_clamp (by omega)]) ?_
  have hPc := sufP hP
  have hDc := sufD hD
  have hFc := free_of hDc hS hA
  refine ret_iJ (ws1 := (WXs cyI cyO a g' ++ cO cyL ao o') ++ WMs cyI am g') (r := b9) (run_VL (q := (RX6, TX6, 8)) (n := 2) (As := [.int (xs (3 * j + 1)), .int (xs (3 * j + 2))]) (rest := []) ⟨hx, hb, hml, hown, htsL⟩ (hM _) gL_law_X6_setCold rfl hr1 hr2 (by decide +kernel) ⟨(by show rm.frames + 1 ≤ 11; omega), (by show 8 + (3 + 11) + rm.locals ≤ 402; omega)⟩ hKK hPc hDc (ci := 6) (q0 := 0) rfl (WMs_recv am g) rfl hl.1 rfl (Nat.le_of_ble_eq_true rfl) dL_law_156 ⟨(by show 36 + j + 1 + 0 ≤ 650194; omega), (by show 518 + 6 * j + 6 + 0 ≤ 7145523; omega)⟩) hS hFc (fun H1 hk h => call_suf hP hD rfl hk h) (fun H locs hP hD hS => ?_)
  refine lv_istore (lv' := [(6, .int b9), (5, .int k), (0, .ref b), (1, .ref a.1), (2, .ref am.1), (3, .ref ao), (4, .int (nI (3 * j)))]) hx hb dL_law_159 hl (by decide) rfl (fun ls hl => ?_)
  refine lv_aload_n hx hb dL_law_161 rfl (lv_at hl 4 rfl) ?_
  obtain ⟨rt, ht1, ht2, ht3, ht4, hT⟩ := gi_thrown l D cyI cyO cyL am g'
  have hPc := sufP hP
  have hDc := sufD hD
  have hFc := free_of hDc hS hA
  refine ret_iJ (ws1 := (WXs cyI cyO a g' ++ cO cyL ao o') ++ WMs cyI am g') (r := g'.2.2.2.2.2.2.2.2.1) (run_VL (q := (RX6, TX6, 8)) (n := 0) (As := []) (rest := []) ⟨hx, hb, hml, hown, htsL⟩ (hT _) gL_law_X6_thrown rfl ht1 ht2 (by decide +kernel) ⟨(by show rt.frames + 1 ≤ 11; omega), (by show 8 + (1 + 11) + rt.locals ≤ 402; omega)⟩ hKK hPc hDc (ci := 6) (q0 := 0) rfl (WMs_recv am g') rfl hl.1 rfl (Nat.le_of_ble_eq_true rfl) dL_law_162 ⟨(by show 36 + j + 1 + 0 + 0 ≤ 650194; omega), (by show 518 + 6 * j + 6 + 0 + 0 ≤ 7145523; omega)⟩) hS hFc (fun H1 hk h => call_suf hP hD rfl hk h) (fun H locs hP hD hS => ?_)
  refine lv_iload hx hb dL_law_165 (lv_at hl 1 rfl) ?_
  refine lv_icmp_eq (tgt := 172) hx hb dL_law_167 (by decide) (fun _ => ?_) (fun h9 => absurd hth h9)
  refine lv_iload hx hb dL_law_172 (lv_at hl 1 rfl) ?_
  refine lv_if_ne (tgt := 189) hx hb dL_law_174 (by decide) (fun _ => ?_) (fun hk => ?_)
  · skip
    refine lv_goto (tgt := 1210) hx hb dL_law_189 (by decide) ?_
    refine W.widen (k := 36 + (j + 1)) (n := 518 + 6 * (j + 1)) (by omega) (by omega) ?_
    exact K g' o' _ _ _ hI' hP hD hS (lv_sub hl [2, 3, 4, 5, 6] rfl)
  · skip
    refine lv_aload_n hx hb dL_law_177 rfl (lv_at hl 5 rfl) ?_
    refine lv_iconst (v := 0) hx hb dL_law_178 (by decide) ?_
    refine va_lald hx hb hKK.1 hP 30 2 (WL_out a am ao g' g' o') rfl (i := 0) (vp_in_nI (n := 0) (by decide) (by decide)) dL_law_179 ?_
    refine lv_iload hx hb dL_law_180 (lv_at hl 0 rfl) ?_
    refine lv_i2l (v := b9.toInt64) hx hb dL_law_182 rfl ?_
    refine W.lcmp hx hb dL_law_183 ?_
    refine lv_tope (y := 0) (by rw [show o' (0 : Int32).toNatClampNeg = b9.toInt64 from hout hk]; exact lg_cmp_self _) ?_
    refine lv_if_eq (tgt := 189) hx hb dL_law_184 (by decide) (fun _ => ?_) (fun h9 => absurd rfl h9)
    refine lv_goto (tgt := 1210) hx hb dL_law_189 (by decide) ?_
    refine W.widen (k := 36 + (j + 1)) (n := 518 + 6 * (j + 1)) (by omega) (by omega) ?_
    exact K g' o' _ _ _ hI' hP hD hS (lv_sub hl [2, 3, 4, 5, 6] rfl)
set_option maxHeartbeats 4000000 in
set_option maxRecDepth 100000 in
theorem law_1 {p : Program} {l : Launch} {e : Env} {s : State} {m : MethodId} {below : List Frame} {meth : Method} {c : Code} {b L : Nat} {xs : Nat → Int32} (hL : L ≤ 1536) (C0 : lw_At p s m meth c b L xs) (hlf : l.stackTraces = false) {D : va_G} {cyI cyO cyL : ClassId} (hKK : KK D cyI cyO cyL s) (hXE : XE (fun q : Nat => s.heap.size ≤ q) s s.heap) (hNC : NCW s) {a : AX} {am : AM} {ao : Nat} (hAd : Adr a) {j : Nat} (h3 : 3 * j + 3 ≤ L) {g : SG} {o : Nat → Int64} (hI : Inv a j g) {H : Heap} {locs : List Loc} {ls : Array Slot} (hP : va_P D vwCl ((WXs cyI cyO a g ++ cO cyL ao o) ++ WMs cyI am g) H) (hD : va_D (fun q : Nat => s.heap.size ≤ q) ((WXs cyI cyO a g ++ cO cyL ao o) ++ WMs cyI am g)) (hS : va_S (fun q : Nat => s.heap.size ≤ q) s.heap H locs) (hl : lv_has ls 9 [(0, .ref b), (1, .ref a.1), (2, .ref am.1), (3, .ref ao), (4, .int (nI (3 * j)))]) (K : ∀ (g2 : SG) (o2 : Nat → Int64) (H2 : Heap) (locs2 : List Loc) (ls2 : Array Slot), Inv a (j + 1) g2 → va_P D vwCl ((WXs cyI cyO a g2 ++ cO cyL ao o2) ++ WMs cyI am g2) H2 → va_D (fun q : Nat => s.heap.size ≤ q) ((WXs cyI cyO a g2 ++ cO cyL ao o2) ++ WMs cyI am g2) → va_S (fun q : Nat => s.heap.size ≤ q) s.heap H2 locs2 → lv_has ls2 9 [(0, .ref b), (1, .ref a.1), (2, .ref am.1), (3, .ref ao), (4, .int (nI (3 * j)))] → W p l e room_1 s m #[Value.ref b] below meth c H2 locs2 (36 + (j + 1)) (518 + 6 * (j + 1)) (lw_Z below #[Value.ref b] s) (F0 m 1210 ls2 [])) : W p l e room_1 s m #[Value.ref b] below meth c H locs (36 + j) (518 + 6 * j) (lw_Z below #[Value.ref b] s) (F0 m 192 ls []) := by
  obtain ⟨hx, hb, hr, hml, hown, hts, hX, hbl, hlocks, hgv⟩ := C0
  have hj : j < 512 := by omega
  have hA : ∀ q : Nat, s.heap.size ≤ q → (fun q : Nat => s.heap.size ≤ q) q := fun _ h => h
  have hbA : ¬ (fun q : Nat => s.heap.size ≤ q) b := Nat.not_le.mpr hbl
  have htsL : ∀ w ∈ wsL_law, w.before #[Value.ref b] s = true := fun w h => hts w (wsL_law_in w h)
  have hown : s.vm.findClass RL = some m.cls := hown
  have hb : c.code = cL_law := hb
  obtain ⟨k, b9, g', o', hU, ⟨rm, hr1, hr2, hr3, hr4, hM⟩, hth, hout, hI'⟩ := st_setSwan l D cyI cyO cyL hlf a am ao j hj g o hAd hI (xs (3 * j + 1)) (xs (3 * j + 2))
  refine lv_aload_n hx hb dL_law_192 rfl (lv_at hl 1 rfl) ?_
  refine lv_aload_n hx hb dL_law_193 rfl (lv_at hl 0 rfl) ?_
  refine lv_iload hx hb dL_law_194 (lv_at hl 4 rfl) ?_
  refine lv_iconst (v := 1) hx hb dL_law_196 (by decide) ?_
  refine lv_iadd hx hb dL_law_197 ?_
  refine lv_tope (y := nI (3 * j + 1)) (nI_add (3 * j) 1) ?_
  refine va_sld hx hb hX hbl hbA hS (vp_in_nI (by omega) (by omega)) dL_law_198 ?_
  refine lv_tope (y := xs (3 * j + 1)) (by rw [nI_clamp (by omega)]) ?_
  refine lv_aload_n hx hb dL_law_199 rfl (lv_at hl 0 rfl) ?_
  refine lv_iload hx hb dL_law_200 (lv_at hl 4 rfl) ?_
  refine lv_iconst (v := 2) hx hb dL_law_202 (by decide) ?_
  refine lv_iadd hx hb dL_law_203 ?_
  refine lv_tope (y := nI (3 * j + 2)) (nI_add (3 * j) 2) ?_
  refine va_sld hx hb hX hbl hbA hS (vp_in_nI (by omega) (by omega)) dL_law_204 ?_
  refine lv_tope (y := xs (3 * j + 2)) (by rw [nI_clamp (by omega)]) ?_
  refine lv_aload_n hx hb dL_law_205 rfl (lv_at hl 3 rfl) ?_
  have hPc := preP hP
  have hDc := va_D_left hD
  have hFc := free_of hDc hS hA
  have hXc := (hXE.kept hS.2.1).narrow hFc
  refine ret_iJ (ws1 := (WXs cyI cyO a g' ++ cO cyL ao o') ++ WMs cyI am g) (r := k) (run_SU (n := 4) (As := [.ref a.1, .int (xs (3 * j + 1)), .int (xs (3 * j + 2)), .ref ao]) (rest := []) ⟨hx, hb, hml, hown, htsL⟩ hU gL_law_L_setSwan rfl (by decide +kernel) ⟨Nat.le_of_ble_eq_true rfl, Nat.le_of_ble_eq_true rfl⟩ hKK hXc hNC hPc hDc rfl hl.1 rfl (Nat.le_of_ble_eq_true rfl) dL_law_206 ⟨(by show 36 + j + 1 ≤ 650194; omega), (by show 518 + 6 * j + 6 ≤ 7145523; omega)⟩) hS hFc (fun H1 hk h => call_pre hP hD rfl hk h) (fun H locs hP hD hS => ?_)
  refine lv_istore (lv' := [(5, .int k), (0, .ref b), (1, .ref a.1), (2, .ref am.1), (3, .ref ao), (4, .int (nI (3 * j)))]) hx hb dL_law_209 hl (by decide) rfl (fun ls hl => ?_)
  refine lv_aload_n hx hb dL_law_211 rfl (lv_at hl 3 rfl) ?_
  refine lv_aload_n hx hb dL_law_212 rfl (lv_at hl 1 rfl) ?_
  refine lv_iload hx hb dL_law_213 (lv_at hl 5 rfl) ?_
  refine lv_iconst (v := 1) hx hb dL_law_215 (by decide) ?_
  refine lv_iadd hx hb dL_law_216 ?_
  refine lv_tope (y := nI (3 * j + 1)) (nI_add (3 * j) 1) ?_
  refine va_sld hx hb hX hbl hbA hS (vp_in_nI (by omega) (by omega)) dL_law_217 ?_
  refine lv_tope (y := xs (3 * j + 1)) (by rw [nI_clamp (by omega)]) ?_
  refine lv_aload_n hx hb dL_law_218 rfl (lv_at hl 1 rfl) ?_
  refine lv_iload hx hb dL_law_219 (lv_at hl 5 rfl) ?_
  refine lv_iconst (v := 2) hx hb dL_law_221 (by decide) ?_
  refine lv_iadd hx hb dL_law_222 ?_
  refine lv_tope (y := nI (3 * j + 2)) (nI_add (3 * j) 2) ?_
  refine va_sld hx hb hX hbl hbA hS (vp_in_nI (by omega) (by omega)) dL_law_223 ?_
  refine lv_tope (y := xs (3 * j + 2)) (by rw [nI_clamp (by omega)]) ?_
  have hPc := sufP hP
  have hDc := sufD hD
  have hFc := free_of hDc hS hA
  refine ret_iJ (ws1 := (WXs cyI cyO a g' ++ cO cyL ao o') ++ WMs cyI am g') (r := b9) (run_VL (q := (RX6, TX6, 8)) (n := 2) (As := [.int (xs (3 * j + 1)), .int (xs (3 * j + 2))]) (rest := []) ⟨hx, hb, hml, hown, htsL⟩ (hM _) gL_law_X6_setSwan rfl hr1 hr2 (by decide +kernel) ⟨(by show rm.frames + 1 ≤ 11; omega), (by show 8 + (3 + 11) + rm.locals ≤ 402; omega)⟩ hKK hPc hDc (ci := 6) (q0 := 0) rfl (WMs_recv am g) rfl hl.1 rfl (Nat.le_of_ble_eq_true rfl) dL_law_224 ⟨(by show 36 + j + 1 + 0 ≤ 650194; omega), (by show 518 + 6 * j + 6 + 0 ≤ 7145523; omega)⟩) hS hFc (fun H1 hk h => call_suf hP hD rfl hk h) (fun H locs hP hD hS => ?_)
  refine lv_istore (lv' := [(6, .int b9), (5, .int k), (0, .ref b), (1, .ref a.1), (2, .ref am.1), (3, .ref ao), (4, .int (nI (3 * j)))]) hx hb dL_law_227 hl (by decide) rfl (fun ls hl => ?_)
  refine lv_aload_n hx hb dL_law_229 rfl (lv_at hl 4 rfl) ?_
  obtain ⟨rt, ht1, ht2, ht3, ht4, hT⟩ := gi_thrown l D cyI cyO cyL am g'
  have hPc := sufP hP
  have hDc := sufD hD
  have hFc := free_of hDc hS hA
  refine ret_iJ (ws1 := (WXs cyI cyO a g' ++ cO cyL ao o') ++ WMs cyI am g') (r := g'.2.2.2.2.2.2.2.2.1) (run_VL (q := (RX6, TX6, 8)) (n := 0) (As := []) (rest := []) ⟨hx, hb, hml, hown, htsL⟩ (hT _) gL_law_X6_thrown rfl ht1 ht2 (by decide +kernel) ⟨(by show rt.frames + 1 ≤ 11; omega), (by show 8 + (1 + 11) + rt.locals ≤ 402; omega)⟩ hKK hPc hDc (ci := 6) (q0 := 0) rfl (WMs_recv am g') rfl hl.1 rfl (Nat.le_of_ble_eq_true rfl) dL_law_230 ⟨(by show 36 + j + 1 + 0 + 0 ≤ 650194; omega), (by show 518 + 6 * j + 6 + 0 + 0 ≤ 7145523; omega)⟩) hS hFc (fun H1 hk h => call_suf hP hD rfl hk h) (fun H locs hP hD hS => ?_)
  refine lv_iload hx hb dL_law_233 (lv_at hl 1 rfl) ?_
  refine lv_icmp_eq (tgt := 240) hx hb dL_law_235 (by decide) (fun _ => ?_) (fun h9 => absurd hth h9)
  refine lv_iload hx hb dL_law_240 (lv_at hl 1 rfl) ?_
  refine lv_if_ne (tgt := 257) hx hb dL_law_242 (by decide) (fun _ => ?_) (fun hk => ?_)
  · skip
    refine lv_goto (tgt := 1210) hx hb dL_law_257 (by decide) ?_
    refine W.widen (k := 36 + (j + 1)) (n := 518 + 6 * (j + 1)) (by omega) (by omega) ?_
    exact K g' o' _ _ _ hI' hP hD hS (lv_sub hl [2, 3, 4, 5, 6] rfl)
  · skip
    refine lv_aload_n hx hb dL_law_245 rfl (lv_at hl 5 rfl) ?_
    refine lv_iconst (v := 0) hx hb dL_law_246 (by decide) ?_
    refine va_lald hx hb hKK.1 hP 30 2 (WL_out a am ao g' g' o') rfl (i := 0) (vp_in_nI (n := 0) (by decide) (by decide)) dL_law_247 ?_
    refine lv_iload hx hb dL_law_248 (lv_at hl 0 rfl) ?_
    refine lv_i2l (v := b9.toInt64) hx hb dL_law_250 rfl ?_
    refine W.lcmp hx hb dL_law_251 ?_
    refine lv_tope (y := 0) (by rw [show o' (0 : Int32).toNatClampNeg = b9.toInt64 from hout hk]; exact lg_cmp_self _) ?_
    refine lv_if_eq (tgt := 257) hx hb dL_law_252 (by decide) (fun _ => ?_) (fun h9 => absurd rfl h9)
    refine lv_goto (tgt := 1210) hx hb dL_law_257 (by decide) ?_
    refine W.widen (k := 36 + (j + 1)) (n := 518 + 6 * (j + 1)) (by omega) (by omega) ?_
    exact K g' o' _ _ _ hI' hP hD hS (lv_sub hl [2, 3, 4, 5, 6] rfl)
set_option maxHeartbeats 4000000 in
set_option maxRecDepth 100000 in
theorem law_2 {p : Program} {l : Launch} {e : Env} {s : State} {m : MethodId} {below : List Frame} {meth : Method} {c : Code} {b L : Nat} {xs : Nat → Int32} (hL : L ≤ 1536) (C0 : lw_At p s m meth c b L xs) (hlf : l.stackTraces = false) {D : va_G} {cyI cyO cyL : ClassId} (hKK : KK D cyI cyO cyL s) (hXE : XE (fun q : Nat => s.heap.size ≤ q) s s.heap) (hNC : NCW s) {a : AX} {am : AM} {ao : Nat} (hAd : Adr a) {j : Nat} (h3 : 3 * j + 3 ≤ L) {g : SG} {o : Nat → Int64} (hI : Inv a j g) {H : Heap} {locs : List Loc} {ls : Array Slot} (hP : va_P D vwCl ((WXs cyI cyO a g ++ cO cyL ao o) ++ WMs cyI am g) H) (hD : va_D (fun q : Nat => s.heap.size ≤ q) ((WXs cyI cyO a g ++ cO cyL ao o) ++ WMs cyI am g)) (hS : va_S (fun q : Nat => s.heap.size ≤ q) s.heap H locs) (hl : lv_has ls 9 [(0, .ref b), (1, .ref a.1), (2, .ref am.1), (3, .ref ao), (4, .int (nI (3 * j)))]) (K : ∀ (g2 : SG) (o2 : Nat → Int64) (H2 : Heap) (locs2 : List Loc) (ls2 : Array Slot), Inv a (j + 1) g2 → va_P D vwCl ((WXs cyI cyO a g2 ++ cO cyL ao o2) ++ WMs cyI am g2) H2 → va_D (fun q : Nat => s.heap.size ≤ q) ((WXs cyI cyO a g2 ++ cO cyL ao o2) ++ WMs cyI am g2) → va_S (fun q : Nat => s.heap.size ≤ q) s.heap H2 locs2 → lv_has ls2 9 [(0, .ref b), (1, .ref a.1), (2, .ref am.1), (3, .ref ao), (4, .int (nI (3 * j)))] → W p l e room_1 s m #[Value.ref b] below meth c H2 locs2 (36 + (j + 1)) (518 + 6 * (j + 1)) (lw_Z below #[Value.ref b] s) (F0 m 1210 ls2 [])) : W p l e room_1 s m #[Value.ref b] below meth c H locs (36 + j) (518 + 6 * j) (lw_Z below #[Value.ref b] s) (F0 m 260 ls []) := by
  obtain ⟨hx, hb, hr, hml, hown, hts, hX, hbl, hlocks, hgv⟩ := C0
  have hj : j < 512 := by omega
  have hA : ∀ q : Nat, s.heap.size ≤ q → (fun q : Nat => s.heap.size ≤ q) q := fun _ h => h
  have hbA : ¬ (fun q : Nat => s.heap.size ≤ q) b := Nat.not_le.mpr hbl
  have htsL : ∀ w ∈ wsL_law, w.before #[Value.ref b] s = true := fun w h => hts w (wsL_law_in w h)
  have hown : s.vm.findClass RL = some m.cls := hown
  have hb : c.code = cL_law := hb
  by_cases h0 : xs (3 * j + 1) = 0
  · skip
    obtain ⟨k, b9, g', o', hU, ⟨rm, hr1, hr2, hr3, hr4, hM⟩, hth, hout, hI'⟩ := st_setFare l D cyI cyO cyL hlf a am ao j hj g o hAd hI 0 (xs (3 * j + 2))
    refine lv_aload_n hx hb dL_law_260 rfl (lv_at hl 1 rfl) ?_
    refine lv_aload_n hx hb dL_law_261 rfl (lv_at hl 0 rfl) ?_
    refine lv_iload hx hb dL_law_262 (lv_at hl 4 rfl) ?_
    refine lv_iconst (v := 1) hx hb dL_law_264 (by decide) ?_
    refine lv_iadd hx hb dL_law_265 ?_
    refine lv_tope (y := nI (3 * j + 1)) (nI_add (3 * j) 1) ?_
    refine va_sld hx hb hX hbl hbA hS (vp_in_nI (by omega) (by omega)) dL_law_266 ?_
    refine lv_tope (y := xs (3 * j + 1)) (by rw [nI_clamp (by omega)]) ?_
    refine lv_if_eq (tgt := 274) hx hb dL_law_267 (by decide) (fun _ => ?_) (fun h9 => absurd h0 h9)
    refine lv_iconst (v := 0) hx hb dL_law_274 (by decide) ?_
    refine lv_aload_n hx hb dL_law_275 rfl (lv_at hl 0 rfl) ?_
    refine lv_iload hx hb dL_law_276 (lv_at hl 4 rfl) ?_
    refine lv_iconst (v := 2) hx hb dL_law_278 (by decide) ?_
    refine lv_iadd hx hb dL_law_279 ?_
    refine lv_tope (y := nI (3 * j + 2)) (nI_add (3 * j) 2) ?_
    refine va_sld hx hb hX hbl hbA hS (vp_in_nI (by omega) (by omega)) dL_law_280 ?_
    refine lv_tope (y := xs (3 * j + 2)) (by rw [nI_clamp (by omega)]) ?_
    refine lv_aload_n hx hb dL_law_281 rfl (lv_at hl 3 rfl) ?_
    have hPc := preP hP
    have hDc := va_D_left hD
    have hFc := free_of hDc hS hA
    have hXc := (hXE.kept hS.2.1).narrow hFc
    refine ret_iJ (ws1 := (WXs cyI cyO a g' ++ cO cyL ao o') ++ WMs cyI am g) (r := k) (run_SU (n := 4) (As := [.ref a.1, .int 0, .int (xs (3 * j + 2)), .ref ao]) (rest := []) ⟨hx, hb, hml, hown, htsL⟩ hU gL_law_L_setFare rfl (by decide +kernel) ⟨Nat.le_of_ble_eq_true rfl, Nat.le_of_ble_eq_true rfl⟩ hKK hXc hNC hPc hDc rfl hl.1 rfl (Nat.le_of_ble_eq_true rfl) dL_law_282 ⟨(by show 36 + j + 1 ≤ 650194; omega), (by show 518 + 6 * j + 6 ≤ 7145523; omega)⟩) hS hFc (fun H1 hk h => call_pre hP hD rfl hk h) (fun H locs hP hD hS => ?_)
    refine lv_istore (lv' := [(5, .int k), (0, .ref b), (1, .ref a.1), (2, .ref am.1), (3, .ref ao), (4, .int (nI (3 * j)))]) hx hb dL_law_285 hl (by decide) rfl (fun ls hl => ?_)
    refine lv_aload_n hx hb dL_law_287 rfl (lv_at hl 3 rfl) ?_
    refine lv_aload_n hx hb dL_law_288 rfl (lv_at hl 1 rfl) ?_
    refine lv_iload hx hb dL_law_289 (lv_at hl 5 rfl) ?_
    refine lv_iconst (v := 1) hx hb dL_law_291 (by decide) ?_
    refine lv_iadd hx hb dL_law_292 ?_
    refine lv_tope (y := nI (3 * j + 1)) (nI_add (3 * j) 1) ?_
    refine va_sld hx hb hX hbl hbA hS (vp_in_nI (by omega) (by omega)) dL_law_293 ?_
    refine lv_tope (y := xs (3 * j + 1)) (by rw [nI_clamp (by omega)]) ?_
    refine lv_if_eq (tgt := 301) hx hb dL_law_294 (by decide) (fun _ => ?_) (fun h9 => absurd h0 h9)
    refine lv_iconst (v := 0) hx hb dL_law_301 (by decide) ?_
    refine lv_aload_n hx hb dL_law_302 rfl (lv_at hl 1 rfl) ?_
    refine lv_iload hx hb dL_law_303 (lv_at hl 5 rfl) ?_
    refine lv_iconst (v := 2) hx hb dL_law_305 (by decide) ?_
    refine lv_iadd hx hb dL_law_306 ?_
    refine lv_tope (y := nI (3 * j + 2)) (nI_add (3 * j) 2) ?_
    refine va_sld hx hb hX hbl hbA hS (vp_in_nI (by omega) (by omega)) dL_law_307 ?_
    refine lv_tope (y := xs (3 * j + 2)) (by rw [nI_clamp (by omega)]) ?_
    have hPc := sufP hP
    have hDc := sufD hD
    have hFc := free_of hDc hS hA
    refine ret_iJ (ws1 := (WXs cyI cyO a g' ++ cO cyL ao o') ++ WMs cyI am g') (r := b9) (run_VL (q := (RX6, TX6, 8)) (n := 2) (As := [.int 0, .int (xs (3 * j + 2))]) (rest := []) ⟨hx, hb, hml, hown, htsL⟩ (hM _) gL_law_X6_setFare rfl hr1 hr2 (by decide +kernel) ⟨(by show rm.frames + 1 ≤ 11; omega), (by show 8 + (4 + 11) + rm.locals ≤ 402; omega)⟩ hKK hPc hDc (ci := 6) (q0 := 0) rfl (WMs_recv am g) rfl hl.1 rfl (Nat.le_of_ble_eq_true rfl) dL_law_308 ⟨(by show 36 + j + 1 + 0 ≤ 650194; omega), (by show 518 + 6 * j + 6 + 0 ≤ 7145523; omega)⟩) hS hFc (fun H1 hk h => call_suf hP hD rfl hk h) (fun H locs hP hD hS => ?_)
    refine lv_istore (lv' := [(6, .int b9), (5, .int k), (0, .ref b), (1, .ref a.1), (2, .ref am.1), (3, .ref ao), (4, .int (nI (3 * j)))]) hx hb dL_law_311 hl (by decide) rfl (fun ls hl => ?_)
    refine lv_aload_n hx hb dL_law_313 rfl (lv_at hl 4 rfl) ?_
    obtain ⟨rt, ht1, ht2, ht3, ht4, hT⟩ := gi_thrown l D cyI cyO cyL am g'
    have hPc := sufP hP
    have hDc := sufD hD
    have hFc := free_of hDc hS hA
    refine ret_iJ (ws1 := (WXs cyI cyO a g' ++ cO cyL ao o') ++ WMs cyI am g') (r := g'.2.2.2.2.2.2.2.2.1) (run_VL (q := (RX6, TX6, 8)) (n := 0) (As := []) (rest := []) ⟨hx, hb, hml, hown, htsL⟩ (hT _) gL_law_X6_thrown rfl ht1 ht2 (by decide +kernel) ⟨(by show rt.frames + 1 ≤ 11; omega), (by show 8 + (1 + 11) + rt.locals ≤ 402; omega)⟩ hKK hPc hDc (ci := 6) (q0 := 0) rfl (WMs_recv am g') rfl hl.1 rfl (Nat.le_of_ble_eq_true rfl) dL_law_314 ⟨(by show 36 + j + 1 + 0 + 0 ≤ 650194; omega), (by show 518 + 6 * j + 6 + 0 + 0 ≤ 7145523; omega)⟩) hS hFc (fun H1 hk h => call_suf hP hD rfl hk h) (fun H locs hP hD hS => ?_)
    refine lv_iload hx hb dL_law_317 (lv_at hl 1 rfl) ?_
    refine lv_icmp_eq (tgt := 324) hx hb dL_law_319 (by decide) (fun _ => ?_) (fun h9 => absurd hth h9)
    refine lv_iload hx hb dL_law_324 (lv_at hl 1 rfl) ?_
    refine lv_if_ne (tgt := 341) hx hb dL_law_326 (by decide) (fun _ => ?_) (fun hk => ?_)
    · skip
      refine lv_goto (tgt := 1210) hx hb dL_law_341 (by decide) ?_
      refine W.widen (k := 36 + (j + 1)) (n := 518 + 6 * (j + 1)) (by omega) (by omega) ?_
      exact K g' o' _ _ _ hI' hP hD hS (lv_sub hl [2, 3, 4, 5, 6] rfl)
    · skip
      refine lv_aload_n hx hb dL_law_329 rfl (lv_at hl 5 rfl) ?_
      refine lv_iconst (v := 0) hx hb dL_law_330 (by decide) ?_
      refine va_lald hx hb hKK.1 hP 30 2 (WL_out a am ao g' g' o') rfl (i := 0) (vp_in_nI (n := 0) (by decide) (by decide)) dL_law_331 ?_
      refine lv_iload hx hb dL_law_332 (lv_at hl 0 rfl) ?_
      refine lv_i2l (v := b9.toInt64) hx hb dL_law_334 rfl ?_
      refine W.lcmp hx hb dL_law_335 ?_
      refine lv_tope (y := 0) (by rw [show o' (0 : Int32).toNatClampNeg = b9.toInt64 from hout hk]; exact lg_cmp_self _) ?_
      refine lv_if_eq (tgt := 341) hx hb dL_law_336 (by decide) (fun _ => ?_) (fun h9 => absurd rfl h9)
      refine lv_goto (tgt := 1210) hx hb dL_law_341 (by decide) ?_
      refine W.widen (k := 36 + (j + 1)) (n := 518 + 6 * (j + 1)) (by omega) (by omega) ?_
      exact K g' o' _ _ _ hI' hP hD hS (lv_sub hl [2, 3, 4, 5, 6] rfl)
  · skip
    obtain ⟨k, b9, g', o', hU, ⟨rm, hr1, hr2, hr3, hr4, hM⟩, hth, hout, hI'⟩ := st_setFare l D cyI cyO cyL hlf a am ao j hj g o hAd hI 1 (xs (3 * j + 2))
    refine lv_aload_n hx hb dL_law_260 rfl (lv_at hl 1 rfl) ?_
    refine lv_aload_n hx hb dL_law_261 rfl (lv_at hl 0 rfl) ?_
    refine lv_iload hx hb dL_law_262 (lv_at hl 4 rfl) ?_
    refine lv_iconst (v := 1) hx hb dL_law_264 (by decide) ?_
    refine lv_iadd hx hb dL_law_265 ?_
    refine lv_tope (y := nI (3 * j + 1)) (nI_add (3 * j) 1) ?_
    refine va_sld hx hb hX hbl hbA hS (vp_in_nI (by omega) (by omega)) dL_law_266 ?_
    refine lv_tope (y := xs (3 * j + 1)) (by rw [nI_clamp (by omega)]) ?_
    refine lv_if_eq (tgt := 274) hx hb dL_law_267 (by decide) (fun h9 => absurd h9 h0) (fun _ => ?_)
    refine lv_iconst (v := 1) hx hb dL_law_270 (by decide) ?_
    refine lv_goto (tgt := 275) hx hb dL_law_271 (by decide) ?_
    refine lv_aload_n hx hb dL_law_275 rfl (lv_at hl 0 rfl) ?_
    refine lv_iload hx hb dL_law_276 (lv_at hl 4 rfl) ?_
    refine lv_iconst (v := 2) hx hb dL_law_278 (by decide) ?_
    refine lv_iadd hx hb dL_law_279 ?_
    refine lv_tope (y := nI (3 * j + 2)) (nI_add (3 * j) 2) ?_
    refine va_sld hx hb hX hbl hbA hS (vp_in_nI (by omega) (by omega)) dL_law_280 ?_
    refine lv_tope (y := xs (3 * j + 2)) (by rw [nI_clamp (by omega)]) ?_
    refine lv_aload_n hx hb dL_law_281 rfl (lv_at hl 3 rfl) ?_
    have hPc := preP hP
    have hDc := va_D_left hD
    have hFc := free_of hDc hS hA
    have hXc := (hXE.kept hS.2.1).narrow hFc
    refine ret_iJ (ws1 := (WXs cyI cyO a g' ++ cO cyL ao o') ++ WMs cyI am g) (r := k) (run_SU (n := 4) (As := [.ref a.1, .int 1, .int (xs (3 * j + 2)), .ref ao]) (rest := []) ⟨hx, hb, hml, hown, htsL⟩ hU gL_law_L_setFare rfl (by decide +kernel) ⟨Nat.le_of_ble_eq_true rfl, Nat.le_of_ble_eq_true rfl⟩ hKK hXc hNC hPc hDc rfl hl.1 rfl (Nat.le_of_ble_eq_true rfl) dL_law_282 ⟨(by show 36 + j + 1 ≤ 650194; omega), (by show 518 + 6 * j + 6 ≤ 7145523; omega)⟩) hS hFc (fun H1 hk h => call_pre hP hD rfl hk h) (fun H locs hP hD hS => ?_)
    refine lv_istore (lv' := [(5, .int k), (0, .ref b), (1, .ref a.1), (2, .ref am.1), (3, .ref ao), (4, .int (nI (3 * j)))]) hx hb dL_law_285 hl (by decide) rfl (fun ls hl => ?_)
    refine lv_aload_n hx hb dL_law_287 rfl (lv_at hl 3 rfl) ?_
    refine lv_aload_n hx hb dL_law_288 rfl (lv_at hl 1 rfl) ?_
    refine lv_iload hx hb dL_law_289 (lv_at hl 5 rfl) ?_
    refine lv_iconst (v := 1) hx hb dL_law_291 (by decide) ?_
    refine lv_iadd hx hb dL_law_292 ?_
    refine lv_tope (y := nI (3 * j + 1)) (nI_add (3 * j) 1) ?_
    refine va_sld hx hb hX hbl hbA hS (vp_in_nI (by omega) (by omega)) dL_law_293 ?_
    refine lv_tope (y := xs (3 * j + 1)) (by rw [nI_clamp (by omega)]) ?_
    refine lv_if_eq (tgt := 301) hx hb dL_law_294 (by decide) (fun h9 => absurd h9 h0) (fun _ => ?_)
    refine lv_iconst (v := 1) hx hb dL_law_297 (by decide) ?_
    refine lv_goto (tgt := 302) hx hb dL_law_298 (by decide) ?_
    refine lv_aload_n hx hb dL_law_302 rfl (lv_at hl 1 rfl) ?_
    refine lv_iload hx hb dL_law_303 (lv_at hl 5 rfl) ?_
    refine lv_iconst (v := 2) hx hb dL_law_305 (by decide) ?_
    refine lv_iadd hx hb dL_law_306 ?_
    refine lv_tope (y := nI (3 * j + 2)) (nI_add (3 * j) 2) ?_
    refine va_sld hx hb hX hbl hbA hS (vp_in_nI (by omega) (by omega)) dL_law_307 ?_
    refine lv_tope (y := xs (3 * j + 2)) (by rw [nI_clamp (by omega)]) ?_
    have hPc := sufP hP
    have hDc := sufD hD
    have hFc := free_of hDc hS hA
    refine ret_iJ (ws1 := (WXs cyI cyO a g' ++ cO cyL ao o') ++ WMs cyI am g') (r := b9) (run_VL (q := (RX6, TX6, 8)) (n := 2) (As := [.int 1, .int (xs (3 * j + 2))]) (rest := []) ⟨hx, hb, hml, hown, htsL⟩ (hM _) gL_law_X6_setFare rfl hr1 hr2 (by decide +kernel) ⟨(by show rm.frames + 1 ≤ 11; omega), (by show 8 + (4 + 11) + rm.locals ≤ 402; omega)⟩ hKK hPc hDc (ci := 6) (q0 := 0) rfl (WMs_recv am g) rfl hl.1 rfl (Nat.le_of_ble_eq_true rfl) dL_law_308 ⟨(by show 36 + j + 1 + 0 ≤ 650194; omega), (by show 518 + 6 * j + 6 + 0 ≤ 7145523; omega)⟩) hS hFc (fun H1 hk h => call_suf hP hD rfl hk h) (fun H locs hP hD hS => ?_)
    refine lv_istore (lv' := [(6, .int b9), (5, .int k), (0, .ref b), (1, .ref a.1), (2, .ref am.1), (3, .ref ao), (4, .int (nI (3 * j)))]) hx hb dL_law_311 hl (by decide) rfl (fun ls hl => ?_)
    refine lv_aload_n hx hb dL_law_313 rfl (lv_at hl 4 rfl) ?_
    obtain ⟨rt, ht1, ht2, ht3, ht4, hT⟩ := gi_thrown l D cyI cyO cyL am g'
    have hPc := sufP hP
    have hDc := sufD hD
    have hFc := free_of hDc hS hA
    refine ret_iJ (ws1 := (WXs cyI cyO a g' ++ cO cyL ao o') ++ WMs cyI am g') (r := g'.2.2.2.2.2.2.2.2.1) (run_VL (q := (RX6, TX6, 8)) (n := 0) (As := []) (rest := []) ⟨hx, hb, hml, hown, htsL⟩ (hT _) gL_law_X6_thrown rfl ht1 ht2 (by decide +kernel) ⟨(by show rt.frames + 1 ≤ 11; omega), (by show 8 + (1 + 11) + rt.locals ≤ 402; omega)⟩ hKK hPc hDc (ci := 6) (q0 := 0) rfl (WMs_recv am g') rfl hl.1 rfl (Nat.le_of_ble_eq_true rfl) dL_law_314 ⟨(by show 36 + j + 1 + 0 + 0 ≤ 650194; omega), (by show 518 + 6 * j + 6 + 0 + 0 ≤ 7145523; omega)⟩) hS hFc (fun H1 hk h => call_suf hP hD rfl hk h) (fun H locs hP hD hS => ?_)
    refine lv_iload hx hb dL_law_317 (lv_at hl 1 rfl) ?_
    refine lv_icmp_eq (tgt := 324) hx hb dL_law_319 (by decide) (fun _ => ?_) (fun h9 => absurd hth h9)
    refine lv_iload hx hb dL_law_324 (lv_at hl 1 rfl) ?_
    refine lv_if_ne (tgt := 341) hx hb dL_law_326 (by decide) (fun _ => ?_) (fun hk => ?_)
    · skip
      refine lv_goto (tgt := 1210) hx hb dL_law_341 (by decide) ?_
      refine W.widen (k := 36 + (j + 1)) (n := 518 + 6 * (j + 1)) (by omega) (by omega) ?_
      exact K g' o' _ _ _ hI' hP hD hS (lv_sub hl [2, 3, 4, 5, 6] rfl)
    · skip
      refine lv_aload_n hx hb dL_law_329 rfl (lv_at hl 5 rfl) ?_
      refine lv_iconst (v := 0) hx hb dL_law_330 (by decide) ?_
      refine va_lald hx hb hKK.1 hP 30 2 (WL_out a am ao g' g' o') rfl (i := 0) (vp_in_nI (n := 0) (by decide) (by decide)) dL_law_331 ?_
      refine lv_iload hx hb dL_law_332 (lv_at hl 0 rfl) ?_
      refine lv_i2l (v := b9.toInt64) hx hb dL_law_334 rfl ?_
      refine W.lcmp hx hb dL_law_335 ?_
      refine lv_tope (y := 0) (by rw [show o' (0 : Int32).toNatClampNeg = b9.toInt64 from hout hk]; exact lg_cmp_self _) ?_
      refine lv_if_eq (tgt := 341) hx hb dL_law_336 (by decide) (fun _ => ?_) (fun h9 => absurd rfl h9)
      refine lv_goto (tgt := 1210) hx hb dL_law_341 (by decide) ?_
      refine W.widen (k := 36 + (j + 1)) (n := 518 + 6 * (j + 1)) (by omega) (by omega) ?_
      exact K g' o' _ _ _ hI' hP hD hS (lv_sub hl [2, 3, 4, 5, 6] rfl)
set_option maxHeartbeats 4000000 in
set_option maxRecDepth 100000 in
theorem law_3 {p : Program} {l : Launch} {e : Env} {s : State} {m : MethodId} {below : List Frame} {meth : Method} {c : Code} {b L : Nat} {xs : Nat → Int32} (hL : L ≤ 1536) (C0 : lw_At p s m meth c b L xs) (hlf : l.stackTraces = false) {D : va_G} {cyI cyO cyL : ClassId} (hKK : KK D cyI cyO cyL s) (hXE : XE (fun q : Nat => s.heap.size ≤ q) s s.heap) (hNC : NCW s) {a : AX} {am : AM} {ao : Nat} (hAd : Adr a) {j : Nat} (h3 : 3 * j + 3 ≤ L) {g : SG} {o : Nat → Int64} (hI : Inv a j g) {H : Heap} {locs : List Loc} {ls : Array Slot} (hP : va_P D vwCl ((WXs cyI cyO a g ++ cO cyL ao o) ++ WMs cyI am g) H) (hD : va_D (fun q : Nat => s.heap.size ≤ q) ((WXs cyI cyO a g ++ cO cyL ao o) ++ WMs cyI am g)) (hS : va_S (fun q : Nat => s.heap.size ≤ q) s.heap H locs) (hl : lv_has ls 9 [(0, .ref b), (1, .ref a.1), (2, .ref am.1), (3, .ref ao), (4, .int (nI (3 * j)))]) (K : ∀ (g2 : SG) (o2 : Nat → Int64) (H2 : Heap) (locs2 : List Loc) (ls2 : Array Slot), Inv a (j + 1) g2 → va_P D vwCl ((WXs cyI cyO a g2 ++ cO cyL ao o2) ++ WMs cyI am g2) H2 → va_D (fun q : Nat => s.heap.size ≤ q) ((WXs cyI cyO a g2 ++ cO cyL ao o2) ++ WMs cyI am g2) → va_S (fun q : Nat => s.heap.size ≤ q) s.heap H2 locs2 → lv_has ls2 9 [(0, .ref b), (1, .ref a.1), (2, .ref am.1), (3, .ref ao), (4, .int (nI (3 * j)))] → W p l e room_1 s m #[Value.ref b] below meth c H2 locs2 (36 + (j + 1)) (518 + 6 * (j + 1)) (lw_Z below #[Value.ref b] s) (F0 m 1210 ls2 [])) : W p l e room_1 s m #[Value.ref b] below meth c H locs (36 + j) (518 + 6 * j) (lw_Z below #[Value.ref b] s) (F0 m 344 ls []) := by
  obtain ⟨hx, hb, hr, hml, hown, hts, hX, hbl, hlocks, hgv⟩ := C0
  have hj : j < 512 := by omega
  have hA : ∀ q : Nat, s.heap.size ≤ q → (fun q : Nat => s.heap.size ≤ q) q := fun _ h => h
  have hbA : ¬ (fun q : Nat => s.heap.size ≤ q) b := Nat.not_le.mpr hbl
  have htsL : ∀ w ∈ wsL_law, w.before #[Value.ref b] s = true := fun w h => hts w (wsL_law_in w h)
  have hown : s.vm.findClass RL = some m.cls := hown
  have hb : c.code = cL_law := hb
  by_cases h0 : xs (3 * j + 2) = 0
  · skip
    obtain ⟨k, b9, g', o', hU, ⟨rm, hr1, hr2, hr3, hr4, hM⟩, hth, hout, hI'⟩ := st_bus l D cyI cyO cyL hlf a am ao j hj g o hAd hI (xs (3 * j + 1)) 0 (Or.inl rfl)
    refine lv_aload_n hx hb dL_law_344 rfl (lv_at hl 1 rfl) ?_
    refine lv_aload_n hx hb dL_law_345 rfl (lv_at hl 0 rfl) ?_
    refine lv_iload hx hb dL_law_346 (lv_at hl 4 rfl) ?_
    refine lv_iconst (v := 1) hx hb dL_law_348 (by decide) ?_
    refine lv_iadd hx hb dL_law_349 ?_
    refine lv_tope (y := nI (3 * j + 1)) (nI_add (3 * j) 1) ?_
    refine va_sld hx hb hX hbl hbA hS (vp_in_nI (by omega) (by omega)) dL_law_350 ?_
    refine lv_tope (y := xs (3 * j + 1)) (by rw [nI_clamp (by omega)]) ?_
    refine lv_aload_n hx hb dL_law_351 rfl (lv_at hl 0 rfl) ?_
    refine lv_iload hx hb dL_law_352 (lv_at hl 4 rfl) ?_
    refine lv_iconst (v := 2) hx hb dL_law_354 (by decide) ?_
    refine lv_iadd hx hb dL_law_355 ?_
    refine lv_tope (y := nI (3 * j + 2)) (nI_add (3 * j) 2) ?_
    refine va_sld hx hb hX hbl hbA hS (vp_in_nI (by omega) (by omega)) dL_law_356 ?_
    refine lv_tope (y := xs (3 * j + 2)) (by rw [nI_clamp (by omega)]) ?_
    refine lv_if_eq (tgt := 364) hx hb dL_law_357 (by decide) (fun _ => ?_) (fun h9 => absurd h0 h9)
    refine lv_iconst (v := 0) hx hb dL_law_364 (by decide) ?_
    refine lv_aload_n hx hb dL_law_365 rfl (lv_at hl 3 rfl) ?_
    have hPc := preP hP
    have hDc := va_D_left hD
    have hFc := free_of hDc hS hA
    have hXc := (hXE.kept hS.2.1).narrow hFc
    refine ret_iJ (ws1 := (WXs cyI cyO a g' ++ cO cyL ao o') ++ WMs cyI am g) (r := k) (run_SU (n := 4) (As := [.ref a.1, .int (xs (3 * j + 1)), .int 0, .ref ao]) (rest := []) ⟨hx, hb, hml, hown, htsL⟩ hU gL_law_L_bus rfl (by decide +kernel) ⟨Nat.le_of_ble_eq_true rfl, Nat.le_of_ble_eq_true rfl⟩ hKK hXc hNC hPc hDc rfl hl.1 rfl (Nat.le_of_ble_eq_true rfl) dL_law_366 ⟨(by show 36 + j + 1 ≤ 650194; omega), (by show 518 + 6 * j + 6 ≤ 7145523; omega)⟩) hS hFc (fun H1 hk h => call_pre hP hD rfl hk h) (fun H locs hP hD hS => ?_)
    refine lv_istore (lv' := [(5, .int k), (0, .ref b), (1, .ref a.1), (2, .ref am.1), (3, .ref ao), (4, .int (nI (3 * j)))]) hx hb dL_law_369 hl (by decide) rfl (fun ls hl => ?_)
    refine lv_aload_n hx hb dL_law_371 rfl (lv_at hl 3 rfl) ?_
    refine lv_aload_n hx hb dL_law_372 rfl (lv_at hl 1 rfl) ?_
    refine lv_iload hx hb dL_law_373 (lv_at hl 5 rfl) ?_
    refine lv_iconst (v := 1) hx hb dL_law_375 (by decide) ?_
    refine lv_iadd hx hb dL_law_376 ?_
    refine lv_tope (y := nI (3 * j + 1)) (nI_add (3 * j) 1) ?_
    refine va_sld hx hb hX hbl hbA hS (vp_in_nI (by omega) (by omega)) dL_law_377 ?_
    refine lv_tope (y := xs (3 * j + 1)) (by rw [nI_clamp (by omega)]) ?_
    refine lv_aload_n hx hb dL_law_378 rfl (lv_at hl 1 rfl) ?_
    refine lv_iload hx hb dL_law_379 (lv_at hl 5 rfl) ?_
    refine lv_iconst (v := 2) hx hb dL_law_381 (by decide) ?_
    refine lv_iadd hx hb dL_law_382 ?_
    refine lv_tope (y := nI (3 * j + 2)) (nI_add (3 * j) 2) ?_
    refine va_sld hx hb hX hbl hbA hS (vp_in_nI (by omega) (by omega)) dL_law_383 ?_
    refine lv_tope (y := xs (3 * j + 2)) (by rw [nI_clamp (by omega)]) ?_
    refine lv_if_eq (tgt := 391) hx hb dL_law_384 (by decide) (fun _ => ?_) (fun h9 => absurd h0 h9)
    refine lv_iconst (v := 0) hx hb dL_law_391 (by decide) ?_
    have hPc := sufP hP
    have hDc := sufD hD
    have hFc := free_of hDc hS hA
    refine ret_iJ (ws1 := (WXs cyI cyO a g' ++ cO cyL ao o') ++ WMs cyI am g') (r := b9) (run_VL (q := (RX6, TX6, 8)) (n := 2) (As := [.int (xs (3 * j + 1)), .int 0]) (rest := []) ⟨hx, hb, hml, hown, htsL⟩ (hM _) gL_law_X6_bus rfl hr1 hr2 (by decide +kernel) ⟨(by show rm.frames + 1 ≤ 11; omega), (by show 8 + (4 + 11) + rm.locals ≤ 402; omega)⟩ hKK hPc hDc (ci := 6) (q0 := 0) rfl (WMs_recv am g) rfl hl.1 rfl (Nat.le_of_ble_eq_true rfl) dL_law_392 ⟨(by show 36 + j + 1 + 0 ≤ 650194; omega), (by show 518 + 6 * j + 6 + 0 ≤ 7145523; omega)⟩) hS hFc (fun H1 hk h => call_suf hP hD rfl hk h) (fun H locs hP hD hS => ?_)
    refine lv_istore (lv' := [(6, .int b9), (5, .int k), (0, .ref b), (1, .ref a.1), (2, .ref am.1), (3, .ref ao), (4, .int (nI (3 * j)))]) hx hb dL_law_395 hl (by decide) rfl (fun ls hl => ?_)
    refine lv_aload_n hx hb dL_law_397 rfl (lv_at hl 4 rfl) ?_
    obtain ⟨rt, ht1, ht2, ht3, ht4, hT⟩ := gi_thrown l D cyI cyO cyL am g'
    have hPc := sufP hP
    have hDc := sufD hD
    have hFc := free_of hDc hS hA
    refine ret_iJ (ws1 := (WXs cyI cyO a g' ++ cO cyL ao o') ++ WMs cyI am g') (r := g'.2.2.2.2.2.2.2.2.1) (run_VL (q := (RX6, TX6, 8)) (n := 0) (As := []) (rest := []) ⟨hx, hb, hml, hown, htsL⟩ (hT _) gL_law_X6_thrown rfl ht1 ht2 (by decide +kernel) ⟨(by show rt.frames + 1 ≤ 11; omega), (by show 8 + (1 + 11) + rt.locals ≤ 402; omega)⟩ hKK hPc hDc (ci := 6) (q0 := 0) rfl (WMs_recv am g') rfl hl.1 rfl (Nat.le_of_ble_eq_true rfl) dL_law_398 ⟨(by show 36 + j + 1 + 0 + 0 ≤ 650194; omega), (by show 518 + 6 * j + 6 + 0 + 0 ≤ 7145523; omega)⟩) hS hFc (fun H1 hk h => call_suf hP hD rfl hk h) (fun H locs hP hD hS => ?_)
    refine lv_iload hx hb dL_law_401 (lv_at hl 1 rfl) ?_
    refine lv_icmp_eq (tgt := 408) hx hb dL_law_403 (by decide) (fun _ => ?_) (fun h9 => absurd hth h9)
    refine lv_iload hx hb dL_law_408 (lv_at hl 1 rfl) ?_
    refine lv_if_ne (tgt := 425) hx hb dL_law_410 (by decide) (fun _ => ?_) (fun hk => ?_)
    · skip
      refine lv_goto (tgt := 1210) hx hb dL_law_425 (by decide) ?_
      refine W.widen (k := 36 + (j + 1)) (n := 518 + 6 * (j + 1)) (by omega) (by omega) ?_
      exact K g' o' _ _ _ hI' hP hD hS (lv_sub hl [2, 3, 4, 5, 6] rfl)
    · skip
      refine lv_aload_n hx hb dL_law_413 rfl (lv_at hl 5 rfl) ?_
      refine lv_iconst (v := 0) hx hb dL_law_414 (by decide) ?_
      refine va_lald hx hb hKK.1 hP 30 2 (WL_out a am ao g' g' o') rfl (i := 0) (vp_in_nI (n := 0) (by decide) (by decide)) dL_law_415 ?_
      refine lv_iload hx hb dL_law_416 (lv_at hl 0 rfl) ?_
      refine lv_i2l (v := b9.toInt64) hx hb dL_law_418 rfl ?_
      refine W.lcmp hx hb dL_law_419 ?_
      refine lv_tope (y := 0) (by rw [show o' (0 : Int32).toNatClampNeg = b9.toInt64 from hout hk]; exact lg_cmp_self _) ?_
      refine lv_if_eq (tgt := 425) hx hb dL_law_420 (by decide) (fun _ => ?_) (fun h9 => absurd rfl h9)
      refine lv_goto (tgt := 1210) hx hb dL_law_425 (by decide) ?_
      refine W.widen (k := 36 + (j + 1)) (n := 518 + 6 * (j + 1)) (by omega) (by omega) ?_
      exact K g' o' _ _ _ hI' hP hD hS (lv_sub hl [2, 3, 4, 5, 6] rfl)
  · skip
    obtain ⟨k, b9, g', o', hU, ⟨rm, hr1, hr2, hr3, hr4, hM⟩, hth, hout, hI'⟩ := st_bus l D cyI cyO cyL hlf a am ao j hj g o hAd hI (xs (3 * j + 1)) 1 (Or.inr rfl)
    refine lv_aload_n hx hb dL_law_344 rfl (lv_at hl 1 rfl) ?_
    refine lv_aload_n hx hb dL_law_345 rfl (lv_at hl 0 rfl) ?_
    refine lv_iload hx hb dL_law_346 (lv_at hl 4 rfl) ?_
    refine lv_iconst (v := 1) hx hb dL_law_348 (by decide) ?_
    refine lv_iadd hx hb dL_law_349 ?_
    refine lv_tope (y := nI (3 * j + 1)) (nI_add (3 * j) 1) ?_
    refine va_sld hx hb hX hbl hbA hS (vp_in_nI (by omega) (by omega)) dL_law_350 ?_
    refine lv_tope (y := xs (3 * j + 1)) (by rw [nI_clamp (by omega)]) ?_
    refine lv_aload_n hx hb dL_law_351 rfl (lv_at hl 0 rfl) ?_
    refine lv_iload hx hb dL_law_352 (lv_at hl 4 rfl) ?_
    refine lv_iconst (v := 2) hx hb dL_law_354 (by decide) ?_
    refine lv_iadd hx hb dL_law_355 ?_
    refine lv_tope (y := nI (3 * j + 2)) (nI_add (3 * j) 2) ?_
    refine va_sld hx hb hX hbl hbA hS (vp_in_nI (by omega) (by omega)) dL_law_356 ?_
    refine lv_tope (y := xs (3 * j + 2)) (by rw [nI_clamp (by omega)]) ?_
    refine lv_if_eq (tgt := 364) hx hb dL_law_357 (by decide) (fun h9 => absurd h9 h0) (fun _ => ?_)
    refine lv_iconst (v := 1) hx hb dL_law_360 (by decide) ?_
    refine lv_goto (tgt := 365) hx hb dL_law_361 (by decide) ?_
    refine lv_aload_n hx hb dL_law_365 rfl (lv_at hl 3 rfl) ?_
    have hPc := preP hP
    have hDc := va_D_left hD
    have hFc := free_of hDc hS hA
    have hXc := (hXE.kept hS.2.1).narrow hFc
    refine ret_iJ (ws1 := (WXs cyI cyO a g' ++ cO cyL ao o') ++ WMs cyI am g) (r := k) (run_SU (n := 4) (As := [.ref a.1, .int (xs (3 * j + 1)), .int 1, .ref ao]) (rest := []) ⟨hx, hb, hml, hown, htsL⟩ hU gL_law_L_bus rfl (by decide +kernel) ⟨Nat.le_of_ble_eq_true rfl, Nat.le_of_ble_eq_true rfl⟩ hKK hXc hNC hPc hDc rfl hl.1 rfl (Nat.le_of_ble_eq_true rfl) dL_law_366 ⟨(by show 36 + j + 1 ≤ 650194; omega), (by show 518 + 6 * j + 6 ≤ 7145523; omega)⟩) hS hFc (fun H1 hk h => call_pre hP hD rfl hk h) (fun H locs hP hD hS => ?_)
    refine lv_istore (lv' := [(5, .int k), (0, .ref b), (1, .ref a.1), (2, .ref am.1), (3, .ref ao), (4, .int (nI (3 * j)))]) hx hb dL_law_369 hl (by decide) rfl (fun ls hl => ?_)
    refine lv_aload_n hx hb dL_law_371 rfl (lv_at hl 3 rfl) ?_
    refine lv_aload_n hx hb dL_law_372 rfl (lv_at hl 1 rfl) ?_
    refine lv_iload hx hb dL_law_373 (lv_at hl 5 rfl) ?_
    refine lv_iconst (v := 1) hx hb dL_law_375 (by decide) ?_
    refine lv_iadd hx hb dL_law_376 ?_
    refine lv_tope (y := nI (3 * j + 1)) (nI_add (3 * j) 1) ?_
    refine va_sld hx hb hX hbl hbA hS (vp_in_nI (by omega) (by omega)) dL_law_377 ?_
    refine lv_tope (y := xs (3 * j + 1)) (by rw [nI_clamp (by omega)]) ?_
    refine lv_aload_n hx hb dL_law_378 rfl (lv_at hl 1 rfl) ?_
    refine lv_iload hx hb dL_law_379 (lv_at hl 5 rfl) ?_
    refine lv_iconst (v := 2) hx hb dL_law_381 (by decide) ?_
    refine lv_iadd hx hb dL_law_382 ?_
    refine lv_tope (y := nI (3 * j + 2)) (nI_add (3 * j) 2) ?_
    refine va_sld hx hb hX hbl hbA hS (vp_in_nI (by omega) (by omega)) dL_law_383 ?_
    refine lv_tope (y := xs (3 * j + 2)) (by rw [nI_clamp (by omega)]) ?_
    refine lv_if_eq (tgt := 391) hx hb dL_law_384 (by decide) (fun h9 => absurd h9 h0) (fun _ => ?_)
    refine lv_iconst (v := 1) hx hb dL_law_387 (by decide) ?_
    refine lv_goto (tgt := 392) hx hb dL_law_388 (by decide) ?_
    have hPc := sufP hP
    have hDc := sufD hD
    have hFc := free_of hDc hS hA
    refine ret_iJ (ws1 := (WXs cyI cyO a g' ++ cO cyL ao o') ++ WMs cyI am g') (r := b9) (run_VL (q := (RX6, TX6, 8)) (n := 2) (As := [.int (xs (3 * j + 1)), .int 1]) (rest := []) ⟨hx, hb, hml, hown, htsL⟩ (hM _) gL_law_X6_bus rfl hr1 hr2 (by decide +kernel) ⟨(by show rm.frames + 1 ≤ 11; omega), (by show 8 + (4 + 11) + rm.locals ≤ 402; omega)⟩ hKK hPc hDc (ci := 6) (q0 := 0) rfl (WMs_recv am g) rfl hl.1 rfl (Nat.le_of_ble_eq_true rfl) dL_law_392 ⟨(by show 36 + j + 1 + 0 ≤ 650194; omega), (by show 518 + 6 * j + 6 + 0 ≤ 7145523; omega)⟩) hS hFc (fun H1 hk h => call_suf hP hD rfl hk h) (fun H locs hP hD hS => ?_)
    refine lv_istore (lv' := [(6, .int b9), (5, .int k), (0, .ref b), (1, .ref a.1), (2, .ref am.1), (3, .ref ao), (4, .int (nI (3 * j)))]) hx hb dL_law_395 hl (by decide) rfl (fun ls hl => ?_)
    refine lv_aload_n hx hb dL_law_397 rfl (lv_at hl 4 rfl) ?_
    obtain ⟨rt, ht1, ht2, ht3, ht4, hT⟩ := gi_thrown l D cyI cyO cyL am g'
    have hPc := sufP hP
    have hDc := sufD hD
    have hFc := free_of hDc hS hA
    refine ret_iJ (ws1 := (WXs cyI cyO a g' ++ cO cyL ao o') ++ WMs cyI am g') (r := g'.2.2.2.2.2.2.2.2.1) (run_VL (q := (RX6, TX6, 8)) (n := 0) (As := []) (rest := []) ⟨hx, hb, hml, hown, htsL⟩ (hT _) gL_law_X6_thrown rfl ht1 ht2 (by decide +kernel) ⟨(by show rt.frames + 1 ≤ 11; omega), (by show 8 + (1 + 11) + rt.locals ≤ 402; omega)⟩ hKK hPc hDc (ci := 6) (q0 := 0) rfl (WMs_recv am g') rfl hl.1 rfl (Nat.le_of_ble_eq_true rfl) dL_law_398 ⟨(by show 36 + j + 1 + 0 + 0 ≤ 650194; omega), (by show 518 + 6 * j + 6 + 0 + 0 ≤ 7145523; omega)⟩) hS hFc (fun H1 hk h => call_suf hP hD rfl hk h) (fun H locs hP hD hS => ?_)
    refine lv_iload hx hb dL_law_401 (lv_at hl 1 rfl) ?_
    refine lv_icmp_eq (tgt := 408) hx hb dL_law_403 (by decide) (fun _ => ?_) (fun h9 => absurd hth h9)
    refine lv_iload hx hb dL_law_408 (lv_at hl 1 rfl) ?_
    refine lv_if_ne (tgt := 425) hx hb dL_law_410 (by decide) (fun _ => ?_) (fun hk => ?_)
    · skip
      refine lv_goto (tgt := 1210) hx hb dL_law_425 (by decide) ?_
      refine W.widen (k := 36 + (j + 1)) (n := 518 + 6 * (j + 1)) (by omega) (by omega) ?_
      exact K g' o' _ _ _ hI' hP hD hS (lv_sub hl [2, 3, 4, 5, 6] rfl)
    · skip
      refine lv_aload_n hx hb dL_law_413 rfl (lv_at hl 5 rfl) ?_
      refine lv_iconst (v := 0) hx hb dL_law_414 (by decide) ?_
      refine va_lald hx hb hKK.1 hP 30 2 (WL_out a am ao g' g' o') rfl (i := 0) (vp_in_nI (n := 0) (by decide) (by decide)) dL_law_415 ?_
      refine lv_iload hx hb dL_law_416 (lv_at hl 0 rfl) ?_
      refine lv_i2l (v := b9.toInt64) hx hb dL_law_418 rfl ?_
      refine W.lcmp hx hb dL_law_419 ?_
      refine lv_tope (y := 0) (by rw [show o' (0 : Int32).toNatClampNeg = b9.toInt64 from hout hk]; exact lg_cmp_self _) ?_
      refine lv_if_eq (tgt := 425) hx hb dL_law_420 (by decide) (fun _ => ?_) (fun h9 => absurd rfl h9)
      refine lv_goto (tgt := 1210) hx hb dL_law_425 (by decide) ?_
      refine W.widen (k := 36 + (j + 1)) (n := 518 + 6 * (j + 1)) (by omega) (by omega) ?_
      exact K g' o' _ _ _ hI' hP hD hS (lv_sub hl [2, 3, 4, 5, 6] rfl)
