/-! the law's loop -/
theorem sw18 (x : Int32) : (∃ z : Nat, z < 18 ∧ x = nI z) ∨ (x.toInt < 0 ∨ 17 < x.toInt) := by
  rcases swN x 18 (by decide) with h | h
  · exact Or.inl h
  · right
    omega
theorem le_sub3 {i L : Nat} (hi : i ≤ 1536) (hL : L ≤ 1536) : (¬ (nI L - 3 < nI i)) ↔ i + 3 ≤ L := by
  rw [Int32.lt_iff_toInt_lt, nI_toInt (by omega)]
  have e3 : (nI L - 3).toInt = (L : Int) - 3 := by
    rw [Int32.toInt_sub, nI_toInt (by omega)]
    have e4 : (3 : Int32).toInt = 3 := rfl
    rw [e4]
    apply Int.bmod_eq_of_le <;> omega
  rw [e3]
  omega
set_option maxHeartbeats 4000000 in
set_option maxRecDepth 100000 in
theorem law_loop {p : Program} {l : Launch} {e : Env} {s : State} {m : MethodId} {below : List Frame} {meth : Method} {c : Code} {b L : Nat} {xs : Nat → Int32} (hL : L ≤ 1536) (C0 : lw_At p s m meth c b L xs) (hlf : l.stackTraces = false) {D : va_G} {cyI cyO cyL : ClassId} (hKK : KK D cyI cyO cyL s) (hXE : XE (fun q : Nat => s.heap.size ≤ q) s s.heap) (hNC : NCW s) {a : AX} {am : AM} {ao : Nat} (hAd : Adr a) : ∀ (n j : Nat), 512 ≤ j + n → 3 * j ≤ L → ∀ (g : SG) (o : Nat → Int64) (H : Heap) (locs : List Loc) (ls : Array Slot), Inv a j g → va_P D vwCl ((WXs cyI cyO a g ++ cO cyL ao o) ++ WMs cyI am g) H → va_D (fun q : Nat => s.heap.size ≤ q) ((WXs cyI cyO a g ++ cO cyL ao o) ++ WMs cyI am g) → va_S (fun q : Nat => s.heap.size ≤ q) s.heap H locs → lv_has ls 9 [(0, .ref b), (1, .ref a.1), (2, .ref am.1), (3, .ref ao), (4, .int (nI (3 * j)))] → W p l e room_1 s m #[Value.ref b] below meth c H locs (36 + j) (518 + 6 * j) (lw_Z below #[Value.ref b] s) (F0 m 23 ls []) := by
  intro n
  induction n with
  | zero =>
    intro j hjn hj3 g o H locs ls hI hP hD hS hl
    obtain ⟨hx, hb, hr, hml, hown, hts, hX, hbl, hlocks, hgv⟩ := id C0
    have hA : ∀ q : Nat, s.heap.size ≤ q → (fun q : Nat => s.heap.size ≤ q) q := fun _ h => h
    have hbA : ¬ (fun q : Nat => s.heap.size ≤ q) b := Nat.not_le.mpr hbl
    have hb : c.code = cL_law := hb
    refine lv_iload hx hb dL_law_23 (lv_at hl 4 rfl) ?_
    refine lv_aload_n hx hb dL_law_25 rfl (lv_at hl 0 rfl) ?_
    refine va_slen hx hb hX hbl hbA hS dL_law_26 ?_
    refine lv_iconst (v := 3) hx hb dL_law_27 (by decide) ?_
    refine lv_isub hx hb dL_law_28 ?_
    refine lv_icmp_gt (tgt := 1216) hx hb dL_law_29 (by decide) (fun _ => ?_) (fun hge => ?_)
    · refine lv_iconst (v := 1) hx hb dL_law_1216 (by decide) ?_
      refine va_forget (fun q hq => hS.2.2 q hq) ?_
      refine W.widen (k := 650194) (n := 7145523) (by omega) (by omega) ?_
      refine W.base ?_
      exact lw_ret (Drawn.sameBut.refl s.drawn lw_cs) hx hb hr hlocks dL_law_1217
    · have h3 : 3 * j + 3 ≤ L := (le_sub3 (by omega) hL).mp hge
      exact absurd h3 (by omega)
  | succ n ih =>
    intro j hjn hj3 g o H locs ls hI hP hD hS hl
    obtain ⟨hx, hb, hr, hml, hown, hts, hX, hbl, hlocks, hgv⟩ := id C0
    have hA : ∀ q : Nat, s.heap.size ≤ q → (fun q : Nat => s.heap.size ≤ q) q := fun _ h => h
    have hbA : ¬ (fun q : Nat => s.heap.size ≤ q) b := Nat.not_le.mpr hbl
    have hb : c.code = cL_law := hb
    refine lv_iload hx hb dL_law_23 (lv_at hl 4 rfl) ?_
    refine lv_aload_n hx hb dL_law_25 rfl (lv_at hl 0 rfl) ?_
    refine va_slen hx hb hX hbl hbA hS dL_law_26 ?_
    refine lv_iconst (v := 3) hx hb dL_law_27 (by decide) ?_
    refine lv_isub hx hb dL_law_28 ?_
    refine lv_icmp_gt (tgt := 1216) hx hb dL_law_29 (by decide) (fun _ => ?_) (fun hge => ?_)
    · refine lv_iconst (v := 1) hx hb dL_law_1216 (by decide) ?_
      refine va_forget (fun q hq => hS.2.2 q hq) ?_
      refine W.widen (k := 650194) (n := 7145523) (by omega) (by omega) ?_
      refine W.base ?_
      exact lw_ret (Drawn.sameBut.refl s.drawn lw_cs) hx hb hr hlocks dL_law_1217
    · have h3 : 3 * j + 3 ≤ L := (le_sub3 (by omega) hL).mp hge
      have K : ∀ (g2 : SG) (o2 : Nat → Int64) (H2 : Heap) (locs2 : List Loc) (ls2 : Array Slot), Inv a (j + 1) g2 → va_P D vwCl ((WXs cyI cyO a g2 ++ cO cyL ao o2) ++ WMs cyI am g2) H2 → va_D (fun q : Nat => s.heap.size ≤ q) ((WXs cyI cyO a g2 ++ cO cyL ao o2) ++ WMs cyI am g2) → va_S (fun q : Nat => s.heap.size ≤ q) s.heap H2 locs2 → lv_has ls2 9 [(0, .ref b), (1, .ref a.1), (2, .ref am.1), (3, .ref ao), (4, .int (nI (3 * j)))] → W p l e room_1 s m #[Value.ref b] below meth c H2 locs2 (36 + (j + 1)) (518 + 6 * (j + 1)) (lw_Z below #[Value.ref b] s) (F0 m 1210 ls2 []) := by
        intro g2 o2 H2 locs2 ls2 hI2 hP2 hD2 hS2 hl2
        refine lv_iinc (v := nI (3 * (j + 1))) (lv' := [(4, .int (nI (3 * (j + 1)))), (0, .ref b), (1, .ref a.1), (2, .ref am.1), (3, .ref ao)]) hx hb dL_law_1210 hl2 (k := 4) rfl (nI_add (3 * j) 3) (by decide) rfl (fun ls hl => ?_)
        refine lv_goto (tgt := 23) hx hb dL_law_1213 (by decide) ?_
        exact ih (j + 1) (by omega) (by omega) g2 o2 H2 locs2 ls hI2 hP2 hD2 hS2 (lv_sub hl [1, 2, 3, 4, 0] rfl)
      refine lv_aload_n hx hb dL_law_32 rfl (lv_at hl 0 rfl) ?_
      refine lv_iload hx hb dL_law_33 (lv_at hl 4 rfl) ?_
      refine va_sld hx hb hX hbl hbA hS (vp_in_nI (by omega) (by omega)) dL_law_35 ?_
      refine lv_bipush (v := 31) hx hb dL_law_36 (by decide) ?_
      refine lv_iand hx hb dL_law_38 ?_
      rcases sw18 (xs (nI (3 * j)).toNatClampNeg &&& 31) with ⟨z, hz, hs⟩ | hs
      · rcases (show z = 0 ∨ z = 1 ∨ z = 2 ∨ z = 3 ∨ z = 4 ∨ z = 5 ∨ z = 6 ∨ z = 7 ∨ z = 8 ∨ z = 9 ∨ z = 10 ∨ z = 11 ∨ z = 12 ∨ z = 13 ∨ z = 14 ∨ z = 15 ∨ z = 16 ∨ z = 17 by omega) with rfl | rfl | rfl | rfl | rfl | rfl | rfl | rfl | rfl | rfl | rfl | rfl | rfl | rfl | rfl | rfl | rfl | rfl
        · refine lv_tope (y := 0) hs ?_
          refine lv_tableIn (off := 85) (tgt := 124) hx hb dL_law_39 (by decide) (by decide) (by decide) (by decide) ?_
          exact law_0 hL C0 hlf hKK hXE hNC hAd h3 hI hP hD hS hl K
        · refine lv_tope (y := 1) hs ?_
          refine lv_tableIn (off := 153) (tgt := 192) hx hb dL_law_39 (by decide) (by decide) (by decide) (by decide) ?_
          exact law_1 hL C0 hlf hKK hXE hNC hAd h3 hI hP hD hS hl K
        · refine lv_tope (y := 2) hs ?_
          refine lv_tableIn (off := 221) (tgt := 260) hx hb dL_law_39 (by decide) (by decide) (by decide) (by decide) ?_
          exact law_2 hL C0 hlf hKK hXE hNC hAd h3 hI hP hD hS hl K
        · refine lv_tope (y := 3) hs ?_
          refine lv_tableIn (off := 305) (tgt := 344) hx hb dL_law_39 (by decide) (by decide) (by decide) (by decide) ?_
          exact law_3 hL C0 hlf hKK hXE hNC hAd h3 hI hP hD hS hl K
        · refine lv_tope (y := 4) hs ?_
          refine lv_tableIn (off := 389) (tgt := 428) hx hb dL_law_39 (by decide) (by decide) (by decide) (by decide) ?_
          exact law_4 hL C0 hlf hKK hXE hNC hAd h3 hI hP hD hS hl K
        · refine lv_tope (y := 5) hs ?_
          refine lv_tableIn (off := 457) (tgt := 496) hx hb dL_law_39 (by decide) (by decide) (by decide) (by decide) ?_
          exact law_5 hL C0 hlf hKK hXE hNC hAd h3 hI hP hD hS hl K
        · refine lv_tope (y := 6) hs ?_
          refine lv_tableIn (off := 520) (tgt := 559) hx hb dL_law_39 (by decide) (by decide) (by decide) (by decide) ?_
          exact law_6 hL C0 hlf hKK hXE hNC hAd h3 hI hP hD hS hl K
        · refine lv_tope (y := 7) hs ?_
          refine lv_tableIn (off := 588) (tgt := 627) hx hb dL_law_39 (by decide) (by decide) (by decide) (by decide) ?_
          exact law_7 hL C0 hlf hKK hXE hNC hAd h3 hI hP hD hS hl K
        · refine lv_tope (y := 8) hs ?_
          refine lv_tableIn (off := 656) (tgt := 695) hx hb dL_law_39 (by decide) (by decide) (by decide) (by decide) ?_
          exact law_8 hL C0 hlf hKK hXE hNC hAd h3 hI hP hD hS hl K
        · refine lv_tope (y := 9) hs ?_
          refine lv_tableIn (off := 712) (tgt := 751) hx hb dL_law_39 (by decide) (by decide) (by decide) (by decide) ?_
          exact law_9 hL C0 hlf hKK hXE hNC hAd h3 hI hP hD hS hl K
        · refine lv_tope (y := 10) hs ?_
          refine lv_tableIn (off := 768) (tgt := 807) hx hb dL_law_39 (by decide) (by decide) (by decide) (by decide) ?_
          exact law_10 hL C0 hlf hKK hXE hNC hAd h3 hI hP hD hS hl K
        · refine lv_tope (y := 11) hs ?_
          refine lv_tableIn (off := 824) (tgt := 863) hx hb dL_law_39 (by decide) (by decide) (by decide) (by decide) ?_
          exact law_11 hL C0 hlf hKK hXE hNC hAd h3 hI hP hD hS hl K
        · refine lv_tope (y := 12) hs ?_
          refine lv_tableIn (off := 880) (tgt := 919) hx hb dL_law_39 (by decide) (by decide) (by decide) (by decide) ?_
          exact law_12 hL C0 hlf hKK hXE hNC hAd h3 hI hP hD hS hl K
        · refine lv_tope (y := 13) hs ?_
          refine lv_tableIn (off := 936) (tgt := 975) hx hb dL_law_39 (by decide) (by decide) (by decide) (by decide) ?_
          exact law_13 hL C0 hlf hKK hXE hNC hAd h3 hI hP hD hS hl K
        · refine lv_tope (y := 14) hs ?_
          refine lv_tableIn (off := 992) (tgt := 1031) hx hb dL_law_39 (by decide) (by decide) (by decide) (by decide) ?_
          exact law_14 hL C0 hlf hKK hXE hNC hAd h3 hI hP hD hS hl K
        · refine lv_tope (y := 15) hs ?_
          refine lv_tableIn (off := 1060) (tgt := 1099) hx hb dL_law_39 (by decide) (by decide) (by decide) (by decide) ?_
          exact law_15 hL C0 hlf hKK hXE hNC hAd h3 hI hP hD hS hl K
        · refine lv_tope (y := 16) hs ?_
          refine lv_tableIn (off := 1116) (tgt := 1155) hx hb dL_law_39 (by decide) (by decide) (by decide) (by decide) ?_
          exact law_16 hL C0 hlf hKK hXE hNC hAd h3 hI hP hD hS hl K
        · refine lv_tope (y := 17) hs ?_
          refine lv_tableIn (off := 1157) (tgt := 1196) hx hb dL_law_39 (by decide) (by decide) (by decide) (by decide) ?_
          exact law_17 hL C0 hlf hKK hXE hNC hAd h3 hI hP hD hS hl K
      · refine lv_tableOut (tgt := 1210) hx hb dL_law_39 hs (by decide) ?_
        refine W.widen (k := 36 + (j + 1)) (n := 518 + 6 * (j + 1)) (by omega) (by omega) ?_
        exact K g o H locs ls (InvE.mono hI) hP hD hS hl
