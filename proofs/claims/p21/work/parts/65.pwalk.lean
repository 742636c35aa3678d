/-! the walk of the law -/
set_option maxHeartbeats 4000000 in
set_option maxRecDepth 100000 in
theorem law_b {p : Program} {l : Launch} {e : Env} {s : State} {m : MethodId} {below : List Frame} {meth : Method} {c : Code} {b L : Nat} {xs : Nat → Int32} (hL : L ≤ 260) (C0 : lw_At p s m meth c b L xs) {D : va_G} {cyI cyO cyL : ClassId} (hKK : KK D cyI cyO cyL s) {a : AX} (hAd : Adr a) {j t : Nat} (hj : j < 512) {g : SG} (hJ : JE a j g) (h3 : zn g = 3) : ∀ (n k : Nat), k + n = 3 → ∀ (H : Heap) (locs : List Loc) (ls : Array Slot), va_P D vwCl (WXs cyI cyO a g) H → va_D (fun q : Nat => s.heap.size ≤ q) (WXs cyI cyO a g) → va_S (fun q : Nat => s.heap.size ≤ q) s.heap H locs → lv_has ls 13 [(12, .int (nI k)), (2, .int (nI t)), (1, .ref a.1), (0, .ref b)] → (∀ (H2 : Heap) (locs2 : List Loc) (ls2 : Array Slot), va_P D vwCl (WXs cyI cyO a g) H2 → va_D (fun q : Nat => s.heap.size ≤ q) (WXs cyI cyO a g) → va_S (fun q : Nat => s.heap.size ≤ q) s.heap H2 locs2 → lv_has ls2 13 [(2, .int (nI t)), (1, .ref a.1), (0, .ref b)] → W p l e room_1 s m #[Value.ref b] below meth c H2 locs2 30 247 (lw_Z below #[Value.ref b] s) (F0 m 548 ls2 [])) → W p l e room_1 s m #[Value.ref b] below meth c H locs 30 247 (lw_Z below #[Value.ref b] s) (F0 m 457 ls []) := by
  intro n
  induction n with
  | zero =>
    intro k hk H locs ls hP hD hS hl K
    obtain ⟨hx, hb, hr, hml, hown, hts, hX, hbl, hlocks, hgv⟩ := id C0
    have hA : ∀ q : Nat, s.heap.size ≤ q → (fun q : Nat => s.heap.size ≤ q) q := fun _ h => h
    have hbA : ¬ (fun q : Nat => s.heap.size ≤ q) b := Nat.not_le.mpr hbl
    have hts : ∀ w ∈ wsL_law, w.before #[Value.ref b] s = true := fun w h => hts w (wsL_law_in w h)
    have hown : s.vm.findClass RL = some m.cls := hown
    have hb : c.code = cL_law := hb
    obtain rfl : k = 3 := by omega
    refine lv_iload hx hb dL_law_457 (lv_at hl 0 rfl) ?_
    refine lv_iconst (v := 3) hx hb dL_law_459 (by decide) ?_
    refine lv_icmp_ge (tgt := 548) hx hb dL_law_460 (by decide) (fun _ => ?_) (fun h9 => absurd (ge_yes (N := 3) (Nat.le_refl _) (by decide)) h9)
    exact K _ _ _ hP hD hS (lv_sub hl [1, 2, 3] rfl)
  | succ n ih =>
    intro k hk H locs ls hP hD hS hl K
    obtain ⟨hx, hb, hr, hml, hown, hts, hX, hbl, hlocks, hgv⟩ := id C0
    have hA : ∀ q : Nat, s.heap.size ≤ q → (fun q : Nat => s.heap.size ≤ q) q := fun _ h => h
    have hbA : ¬ (fun q : Nat => s.heap.size ≤ q) b := Nat.not_le.mpr hbl
    have hts : ∀ w ∈ wsL_law, w.before #[Value.ref b] s = true := fun w h => hts w (wsL_law_in w h)
    have hown : s.vm.findClass RL = some m.cls := hown
    have hb : c.code = cL_law := hb
    have hk9 : k < 3 := by omega
    have hk3 : vp_in (nI k) 3 := vp_in_nI hk9 (by decide)
    refine lv_iload hx hb dL_law_457 (lv_at hl 0 rfl) ?_
    refine lv_iconst (v := 3) hx hb dL_law_459 (by decide) ?_
    refine lv_icmp_ge (tgt := 548) hx hb dL_law_460 (by decide) (fun h9 => absurd h9 (ge_no (N := 3) hk9 (by decide))) (fun _ => ?_)
    refine lv_aload_n hx hb dL_law_463 rfl (lv_at hl 2 rfl) ?_
    refine lv_iload hx hb dL_law_464 (lv_at hl 0 rfl) ?_
    refine lv_iconst (v := 3) hx hb dL_law_466 (by decide) ?_
    refine call_x (n := 2) (As := [.int (nI k), .int 3]) (rest := []) ⟨hx, hb, hml, hown, hts⟩ (r_told3 l D cyI cyO cyL hAd hj hJ h3 (b_ := nI k) hk3) gL_law_X5_told rfl (by decide +kernel) ⟨(Nat.le_of_ble_eq_true rfl), (Nat.le_of_ble_eq_true rfl)⟩ hKK (WXs_recv a g) (WXs_fst (a := a) g g) rfl hl.1 rfl (Nat.le_of_ble_eq_true rfl) dL_law_467 ⟨(Nat.le_of_ble_eq_true rfl), (Nat.le_of_ble_eq_true rfl)⟩ hP hD hS hA (fun H locs hP hD hS => ?_)
    refine lv_iconst (v := 3) hx hb dL_law_470 (by decide) ?_
    refine lv_aload_n hx hb dL_law_471 rfl (lv_at hl 2 rfl) ?_
    refine lv_iconst (v := 0) hx hb dL_law_472 (by decide) ?_
    refine call_x (n := 1) (As := [.int 0]) (rest := [.int 3, .int (zB g (zab a (nI k).toNatClampNeg) 3)]) ⟨hx, hb, hml, hown, hts⟩ (r_count0 l D cyI cyO cyL hAd hj hJ) gL_law_X5_count rfl (by decide +kernel) ⟨(Nat.le_of_ble_eq_true rfl), (Nat.le_of_ble_eq_true rfl)⟩ hKK (WXs_recv a g) (WXs_fst (a := a) g g) rfl hl.1 rfl (Nat.le_of_ble_eq_true rfl) dL_law_473 ⟨(Nat.le_of_ble_eq_true rfl), (Nat.le_of_ble_eq_true rfl)⟩ hP hD hS hA (fun H locs hP hD hS => ?_)
    refine lv_imul hx hb dL_law_476 ?_
    refine lv_icmp_gt (tgt := 540) hx hb dL_law_477 (by decide) (fun h9 => absurd h9 (bus_q hj hJ hk3).1) (fun _ => ?_)
    refine lv_aload_n hx hb dL_law_480 rfl (lv_at hl 2 rfl) ?_
    refine lv_iload hx hb dL_law_481 (lv_at hl 0 rfl) ?_
    refine lv_iconst (v := 5) hx hb dL_law_483 (by decide) ?_
    refine call_x (n := 2) (As := [.int (nI k), .int 5]) (rest := []) ⟨hx, hb, hml, hown, hts⟩ (r_told5 l D cyI cyO cyL hAd hj hJ h3 (b_ := nI k) hk3) gL_law_X5_told rfl (by decide +kernel) ⟨(Nat.le_of_ble_eq_true rfl), (Nat.le_of_ble_eq_true rfl)⟩ hKK (WXs_recv a g) (WXs_fst (a := a) g g) rfl hl.1 rfl (Nat.le_of_ble_eq_true rfl) dL_law_484 ⟨(Nat.le_of_ble_eq_true rfl), (Nat.le_of_ble_eq_true rfl)⟩ hP hD hS hA (fun H locs hP hD hS => ?_)
    refine lv_aload_n hx hb dL_law_487 rfl (lv_at hl 2 rfl) ?_
    refine lv_iconst (v := 0) hx hb dL_law_488 (by decide) ?_
    refine call_x (n := 1) (As := [.int 0]) (rest := [.int (zB g (zab a (nI k).toNatClampNeg) 5)]) ⟨hx, hb, hml, hown, hts⟩ (r_count0 l D cyI cyO cyL hAd hj hJ) gL_law_X5_count rfl (by decide +kernel) ⟨(Nat.le_of_ble_eq_true rfl), (Nat.le_of_ble_eq_true rfl)⟩ hKK (WXs_recv a g) (WXs_fst (a := a) g g) rfl hl.1 rfl (Nat.le_of_ble_eq_true rfl) dL_law_489 ⟨(Nat.le_of_ble_eq_true rfl), (Nat.le_of_ble_eq_true rfl)⟩ hP hD hS hA (fun H locs hP hD hS => ?_)
    refine lv_icmp_gt (tgt := 540) hx hb dL_law_492 (by decide) (fun h9 => absurd h9 (bus_q hj hJ hk3).2) (fun _ => ?_)
    refine lv_aload_n hx hb dL_law_495 rfl (lv_at hl 2 rfl) ?_
    refine lv_iload hx hb dL_law_496 (lv_at hl 0 rfl) ?_
    refine lv_bipush (v := 6) hx hb dL_law_498 (by decide) ?_
    refine call_x (n := 2) (As := [.int (nI k), .int 6]) (rest := []) ⟨hx, hb, hml, hown, hts⟩ (r_told6 l D cyI cyO cyL hAd hj hJ h3 (b_ := nI k) hk3) gL_law_X5_told rfl (by decide +kernel) ⟨(Nat.le_of_ble_eq_true rfl), (Nat.le_of_ble_eq_true rfl)⟩ hKK (WXs_recv a g) (WXs_fst (a := a) g g) rfl hl.1 rfl (Nat.le_of_ble_eq_true rfl) dL_law_500 ⟨(Nat.le_of_ble_eq_true rfl), (Nat.le_of_ble_eq_true rfl)⟩ hP hD hS hA (fun H locs hP hD hS => ?_)
    refine lv_if_ne (tgt := 510) hx hb dL_law_503 (by decide) (fun h_s => ?_) (fun h_s => ?_)
    · skip
      have hd := Decidable.of_not_not (fun h9 => h_s (spu_q.mpr h9))
      refine lv_iconst (v := 0) hx hb dL_law_510 (by decide) ?_
      refine lv_aload_n hx hb dL_law_511 rfl (lv_at hl 2 rfl) ?_
      refine lv_aload_n hx hb dL_law_512 rfl (lv_at hl 2 rfl) ?_
      refine lv_iload hx hb dL_law_513 (lv_at hl 0 rfl) ?_
      refine lv_iconst (v := 0) hx hb dL_law_515 (by decide) ?_
      refine call_x (n := 2) (As := [.int (nI k), .int 0]) (rest := [.ref a.1, .int 0]) ⟨hx, hb, hml, hown, hts⟩ (r_told0 l D cyI cyO cyL hAd hj hJ h3 (b_ := nI k) hk3) gL_law_X5_told rfl (by decide +kernel) ⟨(Nat.le_of_ble_eq_true rfl), (Nat.le_of_ble_eq_true rfl)⟩ hKK (WXs_recv a g) (WXs_fst (a := a) g g) rfl hl.1 rfl (Nat.le_of_ble_eq_true rfl) dL_law_516 ⟨(Nat.le_of_ble_eq_true rfl), (Nat.le_of_ble_eq_true rfl)⟩ hP hD hS hA (fun H locs hP hD hS => ?_)
      refine lv_iconst (v := 1) hx hb dL_law_519 (by decide) ?_
      refine lv_iadd hx hb dL_law_520 ?_
      refine lv_bipush (v := 24) hx hb dL_law_521 (by decide) ?_
      refine lv_irem hx hb dL_law_523 (by decide) ?_
      refine lv_tope (y := ir ((zB g (zab a (nI k).toNatClampNeg) 0) + 1) 24) rfl ?_
      refine lv_iconst (v := 2) hx hb dL_law_524 (by decide) ?_
      refine call_x (n := 2) (As := [.int (ir ((zB g (zab a (nI k).toNatClampNeg) 0) + 1) 24), .int 2]) (rest := [.int 0]) ⟨hx, hb, hml, hown, hts⟩ (r_span2 l D cyI cyO cyL hAd hj hJ (s_ := (ir ((zB g (zab a (nI k).toNatClampNeg) 0) + 1) 24)) (at_q hJ _)) gL_law_X5_span rfl (by decide +kernel) ⟨(Nat.le_of_ble_eq_true rfl), (Nat.le_of_ble_eq_true rfl)⟩ hKK (WXs_recv a g) (WXs_fst (a := a) g g) rfl hl.1 rfl (Nat.le_of_ble_eq_true rfl) dL_law_525 ⟨(Nat.le_of_ble_eq_true rfl), (Nat.le_of_ble_eq_true rfl)⟩ hP hD hS hA (fun H locs hP hD hS => ?_)
      refine lv_iconst (v := 1) hx hb dL_law_528 (by decide) ?_
      refine lv_icmp_ne (tgt := 536) hx hb dL_law_529 (by decide) (fun _ => ?_) (fun h9 => absurd h9 (by rw [one_0 hd]; decide))
      refine lv_iconst (v := 0) hx hb dL_law_536 (by decide) ?_
      refine lv_icmp_eq (tgt := 542) hx hb dL_law_537 (by decide) (fun _ => ?_) (fun h9 => absurd rfl h9)
      refine lv_iinc (v := nI (k + 1)) (lv' := [(12, .int (nI (k + 1))), (2, .int (nI t)), (1, .ref a.1), (0, .ref b)]) hx hb dL_law_542 hl (k := 0) rfl (nI_1 k) (by decide) rfl (fun ls hl => ?_)
      refine lv_goto (tgt := 457) hx hb dL_law_545 (by decide) ?_
      exact ih (k + 1) (by omega) _ _ _ hP hD hS (lv_sub hl [0, 1, 2, 3] rfl) K
    · skip
      have hd := spu_q.mp h_s
      refine lv_iconst (v := 1) hx hb dL_law_506 (by decide) ?_
      refine lv_goto (tgt := 511) hx hb dL_law_507 (by decide) ?_
      refine lv_aload_n hx hb dL_law_511 rfl (lv_at hl 2 rfl) ?_
      refine lv_aload_n hx hb dL_law_512 rfl (lv_at hl 2 rfl) ?_
      refine lv_iload hx hb dL_law_513 (lv_at hl 0 rfl) ?_
      refine lv_iconst (v := 0) hx hb dL_law_515 (by decide) ?_
      refine call_x (n := 2) (As := [.int (nI k), .int 0]) (rest := [.ref a.1, .int 1]) ⟨hx, hb, hml, hown, hts⟩ (r_told0 l D cyI cyO cyL hAd hj hJ h3 (b_ := nI k) hk3) gL_law_X5_told rfl (by decide +kernel) ⟨(Nat.le_of_ble_eq_true rfl), (Nat.le_of_ble_eq_true rfl)⟩ hKK (WXs_recv a g) (WXs_fst (a := a) g g) rfl hl.1 rfl (Nat.le_of_ble_eq_true rfl) dL_law_516 ⟨(Nat.le_of_ble_eq_true rfl), (Nat.le_of_ble_eq_true rfl)⟩ hP hD hS hA (fun H locs hP hD hS => ?_)
      refine lv_iconst (v := 1) hx hb dL_law_519 (by decide) ?_
      refine lv_iadd hx hb dL_law_520 ?_
      refine lv_bipush (v := 24) hx hb dL_law_521 (by decide) ?_
      refine lv_irem hx hb dL_law_523 (by decide) ?_
      refine lv_tope (y := ir ((zB g (zab a (nI k).toNatClampNeg) 0) + 1) 24) rfl ?_
      refine lv_iconst (v := 2) hx hb dL_law_524 (by decide) ?_
      refine call_x (n := 2) (As := [.int (ir ((zB g (zab a (nI k).toNatClampNeg) 0) + 1) 24), .int 2]) (rest := [.int 1]) ⟨hx, hb, hml, hown, hts⟩ (r_span2 l D cyI cyO cyL hAd hj hJ (s_ := (ir ((zB g (zab a (nI k).toNatClampNeg) 0) + 1) 24)) (at_q hJ _)) gL_law_X5_span rfl (by decide +kernel) ⟨(Nat.le_of_ble_eq_true rfl), (Nat.le_of_ble_eq_true rfl)⟩ hKK (WXs_recv a g) (WXs_fst (a := a) g g) rfl hl.1 rfl (Nat.le_of_ble_eq_true rfl) dL_law_525 ⟨(Nat.le_of_ble_eq_true rfl), (Nat.le_of_ble_eq_true rfl)⟩ hP hD hS hA (fun H locs hP hD hS => ?_)
      refine lv_iconst (v := 1) hx hb dL_law_528 (by decide) ?_
      refine lv_icmp_ne (tgt := 536) hx hb dL_law_529 (by decide) (fun h9 => absurd (one_1 hd) h9) (fun _ => ?_)
      refine lv_iconst (v := 1) hx hb dL_law_532 (by decide) ?_
      refine lv_goto (tgt := 537) hx hb dL_law_533 (by decide) ?_
      refine lv_icmp_eq (tgt := 542) hx hb dL_law_537 (by decide) (fun _ => ?_) (fun h9 => absurd rfl h9)
      refine lv_iinc (v := nI (k + 1)) (lv' := [(12, .int (nI (k + 1))), (2, .int (nI t)), (1, .ref a.1), (0, .ref b)]) hx hb dL_law_542 hl (k := 0) rfl (nI_1 k) (by decide) rfl (fun ls hl => ?_)
      refine lv_goto (tgt := 457) hx hb dL_law_545 (by decide) ?_
      exact ih (k + 1) (by omega) _ _ _ hP hD hS (lv_sub hl [0, 1, 2, 3] rfl) K
set_option maxHeartbeats 4000000 in
set_option maxRecDepth 100000 in
theorem law_a {p : Program} {l : Launch} {e : Env} {s : State} {m : MethodId} {below : List Frame} {meth : Method} {c : Code} {b L : Nat} {xs : Nat → Int32} (hL : L ≤ 260) (C0 : lw_At p s m meth c b L xs) {D : va_G} {cyI cyO cyL : ClassId} (hKK : KK D cyI cyO cyL s) {a : AX} (hAd : Adr a) {j t : Nat} (hj : j < 512) {g : SG} (hJ : JE a j g) : ∀ (n k : Nat), k + n = 24 → ∀ (dn : Int32), spdL (zw g) n k dn = spdL (zw g) 24 0 0 → ∀ (H : Heap) (locs : List Loc) (ls : Array Slot), va_P D vwCl (WXs cyI cyO a g) H → va_D (fun q : Nat => s.heap.size ≤ q) (WXs cyI cyO a g) → va_S (fun q : Nat => s.heap.size ≤ q) s.heap H locs → lv_has ls 13 [(12, .int (nI k)), (11, .int dn), (2, .int (nI t)), (1, .ref a.1), (0, .ref b)] → (∀ (H2 : Heap) (locs2 : List Loc) (ls2 : Array Slot), va_P D vwCl (WXs cyI cyO a g) H2 → va_D (fun q : Nat => s.heap.size ≤ q) (WXs cyI cyO a g) → va_S (fun q : Nat => s.heap.size ≤ q) s.heap H2 locs2 → lv_has ls2 13 [(11, .int (spdL (zw g) 24 0 0)), (2, .int (nI t)), (1, .ref a.1), (0, .ref b)] → W p l e room_1 s m #[Value.ref b] below meth c H2 locs2 30 247 (lw_Z below #[Value.ref b] s) (F0 m 362 ls2 [])) → W p l e room_1 s m #[Value.ref b] below meth c H locs 30 247 (lw_Z below #[Value.ref b] s) (F0 m 264 ls []) := by
  intro n
  induction n with
  | zero =>
    intro k hk dn hdn H locs ls hP hD hS hl K
    obtain ⟨hx, hb, hr, hml, hown, hts, hX, hbl, hlocks, hgv⟩ := id C0
    have hA : ∀ q : Nat, s.heap.size ≤ q → (fun q : Nat => s.heap.size ≤ q) q := fun _ h => h
    have hbA : ¬ (fun q : Nat => s.heap.size ≤ q) b := Nat.not_le.mpr hbl
    have hts : ∀ w ∈ wsL_law, w.before #[Value.ref b] s = true := fun w h => hts w (wsL_law_in w h)
    have hown : s.vm.findClass RL = some m.cls := hown
    have hb : c.code = cL_law := hb
    obtain rfl : k = 24 := by omega
    obtain rfl : dn = spdL (zw g) 24 0 0 := hdn
    refine lv_iload hx hb dL_law_264 (lv_at hl 0 rfl) ?_
    refine lv_bipush (v := 24) hx hb dL_law_266 (by decide) ?_
    refine lv_icmp_ge (tgt := 362) hx hb dL_law_268 (by decide) (fun _ => ?_) (fun h9 => absurd (ge_yes (N := 24) (Nat.le_refl _) (by decide)) h9)
    exact K _ _ _ hP hD hS (lv_sub hl [1, 2, 3, 4] rfl)
  | succ n ih =>
    intro k hk dn hdn H locs ls hP hD hS hl K
    obtain ⟨hx, hb, hr, hml, hown, hts, hX, hbl, hlocks, hgv⟩ := id C0
    have hA : ∀ q : Nat, s.heap.size ≤ q → (fun q : Nat => s.heap.size ≤ q) q := fun _ h => h
    have hbA : ¬ (fun q : Nat => s.heap.size ≤ q) b := Nat.not_le.mpr hbl
    have hts : ∀ w ∈ wsL_law, w.before #[Value.ref b] s = true := fun w h => hts w (wsL_law_in w h)
    have hown : s.vm.findClass RL = some m.cls := hown
    have hb : c.code = cL_law := hb
    have hk9 : k < 24 := by omega
    have hk24 : vp_in (nI k) 24 := vp_in_nI hk9 (by decide)
    refine lv_iload hx hb dL_law_264 (lv_at hl 0 rfl) ?_
    refine lv_bipush (v := 24) hx hb dL_law_266 (by decide) ?_
    refine lv_icmp_ge (tgt := 362) hx hb dL_law_268 (by decide) (fun h9 => absurd h9 (ge_no (N := 24) hk9 (by decide))) (fun _ => ?_)
    refine lv_iload hx hb dL_law_271 (lv_at hl 1 rfl) ?_
    refine lv_aload_n hx hb dL_law_273 rfl (lv_at hl 3 rfl) ?_
    refine lv_iload hx hb dL_law_274 (lv_at hl 0 rfl) ?_
    refine lv_iconst (v := 2) hx hb dL_law_276 (by decide) ?_
    refine call_x (n := 2) (As := [.int (nI k), .int 2]) (rest := [.int dn]) ⟨hx, hb, hml, hown, hts⟩ (r_span2 l D cyI cyO cyL hAd hj hJ (s_ := nI k) hk24) gL_law_X5_span rfl (by decide +kernel) ⟨(Nat.le_of_ble_eq_true rfl), (Nat.le_of_ble_eq_true rfl)⟩ hKK (WXs_recv a g) (WXs_fst (a := a) g g) rfl hl.1 rfl (Nat.le_of_ble_eq_true rfl) dL_law_277 ⟨(Nat.le_of_ble_eq_true rfl), (Nat.le_of_ble_eq_true rfl)⟩ hP hD hS hA (fun H locs hP hD hS => ?_)
    refine lv_iadd hx hb dL_law_280 ?_
    refine lv_istore (lv' := [(11, .int (dn + (oneI (dnI (zw g) (nI k))))), (12, .int (nI k)), (2, .int (nI t)), (1, .ref a.1), (0, .ref b)]) hx hb dL_law_281 hl (by decide) rfl (fun ls hl => ?_)
    refine lv_aload_n hx hb dL_law_283 rfl (lv_at hl 3 rfl) ?_
    refine lv_iload hx hb dL_law_284 (lv_at hl 1 rfl) ?_
    refine lv_iconst (v := 0) hx hb dL_law_286 (by decide) ?_
    refine call_x (n := 2) (As := [.int (nI k), .int 0]) (rest := []) ⟨hx, hb, hml, hown, hts⟩ (r_span0 l D cyI cyO cyL hAd hj hJ (s_ := nI k) hk24) gL_law_X5_span rfl (by decide +kernel) ⟨(Nat.le_of_ble_eq_true rfl), (Nat.le_of_ble_eq_true rfl)⟩ hKK (WXs_recv a g) (WXs_fst (a := a) g g) rfl hl.1 rfl (Nat.le_of_ble_eq_true rfl) dL_law_287 ⟨(Nat.le_of_ble_eq_true rfl), (Nat.le_of_ble_eq_true rfl)⟩ hP hD hS hA (fun H locs hP hD hS => ?_)
    refine lv_if_lt (tgt := 354) hx hb dL_law_290 (by decide) (fun h9 => absurd h9 (w_ge hJ hk24)) (fun _ => ?_)
    refine lv_aload_n hx hb dL_law_293 rfl (lv_at hl 3 rfl) ?_
    refine lv_iload hx hb dL_law_294 (lv_at hl 1 rfl) ?_
    refine lv_iconst (v := 0) hx hb dL_law_296 (by decide) ?_
    refine call_x (n := 2) (As := [.int (nI k), .int 0]) (rest := []) ⟨hx, hb, hml, hown, hts⟩ (r_span0 l D cyI cyO cyL hAd hj hJ (s_ := nI k) hk24) gL_law_X5_span rfl (by decide +kernel) ⟨(Nat.le_of_ble_eq_true rfl), (Nat.le_of_ble_eq_true rfl)⟩ hKK (WXs_recv a g) (WXs_fst (a := a) g g) rfl hl.1 rfl (Nat.le_of_ble_eq_true rfl) dL_law_297 ⟨(Nat.le_of_ble_eq_true rfl), (Nat.le_of_ble_eq_true rfl)⟩ hP hD hS hA (fun H locs hP hD hS => ?_)
    refine lv_bipush (v := 100) hx hb dL_law_300 (by decide) ?_
    refine lv_icmp_gt (tgt := 354) hx hb dL_law_302 (by decide) (fun h9 => absurd h9 (w_le hJ hk24)) (fun _ => ?_)
    refine lv_aload_n hx hb dL_law_305 rfl (lv_at hl 3 rfl) ?_
    refine lv_iload hx hb dL_law_306 (lv_at hl 1 rfl) ?_
    refine lv_iconst (v := 1) hx hb dL_law_308 (by decide) ?_
    refine call_x (n := 2) (As := [.int (nI k), .int 1]) (rest := []) ⟨hx, hb, hml, hown, hts⟩ (r_span1 l D cyI cyO cyL hAd hj hJ (s_ := nI k) hk24) gL_law_X5_span rfl (by decide +kernel) ⟨(Nat.le_of_ble_eq_true rfl), (Nat.le_of_ble_eq_true rfl)⟩ hKK (WXs_recv a g) (WXs_fst (a := a) g g) rfl hl.1 rfl (Nat.le_of_ble_eq_true rfl) dL_law_309 ⟨(Nat.le_of_ble_eq_true rfl), (Nat.le_of_ble_eq_true rfl)⟩ hP hD hS hA (fun H locs hP hD hS => ?_)
    refine lv_if_lt (tgt := 354) hx hb dL_law_312 (by decide) (fun h9 => absurd h9 (f_ge hJ hk24)) (fun _ => ?_)
    refine lv_aload_n hx hb dL_law_315 rfl (lv_at hl 3 rfl) ?_
    refine lv_iload hx hb dL_law_316 (lv_at hl 1 rfl) ?_
    refine lv_iconst (v := 1) hx hb dL_law_318 (by decide) ?_
    refine call_x (n := 2) (As := [.int (nI k), .int 1]) (rest := []) ⟨hx, hb, hml, hown, hts⟩ (r_span1 l D cyI cyO cyL hAd hj hJ (s_ := nI k) hk24) gL_law_X5_span rfl (by decide +kernel) ⟨(Nat.le_of_ble_eq_true rfl), (Nat.le_of_ble_eq_true rfl)⟩ hKK (WXs_recv a g) (WXs_fst (a := a) g g) rfl hl.1 rfl (Nat.le_of_ble_eq_true rfl) dL_law_319 ⟨(Nat.le_of_ble_eq_true rfl), (Nat.le_of_ble_eq_true rfl)⟩ hP hD hS hA (fun H locs hP hD hS => ?_)
    refine lv_bipush (v := 9) hx hb dL_law_322 (by decide) ?_
    refine lv_icmp_gt (tgt := 354) hx hb dL_law_324 (by decide) (fun h9 => absurd h9 (f_le hJ hk24)) (fun _ => ?_)
    refine lv_aload_n hx hb dL_law_327 rfl (lv_at hl 3 rfl) ?_
    refine lv_iload hx hb dL_law_328 (lv_at hl 1 rfl) ?_
    refine lv_iconst (v := 2) hx hb dL_law_330 (by decide) ?_
    refine call_x (n := 2) (As := [.int (nI k), .int 2]) (rest := []) ⟨hx, hb, hml, hown, hts⟩ (r_span2 l D cyI cyO cyL hAd hj hJ (s_ := nI k) hk24) gL_law_X5_span rfl (by decide +kernel) ⟨(Nat.le_of_ble_eq_true rfl), (Nat.le_of_ble_eq_true rfl)⟩ hKK (WXs_recv a g) (WXs_fst (a := a) g g) rfl hl.1 rfl (Nat.le_of_ble_eq_true rfl) dL_law_331 ⟨(Nat.le_of_ble_eq_true rfl), (Nat.le_of_ble_eq_true rfl)⟩ hP hD hS hA (fun H locs hP hD hS => ?_)
    refine lv_aload_n hx hb dL_law_334 rfl (lv_at hl 3 rfl) ?_
    refine lv_iload hx hb dL_law_335 (lv_at hl 1 rfl) ?_
    refine lv_iconst (v := 0) hx hb dL_law_337 (by decide) ?_
    refine call_x (n := 2) (As := [.int (nI k), .int 0]) (rest := [.int (oneI (dnI (zw g) (nI k)))]) ⟨hx, hb, hml, hown, hts⟩ (r_span0 l D cyI cyO cyL hAd hj hJ (s_ := nI k) hk24) gL_law_X5_span rfl (by decide +kernel) ⟨(Nat.le_of_ble_eq_true rfl), (Nat.le_of_ble_eq_true rfl)⟩ hKK (WXs_recv a g) (WXs_fst (a := a) g g) rfl hl.1 rfl (Nat.le_of_ble_eq_true rfl) dL_law_338 ⟨(Nat.le_of_ble_eq_true rfl), (Nat.le_of_ble_eq_true rfl)⟩ hP hD hS hA (fun H locs hP hD hS => ?_)
    refine lv_bipush (v := 100) hx hb dL_law_341 (by decide) ?_
    refine lv_icmp_ne (tgt := 350) hx hb dL_law_343 (by decide) (fun h_w => ?_) (fun h_w => ?_)
    · skip
      refine lv_iconst (v := 0) hx hb dL_law_350 (by decide) ?_
      refine lv_icmp_eq (tgt := 356) hx hb dL_law_351 (by decide) (fun _ => ?_) (fun h9 => absurd (dn_0 hJ hk24 h_w) h9)
      refine lv_iinc (v := nI (k + 1)) (lv' := [(12, .int (nI (k + 1))), (11, .int (dn + (oneI (dnI (zw g) (nI k))))), (2, .int (nI t)), (1, .ref a.1), (0, .ref b)]) hx hb dL_law_356 hl (k := 1) rfl (nI_1 k) (by decide) rfl (fun ls hl => ?_)
      refine lv_goto (tgt := 264) hx hb dL_law_359 (by decide) ?_
      exact ih (k + 1) (by omega) _ hdn _ _ _ hP hD hS (lv_sub hl [0, 1, 2, 3, 4] rfl) K
    · skip
      refine lv_iconst (v := 1) hx hb dL_law_346 (by decide) ?_
      refine lv_goto (tgt := 351) hx hb dL_law_347 (by decide) ?_
      refine lv_icmp_eq (tgt := 356) hx hb dL_law_351 (by decide) (fun _ => ?_) (fun h9 => absurd (dn_1 h_w) h9)
      refine lv_iinc (v := nI (k + 1)) (lv' := [(12, .int (nI (k + 1))), (11, .int (dn + (oneI (dnI (zw g) (nI k))))), (2, .int (nI t)), (1, .ref a.1), (0, .ref b)]) hx hb dL_law_356 hl (k := 1) rfl (nI_1 k) (by decide) rfl (fun ls hl => ?_)
      refine lv_goto (tgt := 264) hx hb dL_law_359 (by decide) ?_
      exact ih (k + 1) (by omega) _ hdn _ _ _ hP hD hS (lv_sub hl [0, 1, 2, 3, 4] rfl) K
set_option maxHeartbeats 4000000 in
set_option maxRecDepth 100000 in
theorem law_258 {p : Program} {l : Launch} {e : Env} {s : State} {m : MethodId} {below : List Frame} {meth : Method} {c : Code} {b L : Nat} {xs : Nat → Int32} (hL : L ≤ 260) (C0 : lw_At p s m meth c b L xs) {D : va_G} {cyI cyO cyL : ClassId} (hKK : KK D cyI cyO cyL s) {a : AX} (hAd : Adr a) {j t : Nat} (hj : j < 512) {g : SG} (hJ : JE a j g) (h3 : zn g = 3) (H : Heap) (locs : List Loc) (ls : Array Slot) : va_P D vwCl (WXs cyI cyO a g) H → va_D (fun q : Nat => s.heap.size ≤ q) (WXs cyI cyO a g) → va_S (fun q : Nat => s.heap.size ≤ q) s.heap H locs → lv_has ls 13 [(2, .int (nI t)), (1, .ref a.1), (0, .ref b)] → (∀ (H2 : Heap) (locs2 : List Loc) (ls2 : Array Slot), va_P D vwCl (WXs cyI cyO a g) H2 → va_D (fun q : Nat => s.heap.size ≤ q) (WXs cyI cyO a g) → va_S (fun q : Nat => s.heap.size ≤ q) s.heap H2 locs2 → lv_has ls2 13 [(2, .int (nI t)), (1, .ref a.1), (0, .ref b)] → W p l e room_1 s m #[Value.ref b] below meth c H2 locs2 30 247 (lw_Z below #[Value.ref b] s) (F0 m 548 ls2 [])) → W p l e room_1 s m #[Value.ref b] below meth c H locs 30 247 (lw_Z below #[Value.ref b] s) (F0 m 258 ls []) := by
  intro hP hD hS hl K
  obtain ⟨hx, hb, hr, hml, hown, hts, hX, hbl, hlocks, hgv⟩ := id C0
  have hA : ∀ q : Nat, s.heap.size ≤ q → (fun q : Nat => s.heap.size ≤ q) q := fun _ h => h
  have hbA : ¬ (fun q : Nat => s.heap.size ≤ q) b := Nat.not_le.mpr hbl
  have hts : ∀ w ∈ wsL_law, w.before #[Value.ref b] s = true := fun w h => hts w (wsL_law_in w h)
  have hown : s.vm.findClass RL = some m.cls := hown
  have hb : c.code = cL_law := hb
  have hco := co_q hJ
  have hup := up_q hj hJ
  refine lv_iconst (v := 0) hx hb dL_law_258 (by decide) ?_
  refine lv_istore (lv' := [(11, .int 0), (2, .int (nI t)), (1, .ref a.1), (0, .ref b)]) hx hb dL_law_259 hl (by decide) rfl (fun ls hl => ?_)
  refine lv_iconst (v := 0) hx hb dL_law_261 (by decide) ?_
  refine lv_istore (lv' := [(12, .int 0), (11, .int 0), (2, .int (nI t)), (1, .ref a.1), (0, .ref b)]) hx hb dL_law_262 hl (by decide) rfl (fun ls hl => ?_)
  refine law_a hL C0 hKK hAd hj hJ 24 0 rfl 0 rfl _ _ _ hP hD hS (lv_sub hl [0, 1, 2, 3, 4] rfl) (fun H locs ls hP hD hS hl => ?_)
  refine lv_iload hx hb dL_law_362 (lv_at hl 0 rfl) ?_
  refine lv_aload_n hx hb dL_law_364 rfl (lv_at hl 2 rfl) ?_
  refine lv_iconst (v := 5) hx hb dL_law_365 (by decide) ?_
  refine call_x (n := 1) (As := [.int 5]) (rest := [.int (spdL (zw g) 24 0 0)]) ⟨hx, hb, hml, hown, hts⟩ (r_count5 l D cyI cyO cyL hAd hj hJ) gL_law_X5_count rfl (by decide +kernel) ⟨(Nat.le_of_ble_eq_true rfl), (Nat.le_of_ble_eq_true rfl)⟩ hKK (WXs_recv a g) (WXs_fst (a := a) g g) rfl hl.1 rfl (Nat.le_of_ble_eq_true rfl) dL_law_366 ⟨(Nat.le_of_ble_eq_true rfl), (Nat.le_of_ble_eq_true rfl)⟩ hP hD hS hA (fun H locs hP hD hS => ?_)
  refine lv_icmp_ne (tgt := 452) hx hb dL_law_369 (by decide) (fun h9 => absurd rfl h9) (fun _ => ?_)
  refine lv_aload_n hx hb dL_law_372 rfl (lv_at hl 2 rfl) ?_
  refine lv_iconst (v := 2) hx hb dL_law_373 (by decide) ?_
  refine call_x (n := 1) (As := [.int 2]) (rest := []) ⟨hx, hb, hml, hown, hts⟩ (r_count2 l D cyI cyO cyL hAd hj hJ) gL_law_X5_count rfl (by decide +kernel) ⟨(Nat.le_of_ble_eq_true rfl), (Nat.le_of_ble_eq_true rfl)⟩ hKK (WXs_recv a g) (WXs_fst (a := a) g g) rfl hl.1 rfl (Nat.le_of_ble_eq_true rfl) dL_law_374 ⟨(Nat.le_of_ble_eq_true rfl), (Nat.le_of_ble_eq_true rfl)⟩ hP hD hS hA (fun H locs hP hD hS => ?_)
  refine lv_aload_n hx hb dL_law_377 rfl (lv_at hl 2 rfl) ?_
  refine lv_iconst (v := 0) hx hb dL_law_378 (by decide) ?_
  refine lv_iconst (v := 4) hx hb dL_law_379 (by decide) ?_
  refine call_x (n := 2) (As := [.int 0, .int 4]) (rest := [.int (zc g)]) ⟨hx, hb, hml, hown, hts⟩ (r_told4 l D cyI cyO cyL hAd hj hJ h3 (b_ := (0 : Int32)) (vp_in_nI (n := 0) (N := 3) (by decide) (by decide))) gL_law_X5_told rfl (by decide +kernel) ⟨(Nat.le_of_ble_eq_true rfl), (Nat.le_of_ble_eq_true rfl)⟩ hKK (WXs_recv a g) (WXs_fst (a := a) g g) rfl hl.1 rfl (Nat.le_of_ble_eq_true rfl) dL_law_380 ⟨(Nat.le_of_ble_eq_true rfl), (Nat.le_of_ble_eq_true rfl)⟩ hP hD hS hA (fun H locs hP hD hS => ?_)
  refine lv_aload_n hx hb dL_law_383 rfl (lv_at hl 2 rfl) ?_
  refine lv_iconst (v := 1) hx hb dL_law_384 (by decide) ?_
  refine lv_iconst (v := 4) hx hb dL_law_385 (by decide) ?_
  refine call_x (n := 2) (As := [.int 1, .int 4]) (rest := [.int (zB g (zab a (0 : Int32).toNatClampNeg) 4), .int (zc g)]) ⟨hx, hb, hml, hown, hts⟩ (r_told4 l D cyI cyO cyL hAd hj hJ h3 (b_ := (1 : Int32)) (vp_in_nI (n := 1) (N := 3) (by decide) (by decide))) gL_law_X5_told rfl (by decide +kernel) ⟨(Nat.le_of_ble_eq_true rfl), (Nat.le_of_ble_eq_true rfl)⟩ hKK (WXs_recv a g) (WXs_fst (a := a) g g) rfl hl.1 rfl (Nat.le_of_ble_eq_true rfl) dL_law_386 ⟨(Nat.le_of_ble_eq_true rfl), (Nat.le_of_ble_eq_true rfl)⟩ hP hD hS hA (fun H locs hP hD hS => ?_)
  refine lv_iadd hx hb dL_law_389 ?_
  refine lv_aload_n hx hb dL_law_390 rfl (lv_at hl 2 rfl) ?_
  refine lv_iconst (v := 2) hx hb dL_law_391 (by decide) ?_
  refine lv_iconst (v := 4) hx hb dL_law_392 (by decide) ?_
  refine call_x (n := 2) (As := [.int 2, .int 4]) (rest := [.int ((zB g (zab a (0 : Int32).toNatClampNeg) 4) + (zB g (zab a (1 : Int32).toNatClampNeg) 4)), .int (zc g)]) ⟨hx, hb, hml, hown, hts⟩ (r_told4 l D cyI cyO cyL hAd hj hJ h3 (b_ := (2 : Int32)) (vp_in_nI (n := 2) (N := 3) (by decide) (by decide))) gL_law_X5_told rfl (by decide +kernel) ⟨(Nat.le_of_ble_eq_true rfl), (Nat.le_of_ble_eq_true rfl)⟩ hKK (WXs_recv a g) (WXs_fst (a := a) g g) rfl hl.1 rfl (Nat.le_of_ble_eq_true rfl) dL_law_393 ⟨(Nat.le_of_ble_eq_true rfl), (Nat.le_of_ble_eq_true rfl)⟩ hP hD hS hA (fun H locs hP hD hS => ?_)
  refine lv_iadd hx hb dL_law_396 ?_
  refine lv_iconst (v := 2) hx hb dL_law_397 (by decide) ?_
  refine lv_aload_n hx hb dL_law_398 rfl (lv_at hl 2 rfl) ?_
  refine lv_iconst (v := 4) hx hb dL_law_399 (by decide) ?_
  refine call_x (n := 1) (As := [.int 4]) (rest := [.int 2, .int (((zB g (zab a (0 : Int32).toNatClampNeg) 4) + (zB g (zab a (1 : Int32).toNatClampNeg) 4)) + (zB g (zab a (2 : Int32).toNatClampNeg) 4)), .int (zc g)]) ⟨hx, hb, hml, hown, hts⟩ (r_gang4 l D cyI cyO cyL hAd hj hJ) gL_law_X5_gang rfl (by decide +kernel) ⟨(Nat.le_of_ble_eq_true rfl), (Nat.le_of_ble_eq_true rfl)⟩ hKK (WXs_recv a g) (WXs_fst (a := a) g g) rfl hl.1 rfl (Nat.le_of_ble_eq_true rfl) dL_law_400 ⟨(Nat.le_of_ble_eq_true rfl), (Nat.le_of_ble_eq_true rfl)⟩ hP hD hS hA (fun H locs hP hD hS => ?_)
  refine lv_imul hx hb dL_law_403 ?_
  refine lv_isub hx hb dL_law_404 ?_
  refine lv_icmp_ne (tgt := 452) hx hb dL_law_405 (by decide) (fun h9 => absurd hco h9) (fun _ => ?_)
  refine lv_aload_n hx hb dL_law_408 rfl (lv_at hl 2 rfl) ?_
  refine lv_iconst (v := 5) hx hb dL_law_409 (by decide) ?_
  refine call_x (n := 1) (As := [.int 5]) (rest := []) ⟨hx, hb, hml, hown, hts⟩ (r_gang5 l D cyI cyO cyL hAd hj hJ) gL_law_X5_gang rfl (by decide +kernel) ⟨(Nat.le_of_ble_eq_true rfl), (Nat.le_of_ble_eq_true rfl)⟩ hKK (WXs_recv a g) (WXs_fst (a := a) g g) rfl hl.1 rfl (Nat.le_of_ble_eq_true rfl) dL_law_410 ⟨(Nat.le_of_ble_eq_true rfl), (Nat.le_of_ble_eq_true rfl)⟩ hP hD hS hA (fun H locs hP hD hS => ?_)
  refine lv_aload_n hx hb dL_law_413 rfl (lv_at hl 2 rfl) ?_
  refine lv_iconst (v := 4) hx hb dL_law_414 (by decide) ?_
  refine call_x (n := 1) (As := [.int 4]) (rest := [.int (zg g 4)]) ⟨hx, hb, hml, hown, hts⟩ (r_gang4 l D cyI cyO cyL hAd hj hJ) gL_law_X5_gang rfl (by decide +kernel) ⟨(Nat.le_of_ble_eq_true rfl), (Nat.le_of_ble_eq_true rfl)⟩ hKK (WXs_recv a g) (WXs_fst (a := a) g g) rfl hl.1 rfl (Nat.le_of_ble_eq_true rfl) dL_law_415 ⟨(Nat.le_of_ble_eq_true rfl), (Nat.le_of_ble_eq_true rfl)⟩ hP hD hS hA (fun H locs hP hD hS => ?_)
  refine lv_iconst (v := 2) hx hb dL_law_418 (by decide) ?_
  refine lv_idiv hx hb dL_law_419 (by decide) ?_
  refine lv_icmp_gt (tgt := 452) hx hb dL_law_420 (by decide) (fun h9 => absurd h9 hup.1) (fun _ => ?_)
  refine lv_aload_n hx hb dL_law_423 rfl (lv_at hl 2 rfl) ?_
  refine lv_iconst (v := 3) hx hb dL_law_424 (by decide) ?_
  refine call_x (n := 1) (As := [.int 3]) (rest := []) ⟨hx, hb, hml, hown, hts⟩ (r_gang3 l D cyI cyO cyL hAd hj hJ) gL_law_X5_gang rfl (by decide +kernel) ⟨(Nat.le_of_ble_eq_true rfl), (Nat.le_of_ble_eq_true rfl)⟩ hKK (WXs_recv a g) (WXs_fst (a := a) g g) rfl hl.1 rfl (Nat.le_of_ble_eq_true rfl) dL_law_425 ⟨(Nat.le_of_ble_eq_true rfl), (Nat.le_of_ble_eq_true rfl)⟩ hP hD hS hA (fun H locs hP hD hS => ?_)
  refine lv_aload_n hx hb dL_law_428 rfl (lv_at hl 2 rfl) ?_
  refine lv_iconst (v := 4) hx hb dL_law_429 (by decide) ?_
  refine call_x (n := 1) (As := [.int 4]) (rest := [.int (zg g 2)]) ⟨hx, hb, hml, hown, hts⟩ (r_gang4 l D cyI cyO cyL hAd hj hJ) gL_law_X5_gang rfl (by decide +kernel) ⟨(Nat.le_of_ble_eq_true rfl), (Nat.le_of_ble_eq_true rfl)⟩ hKK (WXs_recv a g) (WXs_fst (a := a) g g) rfl hl.1 rfl (Nat.le_of_ble_eq_true rfl) dL_law_430 ⟨(Nat.le_of_ble_eq_true rfl), (Nat.le_of_ble_eq_true rfl)⟩ hP hD hS hA (fun H locs hP hD hS => ?_)
  refine lv_icmp_gt (tgt := 452) hx hb dL_law_433 (by decide) (fun h9 => absurd h9 hup.2.1) (fun _ => ?_)
  refine lv_aload_n hx hb dL_law_436 rfl (lv_at hl 2 rfl) ?_
  refine lv_iconst (v := 2) hx hb dL_law_437 (by decide) ?_
  refine call_x (n := 1) (As := [.int 2]) (rest := []) ⟨hx, hb, hml, hown, hts⟩ (r_gang2 l D cyI cyO cyL hAd hj hJ) gL_law_X5_gang rfl (by decide +kernel) ⟨(Nat.le_of_ble_eq_true rfl), (Nat.le_of_ble_eq_true rfl)⟩ hKK (WXs_recv a g) (WXs_fst (a := a) g g) rfl hl.1 rfl (Nat.le_of_ble_eq_true rfl) dL_law_438 ⟨(Nat.le_of_ble_eq_true rfl), (Nat.le_of_ble_eq_true rfl)⟩ hP hD hS hA (fun H locs hP hD hS => ?_)
  refine lv_if_ne (tgt := 454) hx hb dL_law_441 (by decide) (fun h_g => ?_) (fun h_g => ?_)
  · skip
    refine lv_iconst (v := 0) hx hb dL_law_454 (by decide) ?_
    refine lv_istore (lv' := [(12, .int 0), (11, .int (spdL (zw g) 24 0 0)), (2, .int (nI t)), (1, .ref a.1), (0, .ref b)]) hx hb dL_law_455 hl (by decide) rfl (fun ls hl => ?_)
    exact law_b hL C0 hKK hAd hj hJ h3 3 0 rfl _ _ _ hP hD hS (lv_sub hl [0, 2, 3, 4] rfl) K
  · skip
    refine lv_aload_n hx hb dL_law_444 rfl (lv_at hl 2 rfl) ?_
    refine lv_iconst (v := 3) hx hb dL_law_445 (by decide) ?_
    refine call_x (n := 1) (As := [.int 3]) (rest := []) ⟨hx, hb, hml, hown, hts⟩ (r_gang3 l D cyI cyO cyL hAd hj hJ) gL_law_X5_gang rfl (by decide +kernel) ⟨(Nat.le_of_ble_eq_true rfl), (Nat.le_of_ble_eq_true rfl)⟩ hKK (WXs_recv a g) (WXs_fst (a := a) g g) rfl hl.1 rfl (Nat.le_of_ble_eq_true rfl) dL_law_446 ⟨(Nat.le_of_ble_eq_true rfl), (Nat.le_of_ble_eq_true rfl)⟩ hP hD hS hA (fun H locs hP hD hS => ?_)
    refine lv_if_eq (tgt := 454) hx hb dL_law_449 (by decide) (fun _ => ?_) (fun h9 => absurd (hup.2.2 h_g) h9)
    refine lv_iconst (v := 0) hx hb dL_law_454 (by decide) ?_
    refine lv_istore (lv' := [(12, .int 0), (11, .int (spdL (zw g) 24 0 0)), (2, .int (nI t)), (1, .ref a.1), (0, .ref b)]) hx hb dL_law_455 hl (by decide) rfl (fun ls hl => ?_)
    exact law_b hL C0 hKK hAd hj hJ h3 3 0 rfl _ _ _ hP hD hS (lv_sub hl [0, 2, 3, 4] rfl) K
set_option maxHeartbeats 4000000 in
set_option maxRecDepth 100000 in
theorem law_162 {p : Program} {l : Launch} {e : Env} {s : State} {m : MethodId} {below : List Frame} {meth : Method} {c : Code} {b L : Nat} {xs : Nat → Int32} (hL : L ≤ 260) (C0 : lw_At p s m meth c b L xs) {D : va_G} {cyI cyO cyL : ClassId} (hKK : KK D cyI cyO cyL s) {a : AX} (hAd : Adr a) {j t : Nat} (hj : j + 1 < 512) {g : SG} (hJ : JE a j g) (h3 : zn g = 3) {wh v7 sp x3 : Int32} (hsp : vp_in sp 24) (h7 : v7 = sv 5 g) (H : Heap) (locs : List Loc) (ls : Array Slot) : va_P D vwCl (WXs cyI cyO a g) H → va_D (fun q : Nat => s.heap.size ≤ q) (WXs cyI cyO a g) → va_S (fun q : Nat => s.heap.size ≤ q) s.heap H locs → lv_has ls 13 [(10, .int wh), (7, .int v7), (4, .int sp), (3, .int x3), (2, .int (nI t)), (1, .ref a.1), (0, .ref b)] → (∀ (g2 : SG) (H2 : Heap) (locs2 : List Loc) (ls2 : Array Slot), JE a (j + 1) g2 → zn g2 = 3 → va_P D vwCl (WXs cyI cyO a g2) H2 → va_D (fun q : Nat => s.heap.size ≤ q) (WXs cyI cyO a g2) → va_S (fun q : Nat => s.heap.size ≤ q) s.heap H2 locs2 → lv_has ls2 13 [(2, .int (nI t)), (1, .ref a.1), (0, .ref b)] → W p l e room_1 s m #[Value.ref b] below meth c H2 locs2 30 247 (lw_Z below #[Value.ref b] s) (F0 m 258 ls2 [])) → W p l e room_1 s m #[Value.ref b] below meth c H locs 30 247 (lw_Z below #[Value.ref b] s) (F0 m 162 ls []) := by
  intro hP hD hS hl K
  obtain ⟨hx, hb, hr, hml, hown, hts, hX, hbl, hlocks, hgv⟩ := id C0
  have hA : ∀ q : Nat, s.heap.size ≤ q → (fun q : Nat => s.heap.size ≤ q) q := fun _ h => h
  have hbA : ¬ (fun q : Nat => s.heap.size ≤ q) b := Nat.not_le.mpr hbl
  have hts : ∀ w ∈ wsL_law, w.before #[Value.ref b] s = true := fun w h => hts w (wsL_law_in w h)
  have hown : s.vm.findClass RL = some m.cls := hown
  have hb : c.code = cL_law := hb
  have hj0 : j < 512 := by omega
  refine lv_iload hx hb dL_law_162 (lv_at hl 0 rfl) ?_
  refine lv_iconst (v := 1) hx hb dL_law_164 (by decide) ?_
  refine lv_icmp_ne (tgt := 188) hx hb dL_law_165 (by decide) (fun h_1 => ?_) (fun h_1 => ?_)
  · skip
    refine lv_iload hx hb dL_law_188 (lv_at hl 0 rfl) ?_
    refine lv_iconst (v := 2) hx hb dL_law_190 (by decide) ?_
    refine lv_icmp_ne (tgt := 210) hx hb dL_law_191 (by decide) (fun h_2 => ?_) (fun h_2 => ?_)
    · skip
      refine lv_iload hx hb dL_law_210 (lv_at hl 0 rfl) ?_
      refine lv_iconst (v := 3) hx hb dL_law_212 (by decide) ?_
      refine lv_icmp_ne (tgt := 235) hx hb dL_law_213 (by decide) (fun h_3 => ?_) (fun h_3 => ?_)
      · skip
        refine lv_aload_n hx hb dL_law_235 rfl (lv_at hl 5 rfl) ?_
        refine lv_iconst (v := 5) hx hb dL_law_236 (by decide) ?_
        refine lv_tope (y := nI 5) rfl ?_
        obtain ⟨g2, r2, hG, hge, hsum, hJ2, hn2⟩ := s_pass l D cyI cyO cyL hAd hj0 hJ (h := 5) (by decide) (by decide) h3
        refine call_x (n := 1) (As := [.int (nI 5)]) (rest := []) ⟨hx, hb, hml, hown, hts⟩ hG gL_law_X5_pass rfl (by decide +kernel) ⟨(Nat.le_of_ble_eq_true rfl), (Nat.le_of_ble_eq_true rfl)⟩ hKK (WXs_recv a g) (WXs_fst (a := a) g g2) rfl hl.1 rfl (Nat.le_of_ble_eq_true rfl) dL_law_237 ⟨(Nat.le_of_ble_eq_true rfl), (Nat.le_of_ble_eq_true rfl)⟩ hP hD hS hA (fun H locs hP hD hS => ?_)
        refine lv_bipush (v := (-10)) hx hb dL_law_240 (by decide) ?_
        refine lv_icmp_lt (tgt := 256) hx hb dL_law_242 (by decide) (fun h9 => absurd h9 hge) (fun _ => ?_)
        refine lv_aload_n hx hb dL_law_245 rfl (lv_at hl 5 rfl) ?_
        refine lv_bipush (v := 6) hx hb dL_law_246 (by decide) ?_
        refine call_x (n := 1) (As := [.int 6]) (rest := []) ⟨hx, hb, hml, hown, hts⟩ (r_count6 l D cyI cyO cyL hAd hj hJ2) gL_law_X5_count rfl (by decide +kernel) ⟨(Nat.le_of_ble_eq_true rfl), (Nat.le_of_ble_eq_true rfl)⟩ hKK (WXs_recv a g2) (WXs_fst (a := a) g2 g2) rfl hl.1 rfl (Nat.le_of_ble_eq_true rfl) dL_law_248 ⟨(Nat.le_of_ble_eq_true rfl), (Nat.le_of_ble_eq_true rfl)⟩ hP hD hS hA (fun H locs hP hD hS => ?_)
        refine lv_iload hx hb dL_law_251 (lv_at hl 1 rfl) ?_
        refine lv_icmp_eq (tgt := 258) hx hb dL_law_253 (by decide) (fun _ => ?_) (fun h9 => absurd (hsum.trans h7.symm) h9)
        exact K g2 _ _ _ hJ2 (hn2.trans h3) hP hD hS (lv_sub hl [4, 5, 6] rfl)
      · skip
        refine lv_aload_n hx hb dL_law_216 rfl (lv_at hl 5 rfl) ?_
        refine lv_iload_n hx hb dL_law_217 rfl (lv_at hl 3 rfl) ?_
        refine lv_bipush (v := 8) hx hb dL_law_218 (by decide) ?_
        refine lv_ishr hx hb dL_law_220 ?_
        refine lv_bipush (v := 12) hx hb dL_law_221 (by decide) ?_
        refine call_h (n := 2) (As := [.int (x3 >>> (8 &&& 31)), .int 12]) (rest := [.ref a.1]) ⟨hx, hb, hml, hown, hts⟩ (c_L_below l D cyI cyO cyL b L xs (x3 >>> (8 &&& 31)) 12 (N := 12) (by decide) (by decide) rfl) gL_law_L_below rfl rfl rfl (by decide +kernel) ⟨(Nat.le_of_ble_eq_true rfl), (Nat.le_of_ble_eq_true rfl)⟩ hKK hX hbl hbA rfl hl.1 rfl (Nat.le_of_ble_eq_true rfl) dL_law_223 ⟨(Nat.le_of_ble_eq_true rfl), (Nat.le_of_ble_eq_true rfl)⟩ hP hS hA (fun r1 H locs hr2 hP hS => ?_)
        refine lv_iload hx hb dL_law_226 (lv_at hl 2 rfl) ?_
        obtain ⟨g2, r2, hG, hJ2, hn2⟩ := s_setSwan l D cyI cyO cyL hAd hj0 hJ hr2 (Or.inr hsp)
        refine call_x (n := 2) (As := [.int r1, .int sp]) (rest := []) ⟨hx, hb, hml, hown, hts⟩ hG gL_law_X5_setSwan rfl (by decide +kernel) ⟨(Nat.le_of_ble_eq_true rfl), (Nat.le_of_ble_eq_true rfl)⟩ hKK (WXs_recv a g) (WXs_fst (a := a) g g2) rfl hl.1 rfl (Nat.le_of_ble_eq_true rfl) dL_law_228 ⟨(Nat.le_of_ble_eq_true rfl), (Nat.le_of_ble_eq_true rfl)⟩ hP hD hS hA (fun H locs hP hD hS => ?_)
        have hJ2 := hJ2.mono
        refine lv_pop hx hb dL_law_231 rfl ?_
        refine lv_goto (tgt := 258) hx hb dL_law_232 (by decide) ?_
        exact K g2 _ _ _ hJ2 (hn2.trans h3) hP hD hS (lv_sub hl [4, 5, 6] rfl)
    · skip
      refine lv_aload_n hx hb dL_law_194 rfl (lv_at hl 5 rfl) ?_
      refine lv_iload_n hx hb dL_law_195 rfl (lv_at hl 3 rfl) ?_
      refine lv_bipush (v := 8) hx hb dL_law_196 (by decide) ?_
      refine lv_ishr hx hb dL_law_198 ?_
      refine lv_iconst (v := 3) hx hb dL_law_199 (by decide) ?_
      refine call_h (n := 2) (As := [.int (x3 >>> (8 &&& 31)), .int 3]) (rest := [.ref a.1]) ⟨hx, hb, hml, hown, hts⟩ (c_L_below l D cyI cyO cyL b L xs (x3 >>> (8 &&& 31)) 3 (N := 3) (by decide) (by decide) rfl) gL_law_L_below rfl rfl rfl (by decide +kernel) ⟨(Nat.le_of_ble_eq_true rfl), (Nat.le_of_ble_eq_true rfl)⟩ hKK hX hbl hbA rfl hl.1 rfl (Nat.le_of_ble_eq_true rfl) dL_law_200 ⟨(Nat.le_of_ble_eq_true rfl), (Nat.le_of_ble_eq_true rfl)⟩ hP hS hA (fun r3 H locs hr4 hP hS => ?_)
      obtain ⟨g2, r2, hG, hJ2, hn2⟩ := s_park l D cyI cyO cyL hAd hj0 hJ (by rw [h3]; exact hr4)
      refine call_x (n := 1) (As := [.int r3]) (rest := []) ⟨hx, hb, hml, hown, hts⟩ hG gL_law_X5_park rfl (by decide +kernel) ⟨(Nat.le_of_ble_eq_true rfl), (Nat.le_of_ble_eq_true rfl)⟩ hKK (WXs_recv a g) (WXs_fst (a := a) g g2) rfl hl.1 rfl (Nat.le_of_ble_eq_true rfl) dL_law_203 ⟨(Nat.le_of_ble_eq_true rfl), (Nat.le_of_ble_eq_true rfl)⟩ hP hD hS hA (fun H locs hP hD hS => ?_)
      have hJ2 := hJ2.mono
      refine lv_pop hx hb dL_law_206 rfl ?_
      refine lv_goto (tgt := 258) hx hb dL_law_207 (by decide) ?_
      exact K g2 _ _ _ hJ2 (hn2.trans h3) hP hD hS (lv_sub hl [4, 5, 6] rfl)
  · skip
    refine lv_aload_n hx hb dL_law_168 rfl (lv_at hl 5 rfl) ?_
    refine lv_iload hx hb dL_law_169 (lv_at hl 2 rfl) ?_
    refine lv_iconst (v := 4) hx hb dL_law_171 (by decide) ?_
    refine call_x (n := 2) (As := [.int sp, .int 4]) (rest := []) ⟨hx, hb, hml, hown, hts⟩ (r_span4 l D cyI cyO cyL hAd hj0 hJ (s_ := sp) hsp) gL_law_X5_span rfl (by decide +kernel) ⟨(Nat.le_of_ble_eq_true rfl), (Nat.le_of_ble_eq_true rfl)⟩ hKK (WXs_recv a g) (WXs_fst (a := a) g g) rfl hl.1 rfl (Nat.le_of_ble_eq_true rfl) dL_law_172 ⟨(Nat.le_of_ble_eq_true rfl), (Nat.le_of_ble_eq_true rfl)⟩ hP hD hS hA (fun H locs hP hD hS => ?_)
    refine lv_if_lt (tgt := 188) hx hb dL_law_175 (by decide) (fun h_c => ?_) (fun h_c => ?_)
    · skip
      refine lv_iload hx hb dL_law_188 (lv_at hl 0 rfl) ?_
      refine lv_iconst (v := 2) hx hb dL_law_190 (by decide) ?_
      refine lv_icmp_ne (tgt := 210) hx hb dL_law_191 (by decide) (fun h_2 => ?_) (fun h_2 => ?_)
      · skip
        refine lv_iload hx hb dL_law_210 (lv_at hl 0 rfl) ?_
        refine lv_iconst (v := 3) hx hb dL_law_212 (by decide) ?_
        refine lv_icmp_ne (tgt := 235) hx hb dL_law_213 (by decide) (fun h_3 => ?_) (fun h_3 => ?_)
        · skip
          refine lv_aload_n hx hb dL_law_235 rfl (lv_at hl 5 rfl) ?_
          refine lv_iconst (v := 5) hx hb dL_law_236 (by decide) ?_
          refine lv_tope (y := nI 5) rfl ?_
          obtain ⟨g2, r2, hG, hge, hsum, hJ2, hn2⟩ := s_pass l D cyI cyO cyL hAd hj0 hJ (h := 5) (by decide) (by decide) h3
          refine call_x (n := 1) (As := [.int (nI 5)]) (rest := []) ⟨hx, hb, hml, hown, hts⟩ hG gL_law_X5_pass rfl (by decide +kernel) ⟨(Nat.le_of_ble_eq_true rfl), (Nat.le_of_ble_eq_true rfl)⟩ hKK (WXs_recv a g) (WXs_fst (a := a) g g2) rfl hl.1 rfl (Nat.le_of_ble_eq_true rfl) dL_law_237 ⟨(Nat.le_of_ble_eq_true rfl), (Nat.le_of_ble_eq_true rfl)⟩ hP hD hS hA (fun H locs hP hD hS => ?_)
          refine lv_bipush (v := (-10)) hx hb dL_law_240 (by decide) ?_
          refine lv_icmp_lt (tgt := 256) hx hb dL_law_242 (by decide) (fun h9 => absurd h9 hge) (fun _ => ?_)
          refine lv_aload_n hx hb dL_law_245 rfl (lv_at hl 5 rfl) ?_
          refine lv_bipush (v := 6) hx hb dL_law_246 (by decide) ?_
          refine call_x (n := 1) (As := [.int 6]) (rest := []) ⟨hx, hb, hml, hown, hts⟩ (r_count6 l D cyI cyO cyL hAd hj hJ2) gL_law_X5_count rfl (by decide +kernel) ⟨(Nat.le_of_ble_eq_true rfl), (Nat.le_of_ble_eq_true rfl)⟩ hKK (WXs_recv a g2) (WXs_fst (a := a) g2 g2) rfl hl.1 rfl (Nat.le_of_ble_eq_true rfl) dL_law_248 ⟨(Nat.le_of_ble_eq_true rfl), (Nat.le_of_ble_eq_true rfl)⟩ hP hD hS hA (fun H locs hP hD hS => ?_)
          refine lv_iload hx hb dL_law_251 (lv_at hl 1 rfl) ?_
          refine lv_icmp_eq (tgt := 258) hx hb dL_law_253 (by decide) (fun _ => ?_) (fun h9 => absurd (hsum.trans h7.symm) h9)
          exact K g2 _ _ _ hJ2 (hn2.trans h3) hP hD hS (lv_sub hl [4, 5, 6] rfl)
        · skip
          refine lv_aload_n hx hb dL_law_216 rfl (lv_at hl 5 rfl) ?_
          refine lv_iload_n hx hb dL_law_217 rfl (lv_at hl 3 rfl) ?_
          refine lv_bipush (v := 8) hx hb dL_law_218 (by decide) ?_
          refine lv_ishr hx hb dL_law_220 ?_
          refine lv_bipush (v := 12) hx hb dL_law_221 (by decide) ?_
          refine call_h (n := 2) (As := [.int (x3 >>> (8 &&& 31)), .int 12]) (rest := [.ref a.1]) ⟨hx, hb, hml, hown, hts⟩ (c_L_below l D cyI cyO cyL b L xs (x3 >>> (8 &&& 31)) 12 (N := 12) (by decide) (by decide) rfl) gL_law_L_below rfl rfl rfl (by decide +kernel) ⟨(Nat.le_of_ble_eq_true rfl), (Nat.le_of_ble_eq_true rfl)⟩ hKK hX hbl hbA rfl hl.1 rfl (Nat.le_of_ble_eq_true rfl) dL_law_223 ⟨(Nat.le_of_ble_eq_true rfl), (Nat.le_of_ble_eq_true rfl)⟩ hP hS hA (fun r5 H locs hr6 hP hS => ?_)
          refine lv_iload hx hb dL_law_226 (lv_at hl 2 rfl) ?_
          obtain ⟨g2, r2, hG, hJ2, hn2⟩ := s_setSwan l D cyI cyO cyL hAd hj0 hJ hr6 (Or.inr hsp)
          refine call_x (n := 2) (As := [.int r5, .int sp]) (rest := []) ⟨hx, hb, hml, hown, hts⟩ hG gL_law_X5_setSwan rfl (by decide +kernel) ⟨(Nat.le_of_ble_eq_true rfl), (Nat.le_of_ble_eq_true rfl)⟩ hKK (WXs_recv a g) (WXs_fst (a := a) g g2) rfl hl.1 rfl (Nat.le_of_ble_eq_true rfl) dL_law_228 ⟨(Nat.le_of_ble_eq_true rfl), (Nat.le_of_ble_eq_true rfl)⟩ hP hD hS hA (fun H locs hP hD hS => ?_)
          have hJ2 := hJ2.mono
          refine lv_pop hx hb dL_law_231 rfl ?_
          refine lv_goto (tgt := 258) hx hb dL_law_232 (by decide) ?_
          exact K g2 _ _ _ hJ2 (hn2.trans h3) hP hD hS (lv_sub hl [4, 5, 6] rfl)
      · skip
        refine lv_aload_n hx hb dL_law_194 rfl (lv_at hl 5 rfl) ?_
        refine lv_iload_n hx hb dL_law_195 rfl (lv_at hl 3 rfl) ?_
        refine lv_bipush (v := 8) hx hb dL_law_196 (by decide) ?_
        refine lv_ishr hx hb dL_law_198 ?_
        refine lv_iconst (v := 3) hx hb dL_law_199 (by decide) ?_
        refine call_h (n := 2) (As := [.int (x3 >>> (8 &&& 31)), .int 3]) (rest := [.ref a.1]) ⟨hx, hb, hml, hown, hts⟩ (c_L_below l D cyI cyO cyL b L xs (x3 >>> (8 &&& 31)) 3 (N := 3) (by decide) (by decide) rfl) gL_law_L_below rfl rfl rfl (by decide +kernel) ⟨(Nat.le_of_ble_eq_true rfl), (Nat.le_of_ble_eq_true rfl)⟩ hKK hX hbl hbA rfl hl.1 rfl (Nat.le_of_ble_eq_true rfl) dL_law_200 ⟨(Nat.le_of_ble_eq_true rfl), (Nat.le_of_ble_eq_true rfl)⟩ hP hS hA (fun r7 H locs hr8 hP hS => ?_)
        obtain ⟨g2, r2, hG, hJ2, hn2⟩ := s_park l D cyI cyO cyL hAd hj0 hJ (by rw [h3]; exact hr8)
        refine call_x (n := 1) (As := [.int r7]) (rest := []) ⟨hx, hb, hml, hown, hts⟩ hG gL_law_X5_park rfl (by decide +kernel) ⟨(Nat.le_of_ble_eq_true rfl), (Nat.le_of_ble_eq_true rfl)⟩ hKK (WXs_recv a g) (WXs_fst (a := a) g g2) rfl hl.1 rfl (Nat.le_of_ble_eq_true rfl) dL_law_203 ⟨(Nat.le_of_ble_eq_true rfl), (Nat.le_of_ble_eq_true rfl)⟩ hP hD hS hA (fun H locs hP hD hS => ?_)
        have hJ2 := hJ2.mono
        refine lv_pop hx hb dL_law_206 rfl ?_
        refine lv_goto (tgt := 258) hx hb dL_law_207 (by decide) ?_
        exact K g2 _ _ _ hJ2 (hn2.trans h3) hP hD hS (lv_sub hl [4, 5, 6] rfl)
    · skip
      refine lv_aload_n hx hb dL_law_178 rfl (lv_at hl 5 rfl) ?_
      refine lv_iload hx hb dL_law_179 (lv_at hl 2 rfl) ?_
      obtain ⟨g2, r2, hG, hJ2, hn2⟩ := s_cancel l D cyI cyO cyL hAd hj0 hJ hsp h_c
      refine call_x (n := 1) (As := [.int sp]) (rest := []) ⟨hx, hb, hml, hown, hts⟩ hG gL_law_X5_cancel rfl (by decide +kernel) ⟨(Nat.le_of_ble_eq_true rfl), (Nat.le_of_ble_eq_true rfl)⟩ hKK (WXs_recv a g) (WXs_fst (a := a) g g2) rfl hl.1 rfl (Nat.le_of_ble_eq_true rfl) dL_law_181 ⟨(Nat.le_of_ble_eq_true rfl), (Nat.le_of_ble_eq_true rfl)⟩ hP hD hS hA (fun H locs hP hD hS => ?_)
      have hJ2 := hJ2.mono
      refine lv_pop hx hb dL_law_184 rfl ?_
      refine lv_goto (tgt := 258) hx hb dL_law_185 (by decide) ?_
      exact K g2 _ _ _ hJ2 (hn2.trans h3) hP hD hS (lv_sub hl [4, 5, 6] rfl)
set_option maxHeartbeats 4000000 in
set_option maxRecDepth 100000 in
theorem law_loop {p : Program} {l : Launch} {e : Env} {s : State} {m : MethodId} {below : List Frame} {meth : Method} {c : Code} {b L : Nat} {xs : Nat → Int32} (hL : L ≤ 260) (C0 : lw_At p s m meth c b L xs) {D : va_G} {cyI cyO cyL : ClassId} (hKK : KK D cyI cyO cyL s) {a : AX} (hAd : Adr a) : ∀ (n t : Nat), t + n = 16 → ∀ (g : SG) (H : Heap) (locs : List Loc) (ls : Array Slot), JE a (4 * t) g → zn g = 3 → va_P D vwCl (WXs cyI cyO a g) H → va_D (fun q : Nat => s.heap.size ≤ q) (WXs cyI cyO a g) → va_S (fun q : Nat => s.heap.size ≤ q) s.heap H locs → lv_has ls 13 [(2, .int (nI t)), (1, .ref a.1), (0, .ref b)] → W p l e room_1 s m #[Value.ref b] below meth c H locs 30 247 (lw_Z below #[Value.ref b] s) (F0 m 8 ls []) := by
  intro n
  induction n with
  | zero =>
    intro t ht g H locs ls hJ h3 hP hD hS hl
    obtain ⟨hx, hb, hr, hml, hown, hts, hX, hbl, hlocks, hgv⟩ := id C0
    have hA : ∀ q : Nat, s.heap.size ≤ q → (fun q : Nat => s.heap.size ≤ q) q := fun _ h => h
    have hbA : ¬ (fun q : Nat => s.heap.size ≤ q) b := Nat.not_le.mpr hbl
    have hts : ∀ w ∈ wsL_law, w.before #[Value.ref b] s = true := fun w h => hts w (wsL_law_in w h)
    have hown : s.vm.findClass RL = some m.cls := hown
    have hb : c.code = cL_law := hb
    obtain rfl : t = 16 := by omega
    refine lv_iload_n hx hb dL_law_8 rfl (lv_at hl 0 rfl) ?_
    refine lv_bipush (v := 16) hx hb dL_law_9 (by decide) ?_
    refine lv_icmp_ge (tgt := 554) hx hb dL_law_11 (by decide) (fun _ => ?_) (fun h9 => absurd (ge_yes (N := 16) (Nat.le_refl _) (by decide)) h9)
    refine lv_iconst (v := 1) hx hb dL_law_554 (by decide) ?_
    refine va_forget (fun q hq => hS.2.2 q hq) ?_
    refine W.widen (k := 606791) (n := 7280809) (Nat.le_of_ble_eq_true rfl) (Nat.le_of_ble_eq_true rfl) ?_
    exact lw_ret hx hb hr hlocks dL_law_555
  | succ n ih =>
    intro t ht g H locs ls hJ h3 hP hD hS hl
    obtain ⟨hx, hb, hr, hml, hown, hts, hX, hbl, hlocks, hgv⟩ := id C0
    have hA : ∀ q : Nat, s.heap.size ≤ q → (fun q : Nat => s.heap.size ≤ q) q := fun _ h => h
    have hbA : ¬ (fun q : Nat => s.heap.size ≤ q) b := Nat.not_le.mpr hbl
    have hts : ∀ w ∈ wsL_law, w.before #[Value.ref b] s = true := fun w h => hts w (wsL_law_in w h)
    have hown : s.vm.findClass RL = some m.cls := hown
    have hb : c.code = cL_law := hb
    have ht9 : t < 16 := by omega
    have KT : ∀ (g2 : SG) (H2 : Heap) (locs2 : List Loc) (ls2 : Array Slot), JE a (4 * t + 3 + 1) g2 → zn g2 = 3 → va_P D vwCl (WXs cyI cyO a g2) H2 → va_D (fun q : Nat => s.heap.size ≤ q) (WXs cyI cyO a g2) → va_S (fun q : Nat => s.heap.size ≤ q) s.heap H2 locs2 → lv_has ls2 13 [(2, .int (nI t)), (1, .ref a.1), (0, .ref b)] → W p l e room_1 s m #[Value.ref b] below meth c H2 locs2 30 247 (lw_Z below #[Value.ref b] s) (F0 m 258 ls2 []) := by
      intro g2 H2 locs2 ls2 hJ2 hn2 hP hD hS hl
      refine law_258 hL C0 hKK hAd (by omega) hJ2 hn2 _ _ _ hP hD hS hl (fun H locs ls hP hD hS hl => ?_)
      refine lv_iinc (v := nI (t + 1)) (lv' := [(2, .int (nI (t + 1))), (1, .ref a.1), (0, .ref b)]) hx hb dL_law_548 hl (k := 0) rfl (nI_1 t) (by decide) rfl (fun ls hl => ?_)
      refine lv_goto (tgt := 8) hx hb dL_law_551 (by decide) ?_
      exact ih (t + 1) (by omega) g2 _ _ _ hJ2 hn2 hP hD hS (lv_sub hl [0, 1, 2] rfl)
    refine lv_iload_n hx hb dL_law_8 rfl (lv_at hl 0 rfl) ?_
    refine lv_bipush (v := 16) hx hb dL_law_9 (by decide) ?_
    refine lv_icmp_ge (tgt := 554) hx hb dL_law_11 (by decide) (fun h9 => absurd h9 (ge_no (N := 16) ht9 (by decide))) (fun _ => ?_)
    refine lv_aload_n hx hb dL_law_14 rfl (lv_at hl 2 rfl) ?_
    refine lv_iconst (v := 4) hx hb dL_law_15 (by decide) ?_
    refine lv_iload_n hx hb dL_law_16 rfl (lv_at hl 0 rfl) ?_
    refine lv_iadd hx hb dL_law_17 ?_
    refine call_h (n := 2) (As := [.ref b, .int (4 + (nI t))]) (rest := []) ⟨hx, hb, hml, hown, hts⟩ (c_L_cell l D cyI cyO cyL b L xs (4 + (nI t)) hL (by rw [show (4 : Int32) + nI t = nI (4 + t) from nI_add 4 t]; exact nI_pos (by omega))) gL_law_L_cell rfl rfl rfl (by decide +kernel) ⟨(Nat.le_of_ble_eq_true rfl), (Nat.le_of_ble_eq_true rfl)⟩ hKK hX hbl hbA rfl hl.1 rfl (Nat.le_of_ble_eq_true rfl) dL_law_18 ⟨(Nat.le_of_ble_eq_true rfl), (Nat.le_of_ble_eq_true rfl)⟩ hP hS hA (fun r1 H locs hr2 hP hS => ?_)
    refine lv_iconst (v := 2) hx hb dL_law_21 (by decide) ?_
    refine lv_ishr hx hb dL_law_22 ?_
    obtain ⟨x3, hx3⟩ : ∃ z, z = r1 >>> (2 &&& 31) := ⟨_, rfl⟩
    refine lv_tope (y := x3) hx3.symm ?_
    refine lv_istore_n (lv' := [(3, .int x3), (2, .int (nI t)), (1, .ref a.1), (0, .ref b)]) hx hb dL_law_23 rfl hl (by decide) rfl (fun ls hl => ?_)
    refine lv_iload_n hx hb dL_law_24 rfl (lv_at hl 0 rfl) ?_
    refine lv_bipush (v := 24) hx hb dL_law_25 (by decide) ?_
    refine call_h (n := 2) (As := [.int x3, .int 24]) (rest := []) ⟨hx, hb, hml, hown, hts⟩ (c_L_below l D cyI cyO cyL b L xs x3 24 (N := 24) (by decide) (by decide) rfl) gL_law_L_below rfl rfl rfl (by decide +kernel) ⟨(Nat.le_of_ble_eq_true rfl), (Nat.le_of_ble_eq_true rfl)⟩ hKK hX hbl hbA rfl hl.1 rfl (Nat.le_of_ble_eq_true rfl) dL_law_27 ⟨(Nat.le_of_ble_eq_true rfl), (Nat.le_of_ble_eq_true rfl)⟩ hP hS hA (fun r3 H locs hr4 hP hS => ?_)
    obtain ⟨sp, hsp0⟩ : ∃ z, z = r3 := ⟨_, rfl⟩
    rw [← hsp0] at hr4
    have hsp : vp_in sp 24 := hr4
    refine lv_tope (y := sp) hsp0.symm ?_
    refine lv_istore (lv' := [(4, .int sp), (3, .int x3), (2, .int (nI t)), (1, .ref a.1), (0, .ref b)]) hx hb dL_law_30 hl (by decide) rfl (fun ls hl => ?_)
    refine lv_aload_n hx hb dL_law_32 rfl (lv_at hl 3 rfl) ?_
    refine call_xl (n := 0) (As := []) (rest := []) ⟨hx, hb, hml, hown, hts⟩ (s_digest l D cyI cyO cyL hAd (j := 4 * t) (by omega) hJ) gL_law_X5_digest rfl (by decide +kernel) ⟨(Nat.le_of_ble_eq_true rfl), (Nat.le_of_ble_eq_true rfl)⟩ hKK (WXs_recv a g) (WXs_fst (a := a) g g) rfl hl.1 rfl (Nat.le_of_ble_eq_true rfl) dL_law_33 ⟨(Nat.le_of_ble_eq_true rfl), (Nat.le_of_ble_eq_true rfl)⟩ hP hD hS hA (fun H locs hP hD hS => ?_)
    refine lv_lstore (lv' := [(5, .long (dgv g)), (4, .int sp), (3, .int x3), (2, .int (nI t)), (1, .ref a.1), (0, .ref b)]) hx hb dL_law_36 hl (by decide) rfl (fun ls hl => ?_)
    refine lv_aload_n hx hb dL_law_38 rfl (lv_at hl 4 rfl) ?_
    refine lv_iconst (v := 5) hx hb dL_law_39 (by decide) ?_
    refine lv_tope (y := nI 5) rfl ?_
    refine lv_bipush (v := 6) hx hb dL_law_40 (by decide) ?_
    obtain ⟨g1, hG1, hSa1, hJ1⟩ := l_foresee l D cyI cyO cyL hAd (j := 4 * t) (by omega) hJ (h := 5) (by decide) (by decide)
    refine call_x (n := 2) (As := [.int (nI 5), .int 6]) (rest := []) ⟨hx, hb, hml, hown, hts⟩ hG1 gL_law_X5_foresee rfl (by decide +kernel) ⟨(Nat.le_of_ble_eq_true rfl), (Nat.le_of_ble_eq_true rfl)⟩ hKK (WXs_recv a g) (WXs_fst (a := a) g g1) rfl hl.1 rfl (Nat.le_of_ble_eq_true rfl) dL_law_42 ⟨(Nat.le_of_ble_eq_true rfl), (Nat.le_of_ble_eq_true rfl)⟩ hP hD hS hA (fun H locs hP hD hS => ?_)
    refine lv_istore (lv' := [(7, .int (sv 5 g)), (5, .long (dgv g)), (4, .int sp), (3, .int x3), (2, .int (nI t)), (1, .ref a.1), (0, .ref b)]) hx hb dL_law_45 hl (by decide) rfl (fun ls hl => ?_)
    refine lv_aload_n hx hb dL_law_47 rfl (lv_at hl 5 rfl) ?_
    refine lv_iload hx hb dL_law_48 (lv_at hl 2 rfl) ?_
    obtain ⟨g2, r8, hG2, hf0, hf96, hSa2, hJ2⟩ := l_falls l D cyI cyO cyL hAd (by omega) hJ1 hsp
    refine call_x (n := 1) (As := [.int sp]) (rest := []) ⟨hx, hb, hml, hown, hts⟩ hG2 gL_law_X5_falls rfl (by decide +kernel) ⟨(Nat.le_of_ble_eq_true rfl), (Nat.le_of_ble_eq_true rfl)⟩ hKK (WXs_recv a g1) (WXs_fst (a := a) g1 g2) rfl hl.1 rfl (Nat.le_of_ble_eq_true rfl) dL_law_50 ⟨(Nat.le_of_ble_eq_true rfl), (Nat.le_of_ble_eq_true rfl)⟩ hP hD hS hA (fun H locs hP hD hS => ?_)
    refine lv_istore (lv' := [(8, .int r8), (7, .int (sv 5 g)), (5, .long (dgv g)), (4, .int sp), (3, .int x3), (2, .int (nI t)), (1, .ref a.1), (0, .ref b)]) hx hb dL_law_53 hl (by decide) rfl (fun ls hl => ?_)
    refine lv_aload_n hx hb dL_law_55 rfl (lv_at hl 6 rfl) ?_
    refine lv_iconst (v := 3) hx hb dL_law_56 (by decide) ?_
    refine lv_tope (y := nI 3) rfl ?_
    obtain ⟨g3, r9, hG3, hb9, hSa3, hJ3⟩ := l_advise l D cyI cyO cyL hAd (by omega) hJ2 (h := 3) (by decide) (by decide)
    refine call_x (n := 1) (As := [.int (nI 3)]) (rest := []) ⟨hx, hb, hml, hown, hts⟩ hG3 gL_law_X5_advise rfl (by decide +kernel) ⟨(Nat.le_of_ble_eq_true rfl), (Nat.le_of_ble_eq_true rfl)⟩ hKK (WXs_recv a g2) (WXs_fst (a := a) g2 g3) rfl hl.1 rfl (Nat.le_of_ble_eq_true rfl) dL_law_57 ⟨(Nat.le_of_ble_eq_true rfl), (Nat.le_of_ble_eq_true rfl)⟩ hP hD hS hA (fun H locs hP hD hS => ?_)
    have hSa := (hSa1.trans hSa2).trans hSa3
    have h33 : zn g3 = 3 := hSa.2.2.2.trans h3
    have hJ3 : JE a (4 * t + 3) g3 := hJ3
    have hj3 : 4 * t + 3 < 512 := by omega
    refine lv_istore (lv' := [(9, .int r9), (8, .int r8), (7, .int (sv 5 g)), (5, .long (dgv g)), (4, .int sp), (3, .int x3), (2, .int (nI t)), (1, .ref a.1), (0, .ref b)]) hx hb dL_law_60 hl (by decide) rfl (fun ls hl => ?_)
    refine lv_aload_n hx hb dL_law_62 rfl (lv_at hl 7 rfl) ?_
    refine call_xl (n := 0) (As := []) (rest := []) ⟨hx, hb, hml, hown, hts⟩ (s_digest l D cyI cyO cyL hAd hj3 hJ3) gL_law_X5_digest rfl (by decide +kernel) ⟨(Nat.le_of_ble_eq_true rfl), (Nat.le_of_ble_eq_true rfl)⟩ hKK (WXs_recv a g3) (WXs_fst (a := a) g3 g3) rfl hl.1 rfl (Nat.le_of_ble_eq_true rfl) dL_law_63 ⟨(Nat.le_of_ble_eq_true rfl), (Nat.le_of_ble_eq_true rfl)⟩ hP hD hS hA (fun H locs hP hD hS => ?_)
    refine lv_lload hx hb dL_law_66 (lv_at hl 3 rfl) ?_
    refine W.lcmp hx hb dL_law_68 ?_
    refine lv_if_ne (tgt := 115) hx hb dL_law_69 (by decide) (fun h9 => absurd (by rw [hSa.1]; exact lg_self _) h9) (fun _ => ?_)
    refine lv_iload hx hb dL_law_72 (lv_at hl 1 rfl) ?_
    refine lv_if_ne (tgt := 81) hx hb dL_law_74 (by decide) (fun h_f => ?_) (fun h_f => ?_)
    · skip
      have hd : dnI (zw g3) sp = 0 := by rw [(hSa2.trans hSa3).2.2.1]; exact Decidable.of_not_not (fun h9 => h_f (hf0.mpr h9))
      refine lv_iconst (v := 0) hx hb dL_law_81 (by decide) ?_
      refine lv_aload_n hx hb dL_law_82 rfl (lv_at hl 7 rfl) ?_
      refine lv_iload hx hb dL_law_83 (lv_at hl 4 rfl) ?_
      refine lv_iconst (v := 2) hx hb dL_law_85 (by decide) ?_
      refine call_x (n := 2) (As := [.int sp, .int 2]) (rest := [.int 0]) ⟨hx, hb, hml, hown, hts⟩ (r_span2 l D cyI cyO cyL hAd hj3 hJ3 (s_ := sp) hsp) gL_law_X5_span rfl (by decide +kernel) ⟨(Nat.le_of_ble_eq_true rfl), (Nat.le_of_ble_eq_true rfl)⟩ hKK (WXs_recv a g3) (WXs_fst (a := a) g3 g3) rfl hl.1 rfl (Nat.le_of_ble_eq_true rfl) dL_law_86 ⟨(Nat.le_of_ble_eq_true rfl), (Nat.le_of_ble_eq_true rfl)⟩ hP hD hS hA (fun H locs hP hD hS => ?_)
      refine lv_iconst (v := 1) hx hb dL_law_89 (by decide) ?_
      refine lv_icmp_ne (tgt := 97) hx hb dL_law_90 (by decide) (fun _ => ?_) (fun h9 => absurd h9 (by rw [one_0 hd]; decide))
      refine lv_iconst (v := 0) hx hb dL_law_97 (by decide) ?_
      refine lv_icmp_ne (tgt := 115) hx hb dL_law_98 (by decide) (fun h9 => absurd rfl h9) (fun _ => ?_)
      refine lv_iload hx hb dL_law_101 (lv_at hl 1 rfl) ?_
      refine lv_bipush (v := 96) hx hb dL_law_103 (by decide) ?_
      refine lv_icmp_gt (tgt := 115) hx hb dL_law_105 (by decide) (fun h9 => absurd h9 hf96) (fun _ => ?_)
      refine lv_iload hx hb dL_law_108 (lv_at hl 0 rfl) ?_
      refine lv_bipush (v := 23) hx hb dL_law_110 (by decide) ?_
      refine lv_icmp_le (tgt := 117) hx hb dL_law_112 (by decide) (fun _ => ?_) (fun h9 => absurd hb9 h9)
      refine lv_iload_n hx hb dL_law_117 rfl (lv_at hl 5 rfl) ?_
      refine lv_iconst (v := 5) hx hb dL_law_118 (by decide) ?_
      refine lv_ishr hx hb dL_law_119 ?_
      refine lv_bipush (v := 6) hx hb dL_law_120 (by decide) ?_
      refine call_h (n := 2) (As := [.int (x3 >>> (5 &&& 31)), .int 6]) (rest := []) ⟨hx, hb, hml, hown, hts⟩ (c_L_below l D cyI cyO cyL b L xs (x3 >>> (5 &&& 31)) 6 (N := 6) (by decide) (by decide) rfl) gL_law_L_below rfl rfl rfl (by decide +kernel) ⟨(Nat.le_of_ble_eq_true rfl), (Nat.le_of_ble_eq_true rfl)⟩ hKK hX hbl hbA rfl hl.1 rfl (Nat.le_of_ble_eq_true rfl) dL_law_122 ⟨(Nat.le_of_ble_eq_true rfl), (Nat.le_of_ble_eq_true rfl)⟩ hP hS hA (fun r5 H locs hr6 hP hS => ?_)
      refine lv_istore (lv' := [(10, .int r5), (9, .int r9), (8, .int r8), (7, .int (sv 5 g)), (5, .long (dgv g)), (4, .int sp), (3, .int x3), (2, .int (nI t)), (1, .ref a.1), (0, .ref b)]) hx hb dL_law_125 hl (by decide) rfl (fun ls hl => ?_)
      refine lv_iload hx hb dL_law_127 (lv_at hl 0 rfl) ?_
      refine lv_if_ne (tgt := 162) hx hb dL_law_129 (by decide) (fun h_w => ?_) (fun h_w => ?_)
      · skip
        exact law_162 hL C0 hKK hAd (j := 4 * t + 3) (by omega) hJ3 h33 hsp (hSa.2.1 5).symm _ _ _ hP hD hS (lv_sub hl [0, 3, 5, 6, 7, 8, 9] rfl) KT
      · skip
        refine lv_aload_n hx hb dL_law_132 rfl (lv_at hl 8 rfl) ?_
        refine lv_iconst (v := 2) hx hb dL_law_133 (by decide) ?_
        refine call_x (n := 1) (As := [.int 2]) (rest := []) ⟨hx, hb, hml, hown, hts⟩ (r_gang2 l D cyI cyO cyL hAd hj3 hJ3) gL_law_X5_gang rfl (by decide +kernel) ⟨(Nat.le_of_ble_eq_true rfl), (Nat.le_of_ble_eq_true rfl)⟩ hKK (WXs_recv a g3) (WXs_fst (a := a) g3 g3) rfl hl.1 rfl (Nat.le_of_ble_eq_true rfl) dL_law_134 ⟨(Nat.le_of_ble_eq_true rfl), (Nat.le_of_ble_eq_true rfl)⟩ hP hD hS hA (fun H locs hP hD hS => ?_)
        refine lv_bipush (v := 6) hx hb dL_law_137 (by decide) ?_
        refine lv_icmp_ge (tgt := 162) hx hb dL_law_139 (by decide) (fun h_6 => ?_) (fun h_6 => ?_)
        · skip
          exact law_162 hL C0 hKK hAd (j := 4 * t + 3) (by omega) hJ3 h33 hsp (hSa.2.1 5).symm _ _ _ hP hD hS (lv_sub hl [0, 3, 5, 6, 7, 8, 9] rfl) KT
        · skip
          refine lv_aload_n hx hb dL_law_142 rfl (lv_at hl 8 rfl) ?_
          refine lv_iload hx hb dL_law_143 (lv_at hl 5 rfl) ?_
          refine lv_iconst (v := 4) hx hb dL_law_145 (by decide) ?_
          refine call_x (n := 2) (As := [.int sp, .int 4]) (rest := []) ⟨hx, hb, hml, hown, hts⟩ (r_span4 l D cyI cyO cyL hAd hj3 hJ3 (s_ := sp) hsp) gL_law_X5_span rfl (by decide +kernel) ⟨(Nat.le_of_ble_eq_true rfl), (Nat.le_of_ble_eq_true rfl)⟩ hKK (WXs_recv a g3) (WXs_fst (a := a) g3 g3) rfl hl.1 rfl (Nat.le_of_ble_eq_true rfl) dL_law_146 ⟨(Nat.le_of_ble_eq_true rfl), (Nat.le_of_ble_eq_true rfl)⟩ hP hD hS hA (fun H locs hP hD hS => ?_)
          refine lv_if_ge (tgt := 162) hx hb dL_law_149 (by decide) (fun h_p => ?_) (fun h_p => ?_)
          · skip
            exact law_162 hL C0 hKK hAd (j := 4 * t + 3) (by omega) hJ3 h33 hsp (hSa.2.1 5).symm _ _ _ hP hD hS (lv_sub hl [0, 3, 5, 6, 7, 8, 9] rfl) KT
          · skip
            refine lv_aload_n hx hb dL_law_152 rfl (lv_at hl 8 rfl) ?_
            refine lv_iload hx hb dL_law_153 (lv_at hl 5 rfl) ?_
            obtain ⟨g4, r4, hG4, hJ4, hn4⟩ := s_order l D cyI cyO cyL hAd hj3 hJ3 hsp h_6 h_p
            refine call_x (n := 1) (As := [.int sp]) (rest := []) ⟨hx, hb, hml, hown, hts⟩ hG4 gL_law_X5_order rfl (by decide +kernel) ⟨(Nat.le_of_ble_eq_true rfl), (Nat.le_of_ble_eq_true rfl)⟩ hKK (WXs_recv a g3) (WXs_fst (a := a) g3 g4) rfl hl.1 rfl (Nat.le_of_ble_eq_true rfl) dL_law_155 ⟨(Nat.le_of_ble_eq_true rfl), (Nat.le_of_ble_eq_true rfl)⟩ hP hD hS hA (fun H locs hP hD hS => ?_)
            refine lv_pop hx hb dL_law_158 rfl ?_
            refine lv_goto (tgt := 258) hx hb dL_law_159 (by decide) ?_
            exact KT g4 _ _ _ hJ4.mono (hn4.trans h33) hP hD hS (lv_sub hl [7, 8, 9] rfl)
    · skip
      have hd : ¬ dnI (zw g3) sp = 0 := by rw [(hSa2.trans hSa3).2.2.1]; exact hf0.mp h_f
      refine lv_iconst (v := 1) hx hb dL_law_77 (by decide) ?_
      refine lv_goto (tgt := 82) hx hb dL_law_78 (by decide) ?_
      refine lv_aload_n hx hb dL_law_82 rfl (lv_at hl 7 rfl) ?_
      refine lv_iload hx hb dL_law_83 (lv_at hl 4 rfl) ?_
      refine lv_iconst (v := 2) hx hb dL_law_85 (by decide) ?_
      refine call_x (n := 2) (As := [.int sp, .int 2]) (rest := [.int 1]) ⟨hx, hb, hml, hown, hts⟩ (r_span2 l D cyI cyO cyL hAd hj3 hJ3 (s_ := sp) hsp) gL_law_X5_span rfl (by decide +kernel) ⟨(Nat.le_of_ble_eq_true rfl), (Nat.le_of_ble_eq_true rfl)⟩ hKK (WXs_recv a g3) (WXs_fst (a := a) g3 g3) rfl hl.1 rfl (Nat.le_of_ble_eq_true rfl) dL_law_86 ⟨(Nat.le_of_ble_eq_true rfl), (Nat.le_of_ble_eq_true rfl)⟩ hP hD hS hA (fun H locs hP hD hS => ?_)
      refine lv_iconst (v := 1) hx hb dL_law_89 (by decide) ?_
      refine lv_icmp_ne (tgt := 97) hx hb dL_law_90 (by decide) (fun h9 => absurd (one_1 hd) h9) (fun _ => ?_)
      refine lv_iconst (v := 1) hx hb dL_law_93 (by decide) ?_
      refine lv_goto (tgt := 98) hx hb dL_law_94 (by decide) ?_
      refine lv_icmp_ne (tgt := 115) hx hb dL_law_98 (by decide) (fun h9 => absurd rfl h9) (fun _ => ?_)
      refine lv_iload hx hb dL_law_101 (lv_at hl 1 rfl) ?_
      refine lv_bipush (v := 96) hx hb dL_law_103 (by decide) ?_
      refine lv_icmp_gt (tgt := 115) hx hb dL_law_105 (by decide) (fun h9 => absurd h9 hf96) (fun _ => ?_)
      refine lv_iload hx hb dL_law_108 (lv_at hl 0 rfl) ?_
      refine lv_bipush (v := 23) hx hb dL_law_110 (by decide) ?_
      refine lv_icmp_le (tgt := 117) hx hb dL_law_112 (by decide) (fun _ => ?_) (fun h9 => absurd hb9 h9)
      refine lv_iload_n hx hb dL_law_117 rfl (lv_at hl 5 rfl) ?_
      refine lv_iconst (v := 5) hx hb dL_law_118 (by decide) ?_
      refine lv_ishr hx hb dL_law_119 ?_
      refine lv_bipush (v := 6) hx hb dL_law_120 (by decide) ?_
      refine call_h (n := 2) (As := [.int (x3 >>> (5 &&& 31)), .int 6]) (rest := []) ⟨hx, hb, hml, hown, hts⟩ (c_L_below l D cyI cyO cyL b L xs (x3 >>> (5 &&& 31)) 6 (N := 6) (by decide) (by decide) rfl) gL_law_L_below rfl rfl rfl (by decide +kernel) ⟨(Nat.le_of_ble_eq_true rfl), (Nat.le_of_ble_eq_true rfl)⟩ hKK hX hbl hbA rfl hl.1 rfl (Nat.le_of_ble_eq_true rfl) dL_law_122 ⟨(Nat.le_of_ble_eq_true rfl), (Nat.le_of_ble_eq_true rfl)⟩ hP hS hA (fun r7 H locs hr8 hP hS => ?_)
      refine lv_istore (lv' := [(10, .int r7), (9, .int r9), (8, .int r8), (7, .int (sv 5 g)), (5, .long (dgv g)), (4, .int sp), (3, .int x3), (2, .int (nI t)), (1, .ref a.1), (0, .ref b)]) hx hb dL_law_125 hl (by decide) rfl (fun ls hl => ?_)
      refine lv_iload hx hb dL_law_127 (lv_at hl 0 rfl) ?_
      refine lv_if_ne (tgt := 162) hx hb dL_law_129 (by decide) (fun h_w => ?_) (fun h_w => ?_)
      · skip
        exact law_162 hL C0 hKK hAd (j := 4 * t + 3) (by omega) hJ3 h33 hsp (hSa.2.1 5).symm _ _ _ hP hD hS (lv_sub hl [0, 3, 5, 6, 7, 8, 9] rfl) KT
      · skip
        refine lv_aload_n hx hb dL_law_132 rfl (lv_at hl 8 rfl) ?_
        refine lv_iconst (v := 2) hx hb dL_law_133 (by decide) ?_
        refine call_x (n := 1) (As := [.int 2]) (rest := []) ⟨hx, hb, hml, hown, hts⟩ (r_gang2 l D cyI cyO cyL hAd hj3 hJ3) gL_law_X5_gang rfl (by decide +kernel) ⟨(Nat.le_of_ble_eq_true rfl), (Nat.le_of_ble_eq_true rfl)⟩ hKK (WXs_recv a g3) (WXs_fst (a := a) g3 g3) rfl hl.1 rfl (Nat.le_of_ble_eq_true rfl) dL_law_134 ⟨(Nat.le_of_ble_eq_true rfl), (Nat.le_of_ble_eq_true rfl)⟩ hP hD hS hA (fun H locs hP hD hS => ?_)
        refine lv_bipush (v := 6) hx hb dL_law_137 (by decide) ?_
        refine lv_icmp_ge (tgt := 162) hx hb dL_law_139 (by decide) (fun h_6 => ?_) (fun h_6 => ?_)
        · skip
          exact law_162 hL C0 hKK hAd (j := 4 * t + 3) (by omega) hJ3 h33 hsp (hSa.2.1 5).symm _ _ _ hP hD hS (lv_sub hl [0, 3, 5, 6, 7, 8, 9] rfl) KT
        · skip
          refine lv_aload_n hx hb dL_law_142 rfl (lv_at hl 8 rfl) ?_
          refine lv_iload hx hb dL_law_143 (lv_at hl 5 rfl) ?_
          refine lv_iconst (v := 4) hx hb dL_law_145 (by decide) ?_
          refine call_x (n := 2) (As := [.int sp, .int 4]) (rest := []) ⟨hx, hb, hml, hown, hts⟩ (r_span4 l D cyI cyO cyL hAd hj3 hJ3 (s_ := sp) hsp) gL_law_X5_span rfl (by decide +kernel) ⟨(Nat.le_of_ble_eq_true rfl), (Nat.le_of_ble_eq_true rfl)⟩ hKK (WXs_recv a g3) (WXs_fst (a := a) g3 g3) rfl hl.1 rfl (Nat.le_of_ble_eq_true rfl) dL_law_146 ⟨(Nat.le_of_ble_eq_true rfl), (Nat.le_of_ble_eq_true rfl)⟩ hP hD hS hA (fun H locs hP hD hS => ?_)
          refine lv_if_ge (tgt := 162) hx hb dL_law_149 (by decide) (fun h_p => ?_) (fun h_p => ?_)
          · skip
            exact law_162 hL C0 hKK hAd (j := 4 * t + 3) (by omega) hJ3 h33 hsp (hSa.2.1 5).symm _ _ _ hP hD hS (lv_sub hl [0, 3, 5, 6, 7, 8, 9] rfl) KT
          · skip
            refine lv_aload_n hx hb dL_law_152 rfl (lv_at hl 8 rfl) ?_
            refine lv_iload hx hb dL_law_153 (lv_at hl 5 rfl) ?_
            obtain ⟨g4, r4, hG4, hJ4, hn4⟩ := s_order l D cyI cyO cyL hAd hj3 hJ3 hsp h_6 h_p
            refine call_x (n := 1) (As := [.int sp]) (rest := []) ⟨hx, hb, hml, hown, hts⟩ hG4 gL_law_X5_order rfl (by decide +kernel) ⟨(Nat.le_of_ble_eq_true rfl), (Nat.le_of_ble_eq_true rfl)⟩ hKK (WXs_recv a g3) (WXs_fst (a := a) g3 g4) rfl hl.1 rfl (Nat.le_of_ble_eq_true rfl) dL_law_155 ⟨(Nat.le_of_ble_eq_true rfl), (Nat.le_of_ble_eq_true rfl)⟩ hP hD hS hA (fun H locs hP hD hS => ?_)
            refine lv_pop hx hb dL_law_158 rfl ?_
            refine lv_goto (tgt := 258) hx hb dL_law_159 (by decide) ?_
            exact KT g4 _ _ _ hJ4.mono (hn4.trans h33) hP hD hS (lv_sub hl [7, 8, 9] rfl)
