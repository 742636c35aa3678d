/-! the law's ring: a new object, its tables, fares and three buses -/
theorem Inv_start {a : AX} : Inv a 0 ((fun _ => 0, nsw 12, 2, 3, 0, (fun _ => 0, fun _ => 0, fun _ => 0, fun _ => 0, fun _ _ => 0, 0, 0), (fun _ => 0, fun _ => 0, fun _ => 0, fun _ => 0, fun _ _ => 0, 0, 0), 0, 0, fun _ => 0, fun _ => 0) : SG) := by
  refine ⟨Nat.zero_le _, fun k _ => ⟨0, Nat.zero_le _, rfl⟩, fun k => ?_, ⟨⟨⟨0, Nat.zero_le _, rfl⟩, (vp_in_nI (n := 0) (N := 24) (by decide) (by decide)), fun _ => (vp_in_nI (n := 0) (N := 24) (by decide) (by decide)), fun _ => ⟨(vp_in_nI (n := 0) (N := 24) (by decide) (by decide)), Or.inl rfl, Or.inl rfl⟩, 0, by decide, rfl⟩, 0, Nat.zero_le _, rfl⟩, ⟨fun k _ => ⟨0, Nat.zero_le _, rfl, rfl, rfl⟩, fun k _ => ⟨0, Nat.zero_le _, rfl, rfl⟩, fun i x hi => absurd hi (Nat.not_lt_zero _), ⟨rfl, rfl, rfl, rfl, rfl, fun _ _ _ _ _ => rfl⟩, rfl, rfl⟩, fun _ => (vp_in_nI (n := 0) (N := 24) (by decide) (by decide)), fun _ _ _ _ _ => ⟨rfl, rfl⟩⟩
  show nsw 12 k = -1 ∨ vp_in (nsw 12 k) 24
  unfold nsw
  split
  · exact Or.inl rfl
  · exact Or.inr (vp_in_nI (n := 0) (N := 24) (by decide) (by decide))
theorem Adr_start {A : Nat → Prop} {cyI cyO : ClassId} {a : AX} {g : SG} (hD : va_D A (WXs cyI cyO a g)) : Adr a := by
  have h0 : ∀ i, i < 6 → ∃ e, (WXs cyI cyO a g)[18 + i]? = some (a.2.2.2.1 (6 + i), e) := fun i hi => by
    match i, hi with
    | 0, _ => exact ⟨_, rfl⟩
    | 1, _ => exact ⟨_, rfl⟩
    | 2, _ => exact ⟨_, rfl⟩
    | 3, _ => exact ⟨_, rfl⟩
    | 4, _ => exact ⟨_, rfl⟩
    | 5, _ => exact ⟨_, rfl⟩
  have h1 : ∀ i, i < 6 → ∃ e, (WXs cyI cyO a g)[24 + i]? = some (a.2.2.2.2.2 (6 + i), e) := fun i hi => by
    match i, hi with
    | 0, _ => exact ⟨_, rfl⟩
    | 1, _ => exact ⟨_, rfl⟩
    | 2, _ => exact ⟨_, rfl⟩
    | 3, _ => exact ⟨_, rfl⟩
    | 4, _ => exact ⟨_, rfl⟩
    | 5, _ => exact ⟨_, rfl⟩
  refine ⟨fun i j hi hj e => ?_, fun i j hi hj e => ?_, fun i j hi hj e => ?_⟩
  · obtain ⟨x, hx⟩ := h0 i hi
    obtain ⟨y, hy⟩ := h0 j hj
    have := hD.1 _ _ _ _ hx hy e
    omega
  · obtain ⟨x, hx⟩ := h1 i hi
    obtain ⟨y, hy⟩ := h1 j hj
    have := hD.1 _ _ _ _ hx hy e
    omega
  · obtain ⟨x, hx⟩ := h1 i hi
    obtain ⟨y, hy⟩ := h0 j hj
    have := hD.1 _ _ _ _ hx hy e
    omega
theorem JE_start {a : AX} : JE a 0 ((fun _ => 0, nsw 12, 2, 3, 0, (fun _ => 0, fun _ => 0, fun _ => 0, fun _ => 0, fun _ _ => 0, 0, 0), (fun _ => 0, fun _ => 0, fun _ => 0, fun _ => 0, fun _ _ => 0, 0, 0), 0, 0, fun _ => 0, fun _ => 0) : SG) := ⟨Inv_start, ⟨2, by decide, rfl⟩, ⟨3, by decide, rfl⟩, 0, 0, 0, 0, Nat.zero_le _, rfl, rfl, rfl, rfl, Nat.zero_le _, Nat.zero_le _, fun _ => rfl, fun i hi => ⟨0, 0, rfl, Nat.zero_le _, rfl, Nat.zero_le _⟩, by show (0 : Int32) = 0 + 0 + 0 - 2 * 0; decide⟩
abbrev RR : Room := { frames := 9, cells := 30, slots := 247, locals := 200 }
set_option maxHeartbeats 4000000 in
set_option maxRecDepth 100000 in
theorem ring_1 {p : Program} {l : Launch} {e : Env} {s : State} {m : MethodId} {args : Array Value} {below : List Frame} {meth : Method} {c : Code} {Q : State → Prop} {b L : Nat} {xs : Nat → Int32} (hL : L ≤ 260) (hx : p.tables.exec = Jvm.exec) (hb : c.code = cL_ring) (hml : c.maxLocals = 4) (hown : s.vm.findClass RL = some m.cls) (hts : ∀ w ∈ wsL_ring, w.before args s = true) {D : va_G} {cyI cyO cyL : ClassId} (hKK : KK D cyI cyO cyL s) (hX : va_X b L xs s s.heap) (hbl : b < s.heap.size) {A : Nat → Prop} (hbA : ¬ A b) (hA : ∀ q, s.heap.size ≤ q → A q) {a : AX} (hAd : Adr a) : ∀ (n k : Nat), k + n = 8 → ∀ (g : SG) (H : Heap) (locs : List Loc) (ls : Array Slot), JE a 0 g → zn g = 0 → va_P D vwCl (WXs cyI cyO a g) H → va_D A (WXs cyI cyO a g) → va_S A s.heap H locs → lv_has ls 4 [(3, .int (nI k)), (2, .ref a.1), (1, .int 0), (0, .ref b)] → (∀ (g2 : SG) (H2 : Heap) (locs2 : List Loc) (ls2 : Array Slot), JE a 0 g2 → zn g2 = 0 → va_P D vwCl (WXs cyI cyO a g2) H2 → va_D A (WXs cyI cyO a g2) → va_S A s.heap H2 locs2 → lv_has ls2 4 [(2, .ref a.1), (1, .int 0), (0, .ref b)] → W p l e RR s m args below meth c H2 locs2 30 247 Q (F0 m 33 ls2 [])) → W p l e RR s m args below meth c H locs 30 247 Q (F0 m 10 ls []) := by
  intro n
  induction n with
  | zero =>
    intro k hk g H locs ls hJ hn hP hD hS hl K
    obtain rfl : k = 8 := by omega
    refine lv_iload_n hx hb dL_ring_10 rfl (lv_at hl 0 rfl) ?_
    refine lv_bipush (v := 8) hx hb dL_ring_11 (by decide) ?_
    refine lv_icmp_ge (tgt := 33) hx hb dL_ring_13 (by decide) (fun _ => ?_) (fun h9 => absurd (ge_yes (N := 8) (Nat.le_refl _) (by decide)) h9)
    exact K g _ _ _ hJ hn hP hD hS (lv_sub hl [1, 2, 3] rfl)
  | succ n ih =>
    intro k hk g H locs ls hJ hn hP hD hS hl K
    have hk9 : k < 8 := by omega
    refine lv_iload_n hx hb dL_ring_10 rfl (lv_at hl 0 rfl) ?_
    refine lv_bipush (v := 8) hx hb dL_ring_11 (by decide) ?_
    refine lv_icmp_ge (tgt := 33) hx hb dL_ring_13 (by decide) (fun h9 => absurd h9 (ge_no (N := 8) hk9 (by decide))) (fun _ => ?_)
    refine lv_aload_n hx hb dL_ring_16 rfl (lv_at hl 1 rfl) ?_
    refine lv_iload_n hx hb dL_ring_17 rfl (lv_at hl 0 rfl) ?_
    refine lv_aload_n hx hb dL_ring_18 rfl (lv_at hl 3 rfl) ?_
    refine lv_iload_n hx hb dL_ring_19 rfl (lv_at hl 0 rfl) ?_
    refine call_h (n := 2) (As := [.ref b, .int (nI k)]) (rest := [.int (nI k), .ref a.1]) ⟨hx, hb, hml, hown, hts⟩ (c_L_coldOf l D cyI cyO cyL b L xs (nI k) hL) gL_ring_L_coldOf rfl rfl rfl (by decide +kernel) ⟨(Nat.le_of_ble_eq_true rfl), (Nat.le_of_ble_eq_true rfl)⟩ hKK hX hbl hbA rfl hl.1 rfl (Nat.le_of_ble_eq_true rfl) dL_ring_20 ⟨(Nat.le_of_ble_eq_true rfl), (Nat.le_of_ble_eq_true rfl)⟩ hP hS hA (fun r1 H locs hr2 hP hS => ?_)
    obtain ⟨g2, r2, hG, hJ2, hn2⟩ := s_setCold l D cyI cyO cyL hAd (by decide) hJ (vp_in_nI (N := 8) hk9 (by decide)) hr2
    refine call_x (n := 2) (As := [.int (nI k), .int r1]) (rest := []) ⟨hx, hb, hml, hown, hts⟩ hG gL_ring_X5_setCold rfl (by decide +kernel) ⟨(Nat.le_of_ble_eq_true rfl), (Nat.le_of_ble_eq_true rfl)⟩ hKK (WXs_recv a g) (WXs_fst (a := a) g g2) rfl hl.1 rfl (Nat.le_of_ble_eq_true rfl) dL_ring_23 ⟨(Nat.le_of_ble_eq_true rfl), (Nat.le_of_ble_eq_true rfl)⟩ hP hD hS hA (fun H locs hP hD hS => ?_)
    refine lv_pop hx hb dL_ring_26 rfl ?_
    refine lv_iinc (v := nI (k + 1)) (lv' := [(3, .int (nI (k + 1))), (2, .ref a.1), (1, .int 0), (0, .ref b)]) hx hb dL_ring_27 hl (k := 0) rfl (nI_1 k) (by decide) rfl (fun ls hl => ?_)
    refine lv_goto (tgt := 10) hx hb dL_ring_30 (by decide) ?_
    exact ih (k + 1) (by omega) g2 _ _ _ hJ2 (hn2.trans hn) hP hD hS (lv_sub hl [0, 1, 2, 3] rfl) K
set_option maxHeartbeats 4000000 in
set_option maxRecDepth 100000 in
theorem ring_2 {p : Program} {l : Launch} {e : Env} {s : State} {m : MethodId} {args : Array Value} {below : List Frame} {meth : Method} {c : Code} {Q : State → Prop} {b L : Nat} {xs : Nat → Int32} (hL : L ≤ 260) (hx : p.tables.exec = Jvm.exec) (hb : c.code = cL_ring) (hml : c.maxLocals = 4) (hown : s.vm.findClass RL = some m.cls) (hts : ∀ w ∈ wsL_ring, w.before args s = true) {D : va_G} {cyI cyO cyL : ClassId} (hKK : KK D cyI cyO cyL s) (hX : va_X b L xs s s.heap) (hbl : b < s.heap.size) {A : Nat → Prop} (hbA : ¬ A b) (hA : ∀ q, s.heap.size ≤ q → A q) {a : AX} (hAd : Adr a) : ∀ (n k : Nat), k + n = 12 → ∀ (g : SG) (H : Heap) (locs : List Loc) (ls : Array Slot), JE a 0 g → zn g = 0 → va_P D vwCl (WXs cyI cyO a g) H → va_D A (WXs cyI cyO a g) → va_S A s.heap H locs → lv_has ls 4 [(3, .int (nI k)), (2, .ref a.1), (1, .int 0), (0, .ref b)] → (∀ (g2 : SG) (H2 : Heap) (locs2 : List Loc) (ls2 : Array Slot), JE a 0 g2 → zn g2 = 0 → va_P D vwCl (WXs cyI cyO a g2) H2 → va_D A (WXs cyI cyO a g2) → va_S A s.heap H2 locs2 → lv_has ls2 4 [(2, .ref a.1), (1, .int 0), (0, .ref b)] → W p l e RR s m args below meth c H2 locs2 30 247 Q (F0 m 75 ls2 [])) → W p l e RR s m args below meth c H locs 30 247 Q (F0 m 35 ls []) := by
  intro n
  induction n with
  | zero =>
    intro k hk g H locs ls hJ hn hP hD hS hl K
    obtain rfl : k = 12 := by omega
    refine lv_iload_n hx hb dL_ring_35 rfl (lv_at hl 0 rfl) ?_
    refine lv_bipush (v := 12) hx hb dL_ring_36 (by decide) ?_
    refine lv_icmp_ge (tgt := 75) hx hb dL_ring_38 (by decide) (fun _ => ?_) (fun h9 => absurd (ge_yes (N := 12) (Nat.le_refl _) (by decide)) h9)
    exact K g _ _ _ hJ hn hP hD hS (lv_sub hl [1, 2, 3] rfl)
  | succ n ih =>
    intro k hk g H locs ls hJ hn hP hD hS hl K
    have hk9 : k < 12 := by omega
    refine lv_iload_n hx hb dL_ring_35 rfl (lv_at hl 0 rfl) ?_
    refine lv_bipush (v := 12) hx hb dL_ring_36 (by decide) ?_
    refine lv_icmp_ge (tgt := 75) hx hb dL_ring_38 (by decide) (fun h9 => absurd h9 (ge_no (N := 12) hk9 (by decide))) (fun _ => ?_)
    refine lv_aload_n hx hb dL_ring_41 rfl (lv_at hl 1 rfl) ?_
    refine lv_iload_n hx hb dL_ring_42 rfl (lv_at hl 0 rfl) ?_
    refine lv_aload_n hx hb dL_ring_43 rfl (lv_at hl 3 rfl) ?_
    refine lv_iload_n hx hb dL_ring_44 rfl (lv_at hl 0 rfl) ?_
    refine call_h (n := 2) (As := [.ref b, .int (nI k)]) (rest := [.int (nI k), .ref a.1]) ⟨hx, hb, hml, hown, hts⟩ (c_L_swanOf l D cyI cyO cyL b L xs (nI k) hL) gL_ring_L_swanOf rfl rfl rfl (by decide +kernel) ⟨(Nat.le_of_ble_eq_true rfl), (Nat.le_of_ble_eq_true rfl)⟩ hKK hX hbl hbA rfl hl.1 rfl (Nat.le_of_ble_eq_true rfl) dL_ring_45 ⟨(Nat.le_of_ble_eq_true rfl), (Nat.le_of_ble_eq_true rfl)⟩ hP hS hA (fun r1 H locs hr2 hP hS => ?_)
    refine lv_if_ge (tgt := 55) hx hb dL_ring_48 (by decide) (fun h_1 => ?_) (fun h_2 => ?_)
    · skip
      refine lv_aload_n hx hb dL_ring_55 rfl (lv_at hl 3 rfl) ?_
      refine lv_iload_n hx hb dL_ring_56 rfl (lv_at hl 0 rfl) ?_
      refine call_h (n := 2) (As := [.ref b, .int (nI k)]) (rest := [.int (nI k), .ref a.1]) ⟨hx, hb, hml, hown, hts⟩ (c_L_swanOf l D cyI cyO cyL b L xs (nI k) hL) gL_ring_L_swanOf rfl rfl rfl (by decide +kernel) ⟨(Nat.le_of_ble_eq_true rfl), (Nat.le_of_ble_eq_true rfl)⟩ hKK hX hbl hbA rfl hl.1 rfl (Nat.le_of_ble_eq_true rfl) dL_ring_57 ⟨(Nat.le_of_ble_eq_true rfl), (Nat.le_of_ble_eq_true rfl)⟩ hP hS hA (fun r3 H locs hr4 hP hS => ?_)
      refine lv_iload_n hx hb dL_ring_60 rfl (lv_at hl 2 rfl) ?_
      refine lv_iadd hx hb dL_ring_61 ?_
      refine lv_bipush (v := 24) hx hb dL_ring_62 (by decide) ?_
      refine lv_irem hx hb dL_ring_64 (by decide) ?_
      refine lv_tope (y := ir (r3 + 0) 24) rfl ?_
      obtain ⟨g2, r2, hG, hJ2, hn2⟩ := s_setSwan l D cyI cyO cyL hAd (by decide) hJ (s_ := (ir (r3 + 0) 24)) (vp_in_nI (N := 12) hk9 (by decide)) (on_sw hr4)
      refine call_x (n := 2) (As := [.int (nI k), .int (ir (r3 + 0) 24)]) (rest := []) ⟨hx, hb, hml, hown, hts⟩ hG gL_ring_X5_setSwan rfl (by decide +kernel) ⟨(Nat.le_of_ble_eq_true rfl), (Nat.le_of_ble_eq_true rfl)⟩ hKK (WXs_recv a g) (WXs_fst (a := a) g g2) rfl hl.1 rfl (Nat.le_of_ble_eq_true rfl) dL_ring_65 ⟨(Nat.le_of_ble_eq_true rfl), (Nat.le_of_ble_eq_true rfl)⟩ hP hD hS hA (fun H locs hP hD hS => ?_)
      refine lv_pop hx hb dL_ring_68 rfl ?_
      refine lv_iinc (v := nI (k + 1)) (lv' := [(3, .int (nI (k + 1))), (2, .ref a.1), (1, .int 0), (0, .ref b)]) hx hb dL_ring_69 hl (k := 0) rfl (nI_1 k) (by decide) rfl (fun ls hl => ?_)
      refine lv_goto (tgt := 35) hx hb dL_ring_72 (by decide) ?_
      exact ih (k + 1) (by omega) g2 _ _ _ hJ2 (hn2.trans hn) hP hD hS (lv_sub hl [0, 1, 2, 3] rfl) K
    · skip
      refine lv_iconst (v := (-1)) hx hb dL_ring_51 (by decide) ?_
      refine lv_goto (tgt := 65) hx hb dL_ring_52 (by decide) ?_
      obtain ⟨g2, r2, hG, hJ2, hn2⟩ := s_setSwan l D cyI cyO cyL hAd (by decide) hJ (s_ := (-1)) (vp_in_nI (N := 12) hk9 (by decide)) (Or.inl rfl)
      refine call_x (n := 2) (As := [.int (nI k), .int (-1)]) (rest := []) ⟨hx, hb, hml, hown, hts⟩ hG gL_ring_X5_setSwan rfl (by decide +kernel) ⟨(Nat.le_of_ble_eq_true rfl), (Nat.le_of_ble_eq_true rfl)⟩ hKK (WXs_recv a g) (WXs_fst (a := a) g g2) rfl hl.1 rfl (Nat.le_of_ble_eq_true rfl) dL_ring_65 ⟨(Nat.le_of_ble_eq_true rfl), (Nat.le_of_ble_eq_true rfl)⟩ hP hD hS hA (fun H locs hP hD hS => ?_)
      refine lv_pop hx hb dL_ring_68 rfl ?_
      refine lv_iinc (v := nI (k + 1)) (lv' := [(3, .int (nI (k + 1))), (2, .ref a.1), (1, .int 0), (0, .ref b)]) hx hb dL_ring_69 hl (k := 0) rfl (nI_1 k) (by decide) rfl (fun ls hl => ?_)
      refine lv_goto (tgt := 35) hx hb dL_ring_72 (by decide) ?_
      exact ih (k + 1) (by omega) g2 _ _ _ hJ2 (hn2.trans hn) hP hD hS (lv_sub hl [0, 1, 2, 3] rfl) K
set_option maxHeartbeats 4000000 in
set_option maxRecDepth 100000 in
theorem ring_3 {p : Program} {l : Launch} {e : Env} {s : State} {m : MethodId} {args : Array Value} {below : List Frame} {meth : Method} {c : Code} {Q : State → Prop} {b L : Nat} {xs : Nat → Int32} (hL : L ≤ 260) (hx : p.tables.exec = Jvm.exec) (hb : c.code = cL_ring) (hml : c.maxLocals = 4) (hown : s.vm.findClass RL = some m.cls) (hts : ∀ w ∈ wsL_ring, w.before args s = true) {D : va_G} {cyI cyO cyL : ClassId} (hKK : KK D cyI cyO cyL s) (hX : va_X b L xs s s.heap) (hbl : b < s.heap.size) {A : Nat → Prop} (hbA : ¬ A b) (hA : ∀ q, s.heap.size ≤ q → A q) {a : AX} (hAd : Adr a) : ∀ (n k : Nat), k + n = 3 → ∀ (g : SG) (H : Heap) (locs : List Loc) (ls : Array Slot), JE a 0 g → zn g = k → va_P D vwCl (WXs cyI cyO a g) H → va_D A (WXs cyI cyO a g) → va_S A s.heap H locs → lv_has ls 4 [(3, .int (nI k)), (2, .ref a.1), (1, .int 0), (0, .ref b)] → (∀ (g2 : SG) (H2 : Heap) (locs2 : List Loc) (ls2 : Array Slot), JE a 0 g2 → zn g2 = 3 → va_P D vwCl (WXs cyI cyO a g2) H2 → va_D A (WXs cyI cyO a g2) → va_S A s.heap H2 locs2 → lv_has ls2 4 [(2, .ref a.1), (1, .int 0), (0, .ref b)] → W p l e RR s m args below meth c H2 locs2 30 247 Q (F0 m 169 ls2 [])) → W p l e RR s m args below meth c H locs 30 247 Q (F0 m 111 ls []) := by
  intro n
  induction n with
  | zero =>
    intro k hk g H locs ls hJ hn hP hD hS hl K
    obtain rfl : k = 3 := by omega
    refine lv_iload_n hx hb dL_ring_111 rfl (lv_at hl 0 rfl) ?_
    refine lv_iconst (v := 3) hx hb dL_ring_112 (by decide) ?_
    refine lv_icmp_ge (tgt := 169) hx hb dL_ring_113 (by decide) (fun _ => ?_) (fun h9 => absurd (ge_yes (N := 3) (Nat.le_refl _) (by decide)) h9)
    exact K g _ _ _ hJ hn hP hD hS (lv_sub hl [1, 2, 3] rfl)
  | succ n ih =>
    intro k hk g H locs ls hJ hn hP hD hS hl K
    have hk9 : k < 3 := by omega
    refine lv_iload_n hx hb dL_ring_111 rfl (lv_at hl 0 rfl) ?_
    refine lv_iconst (v := 3) hx hb dL_ring_112 (by decide) ?_
    refine lv_icmp_ge (tgt := 169) hx hb dL_ring_113 (by decide) (fun h9 => absurd h9 (ge_no (N := 3) hk9 (by decide))) (fun _ => ?_)
    refine lv_aload_n hx hb dL_ring_116 rfl (lv_at hl 1 rfl) ?_
    refine lv_aload_n hx hb dL_ring_117 rfl (lv_at hl 3 rfl) ?_
    refine lv_iconst (v := 3) hx hb dL_ring_118 (by decide) ?_
    refine call_h (n := 2) (As := [.ref b, .int 3]) (rest := [.ref a.1]) ⟨hx, hb, hml, hown, hts⟩ (c_L_cell l D cyI cyO cyL b L xs 3 hL (by decide)) gL_ring_L_cell rfl rfl rfl (by decide +kernel) ⟨(Nat.le_of_ble_eq_true rfl), (Nat.le_of_ble_eq_true rfl)⟩ hKK hX hbl hbA rfl hl.1 rfl (Nat.le_of_ble_eq_true rfl) dL_ring_119 ⟨(Nat.le_of_ble_eq_true rfl), (Nat.le_of_ble_eq_true rfl)⟩ hP hS hA (fun r1 H locs hr2 hP hS => ?_)
    refine lv_iconst (v := 5) hx hb dL_ring_122 (by decide) ?_
    refine lv_iload_n hx hb dL_ring_123 rfl (lv_at hl 0 rfl) ?_
    refine lv_imul hx hb dL_ring_124 ?_
    refine lv_ishr hx hb dL_ring_125 ?_
    refine lv_bipush (v := 24) hx hb dL_ring_126 (by decide) ?_
    refine call_h (n := 2) (As := [.int (r1 >>> ((5 * (nI k)) &&& 31)), .int 24]) (rest := [.ref a.1]) ⟨hx, hb, hml, hown, hts⟩ (c_L_below l D cyI cyO cyL b L xs (r1 >>> ((5 * (nI k)) &&& 31)) 24 (N := 24) (by decide) (by decide) rfl) gL_ring_L_below rfl rfl rfl (by decide +kernel) ⟨(Nat.le_of_ble_eq_true rfl), (Nat.le_of_ble_eq_true rfl)⟩ hKK hX hbl hbA rfl hl.1 rfl (Nat.le_of_ble_eq_true rfl) dL_ring_128 ⟨(Nat.le_of_ble_eq_true rfl), (Nat.le_of_ble_eq_true rfl)⟩ hP hS hA (fun r3 H locs hr4 hP hS => ?_)
    refine lv_iload_n hx hb dL_ring_131 rfl (lv_at hl 2 rfl) ?_
    refine lv_iadd hx hb dL_ring_132 ?_
    refine lv_bipush (v := 24) hx hb dL_ring_133 (by decide) ?_
    refine lv_irem hx hb dL_ring_135 (by decide) ?_
    refine lv_tope (y := ir (r3 + 0) 24) rfl ?_
    refine lv_aload_n hx hb dL_ring_136 rfl (lv_at hl 3 rfl) ?_
    refine lv_iconst (v := 3) hx hb dL_ring_137 (by decide) ?_
    refine call_h (n := 2) (As := [.ref b, .int 3]) (rest := [.int (ir (r3 + 0) 24), .ref a.1]) ⟨hx, hb, hml, hown, hts⟩ (c_L_cell l D cyI cyO cyL b L xs 3 hL (by decide)) gL_ring_L_cell rfl rfl rfl (by decide +kernel) ⟨(Nat.le_of_ble_eq_true rfl), (Nat.le_of_ble_eq_true rfl)⟩ hKK hX hbl hbA rfl hl.1 rfl (Nat.le_of_ble_eq_true rfl) dL_ring_138 ⟨(Nat.le_of_ble_eq_true rfl), (Nat.le_of_ble_eq_true rfl)⟩ hP hS hA (fun r5 H locs hr6 hP hS => ?_)
    refine lv_bipush (v := 15) hx hb dL_ring_141 (by decide) ?_
    refine lv_iload_n hx hb dL_ring_143 rfl (lv_at hl 0 rfl) ?_
    refine lv_iadd hx hb dL_ring_144 ?_
    refine lv_ishr hx hb dL_ring_145 ?_
    refine lv_iconst (v := 2) hx hb dL_ring_146 (by decide) ?_
    refine call_h (n := 2) (As := [.int (r5 >>> ((15 + (nI k)) &&& 31)), .int 2]) (rest := [.int (ir (r3 + 0) 24), .ref a.1]) ⟨hx, hb, hml, hown, hts⟩ (c_L_below l D cyI cyO cyL b L xs (r5 >>> ((15 + (nI k)) &&& 31)) 2 (N := 2) (by decide) (by decide) rfl) gL_ring_L_below rfl rfl rfl (by decide +kernel) ⟨(Nat.le_of_ble_eq_true rfl), (Nat.le_of_ble_eq_true rfl)⟩ hKK hX hbl hbA rfl hl.1 rfl (Nat.le_of_ble_eq_true rfl) dL_ring_147 ⟨(Nat.le_of_ble_eq_true rfl), (Nat.le_of_ble_eq_true rfl)⟩ hP hS hA (fun r7 H locs hr8 hP hS => ?_)
    refine lv_iconst (v := 1) hx hb dL_ring_150 (by decide) ?_
    refine lv_icmp_ne (tgt := 158) hx hb dL_ring_151 (by decide) (fun h_1 => ?_) (fun h_2 => ?_)
    · skip
      refine lv_iconst (v := 0) hx hb dL_ring_158 (by decide) ?_
      obtain ⟨g2, r2, hG, hJ2, hn2⟩ := s_bus l D cyI cyO cyL hAd (by decide) hJ (s_ := (ir (r3 + 0) 24)) (c_ := 0) (on_in hr4) (Or.inl rfl) (by omega)
      refine call_x (n := 2) (As := [.int (ir (r3 + 0) 24), .int 0]) (rest := []) ⟨hx, hb, hml, hown, hts⟩ hG gL_ring_X5_bus rfl (by decide +kernel) ⟨(Nat.le_of_ble_eq_true rfl), (Nat.le_of_ble_eq_true rfl)⟩ hKK (WXs_recv a g) (WXs_fst (a := a) g g2) rfl hl.1 rfl (Nat.le_of_ble_eq_true rfl) dL_ring_159 ⟨(Nat.le_of_ble_eq_true rfl), (Nat.le_of_ble_eq_true rfl)⟩ hP hD hS hA (fun H locs hP hD hS => ?_)
      refine lv_pop hx hb dL_ring_162 rfl ?_
      refine lv_iinc (v := nI (k + 1)) (lv' := [(3, .int (nI (k + 1))), (2, .ref a.1), (1, .int 0), (0, .ref b)]) hx hb dL_ring_163 hl (k := 0) rfl (nI_1 k) (by decide) rfl (fun ls hl => ?_)
      refine lv_goto (tgt := 111) hx hb dL_ring_166 (by decide) ?_
      exact ih (k + 1) (by omega) g2 _ _ _ hJ2 (hn2.trans (by rw [hn])) hP hD hS (lv_sub hl [0, 1, 2, 3] rfl) K
    · skip
      refine lv_iconst (v := 1) hx hb dL_ring_154 (by decide) ?_
      refine lv_goto (tgt := 159) hx hb dL_ring_155 (by decide) ?_
      obtain ⟨g2, r2, hG, hJ2, hn2⟩ := s_bus l D cyI cyO cyL hAd (by decide) hJ (s_ := (ir (r3 + 0) 24)) (c_ := 1) (on_in hr4) (Or.inr rfl) (by omega)
      refine call_x (n := 2) (As := [.int (ir (r3 + 0) 24), .int 1]) (rest := []) ⟨hx, hb, hml, hown, hts⟩ hG gL_ring_X5_bus rfl (by decide +kernel) ⟨(Nat.le_of_ble_eq_true rfl), (Nat.le_of_ble_eq_true rfl)⟩ hKK (WXs_recv a g) (WXs_fst (a := a) g g2) rfl hl.1 rfl (Nat.le_of_ble_eq_true rfl) dL_ring_159 ⟨(Nat.le_of_ble_eq_true rfl), (Nat.le_of_ble_eq_true rfl)⟩ hP hD hS hA (fun H locs hP hD hS => ?_)
      refine lv_pop hx hb dL_ring_162 rfl ?_
      refine lv_iinc (v := nI (k + 1)) (lv' := [(3, .int (nI (k + 1))), (2, .ref a.1), (1, .int 0), (0, .ref b)]) hx hb dL_ring_163 hl (k := 0) rfl (nI_1 k) (by decide) rfl (fun ls hl => ?_)
      refine lv_goto (tgt := 111) hx hb dL_ring_166 (by decide) ?_
      exact ih (k + 1) (by omega) g2 _ _ _ hJ2 (hn2.trans (by rw [hn])) hP hD hS (lv_sub hl [0, 1, 2, 3] rfl) K
/-- a start beside the script, objects' rows of the buses' class known -/
def PRx (D : va_G) (cyI cyO cyL : ClassId) (b L : Nat) (xs : Nat → Int32) (sz : Nat) (U : State) : Prop := PSx D cyI cyO cyL b L xs sz U ∧ va_AO RX0 U
theorem PRx_blind {D : va_G} {cyI cyO cyL : ClassId} {b L : Nat} {xs : Nat → Int32} {sz : Nat} {As : List Value} : FrameBlind (va_Pc As (PRx D cyI cyO cyL b L xs sz)) := by
  intro a U g mk q
  obtain ⟨q0, q1, qA⟩ := q
  exact ⟨q0, (PSx_blind (As := As) a U g mk ⟨q0, q1⟩).2, va_AO.moved (u := U) (U := U.calling g mk a) (Vm.Alike.refl U.vm) qA⟩
/-- the ring that the law begins with -/
def QRx (D : va_G) (cyI cyO : ClassId) (sz : Nat) (u : AX × SG) (ra : Nat) (t : State) : Prop := ra = u.1.1 ∧ va_P D vwCl (WXs cyI cyO u.1 u.2) t.heap ∧ va_D (va_A [] sz) (WXs cyI cyO u.1 u.2) ∧ Adr u.1 ∧ JE u.1 0 u.2 ∧ zn u.2 = 3
set_option maxHeartbeats 4000000 in
set_option maxRecDepth 100000 in
theorem c_L_ring (l : Launch) (D : va_G) (cyI cyO cyL : ClassId) (b L : Nat) (xs : Nat → Int32) (hL : L ≤ 260) : ∀ sz : Nat, Met l yL_ring wsL_ring RR (va_Pc [.ref b, .int 0] (PRx D cyI cyO cyL b L xs sz)) (va_Qr (fun _ : AX × SG => True) (QRx D cyI cyO sz) (va_A [] sz)) 30 247 (va_A [] sz) := by
  intro sz
  refine Met.ofW (cc := cL_ring) (maxL := 4) (ret := (some (.object "TrolleyGang"))) (by decide) rfl ?_
  intro p e s m args below meth c s₁ B9 hml hv
  obtain ⟨rfl, ⟨⟨hsz, -, hKK, -⟩, hX⟩, hAO⟩ := hv
  have hx := B9.exec
  have hb := B9.bytes
  have hrt := B9.returns
  have hts := atoms_spec (ws := wsL_ring) B9.pre
  have hown : s.vm.findClass RL = some m.cls := findClass_of_methodNamed B9.named
  have hlocks := B9.notSynchronized
  subst hsz
  have hA : ∀ q, s.heap.size ≤ q → va_A [] s.heap.size q := fun q h => Or.inr h
  have hS : va_S (va_A [] s.heap.size) s.heap s.heap [] := va_S.rf
  have hbl : b < s.heap.size := va_Xlt hX
  have hbA : ¬ va_A [] s.heap.size b := fun h => absurd (nilA h) (Nat.not_le.mpr hbl)
  have hP : va_P D vwCl [] s.heap := nilP
  have hD : va_D (va_A [] s.heap.size) [] := nilD
  have iX5 : ∀ w ∈ wsX50, w ∈ wsL_ring := fun _ h => List.mem_cons_of_mem _ (List.mem_append_left _ (List.mem_append_left _ (List.mem_append_left _ (List.mem_append_left _ (List.mem_append_left _ (List.mem_append_left _ (List.mem_append_left _ (List.mem_append_left _ (List.mem_append_right _ h)))))))))
  have hl := lv_entry ([.ref b, .int 0]) (n := 4) (Nat.le_of_ble_eq_true rfl)
  rw [lg_entry_eq]
  generalize (lg_sl ([.ref b, .int 0]) ++ List.replicate (4 - (lg_sl ([.ref b, .int 0])).length) Slot.unset).toArray = ls at hl ⊢
  have hl : lv_has ls 4 [(0, .ref b), (1, .int 0)] := hl
  refine va_new (ci := 5) (fs := [.null, .null, .null]) (C := RX5) (T := TX5) (N := 3) hx hb hts iX5 tyX5 tyX5_ok hown (hts (.classLink RL 9 RX5) (List.mem_of_getElem? (i := 1) rfl)) (hts (.instantiable RX5 3) (List.mem_of_getElem? (i := 2) rfl)) (hts (.initialized RX5) (List.mem_of_getElem? (i := 3) rfl)) hKK.1 hP hD hS hA rfl (fun j hj => by rcases (show j = 0 ∨ j = 1 ∨ j = 2 by omega) with rfl | rfl | rfl <;> rfl) (Nat.le_of_ble_eq_true rfl) (Nat.le_of_ble_eq_true rfl) dL_ring_0 (fun aX H hP hD hS => ?_)
  have hP : va_P D vwCl [(aX, .inr (5, [.null, .null, .null]))] H := hP
  have hD : va_D (va_A [] s.heap.size) [(aX, .inr (5, [.null, .null, .null]))] := hD
  refine lv_dup hx hb dL_ring_3 rfl ?_
  refine ret_A (isC := [0]) (isR := []) (wr := []) (run_I (n := 0) (As := []) (rest := [.ref aX]) ⟨hx, hb, hml, hown, hts⟩ (c_X5_init l D cyI cyO cyL aX _) ggL_ring_X5_init rfl rfl rfl (hts (.methodLink RL 11 yX5_init) (List.mem_of_getElem? (i := 4) rfl)) (hts (.initialized RX5) (List.mem_of_getElem? (i := 3) rfl)) (hts (.instanceMethod yX5_init) (List.mem_of_getElem? (i := 5) rfl)) rfl (by decide +kernel) ⟨(Nat.le_of_ble_eq_true rfl), (Nat.le_of_ble_eq_true rfl)⟩ hKK hAO hP hD rfl hl.1 rfl (Nat.le_of_ble_eq_true rfl) dL_ring_4 ⟨(Nat.le_of_ble_eq_true rfl), (Nat.le_of_ble_eq_true rfl)⟩) hP hD hS hA rfl rfl (by decide) (by decide) (fun u H locs hP hD hS => ?_)
  have hP : va_P D vwCl (WXs cyI cyO (aX, u) ((fun _ => 0, nsw 12, 2, 3, 0, (fun _ => 0, fun _ => 0, fun _ => 0, fun _ => 0, fun _ _ => 0, 0, 0), (fun _ => 0, fun _ => 0, fun _ => 0, fun _ => 0, fun _ _ => 0, 0, 0), 0, 0, fun _ => 0, fun _ => 0) : SG)) H := hP
  have hD : va_D (va_A [] s.heap.size) (WXs cyI cyO (aX, u) ((fun _ => 0, nsw 12, 2, 3, 0, (fun _ => 0, fun _ => 0, fun _ => 0, fun _ => 0, fun _ _ => 0, 0, 0), (fun _ => 0, fun _ => 0, fun _ => 0, fun _ => 0, fun _ _ => 0, 0, 0), 0, 0, fun _ => 0, fun _ => 0) : SG)) := hD
  have hAd := Adr_start hD
  have hJ := JE_start (a := (aX, u))
  have hn : zn ((fun _ => 0, nsw 12, 2, 3, 0, (fun _ => 0, fun _ => 0, fun _ => 0, fun _ => 0, fun _ _ => 0, 0, 0), (fun _ => 0, fun _ => 0, fun _ => 0, fun _ => 0, fun _ _ => 0, 0, 0), 0, 0, fun _ => 0, fun _ => 0) : SG) = 0 := rfl
  generalize ((fun _ => 0, nsw 12, 2, 3, 0, (fun _ => 0, fun _ => 0, fun _ => 0, fun _ => 0, fun _ _ => 0, 0, 0), (fun _ => 0, fun _ => 0, fun _ => 0, fun _ => 0, fun _ _ => 0, 0, 0), 0, 0, fun _ => 0, fun _ => 0) : SG) = g at hP hD hJ hn
  obtain ⟨a, ea⟩ : ∃ a : AX, a = (aX, u) := ⟨_, rfl⟩
  rw [show aX = a.1 by rw [ea]]
  rw [← ea] at hP hD hJ hAd
  refine W.widen (k := 30) (n := 247) (Nat.le_of_ble_eq_true rfl) (Nat.le_of_ble_eq_true rfl) ?_
  refine lv_astore_n (lv' := [(2, .ref a.1), (0, .ref b), (1, .int 0)]) hx hb dL_ring_7 rfl hl (by decide) rfl (fun ls hl => ?_)
  refine lv_iconst (v := 0) hx hb dL_ring_8 (by decide) ?_
  refine lv_istore_n (lv' := [(3, .int 0), (2, .ref a.1), (0, .ref b), (1, .int 0)]) hx hb dL_ring_9 rfl hl (by decide) rfl (fun ls hl => ?_)
  refine ring_1 hL hx hb hml hown hts hKK hX hbl hbA hA hAd 8 0 rfl g _ _ _ hJ hn hP hD hS (lv_sub hl [0, 1, 3, 2] rfl) (fun g H locs ls hJ hn hP hD hS hl => ?_)
  refine lv_iconst (v := 0) hx hb dL_ring_33 (by decide) ?_
  refine lv_istore_n (lv' := [(3, .int 0), (2, .ref a.1), (1, .int 0), (0, .ref b)]) hx hb dL_ring_34 rfl hl (by decide) rfl (fun ls hl => ?_)
  refine ring_2 hL hx hb hml hown hts hKK hX hbl hbA hA hAd 12 0 rfl g _ _ _ hJ hn hP hD hS (lv_sub hl [0, 1, 2, 3] rfl) (fun g H locs ls hJ hn hP hD hS hl => ?_)
  refine lv_aload_n hx hb dL_ring_75 rfl (lv_at hl 0 rfl) ?_
  refine lv_iconst (v := 0) hx hb dL_ring_76 (by decide) ?_
  refine lv_aload_n hx hb dL_ring_77 rfl (lv_at hl 2 rfl) ?_
  refine lv_iconst (v := 2) hx hb dL_ring_78 (by decide) ?_
  refine call_h (n := 2) (As := [.ref b, .int 2]) (rest := [.int 0, .ref a.1]) ⟨hx, hb, hml, hown, hts⟩ (c_L_cell l D cyI cyO cyL b L xs 2 hL (by decide)) gL_ring_L_cell rfl rfl rfl (by decide +kernel) ⟨(Nat.le_of_ble_eq_true rfl), (Nat.le_of_ble_eq_true rfl)⟩ hKK hX hbl hbA rfl hl.1 rfl (Nat.le_of_ble_eq_true rfl) dL_ring_79 ⟨(Nat.le_of_ble_eq_true rfl), (Nat.le_of_ble_eq_true rfl)⟩ hP hS hA (fun r1 H locs hr2 hP hS => ?_)
  refine lv_bipush (v := 10) hx hb dL_ring_82 (by decide) ?_
  refine call_h (n := 2) (As := [.int r1, .int 10]) (rest := [.int 0, .ref a.1]) ⟨hx, hb, hml, hown, hts⟩ (c_L_below l D cyI cyO cyL b L xs r1 10 (N := 10) (by decide) (by decide) rfl) gL_ring_L_below rfl rfl rfl (by decide +kernel) ⟨(Nat.le_of_ble_eq_true rfl), (Nat.le_of_ble_eq_true rfl)⟩ hKK hX hbl hbA rfl hl.1 rfl (Nat.le_of_ble_eq_true rfl) dL_ring_84 ⟨(Nat.le_of_ble_eq_true rfl), (Nat.le_of_ble_eq_true rfl)⟩ hP hS hA (fun r3 H locs hr4 hP hS => ?_)
  obtain ⟨g2, r2, hG, hJ2, hn2⟩ := s_setFare l D cyI cyO cyL hAd (by decide) hJ (i_ := 0) (c_ := r3) hr4
  refine call_x (n := 2) (As := [.int 0, .int r3]) (rest := []) ⟨hx, hb, hml, hown, hts⟩ hG gL_ring_X5_setFare rfl (by decide +kernel) ⟨(Nat.le_of_ble_eq_true rfl), (Nat.le_of_ble_eq_true rfl)⟩ hKK (WXs_recv a g) (WXs_fst (a := a) g g2) rfl hl.1 rfl (Nat.le_of_ble_eq_true rfl) dL_ring_87 ⟨(Nat.le_of_ble_eq_true rfl), (Nat.le_of_ble_eq_true rfl)⟩ hP hD hS hA (fun H locs hP hD hS => ?_)
  have hJ := hJ2
  have hn := hn2.trans hn
  obtain ⟨g, eg⟩ : ∃ z, z = g2 := ⟨_, rfl⟩
  rw [← eg] at hP hD hJ hn
  refine lv_pop hx hb dL_ring_90 rfl ?_
  refine lv_aload_n hx hb dL_ring_91 rfl (lv_at hl 0 rfl) ?_
  refine lv_iconst (v := 1) hx hb dL_ring_92 (by decide) ?_
  refine lv_aload_n hx hb dL_ring_93 rfl (lv_at hl 2 rfl) ?_
  refine lv_iconst (v := 2) hx hb dL_ring_94 (by decide) ?_
  refine call_h (n := 2) (As := [.ref b, .int 2]) (rest := [.int 1, .ref a.1]) ⟨hx, hb, hml, hown, hts⟩ (c_L_cell l D cyI cyO cyL b L xs 2 hL (by decide)) gL_ring_L_cell rfl rfl rfl (by decide +kernel) ⟨(Nat.le_of_ble_eq_true rfl), (Nat.le_of_ble_eq_true rfl)⟩ hKK hX hbl hbA rfl hl.1 rfl (Nat.le_of_ble_eq_true rfl) dL_ring_95 ⟨(Nat.le_of_ble_eq_true rfl), (Nat.le_of_ble_eq_true rfl)⟩ hP hS hA (fun r5 H locs hr6 hP hS => ?_)
  refine lv_iconst (v := 4) hx hb dL_ring_98 (by decide) ?_
  refine lv_ishr hx hb dL_ring_99 ?_
  refine lv_bipush (v := 10) hx hb dL_ring_100 (by decide) ?_
  refine call_h (n := 2) (As := [.int (r5 >>> (4 &&& 31)), .int 10]) (rest := [.int 1, .ref a.1]) ⟨hx, hb, hml, hown, hts⟩ (c_L_below l D cyI cyO cyL b L xs (r5 >>> (4 &&& 31)) 10 (N := 10) (by decide) (by decide) rfl) gL_ring_L_below rfl rfl rfl (by decide +kernel) ⟨(Nat.le_of_ble_eq_true rfl), (Nat.le_of_ble_eq_true rfl)⟩ hKK hX hbl hbA rfl hl.1 rfl (Nat.le_of_ble_eq_true rfl) dL_ring_102 ⟨(Nat.le_of_ble_eq_true rfl), (Nat.le_of_ble_eq_true rfl)⟩ hP hS hA (fun r7 H locs hr8 hP hS => ?_)
  obtain ⟨g2, r2, hG, hJ2, hn2⟩ := s_setFare l D cyI cyO cyL hAd (by decide) hJ (i_ := 1) (c_ := r7) hr8
  refine call_x (n := 2) (As := [.int 1, .int r7]) (rest := []) ⟨hx, hb, hml, hown, hts⟩ hG gL_ring_X5_setFare rfl (by decide +kernel) ⟨(Nat.le_of_ble_eq_true rfl), (Nat.le_of_ble_eq_true rfl)⟩ hKK (WXs_recv a g) (WXs_fst (a := a) g g2) rfl hl.1 rfl (Nat.le_of_ble_eq_true rfl) dL_ring_105 ⟨(Nat.le_of_ble_eq_true rfl), (Nat.le_of_ble_eq_true rfl)⟩ hP hD hS hA (fun H locs hP hD hS => ?_)
  have hJ := hJ2
  have hn := hn2.trans hn
  obtain ⟨g, eg⟩ : ∃ z, z = g2 := ⟨_, rfl⟩
  rw [← eg] at hP hD hJ hn
  refine lv_pop hx hb dL_ring_108 rfl ?_
  refine lv_iconst (v := 0) hx hb dL_ring_109 (by decide) ?_
  refine lv_istore_n (lv' := [(3, .int 0), (2, .ref a.1), (1, .int 0), (0, .ref b)]) hx hb dL_ring_110 rfl hl (by decide) rfl (fun ls hl => ?_)
  refine ring_3 hL hx hb hml hown hts hKK hX hbl hbA hA hAd 3 0 rfl g _ _ _ hJ hn hP hD hS (lv_sub hl [0, 1, 2, 3] rfl) (fun g H locs ls hJ hn hP hD hS hl => ?_)
  refine lv_aload_n hx hb dL_ring_169 rfl (lv_at hl 0 rfl) ?_
  exact W.aret hx hb hrt (Or.inl ⟨_, rfl⟩) (Or.inr ⟨_, rfl⟩) (fun t ht hW => ⟨⟨(a, g), a.1, rfl, trivial, rfl, (by rw [ht]; exact hP), hD, hAd, hJ, hn⟩, hS.F ht⟩) hS.2.2 dL_ring_170 hlocks
