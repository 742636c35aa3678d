/-! the law's start: what the tables say, the two objects, out -/
set_option maxRecDepth 20000 in
theorem nw_in : ∀ w ∈ nw_all, w ∈ lw_tbl := fun w h => by
  have e : nw_all = ([80, 85, 86, 88, 89, 91, 93, 106, 112, 117, 118, 120, 121, 129, 134, 135, 137, 138, 140, 141, 143, 144, 146, 147, 149, 150, 167, 172, 173, 175, 176, 178, 179, 181, 182, 184, 185, 187, 188, 203, 205, 207, 209, 212, 240, 326, 330, 336, 343, 351, 352, 353, 369, 388, 390, 394, 407, 454, 482, 526, 549, 558, 563, 574, 575, 579, 588, 596, 600, 604, 612, 616, 623, 628, 651] : List Nat).filterMap (fun i => lw_tbl[i]?) := by decide +kernel
  rw [e] at h
  obtain ⟨i, -, hi⟩ := List.mem_filterMap.mp h
  exact List.mem_of_getElem? hi
set_option maxRecDepth 20000 in
theorem sr_in : ∀ z ∈ srAll, Cond.stringRef RX5 z.1 z.2 ∈ lw_tbl := fun z h => by
  have e : srAll.map (fun z => Cond.stringRef RX5 z.1 z.2) = ([420, 430, 444, 445, 453, 475, 493, 516, 517, 525, 639, 406, 387, 299, 548] : List Nat).filterMap (fun i => lw_tbl[i]?) := by decide +kernel
  have h2 : Cond.stringRef RX5 z.1 z.2 ∈ srAll.map (fun z => Cond.stringRef RX5 z.1 z.2) := List.mem_map.mpr ⟨z, h, rfl⟩
  rw [e] at h2
  obtain ⟨i, -, hi⟩ := List.mem_filterMap.mp h2
  exact List.mem_of_getElem? hi
set_option maxRecDepth 20000 in
theorem ng_in : ∀ w ∈ ngAll, w ∈ lw_tbl := fun w h => by
  have e : ngAll = ([260, 423, 468, 262, 264, 266] : List Nat).filterMap (fun i => lw_tbl[i]?) := by decide +kernel
  rw [e] at h
  obtain ⟨i, -, hi⟩ := List.mem_filterMap.mp h
  exact List.mem_of_getElem? hi
theorem row_of {ty : FieldType} {args : Array Value} {s : State} (h : (Cond.arrayClass ty).before args s = true) (hp : ∀ (U : State) (cA : ClassId), U.vm.findClass ("[" ++ ty.toString) = some cA → va_RA U cA ty) : ∃ cA : ClassId, ArrOfT s cA ty ∧ va_RA s cA ty := by
  obtain ⟨cA, k, comp, h1, h2, h3⟩ := Cond.arrayClass_spec h
  exact ⟨cA, fun n z => ⟨fun _ h9 => (by cases h9), k, h2, comp, h3⟩, hp s cA h1⟩
theorem row_ofO {C : String} {args : Array Value} {s : State} (h : (Cond.arrayOver (.object C)).before args s = true) : ∃ cA : ClassId, ArrOfT s cA (.object C) ∧ va_RA s cA (.object C) := by
  obtain ⟨comp, cA, k, h1, -, h3, h4, h5⟩ := Cond.arrayOver_spec h
  exact ⟨cA, fun n z => ⟨fun _ h9 => (by cases h9), k, h3, comp, h4⟩, k, comp, h3, h4, h1, h5⟩
theorem SRW_of {args : Array Value} {s : State} {c5 : ClassId} (hc : s.vm.findClass RX5 = some c5) (hts : ∀ w ∈ lw_tbl, w.before args s = true) : SRW s := fun z hz => by
  have h := hts _ (sr_in z hz)
  obtain ⟨-, -, -, a, -, -, -, -, -, hev⟩ := Cond.stringRef_spec hc h
  exact ⟨a, vk_R.of h hev⟩
set_option maxHeartbeats 4000000 in
set_option maxRecDepth 100000 in
theorem KK_start {s : State} {args : Array Value} (hts : ∀ w ∈ lw_tbl, w.before args s = true) : ∃ (D : va_G) (cyI cyO cyL : ClassId), KK D cyI cyO cyL s := by
  obtain ⟨c0, i0, k0⟩ := u_known (C := RX0) (T := TX0) (N := 6) (n := 6) hts inT0 (hts (.instantiable RX0 6) (List.mem_of_getElem? (i := 166) (by decide +kernel)))
  obtain ⟨c1, i1, k1⟩ := u_known (C := RX1) (T := TX1) (N := 6) (n := 6) hts inT1 (hts (.instantiable RX1 6) (List.mem_of_getElem? (i := 128) (by decide +kernel)))
  obtain ⟨c2, i2, k2⟩ := u_known (C := RX2) (T := TX2) (N := 6) (n := 6) hts inT2 (hts (.instantiable RX2 6) (List.mem_of_getElem? (i := 105) (by decide +kernel)))
  obtain ⟨c3, i3, k3⟩ := u_known (C := RX3) (T := TX3) (N := 4) (n := 4) hts inT3 (hts (.instantiable RX3 4) (List.mem_of_getElem? (i := 79) (by decide +kernel)))
  obtain ⟨c4, i4, k4⟩ := u_known (C := RX4) (T := TX4) (N := 2) (n := 2) hts inT4 (hts (.instantiable RX4 2) (List.mem_of_getElem? (i := 111) (by decide +kernel)))
  obtain ⟨c5, i5, k5⟩ := u_known (C := RX5) (T := TX5) (N := 3) (n := 3) hts inT5 (hts (.instantiable RX5 3) (List.mem_of_getElem? (i := 71) (by decide +kernel)))
  obtain ⟨c6, i6, k6⟩ := u_known (C := RX6) (T := TX6) (N := 8) (n := 8) hts inT6 (hts (.instantiable RX6 8) (List.mem_of_getElem? (i := 660) (by decide +kernel)))
  obtain ⟨cyI, hI1, hI2⟩ := row_of (hts (.arrayClass .int) (List.mem_of_getElem? (i := 103) (by decide +kernel))) (fun _ _ h => h)
  obtain ⟨cyL, hL1, hL2⟩ := row_of (hts (.arrayClass .long) (List.mem_of_getElem? (i := 867) (by decide +kernel))) (fun _ _ h => h)
  obtain ⟨cyO, hO1, hO2⟩ := row_ofO (hts (.arrayOver (.object RX0)) (List.mem_of_getElem? (i := 165) (by decide +kernel)))
  refine ⟨(fun k => if k = 0 then c0 else if k = 1 then c1 else if k = 2 then c2 else if k = 3 then c3 else if k = 4 then c4 else if k = 5 then c5 else c6, fun k => if k = 0 then i0 else if k = 1 then i1 else if k = 2 then i2 else if k = 3 then i3 else if k = 4 then i4 else if k = 5 then i5 else i6), cyI, cyO, cyL, ⟨fun k q hq => ?_, fun k q hk => ?_⟩, fun w hw => ?_⟩
  · match k, hq with
    | 0, hq => cases hq; exact k0
    | 1, hq => cases hq; exact k1
    | 2, hq => cases hq; exact k2
    | 3, hq => cases hq; exact k3
    | 4, hq => cases hq; exact k4
    | 5, hq => cases hq; exact k5
    | 6, hq => cases hq; exact k6
    | k + 7, hq => simp [vwCl] at hq
  · match k, hk with
    | 0, hk => cases hk; exact ⟨hI1, hI2⟩
    | 1, hk => cases hk; exact ⟨hO1, hO2⟩
    | 2, hk => cases hk; exact ⟨hL1, hL2⟩
    | k + 3, hk => simp [tysOf] at hk
  · have h1 := List.all_eq_true.mp nw_all_is w hw
    have h2 := hts w (nw_in w hw)
    cases w <;> first
      | exact va_Nw.of rfl h2
      | exact absurd h1 (by decide)
      | cases h1
theorem NG_start {s : State} {args : Array Value} (hts : ∀ w ∈ lw_tbl, w.before args s = true) : NGW s := fun w hw => by
  have h1 := List.all_eq_true.mp ng_all_is w hw
  have h2 := hts w (ng_in w hw)
  cases w <;> first
    | exact va_Nw.of rfl h2
    | exact absurd h1 (by decide)
    | cases h1
theorem XE_start {s : State} {b : Nat} {c5 : ClassId} (hc : s.vm.findClass RX5 = some c5) (hts : ∀ w ∈ lw_tbl, w.before #[Value.ref b] s = true) (hgv : (Jvm.Cond.and given_1 narrow_1).before #[Value.ref b] s = true) : XE (fun q : Nat => s.heap.size ≤ q) s s.heap := by
  have hs := flat_of_before _ hgv
  refine ⟨NG_start hts, SRW_of hc hts, ?_, ?_⟩
  · exact vx_Zqof (hts (.laysStatic Bundle.tN "UNASSIGNED_STACK" Bundle.steD) (List.mem_of_getElem? (i := 285) (by decide +kernel))) (hts (.initialized Bundle.tN) (List.mem_of_getElem? (i := 62) (by decide +kernel))) (hs _ (by decide +kernel)) (fun a h => Nat.not_le.mpr h)
  · exact vx_Zqof (hts (.laysStatic Bundle.tN "SUPPRESSED_SENTINEL" Bundle.listD) (List.mem_of_getElem? (i := 287) (by decide +kernel))) (hts (.initialized Bundle.tN) (List.mem_of_getElem? (i := 62) (by decide +kernel))) (hs _ (by decide +kernel)) (fun a h => Nat.not_le.mpr h)
theorem NC_start {s : State} {b : Nat} (hgv : (Jvm.Cond.and given_1 narrow_1).before #[Value.ref b] s = true) : NCW s := by
  have hs := flat_of_before _ hgv
  exact ⟨va_Nc.of (hs _ (by decide +kernel)), va_Nc.of (hs _ (by decide +kernel)), va_Nc.of (hs _ (by decide +kernel))⟩
theorem Inv_start {a : AX} : Inv a 0 ((fun _ => 0, nsw 12, 2, 3, 0, (fun _ => 0, fun _ => 0, fun _ => 0, fun _ => 0, fun _ _ => 0, 0, 0), (fun _ => 0, fun _ => 0, fun _ => 0, fun _ => 0, fun _ _ => 0, 0, 0), 0, 0, fun _ => 0, fun _ => 0) : SG) := by
  refine ⟨Nat.zero_le _, fun k _ => ⟨0, Nat.zero_le _, rfl⟩, fun k => ?_, ⟨⟨⟨0, Nat.zero_le _, rfl⟩, (vp_in_nI (n := 0) (N := 24) (by decide) (by decide)), fun _ => (vp_in_nI (n := 0) (N := 24) (by decide) (by decide)), fun _ => ⟨(vp_in_nI (n := 0) (N := 24) (by decide) (by decide)), Or.inl rfl, Or.inl rfl⟩, 0, by decide, rfl⟩, 0, Nat.zero_le _, rfl⟩, ⟨fun k _ => ⟨0, Nat.zero_le _, rfl, rfl, rfl⟩, fun k _ => ⟨0, Nat.zero_le _, rfl, rfl⟩, fun i x hi => absurd hi (Nat.not_lt_zero _), ⟨rfl, rfl, rfl, rfl, rfl, fun _ _ _ _ _ => rfl⟩, rfl, rfl⟩, fun _ => (vp_in_nI (n := 0) (N := 24) (by decide) (by decide)), fun _ _ _ _ _ => ⟨rfl, rfl⟩⟩
  show nsw 12 k = -1 ∨ vp_in (nsw 12 k) 24
  unfold nsw
  split
  · exact Or.inl rfl
  · exact Or.inr (vp_in_nI (n := 0) (N := 24) (by decide) (by decide))
theorem Adr_start {A : Nat → Prop} {cyI cyO : ClassId} {a : AX} {g : SG} (hD : va_D A (WXs cyI cyO a g)) : Adr a := by
  have h0 : ∀ i, i < 6 → ∃ e, (WXs cyI cyO a g)[18 + i]? = some (a.2.2.2.1 (6 + i), e) := fun i hi => by
    match i, hi with
    | 0, _ => exact ⟨_, rfl⟩
    | 1, _ => exact ⟨_, rfl⟩
    | 2, _ => exact ⟨_, rfl⟩
    | 3, _ => exact ⟨_, rfl⟩
    | 4, _ => exact ⟨_, rfl⟩
    | 5, _ => exact ⟨_, rfl⟩
  have h1 : ∀ i, i < 6 → ∃ e, (WXs cyI cyO a g)[24 + i]? = some (a.2.2.2.2.2 (6 + i), e) := fun i hi => by
    match i, hi with
    | 0, _ => exact ⟨_, rfl⟩
    | 1, _ => exact ⟨_, rfl⟩
    | 2, _ => exact ⟨_, rfl⟩
    | 3, _ => exact ⟨_, rfl⟩
    | 4, _ => exact ⟨_, rfl⟩
    | 5, _ => exact ⟨_, rfl⟩
  refine ⟨fun i j hi hj e => ?_, fun i j hi hj e => ?_, fun i j hi hj e => ?_⟩
  · obtain ⟨x, hx⟩ := h0 i hi
    obtain ⟨y, hy⟩ := h0 j hj
    have := hD.1 _ _ _ _ hx hy e
    omega
  · obtain ⟨x, hx⟩ := h1 i hi
    obtain ⟨y, hy⟩ := h1 j hj
    have := hD.1 _ _ _ _ hx hy e
    omega
  · obtain ⟨x, hx⟩ := h1 i hi
    obtain ⟨y, hy⟩ := h0 j hj
    have := hD.1 _ _ _ _ hx hy e
    omega
