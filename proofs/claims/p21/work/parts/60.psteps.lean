/-! the class, call by call, as the law wants it -/
abbrev zab (a : AX) : Nat → Nat := fun k => a.2.2.2.1 (6 + k)
abbrev zcd (g : SG) : Nat → Int32 := g.1
abbrev zsw (g : SG) : Nat → Int32 := g.2.1
abbrev zfd (g : SG) : Int32 := g.2.2.1
abbrev zfn (g : SG) : Int32 := g.2.2.2.1
abbrev zn (g : SG) : Nat := g.2.2.2.2.1
abbrev zq (g : SG) : RS := g.2.2.2.2.2.1
abbrev zw (g : SG) : Nat → Int32 := g.2.2.2.2.2.1.1
abbrev zf (g : SG) : Nat → Int32 := g.2.2.2.2.2.1.2.1
abbrev zo (g : SG) : Nat → Int32 := g.2.2.2.2.2.1.2.2.1
abbrev zg (g : SG) : Nat → Int32 := g.2.2.2.2.2.1.2.2.2.1
abbrev zB (g : SG) : Nat → Nat → Int32 := g.2.2.2.2.2.1.2.2.2.2.1
abbrev zc (g : SG) : Int32 := g.2.2.2.2.2.1.2.2.2.2.2.1
abbrev zh (g : SG) : Int32 := g.2.2.2.2.2.1.2.2.2.2.2.2
abbrev zrn (g : SG) : Nat → Int32 := g.2.2.2.2.2.2.2.2.2.1
/-- fares are 0 to 9; the ring's bounds -/
def JE (a : AX) (j : Nat) (g : SG) : Prop := Inv a j g ∧ (∃ F : Nat, F ≤ 9 ∧ zfd g = nI F) ∧ (∃ F : Nat, F ≤ 9 ∧ zfn g = nI F) ∧ GQ (72 * j) (zab a) (zq g)
theorem JE.mono {a : AX} {j : Nat} {g : SG} (h : JE a j g) : JE a (j + 1) g := ⟨h.1.mono, h.2.1, h.2.2.1, h.2.2.2.mono (by omega)⟩
/-- the state behind a look ahead -/
def AH (g : SG) (B : Nat → Nat → Int32) (q1 : RS) (b1 : Int32) : SG := (g.1, g.2.1, g.2.2.1, g.2.2.2.1, g.2.2.2.2.1, (zw g, zf g, zo g, zg g, B, zc g, zh g), q1, b1, g.2.2.2.2.2.2.2.2.1, g.2.2.2.2.2.2.2.2.2.1, g.2.2.2.2.2.2.2.2.2.2)
/-- the checksum, as the ghost row has it -/
def dgv (g : SG) : Int64 := dgL (fun z => mbtold (zrn g) (nI (z / 7)) (nI (z % 7))) (7 * zn g) 0 (dgL (fun z => mstold (zrn g) (zn g) (zg g 0).toNatClampNeg (nI (z / 5)) (nI (z % 5))) 120 0 (dgL (fun z => mgtold (zrn g) (nI z)) 7 0 (dgT (zcd g) (zsw g) (zfd g) (zfn g) (dgL (fun z => mcounted (zrn g) (zn g) (nI (zn g)) (nI z)) 9 0 1301))))
/-- what will be worn in all behind h hours, as the ghost row has it -/
def sv (h : Nat) (g : SG) : Int32 := msum (mpaL (zcd g) (zsw g) (zfd g) (zfn g) (zn g) h (zrn g)) 0 24 0 0
theorem GQ_keep {M : Nat} {ab : Nat → Nat} {w f od g : Nat → Int32} {B B' : Nat → Nat → Int32} {co hr : Int32} (h : GQ M ab (w, f, od, g, B, co, hr)) (hk : ∀ i, i < 3 → B' (ab i) 3 = B (ab i) 3 ∧ B' (ab i) 4 = B (ab i) 4 ∧ B' (ab i) 5 = B (ab i) 5) (w' f' od' : Nat → Int32) : GQ M ab (w', f', od', g, B', co, hr) := by
  obtain ⟨H, a, b, c, h1, h2, h3, h4, h5, h6, h7, h8, h9, h10⟩ := h
  refine ⟨H, a, b, c, h1, h2, h3, h4, h5, h6, h7, h8, fun i hi => ?_, ?_⟩
  · obtain ⟨s, t, z1, z2, z3, z4⟩ := h9 i hi
    exact ⟨s, t, (hk i hi).1.trans z1, z2, (hk i hi).2.2.trans z3, z4⟩
  · show co = B' (ab 0) 4 + B' (ab 1) 4 + B' (ab 2) 4 - 2 * g 3
    rw [(hk 0 (by decide)).2.1, (hk 1 (by decide)).2.1, (hk 2 (by decide)).2.1]
    exact h10
theorem fal_ge {cd sw : Nat → Int32} {fd fn : Int32} {ab : Nat → Nat} {n : Nat} {s_ : Int32} : ∀ (d i : Nat) (q : RS), i + d ≤ 97 → ((fallsL cd sw fd fn ab n s_ d i q).1 = -1) ∨ ∃ k, i ≤ k ∧ k < 97 ∧ (fallsL cd sw fd fn ab n s_ d i q).1 = nI k
  | 0, _, _, _ => Or.inl rfl
  | d + 1, i, q, h => by
    unfold fallsL
    split
    · rcases fal_ge d (i + 1) (hrsL cd sw fd fn ab n 1 q) (by omega) with e | ⟨k, h1, h2, e⟩
      · exact Or.inl e
      · exact Or.inr ⟨k, by omega, h2, e⟩
    · exact Or.inr ⟨i, Nat.le_refl _, by omega, rfl⟩
theorem fal_q {cd sw : Nat → Int32} {fd fn : Int32} {ab : Nat → Nat} {n : Nat} {s_ : Int32} (q : RS) : ((fallsL cd sw fd fn ab n s_ 97 0 q).1 = 0 ↔ ¬ dnI q.1 s_ = 0) ∧ ¬ 96 < (fallsL cd sw fd fn ab n s_ 97 0 q).1 := by
  have e : fallsL cd sw fd fn ab n s_ 97 0 q = if dnI q.1 s_ = 0 then fallsL cd sw fd fn ab n s_ 96 1 (hrsL cd sw fd fn ab n 1 q) else (nI 0, q) := rfl
  rw [e]
  by_cases h : dnI q.1 s_ = 0
  · rw [if_pos h]
    rcases fal_ge (cd := cd) (sw := sw) (fd := fd) (fn := fn) (ab := ab) (n := n) (s_ := s_) 96 1 (hrsL cd sw fd fn ab n 1 q) (by omega) with e | ⟨k, h1, h2, e⟩
    · rw [e]
      exact ⟨⟨fun h9 => absurd h9 (by decide), fun h9 => absurd h h9⟩, by decide⟩
    · rw [e]
      refine ⟨⟨fun h9 => ?_, fun h9 => absurd h h9⟩, ?_⟩
      · have := (nI_eq (a := k) (b := 0) (by omega) (by decide)).mp h9
        omega
      · rw [Int32.lt_iff_toInt_lt, nI_toInt (by omega)]
        have e2 : (96 : Int32).toInt = 96 := rfl
        omega
  · rw [if_neg h]
    exact ⟨⟨fun _ => h, fun _ => rfl⟩, (by decide : ¬ (96 : Int32) < nI 0)⟩
theorem adv_q {CW : Int32 → RS → RS} : ∀ (d i : Nat) (best most : Int32) (q : RS), i + d ≤ 24 → best ≤ 23 → (advL CW d i best most q).1 ≤ 23
  | 0, _, _, _, _, _, h => h
  | d + 1, i, best, most, q, hi, h => by
    unfold advL
    split
    · exact adv_q d (i + 1) best most _ (by omega) h
    · exact adv_q d (i + 1) (nI i) _ _ (by omega) (nI_le (a := i) (b := 23) (by omega) (by omega))
set_option maxHeartbeats 1000000 in
set_option maxRecDepth 20000 in
theorem s_span (l : Launch) (D : va_G) (cyI cyO cyL : ClassId) {a : AX} {j : Nat} {g : SG} (hAd : Adr a) (hj : j < 512) (hJ : JE a j g) {s_ x_ : Int32} (hs : vp_in s_ 24) (hx : vp_in x_ 5) : GI l yX5_span wsX5_span D cyI cyO cyL (.ref a.1 :: [.int s_, .int x_]) (WXs cyI cyO a g) (WXs cyI cyO a g) (spanS s_ x_ (zn g) (zg g 0).toNatClampNeg (zab a) (zw g) (zf g) (zo g) (zB g)) := by
  obtain ⟨aX, t, r0, u0, r1, u1⟩ := a
  obtain ⟨cd, sw, fd, fn, n, ⟨w0, f0, od0, g0, B, co0, hr0⟩, ⟨w1, f1, od1, g1, B1, co1, hr1⟩, bc1, th, rn, ra⟩ := g
  obtain ⟨had0, had1, hne⟩ := hAd
  have had0 : ∀ i j, i < 6 → j < 6 → u0 (6 + i) = u0 (6 + j) → i = j := had0
  have had1 : ∀ i j, i < 6 → j < 6 → u1 (6 + i) = u1 (6 + j) → i = j := had1
  have hne : ∀ i j, i < 6 → j < 6 → u1 (6 + i) ≠ u0 (6 + j) := hne
  obtain ⟨hI, hfd, hfn, hgq⟩ := id hJ
  have hfd : ∃ F : Nat, F ≤ 9 ∧ fd = nI F := hfd
  have hfn : ∃ F : Nat, F ≤ 9 ∧ fn = nI F := hfn
  have hgq : GQ (72 * j) (fun k => u0 (6 + k)) (w0, f0, od0, g0, B, co0, hr0) := hgq
  have hI : InvE (fun k => u0 (6 + k)) j cd sw n (w0, f0, od0, g0, B, co0, hr0) od1 rn := hI
  obtain ⟨hn, hcd, hsw, hok, hrel, ho1, hz⟩ := id hI
  obtain ⟨m, hm, hg⟩ := hok.1.1
  have hg : g0 0 = nI m := hg
  have hc : (g0 0).toNatClampNeg = m := by rw [hg, nI_clamp (by omega)]
  show GI l yX5_span wsX5_span D cyI cyO cyL _ _ _ (spanS s_ x_ n (g0 0).toNatClampNeg (fun k => u0 (6 + k)) w0 f0 od0 B)
  rw [hc]
  exact gi_mk (c_X5_span l D cyI cyO cyL (aX := aX) (aT := (t 0)) (aR0 := r0) (aR1 := r1) (ac := (t 1)) (as_ := (t 2)) (aW0 := (u0 0)) (aw0 := (u0 1)) (af0 := (u0 2)) (aG0 := (u0 3)) (ao0 := (u0 4)) (aB0 := (u0 5)) (aW1 := (u1 0)) (aw1 := (u1 1)) (af1 := (u1 2)) (aG1 := (u1 3)) (ao1 := (u1 4)) (aB1 := (u1 5)) (cd := cd) (sw := sw) (fd := fd) (fn := fn) (ab0 := (fun k => u0 (6 + k))) (w0 := w0) (f0 := f0) (od0 := od0) (g0 := g0) (bc0 := (nI n)) (hr0 := hr0) (co0 := co0) (ab1 := (fun k => u1 (6 + k))) (w1 := w1) (f1 := f1) (od1 := od1) (g1 := g1) (bc1 := bc1) (hr1 := hr1) (co1 := co1) (LB := (LB6 (fun k => u0 (6 + k)) ++ LB6 (fun k => u1 (6 + k)))) (B := B) (s_ := s_) (x_ := x_) (n := n) (o_ := m) (hi := hs) (hx0 := (vp_ge0 hx)) (hx1 := (vp_lti (N := 5) hx (by decide))) (hn := hn) (hbc := rfl) (hLB0 := LBin0) (hm := hm) (hoc := hg)) rfl rfl (Nat.le_of_ble_eq_true rfl) (Nat.le_of_ble_eq_true rfl)
set_option maxHeartbeats 1000000 in
set_option maxRecDepth 20000 in
theorem s_gang (l : Launch) (D : va_G) (cyI cyO cyL : ClassId) {a : AX} {j : Nat} {g : SG} (hAd : Adr a) (hj : j < 512) (hJ : JE a j g) {x_ : Int32} (hx : vp_in x_ 7) : GI l yX5_gang wsX5_gang D cyI cyO cyL (.ref a.1 :: [.int x_]) (WXs cyI cyO a g) (WXs cyI cyO a g) (gangS x_ (zo g) (zg g)) := by
  obtain ⟨aX, t, r0, u0, r1, u1⟩ := a
  obtain ⟨cd, sw, fd, fn, n, ⟨w0, f0, od0, g0, B, co0, hr0⟩, ⟨w1, f1, od1, g1, B1, co1, hr1⟩, bc1, th, rn, ra⟩ := g
  obtain ⟨had0, had1, hne⟩ := hAd
  have had0 : ∀ i j, i < 6 → j < 6 → u0 (6 + i) = u0 (6 + j) → i = j := had0
  have had1 : ∀ i j, i < 6 → j < 6 → u1 (6 + i) = u1 (6 + j) → i = j := had1
  have hne : ∀ i j, i < 6 → j < 6 → u1 (6 + i) ≠ u0 (6 + j) := hne
  obtain ⟨hI, hfd, hfn, hgq⟩ := id hJ
  have hfd : ∃ F : Nat, F ≤ 9 ∧ fd = nI F := hfd
  have hfn : ∃ F : Nat, F ≤ 9 ∧ fn = nI F := hfn
  have hgq : GQ (72 * j) (fun k => u0 (6 + k)) (w0, f0, od0, g0, B, co0, hr0) := hgq
  have hI : InvE (fun k => u0 (6 + k)) j cd sw n (w0, f0, od0, g0, B, co0, hr0) od1 rn := hI
  obtain ⟨hn, hcd, hsw, hok, hrel, ho1, hz⟩ := id hI
  obtain ⟨m, hm, hg⟩ := hok.1.1
  have hg : g0 0 = nI m := hg
  have hc : (g0 0).toNatClampNeg = m := by rw [hg, nI_clamp (by omega)]
  exact gi_mk (c_X5_gang l D cyI cyO cyL (aX := aX) (aT := (t 0)) (aR0 := r0) (aR1 := r1) (ac := (t 1)) (as_ := (t 2)) (aW0 := (u0 0)) (aw0 := (u0 1)) (af0 := (u0 2)) (aG0 := (u0 3)) (ao0 := (u0 4)) (aB0 := (u0 5)) (aW1 := (u1 0)) (aw1 := (u1 1)) (af1 := (u1 2)) (aG1 := (u1 3)) (ao1 := (u1 4)) (aB1 := (u1 5)) (cd := cd) (sw := sw) (fd := fd) (fn := fn) (ab0 := (fun k => u0 (6 + k))) (w0 := w0) (f0 := f0) (od0 := od0) (g0 := g0) (bc0 := (nI n)) (hr0 := hr0) (co0 := co0) (ab1 := (fun k => u1 (6 + k))) (w1 := w1) (f1 := f1) (od1 := od1) (g1 := g1) (bc1 := bc1) (hr1 := hr1) (co1 := co1) (LB := (LB6 (fun k => u0 (6 + k)) ++ LB6 (fun k => u1 (6 + k)))) (B := B) (x_ := x_) (hx0 := (vp_ge0 hx)) (hx1 := (vp_lti (N := 7) hx (by decide)))) rfl rfl (Nat.le_of_ble_eq_true rfl) (Nat.le_of_ble_eq_true rfl)
set_option maxHeartbeats 1000000 in
set_option maxRecDepth 20000 in
theorem s_count (l : Launch) (D : va_G) (cyI cyO cyL : ClassId) {a : AX} {j : Nat} {g : SG} (hAd : Adr a) (hj : j < 512) (hJ : JE a j g) {x_ : Int32} (hx : vp_in x_ 9) : GI l yX5_count wsX5_count D cyI cyO cyL (.ref a.1 :: [.int x_]) (WXs cyI cyO a g) (WXs cyI cyO a g) (tallyS x_ (zn g) (zab a) (zw g) (zf g) (zB g) (nI (zn g)) (zh g) (zc g)) := by
  obtain ⟨aX, t, r0, u0, r1, u1⟩ := a
  obtain ⟨cd, sw, fd, fn, n, ⟨w0, f0, od0, g0, B, co0, hr0⟩, ⟨w1, f1, od1, g1, B1, co1, hr1⟩, bc1, th, rn, ra⟩ := g
  obtain ⟨had0, had1, hne⟩ := hAd
  have had0 : ∀ i j, i < 6 → j < 6 → u0 (6 + i) = u0 (6 + j) → i = j := had0
  have had1 : ∀ i j, i < 6 → j < 6 → u1 (6 + i) = u1 (6 + j) → i = j := had1
  have hne : ∀ i j, i < 6 → j < 6 → u1 (6 + i) ≠ u0 (6 + j) := hne
  obtain ⟨hI, hfd, hfn, hgq⟩ := id hJ
  have hfd : ∃ F : Nat, F ≤ 9 ∧ fd = nI F := hfd
  have hfn : ∃ F : Nat, F ≤ 9 ∧ fn = nI F := hfn
  have hgq : GQ (72 * j) (fun k => u0 (6 + k)) (w0, f0, od0, g0, B, co0, hr0) := hgq
  have hI : InvE (fun k => u0 (6 + k)) j cd sw n (w0, f0, od0, g0, B, co0, hr0) od1 rn := hI
  obtain ⟨hn, hcd, hsw, hok, hrel, ho1, hz⟩ := id hI
  obtain ⟨m, hm, hg⟩ := hok.1.1
  have hg : g0 0 = nI m := hg
  have hc : (g0 0).toNatClampNeg = m := by rw [hg, nI_clamp (by omega)]
  exact gi_mk (c_X5_count l D cyI cyO cyL (aX := aX) (aT := (t 0)) (aR0 := r0) (aR1 := r1) (ac := (t 1)) (as_ := (t 2)) (aW0 := (u0 0)) (aw0 := (u0 1)) (af0 := (u0 2)) (aG0 := (u0 3)) (ao0 := (u0 4)) (aB0 := (u0 5)) (aW1 := (u1 0)) (aw1 := (u1 1)) (af1 := (u1 2)) (aG1 := (u1 3)) (ao1 := (u1 4)) (aB1 := (u1 5)) (cd := cd) (sw := sw) (fd := fd) (fn := fn) (ab0 := (fun k => u0 (6 + k))) (w0 := w0) (f0 := f0) (od0 := od0) (g0 := g0) (bc0 := (nI n)) (hr0 := hr0) (co0 := co0) (ab1 := (fun k => u1 (6 + k))) (w1 := w1) (f1 := f1) (od1 := od1) (g1 := g1) (bc1 := bc1) (hr1 := hr1) (co1 := co1) (LB := (LB6 (fun k => u0 (6 + k)) ++ LB6 (fun k => u1 (6 + k)))) (B := B) (x_ := x_) (n := n) (hx0 := (vp_ge0 hx)) (hx1 := (vp_lti (N := 9) hx (by decide))) (hn := hn) (hbc := rfl) (hLB0 := LBin0) (hhr := hok.1.2.2.2.2)) rfl rfl (Nat.le_of_ble_eq_true rfl) (Nat.le_of_ble_eq_true rfl)
set_option maxHeartbeats 1000000 in
set_option maxRecDepth 20000 in
theorem s_told (l : Launch) (D : va_G) (cyI cyO cyL : ClassId) {a : AX} {j : Nat} {g : SG} (hAd : Adr a) (hj : j < 512) (hJ : JE a j g) {b_ x_ : Int32} (hb : vp_in b_ (zn g)) (hx : vp_in x_ 7) : GI l yX5_told wsX5_told D cyI cyO cyL (.ref a.1 :: [.int b_, .int x_]) (WXs cyI cyO a g) (WXs cyI cyO a g) (toldS x_ (zB g) (zab a b_.toNatClampNeg) (zw g)) := by
  obtain ⟨aX, t, r0, u0, r1, u1⟩ := a
  obtain ⟨cd, sw, fd, fn, n, ⟨w0, f0, od0, g0, B, co0, hr0⟩, ⟨w1, f1, od1, g1, B1, co1, hr1⟩, bc1, th, rn, ra⟩ := g
  obtain ⟨had0, had1, hne⟩ := hAd
  have had0 : ∀ i j, i < 6 → j < 6 → u0 (6 + i) = u0 (6 + j) → i = j := had0
  have had1 : ∀ i j, i < 6 → j < 6 → u1 (6 + i) = u1 (6 + j) → i = j := had1
  have hne : ∀ i j, i < 6 → j < 6 → u1 (6 + i) ≠ u0 (6 + j) := hne
  obtain ⟨hI, hfd, hfn, hgq⟩ := id hJ
  have hfd : ∃ F : Nat, F ≤ 9 ∧ fd = nI F := hfd
  have hfn : ∃ F : Nat, F ≤ 9 ∧ fn = nI F := hfn
  have hgq : GQ (72 * j) (fun k => u0 (6 + k)) (w0, f0, od0, g0, B, co0, hr0) := hgq
  have hI : InvE (fun k => u0 (6 + k)) j cd sw n (w0, f0, od0, g0, B, co0, hr0) od1 rn := hI
  obtain ⟨hn, hcd, hsw, hok, hrel, ho1, hz⟩ := id hI
  obtain ⟨m, hm, hg⟩ := hok.1.1
  have hg : g0 0 = nI m := hg
  have hc : (g0 0).toNatClampNeg = m := by rw [hg, nI_clamp (by omega)]
  have hb : vp_in b_ n := hb
  exact gi_mk (c_X5_told l D cyI cyO cyL (aX := aX) (aT := (t 0)) (aR0 := r0) (aR1 := r1) (ac := (t 1)) (as_ := (t 2)) (aW0 := (u0 0)) (aw0 := (u0 1)) (af0 := (u0 2)) (aG0 := (u0 3)) (ao0 := (u0 4)) (aB0 := (u0 5)) (aW1 := (u1 0)) (aw1 := (u1 1)) (af1 := (u1 2)) (aG1 := (u1 3)) (ao1 := (u1 4)) (aB1 := (u1 5)) (cd := cd) (sw := sw) (fd := fd) (fn := fn) (ab0 := (fun k => u0 (6 + k))) (w0 := w0) (f0 := f0) (od0 := od0) (g0 := g0) (bc0 := (nI n)) (hr0 := hr0) (co0 := co0) (ab1 := (fun k => u1 (6 + k))) (w1 := w1) (f1 := f1) (od1 := od1) (g1 := g1) (bc1 := bc1) (hr1 := hr1) (co1 := co1) (LB := (LB6 (fun k => u0 (6 + k)) ++ LB6 (fun k => u1 (6 + k)))) (B := B) (b_ := b_) (x_ := x_) (h0 := (vp_ge0 hb)) (h1 := (vp_lti hb (by omega))) (hib := (vp_mono hb hn)) (hLB0 := LBin0) (hB := hok.1.2.2.2.1) (hx0 := (vp_ge0 hx)) (hx1 := (vp_lti (N := 7) hx (by decide)))) rfl rfl (Nat.le_of_ble_eq_true rfl) (Nat.le_of_ble_eq_true rfl)
set_option maxHeartbeats 1000000 in
set_option maxRecDepth 20000 in
theorem s_digest (l : Launch) (D : va_G) (cyI cyO cyL : ClassId) {a : AX} {j : Nat} {g : SG} (hAd : Adr a) (hj : j < 512) (hJ : JE a j g) : GL l yX5_digest wsX5_digest D cyI cyO cyL [.ref a.1] (WXs cyI cyO a g) (WXs cyI cyO a g) (dgv g) := by
  obtain ⟨aX, t, r0, u0, r1, u1⟩ := a
  obtain ⟨cd, sw, fd, fn, n, ⟨w0, f0, od0, g0, B, co0, hr0⟩, ⟨w1, f1, od1, g1, B1, co1, hr1⟩, bc1, th, rn, ra⟩ := g
  obtain ⟨had0, had1, hne⟩ := hAd
  have had0 : ∀ i j, i < 6 → j < 6 → u0 (6 + i) = u0 (6 + j) → i = j := had0
  have had1 : ∀ i j, i < 6 → j < 6 → u1 (6 + i) = u1 (6 + j) → i = j := had1
  have hne : ∀ i j, i < 6 → j < 6 → u1 (6 + i) ≠ u0 (6 + j) := hne
  obtain ⟨hI, hfd, hfn, hgq⟩ := id hJ
  have hfd : ∃ F : Nat, F ≤ 9 ∧ fd = nI F := hfd
  have hfn : ∃ F : Nat, F ≤ 9 ∧ fn = nI F := hfn
  have hgq : GQ (72 * j) (fun k => u0 (6 + k)) (w0, f0, od0, g0, B, co0, hr0) := hgq
  have hI : InvE (fun k => u0 (6 + k)) j cd sw n (w0, f0, od0, g0, B, co0, hr0) od1 rn := hI
  obtain ⟨hn, hcd, hsw, hok, hrel, ho1, hz⟩ := id hI
  obtain ⟨m, hm, hg⟩ := hok.1.1
  have hg : g0 0 = nI m := hg
  have hc : (g0 0).toNatClampNeg = m := by rw [hg, nI_clamp (by omega)]
  have e9 := digest_rel (cd := cd) (sw := sw) (fd := fd) (fn := fn) (bu := nI n) (bc := nI n) hn hm hg hok.1.2.2.2.1 rfl hrel
  unfold dgv
  show GL l yX5_digest wsX5_digest D cyI cyO cyL _ _ _ (dgL (fun z => mbtold rn (nI (z / 7)) (nI (z % 7))) (7 * n) 0 (dgL (fun z => mstold rn n (g0 0).toNatClampNeg (nI (z / 5)) (nI (z % 5))) 120 0 (dgL (fun z => mgtold rn (nI z)) 7 0 (dgT cd sw fd fn (dgL (fun z => mcounted rn n (nI n) (nI z)) 9 0 1301)))))
  rw [hc, e9]
  exact gl_mk (c_X5_digest l D cyI cyO cyL (aX := aX) (aT := (t 0)) (aR0 := r0) (aR1 := r1) (ac := (t 1)) (as_ := (t 2)) (aW0 := (u0 0)) (aw0 := (u0 1)) (af0 := (u0 2)) (aG0 := (u0 3)) (ao0 := (u0 4)) (aB0 := (u0 5)) (aW1 := (u1 0)) (aw1 := (u1 1)) (af1 := (u1 2)) (aG1 := (u1 3)) (ao1 := (u1 4)) (aB1 := (u1 5)) (cd := cd) (sw := sw) (fd := fd) (fn := fn) (ab0 := (fun k => u0 (6 + k))) (w0 := w0) (f0 := f0) (od0 := od0) (g0 := g0) (bc0 := (nI n)) (hr0 := hr0) (co0 := co0) (ab1 := (fun k => u1 (6 + k))) (w1 := w1) (f1 := f1) (od1 := od1) (g1 := g1) (bc1 := bc1) (hr1 := hr1) (co1 := co1) (LB := (LB6 (fun k => u0 (6 + k)) ++ LB6 (fun k => u1 (6 + k)))) (B := B) (n := n) (o_ := m) (hn := hn) (hbc := rfl) (hLB0 := LBin0) (hm := hm) (hoc := hg) (hB := hok.1.2.2.2.1) (hhr := hok.1.2.2.2.2)) rfl rfl (Nat.le_of_ble_eq_true rfl) (Nat.le_of_ble_eq_true rfl)
set_option maxHeartbeats 1000000 in
set_option maxRecDepth 20000 in
theorem s_foresee (l : Launch) (D : va_G) (cyI cyO cyL : ClassId) {a : AX} {j : Nat} {g : SG} (hAd : Adr a) (hj : j < 512) (hJ : JE a j g) {h : Nat} (hh1 : 1 ≤ h) (hh2 : h ≤ 72) : ∃ (B : Nat → Nat → Int32) (q1 : RS) (b1 : Int32), GI l yX5_foresee wsX5_foresee D cyI cyO cyL (.ref a.1 :: [.int (nI h), .int 6]) (WXs cyI cyO a g) (WXs cyI cyO a (AH g B q1 b1)) (sv h g) ∧ JE a (j + 1) (AH g B q1 b1) := by
  obtain ⟨aX, t, r0, u0, r1, u1⟩ := a
  obtain ⟨cd, sw, fd, fn, n, ⟨w0, f0, od0, g0, B, co0, hr0⟩, ⟨w1, f1, od1, g1, B1, co1, hr1⟩, bc1, th, rn, ra⟩ := g
  obtain ⟨had0, had1, hne⟩ := hAd
  have had0 : ∀ i j, i < 6 → j < 6 → u0 (6 + i) = u0 (6 + j) → i = j := had0
  have had1 : ∀ i j, i < 6 → j < 6 → u1 (6 + i) = u1 (6 + j) → i = j := had1
  have hne : ∀ i j, i < 6 → j < 6 → u1 (6 + i) ≠ u0 (6 + j) := hne
  obtain ⟨hI, hfd, hfn, hgq⟩ := id hJ
  have hfd : ∃ F : Nat, F ≤ 9 ∧ fd = nI F := hfd
  have hfn : ∃ F : Nat, F ≤ 9 ∧ fn = nI F := hfn
  have hgq : GQ (72 * j) (fun k => u0 (6 + k)) (w0, f0, od0, g0, B, co0, hr0) := hgq
  have hI : InvE (fun k => u0 (6 + k)) j cd sw n (w0, f0, od0, g0, B, co0, hr0) od1 rn := hI
  obtain ⟨hn, hcd, hsw, hok, hrel, ho1, hz⟩ := id hI
  obtain ⟨m, hm, hg⟩ := hok.1.1
  have hg : g0 0 = nI m := hg
  have hc : (g0 0).toNatClampNeg = m := by rw [hg, nI_clamp (by omega)]
  have hcp := cpR_ok (n := n) (ab0 := (fun k => u0 (6 + k))) (ab1 := (fun k => u1 (6 + k))) (w1 := w1) (f1 := f1) (g1 := g1) hok ho1
  have hcr := cpy_rel (w1 := w1) (f1 := f1) (od1 := od1) (g1 := g1) (ra := rn) hn (fun i k h5 h6 => hne i k (by omega) (by omega)) (fun i k h5 h6 => had1 i k (by omega) (by omega)) hrel
  have hkb : ∀ a, (∀ i, i < n → a ≠ u1 (6 + i)) → bcL (fun k => u1 (6 + k)) (fun k => u0 (6 + k)) n 0 B a = B a := fun a h5 => bc_keepB h5 n 0 B (Nat.zero_add n)
  have hok2 := OkQ.hrs (cd := cd) (sw := sw) (fd := fd) (fn := fn) (ab := (fun k => u1 (6 + k))) (n := n) h (72 * j) _ (by omega) hcp
  have hrel2 := hours_rel (fd := fd) (fn := fn) hn (fun i k h5 h6 => had1 i k (by omega) (by omega)) hcd hsw h (72 * j) _ _ (by omega) hcp hcr
  have ern : va_cpy rn rn 0 0 121 = rn := by
    funext k
    unfold va_cpy
    split
    · exact congrArg rn (by omega)
    · rfl
  rw [ern] at hrel2
  have es := sumw_rel hrel2.1
  have hJ2 : JE (aX, t, r0, u0, r1, u1) (j + 1) (AH (cd, sw, fd, fn, n, (w0, f0, od0, g0, B, co0, hr0), (w1, f1, od1, g1, B1, co1, hr1), bc1, th, rn, ra) (hrsL cd sw fd fn (fun k => u1 (6 + k)) n h (cpR n (fun k => u0 (6 + k)) (fun k => u1 (6 + k)) w0 f0 od0 g0 B co0 hr0 w1 f1 od1 g1)).2.2.2.2.1 ((hrsL cd sw fd fn (fun k => u1 (6 + k)) n h (cpR n (fun k => u0 (6 + k)) (fun k => u1 (6 + k)) w0 f0 od0 g0 B co0 hr0 w1 f1 od1 g1)).1, (hrsL cd sw fd fn (fun k => u1 (6 + k)) n h (cpR n (fun k => u0 (6 + k)) (fun k => u1 (6 + k)) w0 f0 od0 g0 B co0 hr0 w1 f1 od1 g1)).2.1, (hrsL cd sw fd fn (fun k => u1 (6 + k)) n h (cpR n (fun k => u0 (6 + k)) (fun k => u1 (6 + k)) w0 f0 od0 g0 B co0 hr0 w1 f1 od1 g1)).2.2.1, (hrsL cd sw fd fn (fun k => u1 (6 + k)) n h (cpR n (fun k => u0 (6 + k)) (fun k => u1 (6 + k)) w0 f0 od0 g0 B co0 hr0 w1 f1 od1 g1)).2.2.2.1, (hrsL cd sw fd fn (fun k => u1 (6 + k)) n h (cpR n (fun k => u0 (6 + k)) (fun k => u1 (6 + k)) w0 f0 od0 g0 B co0 hr0 w1 f1 od1 g1)).2.2.2.2.1, (hrsL cd sw fd fn (fun k => u1 (6 + k)) n h (cpR n (fun k => u0 (6 + k)) (fun k => u1 (6 + k)) w0 f0 od0 g0 B co0 hr0 w1 f1 od1 g1)).2.2.2.2.2.1, (hrsL cd sw fd fn (fun k => u1 (6 + k)) n h (cpR n (fun k => u0 (6 + k)) (fun k => u1 (6 + k)) w0 f0 od0 g0 B co0 hr0 w1 f1 od1 g1)).2.2.2.2.2.2) (nI n)) := by
    have hk9 : ∀ a, (∀ i, i < n → a ≠ u1 (6 + i)) → (hrsL cd sw fd fn (fun k => u1 (6 + k)) n h (cpR n (fun k => u0 (6 + k)) (fun k => u1 (6 + k)) w0 f0 od0 g0 B co0 hr0 w1 f1 od1 g1)).2.2.2.2.1 a = B a := fun a h5 => (hrs_keepB h5 h _).trans (hkb a h5)
    have hI2 := ahead_inv (ab0 := fun k => u0 (6 + k)) (ab1 := fun k => u1 (6 + k)) hne hI hok2 hk9
    refine ⟨hI2, hfd, hfn, GQ_keep (hgq.mono (by omega)) (fun i hi => ?_) w0 f0 od0⟩
    have e9 : (hrsL cd sw fd fn (fun k => u1 (6 + k)) n h (cpR n (fun k => u0 (6 + k)) (fun k => u1 (6 + k)) w0 f0 od0 g0 B co0 hr0 w1 f1 od1 g1)).2.2.2.2.1 (u0 (6 + i)) = B (u0 (6 + i)) := hk9 _ fun z hz e => hne z i (by omega) (by omega) e.symm
    exact ⟨congrFun e9 3, congrFun e9 4, congrFun e9 5⟩
  have e6 : sv h (cd, sw, fd, fn, n, (w0, f0, od0, g0, B, co0, hr0), (w1, f1, od1, g1, B1, co1, hr1), bc1, th, rn, ra) = sumL (hrsL cd sw fd fn (fun k => u1 (6 + k)) n h (cpR n (fun k => u0 (6 + k)) (fun k => u1 (6 + k)) w0 f0 od0 g0 B co0 hr0 w1 f1 od1 g1)).1 24 0 0 := es
  refine ⟨_, _, _, ?_, hJ2⟩
  rw [e6]
  exact gi_mk (c_X5_foresee l D cyI cyO cyL (aX := aX) (aT := (t 0)) (aR0 := r0) (aR1 := r1) (ac := (t 1)) (as_ := (t 2)) (aW0 := (u0 0)) (aw0 := (u0 1)) (af0 := (u0 2)) (aG0 := (u0 3)) (ao0 := (u0 4)) (aB0 := (u0 5)) (aW1 := (u1 0)) (aw1 := (u1 1)) (af1 := (u1 2)) (aG1 := (u1 3)) (ao1 := (u1 4)) (aB1 := (u1 5)) (cd := cd) (sw := sw) (fd := fd) (fn := fn) (ab0 := (fun k => u0 (6 + k))) (w0 := w0) (f0 := f0) (od0 := od0) (g0 := g0) (bc0 := (nI n)) (hr0 := hr0) (co0 := co0) (ab1 := (fun k => u1 (6 + k))) (w1 := w1) (f1 := f1) (od1 := od1) (g1 := g1) (bc1 := bc1) (hr1 := hr1) (co1 := co1) (LB := (LB6 (fun k => u0 (6 + k)) ++ LB6 (fun k => u1 (6 + k)))) (B := B) (x_ := 6) (h_ := h) (n := n) (M_ := (72 * j)) (hn := hn) (hbc := rfl) (hLB0 := LBin0) (hLB1 := LBin1) (hok := hok) (ho1 := ho1) (hM := (by omega)) (hsw := hsw) (hh1 := hh1) (hh2 := hh2) (hwx := (Or.inr (by decide)))) rfl rfl (Nat.le_of_ble_eq_true rfl) (Nat.le_of_ble_eq_true rfl)
set_option maxHeartbeats 1000000 in
set_option maxRecDepth 20000 in
theorem s_falls (l : Launch) (D : va_G) (cyI cyO cyL : ClassId) {a : AX} {j : Nat} {g : SG} (hAd : Adr a) (hj : j < 512) (hJ : JE a j g) {s_ : Int32} (hs : vp_in s_ 24) : ∃ (B : Nat → Nat → Int32) (q1 : RS) (b1 : Int32) (r : Int32), GI l yX5_falls wsX5_falls D cyI cyO cyL (.ref a.1 :: [.int s_]) (WXs cyI cyO a g) (WXs cyI cyO a (AH g B q1 b1)) r ∧ (r = 0 ↔ ¬ dnI (zw g) s_ = 0) ∧ ¬ 96 < r ∧ JE a (j + 1) (AH g B q1 b1) := by
  obtain ⟨aX, t, r0, u0, r1, u1⟩ := a
  obtain ⟨cd, sw, fd, fn, n, ⟨w0, f0, od0, g0, B, co0, hr0⟩, ⟨w1, f1, od1, g1, B1, co1, hr1⟩, bc1, th, rn, ra⟩ := g
  obtain ⟨had0, had1, hne⟩ := hAd
  have had0 : ∀ i j, i < 6 → j < 6 → u0 (6 + i) = u0 (6 + j) → i = j := had0
  have had1 : ∀ i j, i < 6 → j < 6 → u1 (6 + i) = u1 (6 + j) → i = j := had1
  have hne : ∀ i j, i < 6 → j < 6 → u1 (6 + i) ≠ u0 (6 + j) := hne
  obtain ⟨hI, hfd, hfn, hgq⟩ := id hJ
  have hfd : ∃ F : Nat, F ≤ 9 ∧ fd = nI F := hfd
  have hfn : ∃ F : Nat, F ≤ 9 ∧ fn = nI F := hfn
  have hgq : GQ (72 * j) (fun k => u0 (6 + k)) (w0, f0, od0, g0, B, co0, hr0) := hgq
  have hI : InvE (fun k => u0 (6 + k)) j cd sw n (w0, f0, od0, g0, B, co0, hr0) od1 rn := hI
  obtain ⟨hn, hcd, hsw, hok, hrel, ho1, hz⟩ := id hI
  obtain ⟨m, hm, hg⟩ := hok.1.1
  have hg : g0 0 = nI m := hg
  have hc : (g0 0).toNatClampNeg = m := by rw [hg, nI_clamp (by omega)]
  have hcp := cpR_ok (n := n) (ab0 := (fun k => u0 (6 + k))) (ab1 := (fun k => u1 (6 + k))) (w1 := w1) (f1 := f1) (g1 := g1) hok ho1
  have hcr := cpy_rel (w1 := w1) (f1 := f1) (od1 := od1) (g1 := g1) (ra := rn) hn (fun i k h5 h6 => hne i k (by omega) (by omega)) (fun i k h5 h6 => had1 i k (by omega) (by omega)) hrel
  have hkb : ∀ a, (∀ i, i < n → a ≠ u1 (6 + i)) → bcL (fun k => u1 (6 + k)) (fun k => u0 (6 + k)) n 0 B a = B a := fun a h5 => bc_keepB h5 n 0 B (Nat.zero_add n)
  have hf := falls_rel (fd := fd) (fn := fn) hn (fun i k h5 h6 => had1 i k (by omega) (by omega)) hcd hsw hs 97 0 (72 * j) _ _ (by omega) hcp hcr
  have hq := fal_q (cd := cd) (sw := sw) (fd := fd) (fn := fn) (ab := fun k => u1 (6 + k)) (n := n) (s_ := s_) (cpR n (fun k => u0 (6 + k)) (fun k => u1 (6 + k)) w0 f0 od0 g0 B co0 hr0 w1 f1 od1 g1)
  have hcon := (c_X5_falls l D cyI cyO cyL (aX := aX) (aT := (t 0)) (aR0 := r0) (aR1 := r1) (ac := (t 1)) (as_ := (t 2)) (aW0 := (u0 0)) (aw0 := (u0 1)) (af0 := (u0 2)) (aG0 := (u0 3)) (ao0 := (u0 4)) (aB0 := (u0 5)) (aW1 := (u1 0)) (aw1 := (u1 1)) (af1 := (u1 2)) (aG1 := (u1 3)) (ao1 := (u1 4)) (aB1 := (u1 5)) (cd := cd) (sw := sw) (fd := fd) (fn := fn) (ab0 := (fun k => u0 (6 + k))) (w0 := w0) (f0 := f0) (od0 := od0) (g0 := g0) (bc0 := (nI n)) (hr0 := hr0) (co0 := co0) (ab1 := (fun k => u1 (6 + k))) (w1 := w1) (f1 := f1) (od1 := od1) (g1 := g1) (bc1 := bc1) (hr1 := hr1) (co1 := co1) (LB := (LB6 (fun k => u0 (6 + k)) ++ LB6 (fun k => u1 (6 + k)))) (B := B) (s_ := s_) (n := n) (M_ := (72 * j)) (hi := hs) (hn := hn) (hbc := rfl) (hLB0 := LBin0) (hLB1 := LBin1) (hok := hok) (ho1 := ho1) (hM := (by omega)) (hsw := hsw))
  have hk9 : ∀ a, (∀ i, i < n → a ≠ u1 (6 + i)) → (fallsL cd sw fd fn (fun k => u1 (6 + k)) n s_ 97 0 (cpR n (fun k => u0 (6 + k)) (fun k => u1 (6 + k)) w0 f0 od0 g0 B co0 hr0 w1 f1 od1 g1)).2.2.2.2.2.1 a = B a := fun a h5 => (hf.2.1 a h5).trans (hkb a h5)
  have hok9 := hf.2.2
  clear hf
  generalize (fallsL cd sw fd fn (fun k => u1 (6 + k)) n s_ 97 0 (cpR n (fun k => u0 (6 + k)) (fun k => u1 (6 + k)) w0 f0 od0 g0 B co0 hr0 w1 f1 od1 g1)) = X at hq hcon hk9 hok9
  have hJ2 : JE (aX, t, r0, u0, r1, u1) (j + 1) (AH (cd, sw, fd, fn, n, (w0, f0, od0, g0, B, co0, hr0), (w1, f1, od1, g1, B1, co1, hr1), bc1, th, rn, ra) X.2.2.2.2.2.1 (X.2.1, X.2.2.1, X.2.2.2.1, X.2.2.2.2.1, X.2.2.2.2.2.1, X.2.2.2.2.2.2.1, X.2.2.2.2.2.2.2) (nI n)) := by
    have hk9 : ∀ a, (∀ i, i < n → a ≠ u1 (6 + i)) → X.2.2.2.2.2.1 a = B a := hk9
    have hI2 := ahead_inv (ab0 := fun k => u0 (6 + k)) (ab1 := fun k => u1 (6 + k)) hne hI hok9 hk9
    refine ⟨hI2, hfd, hfn, GQ_keep (hgq.mono (by omega)) (fun i hi => ?_) w0 f0 od0⟩
    have e9 : X.2.2.2.2.2.1 (u0 (6 + i)) = B (u0 (6 + i)) := hk9 _ fun z hz e => hne z i (by omega) (by omega) e.symm
    exact ⟨congrFun e9 3, congrFun e9 4, congrFun e9 5⟩
  have e1 : dnI (va_cpy w0 w1 0 0 24) s_ = dnI w0 s_ := by
    have hl := vp_lt hs
    have e0 : va_cpy w0 w1 0 0 24 s_.toNatClampNeg = w0 s_.toNatClampNeg := by
      unfold va_cpy
      rw [if_pos (by omega)]
      exact congrArg w0 (by omega)
    unfold dnI
    rw [e0]
  have hq1 := hq.1.trans (not_congr (show dnI ((cpR n (fun k => u0 (6 + k)) (fun k => u1 (6 + k)) w0 f0 od0 g0 B co0 hr0 w1 f1 od1 g1)).1 s_ = 0 ↔ dnI w0 s_ = 0 by rw [show dnI ((cpR n (fun k => u0 (6 + k)) (fun k => u1 (6 + k)) w0 f0 od0 g0 B co0 hr0 w1 f1 od1 g1)).1 s_ = dnI w0 s_ from e1]))
  exact ⟨_, _, _, _, gi_mk hcon rfl rfl (Nat.le_of_ble_eq_true rfl) (Nat.le_of_ble_eq_true rfl), hq1, hq.2, hJ2⟩
set_option maxHeartbeats 1000000 in
set_option maxRecDepth 20000 in
theorem s_advise (l : Launch) (D : va_G) (cyI cyO cyL : ClassId) {a : AX} {j : Nat} {g : SG} (hAd : Adr a) (hj : j < 512) (hJ : JE a j g) {h : Nat} (hh1 : 1 ≤ h) (hh2 : h ≤ 48) : ∃ (B : Nat → Nat → Int32) (q1 : RS) (b1 : Int32) (r : Int32), GI l yX5_advise wsX5_advise D cyI cyO cyL (.ref a.1 :: [.int (nI h)]) (WXs cyI cyO a g) (WXs cyI cyO a (AH g B q1 b1)) r ∧ r ≤ 23 ∧ JE a (j + 1) (AH g B q1 b1) := by
  obtain ⟨aX, t, r0, u0, r1, u1⟩ := a
  obtain ⟨cd, sw, fd, fn, n, ⟨w0, f0, od0, g0, B, co0, hr0⟩, ⟨w1, f1, od1, g1, B1, co1, hr1⟩, bc1, th, rn, ra⟩ := g
  obtain ⟨had0, had1, hne⟩ := hAd
  have had0 : ∀ i j, i < 6 → j < 6 → u0 (6 + i) = u0 (6 + j) → i = j := had0
  have had1 : ∀ i j, i < 6 → j < 6 → u1 (6 + i) = u1 (6 + j) → i = j := had1
  have hne : ∀ i j, i < 6 → j < 6 → u1 (6 + i) ≠ u0 (6 + j) := hne
  obtain ⟨hI, hfd, hfn, hgq⟩ := id hJ
  have hfd : ∃ F : Nat, F ≤ 9 ∧ fd = nI F := hfd
  have hfn : ∃ F : Nat, F ≤ 9 ∧ fn = nI F := hfn
  have hgq : GQ (72 * j) (fun k => u0 (6 + k)) (w0, f0, od0, g0, B, co0, hr0) := hgq
  have hI : InvE (fun k => u0 (6 + k)) j cd sw n (w0, f0, od0, g0, B, co0, hr0) od1 rn := hI
  obtain ⟨hn, hcd, hsw, hok, hrel, ho1, hz⟩ := id hI
  obtain ⟨m, hm, hg⟩ := hok.1.1
  have hg : g0 0 = nI m := hg
  have hc : (g0 0).toNatClampNeg = m := by rw [hg, nI_clamp (by omega)]
  have hcw := cw_rel (fd := fd) (fn := fn) (s_ := -1) (ra := ra) (M := 72 * j) (h_ := h) (q := (w1, f1, od1, g1, B, co1, hr1)) hn (fun i k h5 h6 => hne i k (by omega) (by omega)) (fun i k h5 h6 => had1 i k (by omega) (by omega)) hcd hsw (by omega) (Or.inl rfl) hok ho1 hrel
  have ha := adv_rel (fd := fd) (fn := fn) (M := 72 * j) (h_ := h) hn (fun i k h5 h6 => hne i k (by omega) (by omega)) (fun i k h5 h6 => had1 i k (by omega) (by omega)) hcd hsw (by omega) hok hrel 24 0 (-1) (cwR cd sw fd fn n (fun k => u0 (6 + k)) (fun k => u1 (6 + k)) w0 f0 od0 g0 co0 hr0 (-1) h (w1, f1, od1, g1, B, co1, hr1)).2.2.2.2.2.1 (cwR cd sw fd fn n (fun k => u0 (6 + k)) (fun k => u1 (6 + k)) w0 f0 od0 g0 co0 hr0 (-1) h (w1, f1, od1, g1, B, co1, hr1)) (mcw cd sw fd fn n h rn (-1) ra) rfl hcw.2.2 hcw.2.1
  have hJ2 : JE (aX, t, r0, u0, r1, u1) (j + 1) (AH (cd, sw, fd, fn, n, (w0, f0, od0, g0, B, co0, hr0), (w1, f1, od1, g1, B1, co1, hr1), bc1, th, rn, ra) (advL (fun z => cwR cd sw fd fn n (fun k => u0 (6 + k)) (fun k => u1 (6 + k)) w0 f0 od0 g0 co0 hr0 z h) 24 0 (-1) (cwR cd sw fd fn n (fun k => u0 (6 + k)) (fun k => u1 (6 + k)) w0 f0 od0 g0 co0 hr0 (-1) h (w1, f1, od1, g1, B, co1, hr1)).2.2.2.2.2.1 (cwR cd sw fd fn n (fun k => u0 (6 + k)) (fun k => u1 (6 + k)) w0 f0 od0 g0 co0 hr0 (-1) h (w1, f1, od1, g1, B, co1, hr1))).2.2.2.2.2.1 ((advL (fun z => cwR cd sw fd fn n (fun k => u0 (6 + k)) (fun k => u1 (6 + k)) w0 f0 od0 g0 co0 hr0 z h) 24 0 (-1) (cwR cd sw fd fn n (fun k => u0 (6 + k)) (fun k => u1 (6 + k)) w0 f0 od0 g0 co0 hr0 (-1) h (w1, f1, od1, g1, B, co1, hr1)).2.2.2.2.2.1 (cwR cd sw fd fn n (fun k => u0 (6 + k)) (fun k => u1 (6 + k)) w0 f0 od0 g0 co0 hr0 (-1) h (w1, f1, od1, g1, B, co1, hr1))).2.1, (advL (fun z => cwR cd sw fd fn n (fun k => u0 (6 + k)) (fun k => u1 (6 + k)) w0 f0 od0 g0 co0 hr0 z h) 24 0 (-1) (cwR cd sw fd fn n (fun k => u0 (6 + k)) (fun k => u1 (6 + k)) w0 f0 od0 g0 co0 hr0 (-1) h (w1, f1, od1, g1, B, co1, hr1)).2.2.2.2.2.1 (cwR cd sw fd fn n (fun k => u0 (6 + k)) (fun k => u1 (6 + k)) w0 f0 od0 g0 co0 hr0 (-1) h (w1, f1, od1, g1, B, co1, hr1))).2.2.1, (advL (fun z => cwR cd sw fd fn n (fun k => u0 (6 + k)) (fun k => u1 (6 + k)) w0 f0 od0 g0 co0 hr0 z h) 24 0 (-1) (cwR cd sw fd fn n (fun k => u0 (6 + k)) (fun k => u1 (6 + k)) w0 f0 od0 g0 co0 hr0 (-1) h (w1, f1, od1, g1, B, co1, hr1)).2.2.2.2.2.1 (cwR cd sw fd fn n (fun k => u0 (6 + k)) (fun k => u1 (6 + k)) w0 f0 od0 g0 co0 hr0 (-1) h (w1, f1, od1, g1, B, co1, hr1))).2.2.2.1, (advL (fun z => cwR cd sw fd fn n (fun k => u0 (6 + k)) (fun k => u1 (6 + k)) w0 f0 od0 g0 co0 hr0 z h) 24 0 (-1) (cwR cd sw fd fn n (fun k => u0 (6 + k)) (fun k => u1 (6 + k)) w0 f0 od0 g0 co0 hr0 (-1) h (w1, f1, od1, g1, B, co1, hr1)).2.2.2.2.2.1 (cwR cd sw fd fn n (fun k => u0 (6 + k)) (fun k => u1 (6 + k)) w0 f0 od0 g0 co0 hr0 (-1) h (w1, f1, od1, g1, B, co1, hr1))).2.2.2.2.1, (advL (fun z => cwR cd sw fd fn n (fun k => u0 (6 + k)) (fun k => u1 (6 + k)) w0 f0 od0 g0 co0 hr0 z h) 24 0 (-1) (cwR cd sw fd fn n (fun k => u0 (6 + k)) (fun k => u1 (6 + k)) w0 f0 od0 g0 co0 hr0 (-1) h (w1, f1, od1, g1, B, co1, hr1)).2.2.2.2.2.1 (cwR cd sw fd fn n (fun k => u0 (6 + k)) (fun k => u1 (6 + k)) w0 f0 od0 g0 co0 hr0 (-1) h (w1, f1, od1, g1, B, co1, hr1))).2.2.2.2.2.1, (advL (fun z => cwR cd sw fd fn n (fun k => u0 (6 + k)) (fun k => u1 (6 + k)) w0 f0 od0 g0 co0 hr0 z h) 24 0 (-1) (cwR cd sw fd fn n (fun k => u0 (6 + k)) (fun k => u1 (6 + k)) w0 f0 od0 g0 co0 hr0 (-1) h (w1, f1, od1, g1, B, co1, hr1)).2.2.2.2.2.1 (cwR cd sw fd fn n (fun k => u0 (6 + k)) (fun k => u1 (6 + k)) w0 f0 od0 g0 co0 hr0 (-1) h (w1, f1, od1, g1, B, co1, hr1))).2.2.2.2.2.2.1, (advL (fun z => cwR cd sw fd fn n (fun k => u0 (6 + k)) (fun k => u1 (6 + k)) w0 f0 od0 g0 co0 hr0 z h) 24 0 (-1) (cwR cd sw fd fn n (fun k => u0 (6 + k)) (fun k => u1 (6 + k)) w0 f0 od0 g0 co0 hr0 (-1) h (w1, f1, od1, g1, B, co1, hr1)).2.2.2.2.2.1 (cwR cd sw fd fn n (fun k => u0 (6 + k)) (fun k => u1 (6 + k)) w0 f0 od0 g0 co0 hr0 (-1) h (w1, f1, od1, g1, B, co1, hr1))).2.2.2.2.2.2.2) (nI n)) := by
    have hk9 : ∀ a, (∀ i, i < n → a ≠ u1 (6 + i)) → (advL (fun z => cwR cd sw fd fn n (fun k => u0 (6 + k)) (fun k => u1 (6 + k)) w0 f0 od0 g0 co0 hr0 z h) 24 0 (-1) (cwR cd sw fd fn n (fun k => u0 (6 + k)) (fun k => u1 (6 + k)) w0 f0 od0 g0 co0 hr0 (-1) h (w1, f1, od1, g1, B, co1, hr1)).2.2.2.2.2.1 (cwR cd sw fd fn n (fun k => u0 (6 + k)) (fun k => u1 (6 + k)) w0 f0 od0 g0 co0 hr0 (-1) h (w1, f1, od1, g1, B, co1, hr1))).2.2.2.2.2.1 a = B a := fun a h5 => ha.2.1 a h5
    have hI2 := ahead_inv (ab0 := fun k => u0 (6 + k)) (ab1 := fun k => u1 (6 + k)) hne hI ha.2.2 hk9
    refine ⟨hI2, hfd, hfn, GQ_keep (hgq.mono (by omega)) (fun i hi => ?_) w0 f0 od0⟩
    have e9 : (advL (fun z => cwR cd sw fd fn n (fun k => u0 (6 + k)) (fun k => u1 (6 + k)) w0 f0 od0 g0 co0 hr0 z h) 24 0 (-1) (cwR cd sw fd fn n (fun k => u0 (6 + k)) (fun k => u1 (6 + k)) w0 f0 od0 g0 co0 hr0 (-1) h (w1, f1, od1, g1, B, co1, hr1)).2.2.2.2.2.1 (cwR cd sw fd fn n (fun k => u0 (6 + k)) (fun k => u1 (6 + k)) w0 f0 od0 g0 co0 hr0 (-1) h (w1, f1, od1, g1, B, co1, hr1))).2.2.2.2.2.1 (u0 (6 + i)) = B (u0 (6 + i)) := hk9 _ fun z hz e => hne z i (by omega) (by omega) e.symm
    exact ⟨congrFun e9 3, congrFun e9 4, congrFun e9 5⟩
  exact ⟨_, _, _, _, gi_mk (c_X5_advise l D cyI cyO cyL (aX := aX) (aT := (t 0)) (aR0 := r0) (aR1 := r1) (ac := (t 1)) (as_ := (t 2)) (aW0 := (u0 0)) (aw0 := (u0 1)) (af0 := (u0 2)) (aG0 := (u0 3)) (ao0 := (u0 4)) (aB0 := (u0 5)) (aW1 := (u1 0)) (aw1 := (u1 1)) (af1 := (u1 2)) (aG1 := (u1 3)) (ao1 := (u1 4)) (aB1 := (u1 5)) (cd := cd) (sw := sw) (fd := fd) (fn := fn) (ab0 := (fun k => u0 (6 + k))) (w0 := w0) (f0 := f0) (od0 := od0) (g0 := g0) (bc0 := (nI n)) (hr0 := hr0) (co0 := co0) (ab1 := (fun k => u1 (6 + k))) (w1 := w1) (f1 := f1) (od1 := od1) (g1 := g1) (bc1 := bc1) (hr1 := hr1) (co1 := co1) (LB := (LB6 (fun k => u0 (6 + k)) ++ LB6 (fun k => u1 (6 + k)))) (B := B) (h_ := h) (n := n) (M_ := (72 * j)) (hn := hn) (hbc := rfl) (hLB0 := LBin0) (hLB1 := LBin1) (hok := hok) (ho1 := ho1) (hM := (by omega)) (hsw := hsw) (hh1 := hh1) (hh2 := hh2)) rfl rfl (Nat.le_of_ble_eq_true rfl) (Nat.le_of_ble_eq_true rfl), adv_q 24 0 (-1) _ _ (Nat.le_refl _) (by decide), hJ2⟩
set_option maxHeartbeats 1000000 in
set_option maxRecDepth 20000 in
theorem s_order (l : Launch) (D : va_G) (cyI cyO cyL : ClassId) {a : AX} {j : Nat} {g : SG} (hAd : Adr a) (hj : j < 512) (hJ : JE a j g) {s_ : Int32} (hs : vp_in s_ 24) (h6 : ¬ 6 ≤ zg g 0) (hp : ¬ 0 ≤ pofL (zo g) s_ (zg g 0).toNatClampNeg 0) : ∃ (g2 : SG) (r : Int32), GI l yX5_order wsX5_order D cyI cyO cyL (.ref a.1 :: [.int s_]) (WXs cyI cyO a g) (WXs cyI cyO a g2) r ∧ JE a j g2 ∧ zn g2 = zn g := by
  obtain ⟨aX, t, r0, u0, r1, u1⟩ := a
  obtain ⟨cd, sw, fd, fn, n, ⟨w0, f0, od0, g0, B, co0, hr0⟩, ⟨w1, f1, od1, g1, B1, co1, hr1⟩, bc1, th, rn, ra⟩ := g
  obtain ⟨had0, had1, hne⟩ := hAd
  have had0 : ∀ i j, i < 6 → j < 6 → u0 (6 + i) = u0 (6 + j) → i = j := had0
  have had1 : ∀ i j, i < 6 → j < 6 → u1 (6 + i) = u1 (6 + j) → i = j := had1
  have hne : ∀ i j, i < 6 → j < 6 → u1 (6 + i) ≠ u0 (6 + j) := hne
  obtain ⟨hI, hfd, hfn, hgq⟩ := id hJ
  have hfd : ∃ F : Nat, F ≤ 9 ∧ fd = nI F := hfd
  have hfn : ∃ F : Nat, F ≤ 9 ∧ fn = nI F := hfn
  have hgq : GQ (72 * j) (fun k => u0 (6 + k)) (w0, f0, od0, g0, B, co0, hr0) := hgq
  have hI : InvE (fun k => u0 (6 + k)) j cd sw n (w0, f0, od0, g0, B, co0, hr0) od1 rn := hI
  obtain ⟨hn, hcd, hsw, hok, hrel, ho1, hz⟩ := id hI
  obtain ⟨m, hm, hg⟩ := hok.1.1
  have hg : g0 0 = nI m := hg
  have hc : (g0 0).toNatClampNeg = m := by rw [hg, nI_clamp (by omega)]
  have h6 : ¬ 6 ≤ g0 0 := h6
  have hp : ¬ 0 ≤ pofL od0 s_ (g0 0).toNatClampNeg 0 := hp
  rw [hc] at hp
  rw [hg] at h6
  have h2 : m < 6 := by
    have h9 := mt (nI_leI (a := 6) (b := m) (by decide) (by omega)).mpr h6
    omega
  have h3 : pofL od0 s_ m 0 = -1 := by
    rcases pof_cases (od := od0) (x := s_) m 0 with e | ⟨z, -, h8, e⟩
    · exact e
    · rw [e] at hp
      exact absurd (nI_le (a := 0) (b := z) (by omega) (by omega)) hp
  have hrel2 := order_rel (s_ := s_) hn h2 hg hrel
  have hok2 : OkQ (72 * j) (w0, f0, upd od0 m s_, upd g0 0 (nI (m + 1)), B, co0, hr0) := by
    obtain ⟨⟨k1, k2, k3, k4, k5⟩, k6⟩ := hok
    refine ⟨⟨⟨m + 1, h2, by show upd g0 0 (nI (m + 1)) 0 = nI (m + 1); exact pk_us⟩, by show vp_in (upd g0 0 (nI (m + 1)) 1) 24; rw [upd_ne _ _ (by decide)]; exact k2, fun k => ?_, k4, k5⟩, k6⟩
    show vp_in (upd od0 m s_ k) 24
    by_cases e : k = m
    · rw [e, pk_us]
      exact hs
    · rw [upd_ne _ _ e]
      exact k3 k
  have hz2 : ∀ i x, n ≤ i → i < 6 → x < 6 → upd (upd rn (113 + m) s_) 109 (nI (m + 1)) (72 + 6 * i + x) = 0 ∧ B (u0 (6 + i)) x = 0 := fun i x h5 h6 h7 => by
    rw [upd_ne _ _ (by omega), upd_ne _ _ (by omega)]
    exact hz i x h5 h6 h7
  have hgq2 : GQ (72 * j) (fun k => u0 (6 + k)) (w0, f0, upd od0 m s_, upd g0 0 (nI (m + 1)), B, co0, hr0) := by
    obtain ⟨H, a, b, c, h1, h2_, h3_, h4, h5, h6_, h7, h8, h9, h10⟩ := hgq
    have ug : ∀ k, k ≠ 0 → upd g0 0 (nI (m + 1)) k = g0 k := fun k hk => upd_ne _ _ hk
    refine ⟨H, a, b, c, h1, h2_, (ug 2 (by decide)).trans h3_, (ug 3 (by decide)).trans h4, (ug 4 (by decide)).trans h5, h6_, h7, fun e => ?_, h9, ?_⟩
    · have e : nI (m + 1) = 0 := (pk_us (f := g0) (k := 0)).symm.trans e
      have := (nI_eq (a := m + 1) (b := 0) (by omega) (by decide)).mp e
      omega
    · show co0 = B (u0 (6 + 0)) 4 + B (u0 (6 + 1)) 4 + B (u0 (6 + 2)) 4 - 2 * upd g0 0 (nI (m + 1)) 3
      rw [upd_ne _ _ (by decide)]
      exact h10
  exact ⟨(cd, sw, fd, fn, n, (w0, f0, upd od0 m s_, upd g0 0 (nI (m + 1)), B, co0, hr0), (w1, f1, od1, g1, B1, co1, hr1), bc1, th, upd (upd rn (113 + m) s_) 109 (nI (m + 1)), ra), _, gi_mk (c_X5_order l D cyI cyO cyL (aX := aX) (aT := (t 0)) (aR0 := r0) (aR1 := r1) (ac := (t 1)) (as_ := (t 2)) (aW0 := (u0 0)) (aw0 := (u0 1)) (af0 := (u0 2)) (aG0 := (u0 3)) (ao0 := (u0 4)) (aB0 := (u0 5)) (aW1 := (u1 0)) (aw1 := (u1 1)) (af1 := (u1 2)) (aG1 := (u1 3)) (ao1 := (u1 4)) (aB1 := (u1 5)) (cd := cd) (sw := sw) (fd := fd) (fn := fn) (ab0 := (fun k => u0 (6 + k))) (w0 := w0) (f0 := f0) (od0 := od0) (g0 := g0) (bc0 := (nI n)) (hr0 := hr0) (co0 := co0) (ab1 := (fun k => u1 (6 + k))) (w1 := w1) (f1 := f1) (od1 := od1) (g1 := g1) (bc1 := bc1) (hr1 := hr1) (co1 := co1) (LB := (LB6 (fun k => u0 (6 + k)) ++ LB6 (fun k => u1 (6 + k)))) (B := B) (s_ := s_) (o_ := m) (hi := hs) (hm := h2) (hoc := hg) (hp := h3)) rfl rfl (Nat.le_of_ble_eq_true rfl) (Nat.le_of_ble_eq_true rfl), ⟨⟨hn, hcd, hsw, hok2, hrel2, ho1, hz2⟩, hfd, hfn, hgq2⟩, rfl⟩
set_option maxHeartbeats 1000000 in
set_option maxRecDepth 20000 in
theorem s_cancel (l : Launch) (D : va_G) (cyI cyO cyL : ClassId) {a : AX} {j : Nat} {g : SG} (hAd : Adr a) (hj : j < 512) (hJ : JE a j g) {s_ : Int32} (hs : vp_in s_ 24) (hp : ¬ pofL (zo g) s_ (zg g 0).toNatClampNeg 0 < 0) : ∃ (g2 : SG) (r : Int32), GI l yX5_cancel wsX5_cancel D cyI cyO cyL (.ref a.1 :: [.int s_]) (WXs cyI cyO a g) (WXs cyI cyO a g2) r ∧ JE a j g2 ∧ zn g2 = zn g := by
  obtain ⟨aX, t, r0, u0, r1, u1⟩ := a
  obtain ⟨cd, sw, fd, fn, n, ⟨w0, f0, od0, g0, B, co0, hr0⟩, ⟨w1, f1, od1, g1, B1, co1, hr1⟩, bc1, th, rn, ra⟩ := g
  obtain ⟨had0, had1, hne⟩ := hAd
  have had0 : ∀ i j, i < 6 → j < 6 → u0 (6 + i) = u0 (6 + j) → i = j := had0
  have had1 : ∀ i j, i < 6 → j < 6 → u1 (6 + i) = u1 (6 + j) → i = j := had1
  have hne : ∀ i j, i < 6 → j < 6 → u1 (6 + i) ≠ u0 (6 + j) := hne
  obtain ⟨hI, hfd, hfn, hgq⟩ := id hJ
  have hfd : ∃ F : Nat, F ≤ 9 ∧ fd = nI F := hfd
  have hfn : ∃ F : Nat, F ≤ 9 ∧ fn = nI F := hfn
  have hgq : GQ (72 * j) (fun k => u0 (6 + k)) (w0, f0, od0, g0, B, co0, hr0) := hgq
  have hI : InvE (fun k => u0 (6 + k)) j cd sw n (w0, f0, od0, g0, B, co0, hr0) od1 rn := hI
  obtain ⟨hn, hcd, hsw, hok, hrel, ho1, hz⟩ := id hI
  obtain ⟨m, hm, hg⟩ := hok.1.1
  have hg : g0 0 = nI m := hg
  have hc : (g0 0).toNatClampNeg = m := by rw [hg, nI_clamp (by omega)]
  have hp : ¬ pofL od0 s_ (g0 0).toNatClampNeg 0 < 0 := hp
  rw [hc] at hp
  rcases pof_cases (od := od0) (x := s_) m 0 with e | ⟨z, -, h8, h3⟩
  · rw [e] at hp
    exact absurd (by decide) hp
  have hzm : z < m := by omega
  have hrel2 := cancel_rel hn hm hzm hg hrel
  have htg : (takeS od0 g0 z m).2 0 = g0 0 - 1 ∧ (takeS od0 g0 z m).2 1 = g0 1 ∧ (takeS od0 g0 z m).2 3 = g0 3 ∧ (takeS od0 g0 z m).2 4 = g0 4 ∧ ((z = 0 ∧ (takeS od0 g0 z m).2 2 = 0) ∨ (z ≠ 0 ∧ (takeS od0 g0 z m).2 2 = g0 2)) := by
    unfold takeS
    dsimp only
    split
    · rename_i e0
      have z0 : z = 0 := (nI_eq (a := z) (b := 0) (by omega) (by decide)).mp e0
      exact ⟨by rw [upd_ne _ _ (by decide), pk_us], by rw [upd_ne _ _ (by decide), upd_ne _ _ (by decide)], by rw [upd_ne _ _ (by decide), upd_ne _ _ (by decide)], by rw [upd_ne _ _ (by decide), upd_ne _ _ (by decide)], Or.inl ⟨z0, pk_us⟩⟩
    · rename_i e0
      have z0 : z ≠ 0 := fun e => e0 (by rw [e]; rfl)
      exact ⟨by rw [pk_us], by rw [upd_ne _ _ (by decide)], by rw [upd_ne _ _ (by decide)], by rw [upd_ne _ _ (by decide)], Or.inr ⟨z0, by rw [upd_ne _ _ (by decide)]⟩⟩
  have hm1 : (takeS od0 g0 z m).2 0 = nI (m - 1) := by
    obtain ⟨m, rfl⟩ : ∃ z, m = z + 1 := ⟨m - 1, by omega⟩
    rw [htg.1, hg]
    exact nI_pred m
  have hok2 : OkQ (72 * j) (w0, f0, (takeS od0 g0 z m).1, (takeS od0 g0 z m).2, B, co0, hr0) := by
    obtain ⟨⟨k1, k2, k3, k4, k5⟩, k6⟩ := hok
    exact ⟨⟨⟨m - 1, by omega, hm1⟩, by show vp_in ((takeS od0 g0 z m).2 1) 24; rw [htg.2.1]; exact k2, tkL_ok _ _ _ k3, k4, k5⟩, k6⟩
  have hz2 : ∀ i x, n ≤ i → i < 6 → x < 6 → mrem rn z m (72 + 6 * i + x) = 0 ∧ B (u0 (6 + i)) x = 0 := fun i x h5 h6 h7 => by
    rw [mrem_keep hzm (by omega)]
    exact hz i x h5 h6 h7
  have hgq2 : GQ (72 * j) (fun k => u0 (6 + k)) (w0, f0, (takeS od0 g0 z m).1, (takeS od0 g0 z m).2, B, co0, hr0) := by
    obtain ⟨H, a, b, c, h1, h2_, h3_, h4, h5, h6_, h7, h8_, h9, h10⟩ := hgq
    have h10 : co0 = B (u0 (6 + 0)) 4 + B (u0 (6 + 1)) 4 + B (u0 (6 + 2)) 4 - 2 * (takeS od0 g0 z m).2 3 := by rw [htg.2.2.1]; exact h10
    rcases htg.2.2.2.2 with ⟨z0, e2⟩ | ⟨z0, e2⟩
    · exact ⟨H, 0, b, c, h1, h2_, e2, htg.2.2.1.trans h4, htg.2.2.2.1.trans h5, by omega, h7, fun _ => rfl, h9, h10⟩
    · refine ⟨H, a, b, c, h1, h2_, e2.trans h3_, htg.2.2.1.trans h4, htg.2.2.2.1.trans h5, h6_, h7, fun e => ?_, h9, h10⟩
      have e : nI (m - 1) = 0 := hm1.symm.trans e
      have := (nI_eq (a := m - 1) (b := 0) (by omega) (by decide)).mp e
      omega
  exact ⟨(cd, sw, fd, fn, n, (w0, f0, (takeS od0 g0 z m).1, (takeS od0 g0 z m).2, B, co0, hr0), (w1, f1, od1, g1, B1, co1, hr1), bc1, th, mrem rn z m, ra), _, gi_mk (c_X5_cancel l D cyI cyO cyL (aX := aX) (aT := (t 0)) (aR0 := r0) (aR1 := r1) (ac := (t 1)) (as_ := (t 2)) (aW0 := (u0 0)) (aw0 := (u0 1)) (af0 := (u0 2)) (aG0 := (u0 3)) (ao0 := (u0 4)) (aB0 := (u0 5)) (aW1 := (u1 0)) (aw1 := (u1 1)) (af1 := (u1 2)) (aG1 := (u1 3)) (ao1 := (u1 4)) (aB1 := (u1 5)) (cd := cd) (sw := sw) (fd := fd) (fn := fn) (ab0 := (fun k => u0 (6 + k))) (w0 := w0) (f0 := f0) (od0 := od0) (g0 := g0) (bc0 := (nI n)) (hr0 := hr0) (co0 := co0) (ab1 := (fun k => u1 (6 + k))) (w1 := w1) (f1 := f1) (od1 := od1) (g1 := g1) (bc1 := bc1) (hr1 := hr1) (co1 := co1) (LB := (LB6 (fun k => u0 (6 + k)) ++ LB6 (fun k => u1 (6 + k)))) (B := B) (s_ := s_) (o_ := m) (p_ := z) (hi := hs) (hm := hm) (hoc := hg) (hp := h3) (hpm := hzm)) rfl rfl (Nat.le_of_ble_eq_true rfl) (Nat.le_of_ble_eq_true rfl), ⟨⟨hn, hcd, hsw, hok2, hrel2, ho1, hz2⟩, hfd, hfn, hgq2⟩, rfl⟩
set_option maxHeartbeats 1000000 in
set_option maxRecDepth 20000 in
theorem s_park (l : Launch) (D : va_G) (cyI cyO cyL : ClassId) {a : AX} {j : Nat} {g : SG} (hAd : Adr a) (hj : j < 512) (hJ : JE a j g) {b_ : Int32} (hb : vp_in b_ (zn g)) : ∃ (g2 : SG) (r : Int32), GI l yX5_park wsX5_park D cyI cyO cyL (.ref a.1 :: [.int b_]) (WXs cyI cyO a g) (WXs cyI cyO a g2) r ∧ JE a j g2 ∧ zn g2 = zn g := by
  obtain ⟨aX, t, r0, u0, r1, u1⟩ := a
  obtain ⟨cd, sw, fd, fn, n, ⟨w0, f0, od0, g0, B, co0, hr0⟩, ⟨w1, f1, od1, g1, B1, co1, hr1⟩, bc1, th, rn, ra⟩ := g
  obtain ⟨had0, had1, hne⟩ := hAd
  have had0 : ∀ i j, i < 6 → j < 6 → u0 (6 + i) = u0 (6 + j) → i = j := had0
  have had1 : ∀ i j, i < 6 → j < 6 → u1 (6 + i) = u1 (6 + j) → i = j := had1
  have hne : ∀ i j, i < 6 → j < 6 → u1 (6 + i) ≠ u0 (6 + j) := hne
  obtain ⟨hI, hfd, hfn, hgq⟩ := id hJ
  have hfd : ∃ F : Nat, F ≤ 9 ∧ fd = nI F := hfd
  have hfn : ∃ F : Nat, F ≤ 9 ∧ fn = nI F := hfn
  have hgq : GQ (72 * j) (fun k => u0 (6 + k)) (w0, f0, od0, g0, B, co0, hr0) := hgq
  have hI : InvE (fun k => u0 (6 + k)) j cd sw n (w0, f0, od0, g0, B, co0, hr0) od1 rn := hI
  obtain ⟨hn, hcd, hsw, hok, hrel, ho1, hz⟩ := id hI
  obtain ⟨m, hm, hg⟩ := hok.1.1
  have hg : g0 0 = nI m := hg
  have hc : (g0 0).toNatClampNeg = m := by rw [hg, nI_clamp (by omega)]
  have h1 : vp_in b_ n := hb
  have l1 := vp_lt h1
  have k4 : OkB B := hok.1.2.2.2.1
  have e12 : pkI (B (u0 (6 + b_.toNatClampNeg)) 2) = 0 ∨ pkI (B (u0 (6 + b_.toNatClampNeg)) 2) = 1 := by rcases (k4 (u0 (6 + b_.toNatClampNeg))).2.2 with e | e <;> rw [e] <;> decide
  have hrel2 := put_busrel (x := 2) (v := pkI (B (u0 (6 + b_.toNatClampNeg)) 2)) hn (vp_lt h1) (by decide) had0 hrel
  have hok2 : OkQ (72 * j) (w0, f0, od0, g0, (up2 B (u0 (6 + b_.toNatClampNeg)) 2 (pkI (B (u0 (6 + b_.toNatClampNeg)) 2))), co0, hr0) := by
    obtain ⟨⟨k1, k2, k3, k4, k5⟩, k6⟩ := hok
    exact ⟨⟨k1, k2, k3, OkB.up2_ k4 e12, k5⟩, k6⟩
  have hz2 : ∀ i x, n ≤ i → i < 6 → x < 6 → (upd rn (72 + 6 * b_.toNatClampNeg + 2) (pkI (B (u0 (6 + b_.toNatClampNeg)) 2))) (72 + 6 * i + x) = 0 ∧ (up2 B (u0 (6 + b_.toNatClampNeg)) 2 (pkI (B (u0 (6 + b_.toNatClampNeg)) 2))) (u0 (6 + i)) x = 0 := fun i x h5 h6 h7 => by
    obtain ⟨z1, z2⟩ := hz i x h5 h6 h7
    have n1 : ¬ u0 (6 + i) = (u0 (6 + b_.toNatClampNeg)) := fun e => by have h8 := had0 _ _ h6 (by omega) e; omega
    refine ⟨by rw [upd_ne _ _ (by omega)]; exact z1, ?_⟩
    simp only [up2, n1, and_false, if_false]
    exact z2
  have hgq2 : GQ (72 * j) (fun k => u0 (6 + k)) (w0, f0, od0, g0, (up2 B (u0 (6 + b_.toNatClampNeg)) 2 (pkI (B (u0 (6 + b_.toNatClampNeg)) 2))), co0, hr0) := GQ_keep hgq (fun i hi => ⟨by simp [up2], by simp [up2], by simp [up2]⟩) w0 f0 od0
  exact ⟨(cd, sw, fd, fn, n, (w0, f0, od0, g0, (up2 B (u0 (6 + b_.toNatClampNeg)) 2 (pkI (B (u0 (6 + b_.toNatClampNeg)) 2))), co0, hr0), (w1, f1, od1, g1, B1, co1, hr1), bc1, th, (upd rn (72 + 6 * b_.toNatClampNeg + 2) (pkI (B (u0 (6 + b_.toNatClampNeg)) 2))), ra), _, gi_mk (c_X5_park l D cyI cyO cyL (aX := aX) (aT := (t 0)) (aR0 := r0) (aR1 := r1) (ac := (t 1)) (as_ := (t 2)) (aW0 := (u0 0)) (aw0 := (u0 1)) (af0 := (u0 2)) (aG0 := (u0 3)) (ao0 := (u0 4)) (aB0 := (u0 5)) (aW1 := (u1 0)) (aw1 := (u1 1)) (af1 := (u1 2)) (aG1 := (u1 3)) (ao1 := (u1 4)) (aB1 := (u1 5)) (cd := cd) (sw := sw) (fd := fd) (fn := fn) (ab0 := (fun k => u0 (6 + k))) (w0 := w0) (f0 := f0) (od0 := od0) (g0 := g0) (bc0 := (nI n)) (hr0 := hr0) (co0 := co0) (ab1 := (fun k => u1 (6 + k))) (w1 := w1) (f1 := f1) (od1 := od1) (g1 := g1) (bc1 := bc1) (hr1 := hr1) (co1 := co1) (LB := (LB6 (fun k => u0 (6 + k)) ++ LB6 (fun k => u1 (6 + k)))) (B := B) (b_ := b_) (h0 := (vp_ge0 h1)) (h1 := (vp_lti h1 (by omega))) (hib := (vp_mono h1 hn)) (hLB0 := LBin0)) rfl rfl (Nat.le_of_ble_eq_true rfl) (Nat.le_of_ble_eq_true rfl), ⟨⟨hn, hcd, hsw, hok2, hrel2, ho1, hz2⟩, hfd, hfn, hgq2⟩, rfl⟩
set_option maxHeartbeats 1000000 in
set_option maxRecDepth 20000 in
theorem s_setCold (l : Launch) (D : va_G) (cyI cyO cyL : ClassId) {a : AX} {j : Nat} {g : SG} (hAd : Adr a) (hj : j < 512) (hJ : JE a j g) {h_ c_ : Int32} (h1 : vp_in h_ 8) (h2 : vp_in c_ 4) : ∃ (g2 : SG) (r : Int32), GI l yX5_setCold wsX5_setCold D cyI cyO cyL (.ref a.1 :: [.int h_, .int c_]) (WXs cyI cyO a g) (WXs cyI cyO a g2) r ∧ JE a j g2 ∧ zn g2 = zn g := by
  obtain ⟨aX, t, r0, u0, r1, u1⟩ := a
  obtain ⟨cd, sw, fd, fn, n, ⟨w0, f0, od0, g0, B, co0, hr0⟩, ⟨w1, f1, od1, g1, B1, co1, hr1⟩, bc1, th, rn, ra⟩ := g
  obtain ⟨had0, had1, hne⟩ := hAd
  have had0 : ∀ i j, i < 6 → j < 6 → u0 (6 + i) = u0 (6 + j) → i = j := had0
  have had1 : ∀ i j, i < 6 → j < 6 → u1 (6 + i) = u1 (6 + j) → i = j := had1
  have hne : ∀ i j, i < 6 → j < 6 → u1 (6 + i) ≠ u0 (6 + j) := hne
  obtain ⟨hI, hfd, hfn, hgq⟩ := id hJ
  have hfd : ∃ F : Nat, F ≤ 9 ∧ fd = nI F := hfd
  have hfn : ∃ F : Nat, F ≤ 9 ∧ fn = nI F := hfn
  have hgq : GQ (72 * j) (fun k => u0 (6 + k)) (w0, f0, od0, g0, B, co0, hr0) := hgq
  have hI : InvE (fun k => u0 (6 + k)) j cd sw n (w0, f0, od0, g0, B, co0, hr0) od1 rn := hI
  obtain ⟨hn, hcd, hsw, hok, hrel, ho1, hz⟩ := id hI
  obtain ⟨m, hm, hg⟩ := hok.1.1
  have hg : g0 0 = nI m := hg
  have hc : (g0 0).toNatClampNeg = m := by rw [hg, nI_clamp (by omega)]
  have hcd2 : ∀ k, k < 8 → ∃ c : Nat, c ≤ 3 ∧ upd cd h_.toNatClampNeg c_ k = nI c := fun k hk => by
    by_cases e : k = h_.toNatClampNeg
    · obtain ⟨c, h3, h4⟩ := vp_ex h2 (by decide)
      exact ⟨c, by omega, by rw [e, pk_us, h4]⟩
    · rw [upd_ne _ _ e]
      exact hcd k hk
  exact ⟨(upd cd h_.toNatClampNeg c_, sw, fd, fn, n, (w0, f0, od0, g0, B, co0, hr0), (w1, f1, od1, g1, B1, co1, hr1), bc1, th, rn, ra), _, gi_mk (c_X5_setCold l D cyI cyO cyL (aX := aX) (aT := (t 0)) (aR0 := r0) (aR1 := r1) (ac := (t 1)) (as_ := (t 2)) (aW0 := (u0 0)) (aw0 := (u0 1)) (af0 := (u0 2)) (aG0 := (u0 3)) (ao0 := (u0 4)) (aB0 := (u0 5)) (aW1 := (u1 0)) (aw1 := (u1 1)) (af1 := (u1 2)) (aG1 := (u1 3)) (ao1 := (u1 4)) (aB1 := (u1 5)) (cd := cd) (sw := sw) (fd := fd) (fn := fn) (ab0 := (fun k => u0 (6 + k))) (w0 := w0) (f0 := f0) (od0 := od0) (g0 := g0) (bc0 := (nI n)) (hr0 := hr0) (co0 := co0) (ab1 := (fun k => u1 (6 + k))) (w1 := w1) (f1 := f1) (od1 := od1) (g1 := g1) (bc1 := bc1) (hr1 := hr1) (co1 := co1) (LB := (LB6 (fun k => u0 (6 + k)) ++ LB6 (fun k => u1 (6 + k)))) (B := B) (h_ := h_) (c_ := c_) (hh := h1) (hc := h2)) rfl rfl (Nat.le_of_ble_eq_true rfl) (Nat.le_of_ble_eq_true rfl), ⟨⟨hn, hcd2, hsw, hok, hrel, ho1, hz⟩, hfd, hfn, hgq⟩, rfl⟩
set_option maxHeartbeats 1000000 in
set_option maxRecDepth 20000 in
theorem s_setSwan (l : Launch) (D : va_G) (cyI cyO cyL : ClassId) {a : AX} {j : Nat} {g : SG} (hAd : Adr a) (hj : j < 512) (hJ : JE a j g) {h_ s_ : Int32} (h1 : vp_in h_ 12) (h2 : s_ = -1 ∨ vp_in s_ 24) : ∃ (g2 : SG) (r : Int32), GI l yX5_setSwan wsX5_setSwan D cyI cyO cyL (.ref a.1 :: [.int h_, .int s_]) (WXs cyI cyO a g) (WXs cyI cyO a g2) r ∧ JE a j g2 ∧ zn g2 = zn g := by
  obtain ⟨aX, t, r0, u0, r1, u1⟩ := a
  obtain ⟨cd, sw, fd, fn, n, ⟨w0, f0, od0, g0, B, co0, hr0⟩, ⟨w1, f1, od1, g1, B1, co1, hr1⟩, bc1, th, rn, ra⟩ := g
  obtain ⟨had0, had1, hne⟩ := hAd
  have had0 : ∀ i j, i < 6 → j < 6 → u0 (6 + i) = u0 (6 + j) → i = j := had0
  have had1 : ∀ i j, i < 6 → j < 6 → u1 (6 + i) = u1 (6 + j) → i = j := had1
  have hne : ∀ i j, i < 6 → j < 6 → u1 (6 + i) ≠ u0 (6 + j) := hne
  obtain ⟨hI, hfd, hfn, hgq⟩ := id hJ
  have hfd : ∃ F : Nat, F ≤ 9 ∧ fd = nI F := hfd
  have hfn : ∃ F : Nat, F ≤ 9 ∧ fn = nI F := hfn
  have hgq : GQ (72 * j) (fun k => u0 (6 + k)) (w0, f0, od0, g0, B, co0, hr0) := hgq
  have hI : InvE (fun k => u0 (6 + k)) j cd sw n (w0, f0, od0, g0, B, co0, hr0) od1 rn := hI
  obtain ⟨hn, hcd, hsw, hok, hrel, ho1, hz⟩ := id hI
  obtain ⟨m, hm, hg⟩ := hok.1.1
  have hg : g0 0 = nI m := hg
  have hc : (g0 0).toNatClampNeg = m := by rw [hg, nI_clamp (by omega)]
  have hsw2 : ∀ k, upd sw h_.toNatClampNeg s_ k = -1 ∨ vp_in (upd sw h_.toNatClampNeg s_ k) 24 := fun k => by
    by_cases e : k = h_.toNatClampNeg
    · rw [e, pk_us]
      exact h2
    · rw [upd_ne _ _ e]
      exact hsw k
  exact ⟨(cd, upd sw h_.toNatClampNeg s_, fd, fn, n, (w0, f0, od0, g0, B, co0, hr0), (w1, f1, od1, g1, B1, co1, hr1), bc1, th, rn, ra), _, gi_mk (c_X5_setSwan l D cyI cyO cyL (aX := aX) (aT := (t 0)) (aR0 := r0) (aR1 := r1) (ac := (t 1)) (as_ := (t 2)) (aW0 := (u0 0)) (aw0 := (u0 1)) (af0 := (u0 2)) (aG0 := (u0 3)) (ao0 := (u0 4)) (aB0 := (u0 5)) (aW1 := (u1 0)) (aw1 := (u1 1)) (af1 := (u1 2)) (aG1 := (u1 3)) (ao1 := (u1 4)) (aB1 := (u1 5)) (cd := cd) (sw := sw) (fd := fd) (fn := fn) (ab0 := (fun k => u0 (6 + k))) (w0 := w0) (f0 := f0) (od0 := od0) (g0 := g0) (bc0 := (nI n)) (hr0 := hr0) (co0 := co0) (ab1 := (fun k => u1 (6 + k))) (w1 := w1) (f1 := f1) (od1 := od1) (g1 := g1) (bc1 := bc1) (hr1 := hr1) (co1 := co1) (LB := (LB6 (fun k => u0 (6 + k)) ++ LB6 (fun k => u1 (6 + k)))) (B := B) (h_ := h_) (s_ := s_) (hh := h1) (hs := h2)) rfl rfl (Nat.le_of_ble_eq_true rfl) (Nat.le_of_ble_eq_true rfl), ⟨⟨hn, hcd, hsw2, hok, hrel, ho1, hz⟩, hfd, hfn, hgq⟩, rfl⟩
set_option maxHeartbeats 1000000 in
set_option maxRecDepth 20000 in
theorem s_setFare (l : Launch) (D : va_G) (cyI cyO cyL : ClassId) {a : AX} {j : Nat} {g : SG} (hAd : Adr a) (hj : j < 512) (hJ : JE a j g) {i_ c_ : Int32} (h1 : vp_in c_ 10) : ∃ (g2 : SG) (r : Int32), GI l yX5_setFare wsX5_setFare D cyI cyO cyL (.ref a.1 :: [.int i_, .int c_]) (WXs cyI cyO a g) (WXs cyI cyO a g2) r ∧ JE a j g2 ∧ zn g2 = zn g := by
  obtain ⟨aX, t, r0, u0, r1, u1⟩ := a
  obtain ⟨cd, sw, fd, fn, n, ⟨w0, f0, od0, g0, B, co0, hr0⟩, ⟨w1, f1, od1, g1, B1, co1, hr1⟩, bc1, th, rn, ra⟩ := g
  obtain ⟨had0, had1, hne⟩ := hAd
  have had0 : ∀ i j, i < 6 → j < 6 → u0 (6 + i) = u0 (6 + j) → i = j := had0
  have had1 : ∀ i j, i < 6 → j < 6 → u1 (6 + i) = u1 (6 + j) → i = j := had1
  have hne : ∀ i j, i < 6 → j < 6 → u1 (6 + i) ≠ u0 (6 + j) := hne
  obtain ⟨hI, hfd, hfn, hgq⟩ := id hJ
  have hfd : ∃ F : Nat, F ≤ 9 ∧ fd = nI F := hfd
  have hfn : ∃ F : Nat, F ≤ 9 ∧ fn = nI F := hfn
  have hgq : GQ (72 * j) (fun k => u0 (6 + k)) (w0, f0, od0, g0, B, co0, hr0) := hgq
  have hI : InvE (fun k => u0 (6 + k)) j cd sw n (w0, f0, od0, g0, B, co0, hr0) od1 rn := hI
  obtain ⟨hn, hcd, hsw, hok, hrel, ho1, hz⟩ := id hI
  obtain ⟨m, hm, hg⟩ := hok.1.1
  have hg : g0 0 = nI m := hg
  have hc : (g0 0).toNatClampNeg = m := by rw [hg, nI_clamp (by omega)]
  obtain ⟨k, hk, ek⟩ := vp_ex h1 (by decide)
  have hfd2 : ∃ F : Nat, F ≤ 9 ∧ (setFS i_ c_ fd fn).2.1 = nI F := by
    show ∃ F : Nat, F ≤ 9 ∧ (if i_ = 0 then c_ else fd) = nI F
    split
    · exact ⟨k, by omega, ek⟩
    · exact hfd
  have hfn2 : ∃ F : Nat, F ≤ 9 ∧ (setFS i_ c_ fd fn).2.2 = nI F := by
    show ∃ F : Nat, F ≤ 9 ∧ (if i_ = 0 then fn else c_) = nI F
    split
    · exact hfn
    · exact ⟨k, by omega, ek⟩
  exact ⟨(cd, sw, (setFS i_ c_ fd fn).2.1, (setFS i_ c_ fd fn).2.2, n, (w0, f0, od0, g0, B, co0, hr0), (w1, f1, od1, g1, B1, co1, hr1), bc1, th, rn, ra), _, gi_mk (c_X5_setFare l D cyI cyO cyL (aX := aX) (aT := (t 0)) (aR0 := r0) (aR1 := r1) (ac := (t 1)) (as_ := (t 2)) (aW0 := (u0 0)) (aw0 := (u0 1)) (af0 := (u0 2)) (aG0 := (u0 3)) (ao0 := (u0 4)) (aB0 := (u0 5)) (aW1 := (u1 0)) (aw1 := (u1 1)) (af1 := (u1 2)) (aG1 := (u1 3)) (ao1 := (u1 4)) (aB1 := (u1 5)) (cd := cd) (sw := sw) (fd := fd) (fn := fn) (ab0 := (fun k => u0 (6 + k))) (w0 := w0) (f0 := f0) (od0 := od0) (g0 := g0) (bc0 := (nI n)) (hr0 := hr0) (co0 := co0) (ab1 := (fun k => u1 (6 + k))) (w1 := w1) (f1 := f1) (od1 := od1) (g1 := g1) (bc1 := bc1) (hr1 := hr1) (co1 := co1) (LB := (LB6 (fun k => u0 (6 + k)) ++ LB6 (fun k => u1 (6 + k)))) (B := B) (i_ := i_) (c_ := c_) (hc := h1)) rfl rfl (Nat.le_of_ble_eq_true rfl) (Nat.le_of_ble_eq_true rfl), ⟨hI, hfd2, hfn2, hgq⟩, rfl⟩
set_option maxHeartbeats 1000000 in
set_option maxRecDepth 20000 in
theorem s_bus (l : Launch) (D : va_G) (cyI cyO cyL : ClassId) {a : AX} {j : Nat} {g : SG} (hAd : Adr a) (hj : j < 512) (hJ : JE a j g) {s_ c_ : Int32} (h1 : vp_in s_ 24) (h01 : c_ = 0 ∨ c_ = 1) (h2 : zn g < 6) : ∃ (g2 : SG) (r : Int32), GI l yX5_bus wsX5_bus D cyI cyO cyL (.ref a.1 :: [.int s_, .int c_]) (WXs cyI cyO a g) (WXs cyI cyO a g2) r ∧ JE a j g2 ∧ zn g2 = zn g + 1 := by
  obtain ⟨aX, t, r0, u0, r1, u1⟩ := a
  obtain ⟨cd, sw, fd, fn, n, ⟨w0, f0, od0, g0, B, co0, hr0⟩, ⟨w1, f1, od1, g1, B1, co1, hr1⟩, bc1, th, rn, ra⟩ := g
  obtain ⟨had0, had1, hne⟩ := hAd
  have had0 : ∀ i j, i < 6 → j < 6 → u0 (6 + i) = u0 (6 + j) → i = j := had0
  have had1 : ∀ i j, i < 6 → j < 6 → u1 (6 + i) = u1 (6 + j) → i = j := had1
  have hne : ∀ i j, i < 6 → j < 6 → u1 (6 + i) ≠ u0 (6 + j) := hne
  obtain ⟨hI, hfd, hfn, hgq⟩ := id hJ
  have hfd : ∃ F : Nat, F ≤ 9 ∧ fd = nI F := hfd
  have hfn : ∃ F : Nat, F ≤ 9 ∧ fn = nI F := hfn
  have hgq : GQ (72 * j) (fun k => u0 (6 + k)) (w0, f0, od0, g0, B, co0, hr0) := hgq
  have hI : InvE (fun k => u0 (6 + k)) j cd sw n (w0, f0, od0, g0, B, co0, hr0) od1 rn := hI
  obtain ⟨hn, hcd, hsw, hok, hrel, ho1, hz⟩ := id hI
  obtain ⟨m, hm, hg⟩ := hok.1.1
  have hg : g0 0 = nI m := hg
  have hc : (g0 0).toNatClampNeg = m := by rw [hg, nI_clamp (by omega)]
  have h2 : n < 6 := h2
  obtain ⟨hrel2, hz2⟩ := bus_new_rel (s_ := s_) (c_ := c_) h2 had0 h01 hz hrel
  have hok2 : OkQ (72 * j) (w0, f0, od0, g0, comeS B (u0 (6 + n)) s_ c_, co0, hr0) := by
    obtain ⟨⟨k1, k2, k3, k4, k5⟩, k6⟩ := hok
    exact ⟨⟨k1, k2, k3, ((OkB.up0 k4 h1).up1 h01).up2_ (Or.inr rfl), k5⟩, k6⟩
  have hgq2 : GQ (72 * j) (fun k => u0 (6 + k)) (w0, f0, od0, g0, comeS B (u0 (6 + n)) s_ c_, co0, hr0) := GQ_keep hgq (fun i hi => ⟨by simp [comeS, up2], by simp [comeS, up2], by simp [comeS, up2]⟩) w0 f0 od0
  exact ⟨(cd, sw, fd, fn, n + 1, (w0, f0, od0, g0, comeS B (u0 (6 + n)) s_ c_, co0, hr0), (w1, f1, od1, g1, B1, co1, hr1), bc1, th, upd (upd (upd rn (72 + 6 * n) s_) (72 + 6 * n + 1) (if c_ = 0 then 0 else 1)) (72 + 6 * n + 2) 1, ra), _, gi_mk (c_X5_bus l D cyI cyO cyL (aX := aX) (aT := (t 0)) (aR0 := r0) (aR1 := r1) (ac := (t 1)) (as_ := (t 2)) (aW0 := (u0 0)) (aw0 := (u0 1)) (af0 := (u0 2)) (aG0 := (u0 3)) (ao0 := (u0 4)) (aB0 := (u0 5)) (aW1 := (u1 0)) (aw1 := (u1 1)) (af1 := (u1 2)) (aG1 := (u1 3)) (ao1 := (u1 4)) (aB1 := (u1 5)) (cd := cd) (sw := sw) (fd := fd) (fn := fn) (ab0 := (fun k => u0 (6 + k))) (w0 := w0) (f0 := f0) (od0 := od0) (g0 := g0) (bc0 := (nI n)) (hr0 := hr0) (co0 := co0) (ab1 := (fun k => u1 (6 + k))) (w1 := w1) (f1 := f1) (od1 := od1) (g1 := g1) (bc1 := bc1) (hr1 := hr1) (co1 := co1) (LB := (LB6 (fun k => u0 (6 + k)) ++ LB6 (fun k => u1 (6 + k)))) (B := B) (s_ := s_) (c_ := c_) (n := n) (hs := h1) (hc := h01) (hbc := rfl) (hn := h2) (hLB0 := LBin0)) rfl rfl (Nat.le_of_ble_eq_true rfl) (Nat.le_of_ble_eq_true rfl), ⟨⟨h2, hcd, hsw, hok2, hrel2, ho1, hz2⟩, hfd, hfn, hgq2⟩, rfl⟩
set_option maxHeartbeats 1000000 in
set_option maxRecDepth 20000 in
theorem s_pass (l : Launch) (D : va_G) (cyI cyO cyL : ClassId) {a : AX} {j : Nat} {g : SG} (hAd : Adr a) (hj : j < 512) (hJ : JE a j g) {h : Nat} (hh1 : 1 ≤ h) (hh2 : h ≤ 5) (h3 : zn g = 3) : ∃ (g2 : SG) (r : Int32), GI l yX5_pass wsX5_pass D cyI cyO cyL (.ref a.1 :: [.int (nI h)]) (WXs cyI cyO a g) (WXs cyI cyO a g2) r ∧ ¬ r < -10 ∧ sumL (zw g2) 24 0 0 = sv h g ∧ JE a (j + 1) g2 ∧ zn g2 = zn g := by
  obtain ⟨aX, t, r0, u0, r1, u1⟩ := a
  obtain ⟨cd, sw, fd, fn, n, ⟨w0, f0, od0, g0, B, co0, hr0⟩, ⟨w1, f1, od1, g1, B1, co1, hr1⟩, bc1, th, rn, ra⟩ := g
  obtain ⟨had0, had1, hne⟩ := hAd
  have had0 : ∀ i j, i < 6 → j < 6 → u0 (6 + i) = u0 (6 + j) → i = j := had0
  have had1 : ∀ i j, i < 6 → j < 6 → u1 (6 + i) = u1 (6 + j) → i = j := had1
  have hne : ∀ i j, i < 6 → j < 6 → u1 (6 + i) ≠ u0 (6 + j) := hne
  obtain ⟨hI, hfd, hfn, hgq⟩ := id hJ
  have hfd : ∃ F : Nat, F ≤ 9 ∧ fd = nI F := hfd
  have hfn : ∃ F : Nat, F ≤ 9 ∧ fn = nI F := hfn
  have hgq : GQ (72 * j) (fun k => u0 (6 + k)) (w0, f0, od0, g0, B, co0, hr0) := hgq
  have hI : InvE (fun k => u0 (6 + k)) j cd sw n (w0, f0, od0, g0, B, co0, hr0) od1 rn := hI
  obtain ⟨hn, hcd, hsw, hok, hrel, ho1, hz⟩ := id hI
  obtain ⟨m, hm, hg⟩ := hok.1.1
  have hg : g0 0 = nI m := hg
  have hc : (g0 0).toNatClampNeg = m := by rw [hg, nI_clamp (by omega)]
  have h3 : n = 3 := h3
  subst h3
  have hon := OkN_of hok hrel hz
  have hok2 := OkQ.hrs (cd := cd) (sw := sw) (fd := fd) (fn := fn) (ab := (fun k => u0 (6 + k))) (n := 3) h (72 * j) _ (by omega) hok
  have hrel2 := hours_rel (fd := fd) (fn := fn) hn (fun i k h5 h6 => had0 i k (by omega) (by omega)) hcd hsw h (72 * j) _ _ (by omega) hok hrel
  have hz2 : ∀ i x, 3 ≤ i → i < 6 → x < 6 → (mpaL cd sw fd fn 3 h rn) (72 + 6 * i + x) = 0 ∧ (hrsL cd sw fd fn (fun k => u0 (6 + k)) 3 h (w0, f0, od0, g0, B, co0, hr0)).2.2.2.2.1 (u0 (6 + i)) x = 0 := fun i x h5 h6 h7 => by
    rw [mpa_keep hn hsw (by omega) (by omega) h (72 * j) rn (by omega) hon, hrs_keepB (fun k hk e => by have h8 := had0 _ _ h6 (by omega) e; omega) h]
    exact hz i x h5 h6 h7
  obtain ⟨hgq2, x, y, hx, hy, eco⟩ := hrs_q (cd := cd) (sw := sw) hfd hfn (fun i k h5 h6 => had0 i k (by omega) (by omega)) h (72 * j) _ (by omega) hok hgq
  exact ⟨(cd, sw, fd, fn, 3, ((hrsL cd sw fd fn (fun k => u0 (6 + k)) 3 h (w0, f0, od0, g0, B, co0, hr0)).1, (hrsL cd sw fd fn (fun k => u0 (6 + k)) 3 h (w0, f0, od0, g0, B, co0, hr0)).2.1, (hrsL cd sw fd fn (fun k => u0 (6 + k)) 3 h (w0, f0, od0, g0, B, co0, hr0)).2.2.1, (hrsL cd sw fd fn (fun k => u0 (6 + k)) 3 h (w0, f0, od0, g0, B, co0, hr0)).2.2.2.1, (hrsL cd sw fd fn (fun k => u0 (6 + k)) 3 h (w0, f0, od0, g0, B, co0, hr0)).2.2.2.2.1, (hrsL cd sw fd fn (fun k => u0 (6 + k)) 3 h (w0, f0, od0, g0, B, co0, hr0)).2.2.2.2.2.1, (hrsL cd sw fd fn (fun k => u0 (6 + k)) 3 h (w0, f0, od0, g0, B, co0, hr0)).2.2.2.2.2.2), (w1, f1, od1, g1, B1, co1, hr1), bc1, th, (mpaL cd sw fd fn 3 h rn), ra), _, gi_mk (c_X5_pass l D cyI cyO cyL (aX := aX) (aT := (t 0)) (aR0 := r0) (aR1 := r1) (ac := (t 1)) (as_ := (t 2)) (aW0 := (u0 0)) (aw0 := (u0 1)) (af0 := (u0 2)) (aG0 := (u0 3)) (ao0 := (u0 4)) (aB0 := (u0 5)) (aW1 := (u1 0)) (aw1 := (u1 1)) (af1 := (u1 2)) (aG1 := (u1 3)) (ao1 := (u1 4)) (aB1 := (u1 5)) (cd := cd) (sw := sw) (fd := fd) (fn := fn) (ab0 := (fun k => u0 (6 + k))) (w0 := w0) (f0 := f0) (od0 := od0) (g0 := g0) (bc0 := (nI 3)) (hr0 := hr0) (co0 := co0) (ab1 := (fun k => u1 (6 + k))) (w1 := w1) (f1 := f1) (od1 := od1) (g1 := g1) (bc1 := bc1) (hr1 := hr1) (co1 := co1) (LB := (LB6 (fun k => u0 (6 + k)) ++ LB6 (fun k => u1 (6 + k)))) (B := B) (h_ := h) (n := 3) (M_ := (72 * j)) (hn := hn) (hbc := rfl) (hLB0 := LBin0) (hok := hok) (hM := (by omega)) (hsw := hsw) (hh1 := hh1) (hh2 := (by omega))) rfl rfl (Nat.le_of_ble_eq_true rfl) (Nat.le_of_ble_eq_true rfl), pass5_ge (show x ≤ 405 by omega) (show y ≤ 10 by omega) eco, (sumw_rel hrel2.1).symm, ⟨⟨hn, hcd, hsw, hok2.mono (by omega), hrel2, ho1, hz2⟩, hfd, hfn, hgq2.mono (by omega)⟩, rfl⟩
