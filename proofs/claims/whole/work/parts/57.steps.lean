/-! the law, call by call -/
set_option maxHeartbeats 1000000 in
set_option maxRecDepth 20000 in
theorem st_setCold (l : Launch) (D : va_G) (cyI cyO cyL : ClassId) (hlf : l.stackTraces = false) (a : AX) (am : AM) (ao j : Nat) (hj : j < 512) (g : SG) (o : Nat → Int64) (hAd : Adr a) (hI : Inv a j g) (p q : Int32) : STP l D cyI cyO cyL yL_setCold wsL_setCold yX6_setCold wsX6_setCold [.int p, .int q] Int32.toInt64 a am ao j g o := by
  obtain ⟨aX, t, r0, u0, r1, u1⟩ := a
  obtain ⟨aM, v⟩ := am
  obtain ⟨cd, sw, fd, fn, n, ⟨w0, f0, od0, g0, B, co0, hr0⟩, ⟨w1, f1, od1, g1, B1, co1, hr1⟩, bc1, th, rn, ra⟩ := g
  obtain ⟨had0, had1, hne⟩ := hAd
  have had0 : ∀ i j, i < 6 → j < 6 → u0 (6 + i) = u0 (6 + j) → i = j := had0
  have had1 : ∀ i j, i < 6 → j < 6 → u1 (6 + i) = u1 (6 + j) → i = j := had1
  have hne : ∀ i j, i < 6 → j < 6 → u1 (6 + i) ≠ u0 (6 + j) := hne
  have hI : InvE (fun k => u0 (6 + k)) j cd sw n (w0, f0, od0, g0, B, co0, hr0) od1 rn := hI
  obtain ⟨hn, hcd, hsw, hok, hrel, ho1, hz⟩ := id hI
  obtain ⟨m, hm, hg⟩ := hok.1.1
  have hg : g0 0 = nI m := hg
  have hon := OkN_of hok hrel hz
  have hgM : rn 109 = nI m := hrel.2.2.2.1.2.1.trans hg
  have hM := (c_X6_setCold l D cyI cyO cyL (aM := aM) (ac := (v 0)) (as_ := (v 1)) (an := (v 2)) (ah := (v 3)) (th := th) (bu := (nI n)) (fd := fd) (fn := fn) (cd := cd) (sw := sw) (rn := rn) (ra := ra) (h_ := p) (c_ := q))
  by_cases h1 : vp_in p 8
  · by_cases h2 : vp_in q 4
    · have e9 : mSetC cd p q = (cd p.toNatClampNeg, 0, upd cd p.toNatClampNeg q) := by
        unfold mSetC
        rw [show inI p 0 7 = 1 from vp_inI (N := 7) h1 (by decide), show inI q 0 3 = 1 from vp_inI (N := 3) h2 (by decide), if_neg (by decide), if_neg (by decide)]
      rw [e9] at hM
      have hcd2 : ∀ k, k < 8 → ∃ c : Nat, c ≤ 3 ∧ upd cd p.toNatClampNeg q k = nI c := fun k hk => by
        by_cases e : k = p.toNatClampNeg
        · obtain ⟨c, h3, h4⟩ := vp_ex h2 (by decide)
          exact ⟨c, by omega, by rw [e, pk_us, h4]⟩
        · rw [upd_ne _ _ e]
          exact hcd k hk
      exact ⟨0, (cd p.toNatClampNeg), (upd cd p.toNatClampNeg q, sw, fd, fn, n, (w0, f0, od0, g0, B, co0, hr0), (w1, f1, od1, g1, B1, co1, hr1), bc1, 0, rn, ra), _, u_setCold_g l D cyI cyO cyL aX ao p q _ _ o _ (WXs_recv (aX, t, r0, u0, r1, u1) (cd, sw, fd, fn, n, (w0, f0, od0, g0, B, co0, hr0), (w1, f1, od1, g1, B1, co1, hr1), bc1, th, rn, ra)) (cd p.toNatClampNeg) (WXs_fst (a := (aX, t, r0, u0, r1, u1)) (cd, sw, fd, fn, n, (w0, f0, od0, g0, B, co0, hr0), (w1, f1, od1, g1, B1, co1, hr1), bc1, th, rn, ra) (upd cd p.toNatClampNeg q, sw, fd, fn, n, (w0, f0, od0, g0, B, co0, hr0), (w1, f1, od1, g1, B1, co1, hr1), bc1, 0, rn, ra)) (gi_mk (c_X5_setCold l D cyI cyO cyL (aX := aX) (aT := (t 0)) (aR0 := r0) (aR1 := r1) (ac := (t 1)) (as_ := (t 2)) (aW0 := (u0 0)) (aw0 := (u0 1)) (af0 := (u0 2)) (aG0 := (u0 3)) (ao0 := (u0 4)) (aB0 := (u0 5)) (aW1 := (u1 0)) (aw1 := (u1 1)) (af1 := (u1 2)) (aG1 := (u1 3)) (ao1 := (u1 4)) (aB1 := (u1 5)) (cd := cd) (sw := sw) (fd := fd) (fn := fn) (ab0 := (fun k => u0 (6 + k))) (w0 := w0) (f0 := f0) (od0 := od0) (g0 := g0) (bc0 := (nI n)) (hr0 := hr0) (co0 := co0) (ab1 := (fun k => u1 (6 + k))) (w1 := w1) (f1 := f1) (od1 := od1) (g1 := g1) (bc1 := bc1) (hr1 := hr1) (co1 := co1) (LB := (LB6 (fun k => u0 (6 + k)) ++ LB6 (fun k => u1 (6 + k)))) (B := B) (h_ := p) (c_ := q) (hh := h1) (hc := h2)) rfl rfl (Nat.le_of_ble_eq_true rfl) (Nat.le_of_ble_eq_true rfl)), gi_mk hM rfl rfl (Nat.le_of_ble_eq_true rfl) (Nat.le_of_ble_eq_true rfl), rfl, fun _ => rfl, ⟨hn, hcd2, hsw, hok.mono (by omega), hrel, ho1, hz⟩⟩
    · have e9 : mSetC cd p q = (0, 2, cd) := by
        unfold mSetC
        rw [show inI p 0 7 = 1 from vp_inI (N := 7) h1 (by decide), show inI q 0 3 = 0 from vp_inI0 (N := 3) h2 (by decide), if_neg (by decide), if_pos rfl]
      rw [e9] at hM
      exact ⟨2, 0, (cd, sw, fd, fn, n, (w0, f0, od0, g0, B, co0, hr0), (w1, f1, od1, g1, B1, co1, hr1), bc1, 2, rn, ra), _, u_setCold_b2 l D cyI cyO cyL aX ao p q _ o _ (WXs_recv (aX, t, r0, u0, r1, u1) (cd, sw, fd, fn, n, (w0, f0, od0, g0, B, co0, hr0), (w1, f1, od1, g1, B1, co1, hr1), bc1, th, rn, ra)) hlf (gb_mk (b_setCold_2 l D cyI cyO cyL (aX := aX) (aT := (t 0)) (aR0 := r0) (aR1 := r1) (ac := (t 1)) (as_ := (t 2)) (aW0 := (u0 0)) (aw0 := (u0 1)) (af0 := (u0 2)) (aG0 := (u0 3)) (ao0 := (u0 4)) (aB0 := (u0 5)) (aW1 := (u1 0)) (aw1 := (u1 1)) (af1 := (u1 2)) (aG1 := (u1 3)) (ao1 := (u1 4)) (aB1 := (u1 5)) (cd := cd) (sw := sw) (fd := fd) (fn := fn) (ab0 := (fun k => u0 (6 + k))) (w0 := w0) (f0 := f0) (od0 := od0) (g0 := g0) (bc0 := (nI n)) (hr0 := hr0) (co0 := co0) (ab1 := (fun k => u1 (6 + k))) (w1 := w1) (f1 := f1) (od1 := od1) (g1 := g1) (bc1 := bc1) (hr1 := hr1) (co1 := co1) (LB := (LB6 (fun k => u0 (6 + k)) ++ LB6 (fun k => u1 (6 + k)))) (B := B) (h_ := p) (c_ := q) (hh := h1) (hc := h2) (hlf := hlf)) rfl rfl (Nat.le_of_ble_eq_true rfl) (Nat.le_of_ble_eq_true rfl)), gi_mk hM rfl rfl (Nat.le_of_ble_eq_true rfl) (Nat.le_of_ble_eq_true rfl), rfl, fun h9 => absurd h9 (by decide), hI.mono⟩
  · have e9 : mSetC cd p q = (0, 1, cd) := by
      unfold mSetC
      rw [show inI p 0 7 = 0 from vp_inI0 (N := 7) h1 (by decide), if_pos rfl]
    rw [e9] at hM
    exact ⟨1, 0, (cd, sw, fd, fn, n, (w0, f0, od0, g0, B, co0, hr0), (w1, f1, od1, g1, B1, co1, hr1), bc1, 1, rn, ra), _, u_setCold_b1 l D cyI cyO cyL aX ao p q _ o _ (WXs_recv (aX, t, r0, u0, r1, u1) (cd, sw, fd, fn, n, (w0, f0, od0, g0, B, co0, hr0), (w1, f1, od1, g1, B1, co1, hr1), bc1, th, rn, ra)) hlf (gb_mk (b_setCold_1 l D cyI cyO cyL (aX := aX) (aT := (t 0)) (aR0 := r0) (aR1 := r1) (ac := (t 1)) (as_ := (t 2)) (aW0 := (u0 0)) (aw0 := (u0 1)) (af0 := (u0 2)) (aG0 := (u0 3)) (ao0 := (u0 4)) (aB0 := (u0 5)) (aW1 := (u1 0)) (aw1 := (u1 1)) (af1 := (u1 2)) (aG1 := (u1 3)) (ao1 := (u1 4)) (aB1 := (u1 5)) (cd := cd) (sw := sw) (fd := fd) (fn := fn) (ab0 := (fun k => u0 (6 + k))) (w0 := w0) (f0 := f0) (od0 := od0) (g0 := g0) (bc0 := (nI n)) (hr0 := hr0) (co0 := co0) (ab1 := (fun k => u1 (6 + k))) (w1 := w1) (f1 := f1) (od1 := od1) (g1 := g1) (bc1 := bc1) (hr1 := hr1) (co1 := co1) (LB := (LB6 (fun k => u0 (6 + k)) ++ LB6 (fun k => u1 (6 + k)))) (B := B) (h_ := p) (c_ := q) (hh := h1) (hlf := hlf)) rfl rfl (Nat.le_of_ble_eq_true rfl) (Nat.le_of_ble_eq_true rfl)), gi_mk hM rfl rfl (Nat.le_of_ble_eq_true rfl) (Nat.le_of_ble_eq_true rfl), rfl, fun h9 => absurd h9 (by decide), hI.mono⟩
set_option maxHeartbeats 1000000 in
set_option maxRecDepth 20000 in
theorem st_setSwan (l : Launch) (D : va_G) (cyI cyO cyL : ClassId) (hlf : l.stackTraces = false) (a : AX) (am : AM) (ao j : Nat) (hj : j < 512) (g : SG) (o : Nat → Int64) (hAd : Adr a) (hI : Inv a j g) (p q : Int32) : STP l D cyI cyO cyL yL_setSwan wsL_setSwan yX6_setSwan wsX6_setSwan [.int p, .int q] Int32.toInt64 a am ao j g o := by
  obtain ⟨aX, t, r0, u0, r1, u1⟩ := a
  obtain ⟨aM, v⟩ := am
  obtain ⟨cd, sw, fd, fn, n, ⟨w0, f0, od0, g0, B, co0, hr0⟩, ⟨w1, f1, od1, g1, B1, co1, hr1⟩, bc1, th, rn, ra⟩ := g
  obtain ⟨had0, had1, hne⟩ := hAd
  have had0 : ∀ i j, i < 6 → j < 6 → u0 (6 + i) = u0 (6 + j) → i = j := had0
  have had1 : ∀ i j, i < 6 → j < 6 → u1 (6 + i) = u1 (6 + j) → i = j := had1
  have hne : ∀ i j, i < 6 → j < 6 → u1 (6 + i) ≠ u0 (6 + j) := hne
  have hI : InvE (fun k => u0 (6 + k)) j cd sw n (w0, f0, od0, g0, B, co0, hr0) od1 rn := hI
  obtain ⟨hn, hcd, hsw, hok, hrel, ho1, hz⟩ := id hI
  obtain ⟨m, hm, hg⟩ := hok.1.1
  have hg : g0 0 = nI m := hg
  have hon := OkN_of hok hrel hz
  have hgM : rn 109 = nI m := hrel.2.2.2.1.2.1.trans hg
  have hM := (c_X6_setSwan l D cyI cyO cyL (aM := aM) (ac := (v 0)) (as_ := (v 1)) (an := (v 2)) (ah := (v 3)) (th := th) (bu := (nI n)) (fd := fd) (fn := fn) (cd := cd) (sw := sw) (rn := rn) (ra := ra) (h_ := p) (s_ := q))
  by_cases h1 : vp_in p 12
  · by_cases h2 : q = -1 ∨ vp_in q 24
    · have e9 : mSetW sw p q = (sw p.toNatClampNeg, 0, upd sw p.toNatClampNeg q) := by
        unfold mSetW
        rw [show inI p 0 11 = 1 from vp_inI (N := 11) h1 (by decide), inI_sw h2, if_neg (by decide), if_neg (by decide)]
      rw [e9] at hM
      have hsw2 : ∀ k, upd sw p.toNatClampNeg q k = -1 ∨ vp_in (upd sw p.toNatClampNeg q k) 24 := fun k => by
        by_cases e : k = p.toNatClampNeg
        · rw [e, pk_us]
          exact h2
        · rw [upd_ne _ _ e]
          exact hsw k
      exact ⟨0, (sw p.toNatClampNeg), (cd, upd sw p.toNatClampNeg q, fd, fn, n, (w0, f0, od0, g0, B, co0, hr0), (w1, f1, od1, g1, B1, co1, hr1), bc1, 0, rn, ra), _, u_setSwan_g l D cyI cyO cyL aX ao p q _ _ o _ (WXs_recv (aX, t, r0, u0, r1, u1) (cd, sw, fd, fn, n, (w0, f0, od0, g0, B, co0, hr0), (w1, f1, od1, g1, B1, co1, hr1), bc1, th, rn, ra)) (sw p.toNatClampNeg) (WXs_fst (a := (aX, t, r0, u0, r1, u1)) (cd, sw, fd, fn, n, (w0, f0, od0, g0, B, co0, hr0), (w1, f1, od1, g1, B1, co1, hr1), bc1, th, rn, ra) (cd, upd sw p.toNatClampNeg q, fd, fn, n, (w0, f0, od0, g0, B, co0, hr0), (w1, f1, od1, g1, B1, co1, hr1), bc1, 0, rn, ra)) (gi_mk (c_X5_setSwan l D cyI cyO cyL (aX := aX) (aT := (t 0)) (aR0 := r0) (aR1 := r1) (ac := (t 1)) (as_ := (t 2)) (aW0 := (u0 0)) (aw0 := (u0 1)) (af0 := (u0 2)) (aG0 := (u0 3)) (ao0 := (u0 4)) (aB0 := (u0 5)) (aW1 := (u1 0)) (aw1 := (u1 1)) (af1 := (u1 2)) (aG1 := (u1 3)) (ao1 := (u1 4)) (aB1 := (u1 5)) (cd := cd) (sw := sw) (fd := fd) (fn := fn) (ab0 := (fun k => u0 (6 + k))) (w0 := w0) (f0 := f0) (od0 := od0) (g0 := g0) (bc0 := (nI n)) (hr0 := hr0) (co0 := co0) (ab1 := (fun k => u1 (6 + k))) (w1 := w1) (f1 := f1) (od1 := od1) (g1 := g1) (bc1 := bc1) (hr1 := hr1) (co1 := co1) (LB := (LB6 (fun k => u0 (6 + k)) ++ LB6 (fun k => u1 (6 + k)))) (B := B) (h_ := p) (s_ := q) (hh := h1) (hs := h2)) rfl rfl (Nat.le_of_ble_eq_true rfl) (Nat.le_of_ble_eq_true rfl)), gi_mk hM rfl rfl (Nat.le_of_ble_eq_true rfl) (Nat.le_of_ble_eq_true rfl), rfl, fun _ => rfl, ⟨hn, hcd, hsw2, hok.mono (by omega), hrel, ho1, hz⟩⟩
    · have e9 : mSetW sw p q = (0, 2, sw) := by
        unfold mSetW
        rw [show inI p 0 11 = 1 from vp_inI (N := 11) h1 (by decide), inI_sw0 h2, if_neg (by decide), if_pos rfl]
      rw [e9] at hM
      exact ⟨2, 0, (cd, sw, fd, fn, n, (w0, f0, od0, g0, B, co0, hr0), (w1, f1, od1, g1, B1, co1, hr1), bc1, 2, rn, ra), _, u_setSwan_b2 l D cyI cyO cyL aX ao p q _ o _ (WXs_recv (aX, t, r0, u0, r1, u1) (cd, sw, fd, fn, n, (w0, f0, od0, g0, B, co0, hr0), (w1, f1, od1, g1, B1, co1, hr1), bc1, th, rn, ra)) hlf (gb_mk (b_setSwan_2 l D cyI cyO cyL (aX := aX) (aT := (t 0)) (aR0 := r0) (aR1 := r1) (ac := (t 1)) (as_ := (t 2)) (aW0 := (u0 0)) (aw0 := (u0 1)) (af0 := (u0 2)) (aG0 := (u0 3)) (ao0 := (u0 4)) (aB0 := (u0 5)) (aW1 := (u1 0)) (aw1 := (u1 1)) (af1 := (u1 2)) (aG1 := (u1 3)) (ao1 := (u1 4)) (aB1 := (u1 5)) (cd := cd) (sw := sw) (fd := fd) (fn := fn) (ab0 := (fun k => u0 (6 + k))) (w0 := w0) (f0 := f0) (od0 := od0) (g0 := g0) (bc0 := (nI n)) (hr0 := hr0) (co0 := co0) (ab1 := (fun k => u1 (6 + k))) (w1 := w1) (f1 := f1) (od1 := od1) (g1 := g1) (bc1 := bc1) (hr1 := hr1) (co1 := co1) (LB := (LB6 (fun k => u0 (6 + k)) ++ LB6 (fun k => u1 (6 + k)))) (B := B) (h_ := p) (s_ := q) (hh := h1) (hs := h2) (hlf := hlf)) rfl rfl (Nat.le_of_ble_eq_true rfl) (Nat.le_of_ble_eq_true rfl)), gi_mk hM rfl rfl (Nat.le_of_ble_eq_true rfl) (Nat.le_of_ble_eq_true rfl), rfl, fun h9 => absurd h9 (by decide), hI.mono⟩
  · have e9 : mSetW sw p q = (0, 1, sw) := by
      unfold mSetW
      rw [show inI p 0 11 = 0 from vp_inI0 (N := 11) h1 (by decide), if_pos rfl]
    rw [e9] at hM
    exact ⟨1, 0, (cd, sw, fd, fn, n, (w0, f0, od0, g0, B, co0, hr0), (w1, f1, od1, g1, B1, co1, hr1), bc1, 1, rn, ra), _, u_setSwan_b1 l D cyI cyO cyL aX ao p q _ o _ (WXs_recv (aX, t, r0, u0, r1, u1) (cd, sw, fd, fn, n, (w0, f0, od0, g0, B, co0, hr0), (w1, f1, od1, g1, B1, co1, hr1), bc1, th, rn, ra)) hlf (gb_mk (b_setSwan_1 l D cyI cyO cyL (aX := aX) (aT := (t 0)) (aR0 := r0) (aR1 := r1) (ac := (t 1)) (as_ := (t 2)) (aW0 := (u0 0)) (aw0 := (u0 1)) (af0 := (u0 2)) (aG0 := (u0 3)) (ao0 := (u0 4)) (aB0 := (u0 5)) (aW1 := (u1 0)) (aw1 := (u1 1)) (af1 := (u1 2)) (aG1 := (u1 3)) (ao1 := (u1 4)) (aB1 := (u1 5)) (cd := cd) (sw := sw) (fd := fd) (fn := fn) (ab0 := (fun k => u0 (6 + k))) (w0 := w0) (f0 := f0) (od0 := od0) (g0 := g0) (bc0 := (nI n)) (hr0 := hr0) (co0 := co0) (ab1 := (fun k => u1 (6 + k))) (w1 := w1) (f1 := f1) (od1 := od1) (g1 := g1) (bc1 := bc1) (hr1 := hr1) (co1 := co1) (LB := (LB6 (fun k => u0 (6 + k)) ++ LB6 (fun k => u1 (6 + k)))) (B := B) (h_ := p) (s_ := q) (hh := h1) (hlf := hlf)) rfl rfl (Nat.le_of_ble_eq_true rfl) (Nat.le_of_ble_eq_true rfl)), gi_mk hM rfl rfl (Nat.le_of_ble_eq_true rfl) (Nat.le_of_ble_eq_true rfl), rfl, fun h9 => absurd h9 (by decide), hI.mono⟩
set_option maxHeartbeats 1000000 in
set_option maxRecDepth 20000 in
theorem st_setFare (l : Launch) (D : va_G) (cyI cyO cyL : ClassId) (hlf : l.stackTraces = false) (a : AX) (am : AM) (ao j : Nat) (hj : j < 512) (g : SG) (o : Nat → Int64) (hAd : Adr a) (hI : Inv a j g) (p q : Int32) : STP l D cyI cyO cyL yL_setFare wsL_setFare yX6_setFare wsX6_setFare [.int p, .int q] Int32.toInt64 a am ao j g o := by
  obtain ⟨aX, t, r0, u0, r1, u1⟩ := a
  obtain ⟨aM, v⟩ := am
  obtain ⟨cd, sw, fd, fn, n, ⟨w0, f0, od0, g0, B, co0, hr0⟩, ⟨w1, f1, od1, g1, B1, co1, hr1⟩, bc1, th, rn, ra⟩ := g
  obtain ⟨had0, had1, hne⟩ := hAd
  have had0 : ∀ i j, i < 6 → j < 6 → u0 (6 + i) = u0 (6 + j) → i = j := had0
  have had1 : ∀ i j, i < 6 → j < 6 → u1 (6 + i) = u1 (6 + j) → i = j := had1
  have hne : ∀ i j, i < 6 → j < 6 → u1 (6 + i) ≠ u0 (6 + j) := hne
  have hI : InvE (fun k => u0 (6 + k)) j cd sw n (w0, f0, od0, g0, B, co0, hr0) od1 rn := hI
  obtain ⟨hn, hcd, hsw, hok, hrel, ho1, hz⟩ := id hI
  obtain ⟨m, hm, hg⟩ := hok.1.1
  have hg : g0 0 = nI m := hg
  have hon := OkN_of hok hrel hz
  have hgM : rn 109 = nI m := hrel.2.2.2.1.2.1.trans hg
  have hM := (c_X6_setFare l D cyI cyO cyL (aM := aM) (ac := (v 0)) (as_ := (v 1)) (an := (v 2)) (ah := (v 3)) (th := th) (bu := (nI n)) (fd := fd) (fn := fn) (cd := cd) (sw := sw) (rn := rn) (ra := ra) (i_ := p) (c_ := q))
  by_cases h1 : vp_in q 10
  · have e8 : inI q 0 9 = 1 := vp_inI (N := 9) h1 (by decide)
    have e9 : mSetF fd fn p q = ((setFS p q fd fn).1, 0, (setFS p q fd fn).2.1, (setFS p q fd fn).2.2) := by
      unfold mSetF setFS fareS
      rw [e8, if_neg (by decide)]
      by_cases h0 : p = 0
      · simp only [h0, if_true]
      · simp only [h0, if_false]
    rw [e9] at hM
    exact ⟨0, (setFS p q fd fn).1, (cd, sw, (setFS p q fd fn).2.1, (setFS p q fd fn).2.2, n, (w0, f0, od0, g0, B, co0, hr0), (w1, f1, od1, g1, B1, co1, hr1), bc1, 0, rn, ra), _, u_setFare_g l D cyI cyO cyL aX ao p q _ _ o _ (WXs_recv (aX, t, r0, u0, r1, u1) (cd, sw, fd, fn, n, (w0, f0, od0, g0, B, co0, hr0), (w1, f1, od1, g1, B1, co1, hr1), bc1, th, rn, ra)) (setFS p q fd fn).1 (WXs_fst (a := (aX, t, r0, u0, r1, u1)) (cd, sw, fd, fn, n, (w0, f0, od0, g0, B, co0, hr0), (w1, f1, od1, g1, B1, co1, hr1), bc1, th, rn, ra) (cd, sw, (setFS p q fd fn).2.1, (setFS p q fd fn).2.2, n, (w0, f0, od0, g0, B, co0, hr0), (w1, f1, od1, g1, B1, co1, hr1), bc1, 0, rn, ra)) (gi_mk (c_X5_setFare l D cyI cyO cyL (aX := aX) (aT := (t 0)) (aR0 := r0) (aR1 := r1) (ac := (t 1)) (as_ := (t 2)) (aW0 := (u0 0)) (aw0 := (u0 1)) (af0 := (u0 2)) (aG0 := (u0 3)) (ao0 := (u0 4)) (aB0 := (u0 5)) (aW1 := (u1 0)) (aw1 := (u1 1)) (af1 := (u1 2)) (aG1 := (u1 3)) (ao1 := (u1 4)) (aB1 := (u1 5)) (cd := cd) (sw := sw) (fd := fd) (fn := fn) (ab0 := (fun k => u0 (6 + k))) (w0 := w0) (f0 := f0) (od0 := od0) (g0 := g0) (bc0 := (nI n)) (hr0 := hr0) (co0 := co0) (ab1 := (fun k => u1 (6 + k))) (w1 := w1) (f1 := f1) (od1 := od1) (g1 := g1) (bc1 := bc1) (hr1 := hr1) (co1 := co1) (LB := (LB6 (fun k => u0 (6 + k)) ++ LB6 (fun k => u1 (6 + k)))) (B := B) (i_ := p) (c_ := q) (hc := h1)) rfl rfl (Nat.le_of_ble_eq_true rfl) (Nat.le_of_ble_eq_true rfl)), gi_mk hM rfl rfl (Nat.le_of_ble_eq_true rfl) (Nat.le_of_ble_eq_true rfl), rfl, fun _ => rfl, hI.mono⟩
  · have e9 : mSetF fd fn p q = (0, 1, fd, fn) := by
      unfold mSetF
      rw [show inI q 0 9 = 0 from vp_inI0 (N := 9) h1 (by decide), if_pos rfl]
    rw [e9] at hM
    exact ⟨1, 0, (cd, sw, fd, fn, n, (w0, f0, od0, g0, B, co0, hr0), (w1, f1, od1, g1, B1, co1, hr1), bc1, 1, rn, ra), _, u_setFare_b1 l D cyI cyO cyL aX ao p q _ o _ (WXs_recv (aX, t, r0, u0, r1, u1) (cd, sw, fd, fn, n, (w0, f0, od0, g0, B, co0, hr0), (w1, f1, od1, g1, B1, co1, hr1), bc1, th, rn, ra)) hlf (gb_mk (b_setFare l D cyI cyO cyL (aX := aX) (aT := (t 0)) (aR0 := r0) (aR1 := r1) (ac := (t 1)) (as_ := (t 2)) (aW0 := (u0 0)) (aw0 := (u0 1)) (af0 := (u0 2)) (aG0 := (u0 3)) (ao0 := (u0 4)) (aB0 := (u0 5)) (aW1 := (u1 0)) (aw1 := (u1 1)) (af1 := (u1 2)) (aG1 := (u1 3)) (ao1 := (u1 4)) (aB1 := (u1 5)) (cd := cd) (sw := sw) (fd := fd) (fn := fn) (ab0 := (fun k => u0 (6 + k))) (w0 := w0) (f0 := f0) (od0 := od0) (g0 := g0) (bc0 := (nI n)) (hr0 := hr0) (co0 := co0) (ab1 := (fun k => u1 (6 + k))) (w1 := w1) (f1 := f1) (od1 := od1) (g1 := g1) (bc1 := bc1) (hr1 := hr1) (co1 := co1) (LB := (LB6 (fun k => u0 (6 + k)) ++ LB6 (fun k => u1 (6 + k)))) (B := B) (i_ := p) (c_ := q) (hc := h1) (hlf := hlf)) rfl rfl (Nat.le_of_ble_eq_true rfl) (Nat.le_of_ble_eq_true rfl)), gi_mk hM rfl rfl (Nat.le_of_ble_eq_true rfl) (Nat.le_of_ble_eq_true rfl), rfl, fun h9 => absurd h9 (by decide), hI.mono⟩
set_option maxHeartbeats 1000000 in
set_option maxRecDepth 20000 in
theorem st_bus (l : Launch) (D : va_G) (cyI cyO cyL : ClassId) (hlf : l.stackTraces = false) (a : AX) (am : AM) (ao j : Nat) (hj : j < 512) (g : SG) (o : Nat → Int64) (hAd : Adr a) (hI : Inv a j g) (p q : Int32) (h01 : q = 0 ∨ q = 1) : STP l D cyI cyO cyL yL_bus wsL_bus yX6_bus wsX6_bus [.int p, .int q] Int32.toInt64 a am ao j g o := by
  obtain ⟨aX, t, r0, u0, r1, u1⟩ := a
  obtain ⟨aM, v⟩ := am
  obtain ⟨cd, sw, fd, fn, n, ⟨w0, f0, od0, g0, B, co0, hr0⟩, ⟨w1, f1, od1, g1, B1, co1, hr1⟩, bc1, th, rn, ra⟩ := g
  obtain ⟨had0, had1, hne⟩ := hAd
  have had0 : ∀ i j, i < 6 → j < 6 → u0 (6 + i) = u0 (6 + j) → i = j := had0
  have had1 : ∀ i j, i < 6 → j < 6 → u1 (6 + i) = u1 (6 + j) → i = j := had1
  have hne : ∀ i j, i < 6 → j < 6 → u1 (6 + i) ≠ u0 (6 + j) := hne
  have hI : InvE (fun k => u0 (6 + k)) j cd sw n (w0, f0, od0, g0, B, co0, hr0) od1 rn := hI
  obtain ⟨hn, hcd, hsw, hok, hrel, ho1, hz⟩ := id hI
  obtain ⟨m, hm, hg⟩ := hok.1.1
  have hg : g0 0 = nI m := hg
  have hon := OkN_of hok hrel hz
  have hgM : rn 109 = nI m := hrel.2.2.2.1.2.1.trans hg
  have hM := (c_X6_bus l D cyI cyO cyL (aM := aM) (ac := (v 0)) (as_ := (v 1)) (an := (v 2)) (ah := (v 3)) (th := th) (bu := (nI n)) (fd := fd) (fn := fn) (cd := cd) (sw := sw) (rn := rn) (ra := ra) (s_ := p) (c_ := q) (n := n) (hn := hn) (hbu := rfl))
  by_cases h1 : vp_in p 24
  · by_cases h2 : n < 6
    · have e8 : ¬ nI n = 6 := fun e => by have h8 := (nI_eq (a := n) (b := 6) (by omega) (by decide)).mp e; omega
      have e9 : mBus rn n (nI n) p q = (nI n, 0, nI (n + 1), upd (upd (upd rn (72 + 6 * n) p) (72 + 6 * n + 1) (if q = 0 then 0 else 1)) (72 + 6 * n + 2) 1) := by
        unfold mBus
        rw [show inI p 0 23 = 1 from vp_inI (N := 23) h1 (by decide), if_neg (by decide), if_neg e8]
      rw [e9] at hM
      obtain ⟨hrel2, hz2⟩ := bus_new_rel (s_ := p) (c_ := q) h2 had0 h01 hz hrel
      have hok2 : OkQ (72 * (j + 1)) (w0, f0, od0, g0, comeS B (u0 (6 + n)) p q, co0, hr0) := by
        obtain ⟨⟨k1, k2, k3, k4, k5⟩, k6⟩ := hok.mono (show 72 * j ≤ 72 * (j + 1) by omega)
        exact ⟨⟨k1, k2, k3, ((OkB.up0 k4 h1).up1 h01).up2_ (Or.inr rfl), k5⟩, k6⟩
      exact ⟨0, (nI n), (cd, sw, fd, fn, n + 1, (w0, f0, od0, g0, comeS B (u0 (6 + n)) p q, co0, hr0), (w1, f1, od1, g1, B1, co1, hr1), bc1, 0, upd (upd (upd rn (72 + 6 * n) p) (72 + 6 * n + 1) (if q = 0 then 0 else 1)) (72 + 6 * n + 2) 1, ra), _, u_bus_g l D cyI cyO cyL aX ao p q _ _ o _ (WXs_recv (aX, t, r0, u0, r1, u1) (cd, sw, fd, fn, n, (w0, f0, od0, g0, B, co0, hr0), (w1, f1, od1, g1, B1, co1, hr1), bc1, th, rn, ra)) (nI n) (WXs_fst (a := (aX, t, r0, u0, r1, u1)) (cd, sw, fd, fn, n, (w0, f0, od0, g0, B, co0, hr0), (w1, f1, od1, g1, B1, co1, hr1), bc1, th, rn, ra) (cd, sw, fd, fn, n + 1, (w0, f0, od0, g0, comeS B (u0 (6 + n)) p q, co0, hr0), (w1, f1, od1, g1, B1, co1, hr1), bc1, 0, upd (upd (upd rn (72 + 6 * n) p) (72 + 6 * n + 1) (if q = 0 then 0 else 1)) (72 + 6 * n + 2) 1, ra)) (gi_mk (c_X5_bus l D cyI cyO cyL (aX := aX) (aT := (t 0)) (aR0 := r0) (aR1 := r1) (ac := (t 1)) (as_ := (t 2)) (aW0 := (u0 0)) (aw0 := (u0 1)) (af0 := (u0 2)) (aG0 := (u0 3)) (ao0 := (u0 4)) (aB0 := (u0 5)) (aW1 := (u1 0)) (aw1 := (u1 1)) (af1 := (u1 2)) (aG1 := (u1 3)) (ao1 := (u1 4)) (aB1 := (u1 5)) (cd := cd) (sw := sw) (fd := fd) (fn := fn) (ab0 := (fun k => u0 (6 + k))) (w0 := w0) (f0 := f0) (od0 := od0) (g0 := g0) (bc0 := (nI n)) (hr0 := hr0) (co0 := co0) (ab1 := (fun k => u1 (6 + k))) (w1 := w1) (f1 := f1) (od1 := od1) (g1 := g1) (bc1 := bc1) (hr1 := hr1) (co1 := co1) (LB := (LB6 (fun k => u0 (6 + k)) ++ LB6 (fun k => u1 (6 + k)))) (B := B) (s_ := p) (c_ := q) (n := n) (hs := h1) (hc := h01) (hbc := rfl) (hn := h2) (hLB0 := LBin0)) rfl rfl (Nat.le_of_ble_eq_true rfl) (Nat.le_of_ble_eq_true rfl)), gi_mk hM rfl rfl (Nat.le_of_ble_eq_true rfl) (Nat.le_of_ble_eq_true rfl), rfl, fun _ => rfl, ⟨h2, hcd, hsw, hok2, hrel2, ho1, hz2⟩⟩
    · have h6 : n = 6 := by omega
      have e8 : nI n = 6 := by subst h6; rfl
      have e9 : mBus rn n (nI n) p q = (0, 2, nI n, rn) := by
        unfold mBus
        rw [show inI p 0 23 = 1 from vp_inI (N := 23) h1 (by decide), if_neg (by decide), if_pos e8]
      rw [e9] at hM
      exact ⟨2, 0, (cd, sw, fd, fn, n, (w0, f0, od0, g0, B, co0, hr0), (w1, f1, od1, g1, B1, co1, hr1), bc1, 2, rn, ra), _, u_bus_b2 l D cyI cyO cyL aX ao p q _ o _ (WXs_recv (aX, t, r0, u0, r1, u1) (cd, sw, fd, fn, n, (w0, f0, od0, g0, B, co0, hr0), (w1, f1, od1, g1, B1, co1, hr1), bc1, th, rn, ra)) hlf (gb_mk (b_bus_2 l D cyI cyO cyL (aX := aX) (aT := (t 0)) (aR0 := r0) (aR1 := r1) (ac := (t 1)) (as_ := (t 2)) (aW0 := (u0 0)) (aw0 := (u0 1)) (af0 := (u0 2)) (aG0 := (u0 3)) (ao0 := (u0 4)) (aB0 := (u0 5)) (aW1 := (u1 0)) (aw1 := (u1 1)) (af1 := (u1 2)) (aG1 := (u1 3)) (ao1 := (u1 4)) (aB1 := (u1 5)) (cd := cd) (sw := sw) (fd := fd) (fn := fn) (ab0 := (fun k => u0 (6 + k))) (w0 := w0) (f0 := f0) (od0 := od0) (g0 := g0) (bc0 := (nI n)) (hr0 := hr0) (co0 := co0) (ab1 := (fun k => u1 (6 + k))) (w1 := w1) (f1 := f1) (od1 := od1) (g1 := g1) (bc1 := bc1) (hr1 := hr1) (co1 := co1) (LB := (LB6 (fun k => u0 (6 + k)) ++ LB6 (fun k => u1 (6 + k)))) (B := B) (s_ := p) (c_ := q) (hs := h1) (hbc := (by rw [e8]; decide)) (hlf := hlf)) rfl rfl (Nat.le_of_ble_eq_true rfl) (Nat.le_of_ble_eq_true rfl)), gi_mk hM rfl rfl (Nat.le_of_ble_eq_true rfl) (Nat.le_of_ble_eq_true rfl), rfl, fun h9 => absurd h9 (by decide), hI.mono⟩
  · have e9 : mBus rn n (nI n) p q = (0, 1, nI n, rn) := by
      unfold mBus
      rw [show inI p 0 23 = 0 from vp_inI0 (N := 23) h1 (by decide), if_pos rfl]
    rw [e9] at hM
    exact ⟨1, 0, (cd, sw, fd, fn, n, (w0, f0, od0, g0, B, co0, hr0), (w1, f1, od1, g1, B1, co1, hr1), bc1, 1, rn, ra), _, u_bus_b1 l D cyI cyO cyL aX ao p q _ o _ (WXs_recv (aX, t, r0, u0, r1, u1) (cd, sw, fd, fn, n, (w0, f0, od0, g0, B, co0, hr0), (w1, f1, od1, g1, B1, co1, hr1), bc1, th, rn, ra)) hlf (gb_mk (b_bus_1 l D cyI cyO cyL (aX := aX) (aT := (t 0)) (aR0 := r0) (aR1 := r1) (ac := (t 1)) (as_ := (t 2)) (aW0 := (u0 0)) (aw0 := (u0 1)) (af0 := (u0 2)) (aG0 := (u0 3)) (ao0 := (u0 4)) (aB0 := (u0 5)) (aW1 := (u1 0)) (aw1 := (u1 1)) (af1 := (u1 2)) (aG1 := (u1 3)) (ao1 := (u1 4)) (aB1 := (u1 5)) (cd := cd) (sw := sw) (fd := fd) (fn := fn) (ab0 := (fun k => u0 (6 + k))) (w0 := w0) (f0 := f0) (od0 := od0) (g0 := g0) (bc0 := (nI n)) (hr0 := hr0) (co0 := co0) (ab1 := (fun k => u1 (6 + k))) (w1 := w1) (f1 := f1) (od1 := od1) (g1 := g1) (bc1 := bc1) (hr1 := hr1) (co1 := co1) (LB := (LB6 (fun k => u0 (6 + k)) ++ LB6 (fun k => u1 (6 + k)))) (B := B) (s_ := p) (c_ := q) (hs := h1) (hlf := hlf)) rfl rfl (Nat.le_of_ble_eq_true rfl) (Nat.le_of_ble_eq_true rfl)), gi_mk hM rfl rfl (Nat.le_of_ble_eq_true rfl) (Nat.le_of_ble_eq_true rfl), rfl, fun h9 => absurd h9 (by decide), hI.mono⟩
set_option maxHeartbeats 1000000 in
set_option maxRecDepth 20000 in
theorem st_fit (l : Launch) (D : va_G) (cyI cyO cyL : ClassId) (hlf : l.stackTraces = false) (a : AX) (am : AM) (ao j : Nat) (hj : j < 512) (g : SG) (o : Nat → Int64) (hAd : Adr a) (hI : Inv a j g) (p q : Int32) : STP l D cyI cyO cyL yL_fit wsL_fit yX6_fit wsX6_fit [.int p, .int q] Int32.toInt64 a am ao j g o := by
  obtain ⟨aX, t, r0, u0, r1, u1⟩ := a
  obtain ⟨aM, v⟩ := am
  obtain ⟨cd, sw, fd, fn, n, ⟨w0, f0, od0, g0, B, co0, hr0⟩, ⟨w1, f1, od1, g1, B1, co1, hr1⟩, bc1, th, rn, ra⟩ := g
  obtain ⟨had0, had1, hne⟩ := hAd
  have had0 : ∀ i j, i < 6 → j < 6 → u0 (6 + i) = u0 (6 + j) → i = j := had0
  have had1 : ∀ i j, i < 6 → j < 6 → u1 (6 + i) = u1 (6 + j) → i = j := had1
  have hne : ∀ i j, i < 6 → j < 6 → u1 (6 + i) ≠ u0 (6 + j) := hne
  have hI : InvE (fun k => u0 (6 + k)) j cd sw n (w0, f0, od0, g0, B, co0, hr0) od1 rn := hI
  obtain ⟨hn, hcd, hsw, hok, hrel, ho1, hz⟩ := id hI
  obtain ⟨m, hm, hg⟩ := hok.1.1
  have hg : g0 0 = nI m := hg
  have hon := OkN_of hok hrel hz
  have hgM : rn 109 = nI m := hrel.2.2.2.1.2.1.trans hg
  have hM := (c_X6_fit l D cyI cyO cyL (aM := aM) (ac := (v 0)) (as_ := (v 1)) (an := (v 2)) (ah := (v 3)) (th := th) (bu := (nI n)) (fd := fd) (fn := fn) (cd := cd) (sw := sw) (rn := rn) (ra := ra) (a_ := p) (b_ := q) (n := n) (hn := hn) (hbu := rfl))
  by_cases h1 : vp_in p n
  · have i1 : inI p 0 (nI n - 1) = 1 := inI_b1 rfl hn h1
    by_cases h2 : vp_in q n
    · have i2 : inI q 0 (nI n - 1) = 1 := inI_b1 rfl hn h2
      have b1 : rn (72 + 6 * p.toNatClampNeg + 1) = B (u0 (6 + p.toNatClampNeg)) 1 := hrel.2.2.1 _ 1 (vp_lt h1) (by decide)
      have b2 : rn (72 + 6 * q.toNatClampNeg + 1) = B (u0 (6 + q.toNatClampNeg)) 1 := hrel.2.2.1 _ 1 (vp_lt h2) (by decide)
      have b3 : rn (72 + 6 * q.toNatClampNeg) = B (u0 (6 + q.toNatClampNeg)) 0 := hrel.2.2.1 _ 0 (vp_lt h2) (by decide)
      have k4 : OkB B := hok.1.2.2.2.1
      by_cases h3 : B (u0 (6 + p.toNatClampNeg)) 1 = 0
      · have e9 : mFit rn (nI n) p q = (0, 2, rn) := by
          unfold mFit
          rw [i1, i2, if_neg (by decide), if_neg (by decide), b1, if_pos h3]
        rw [e9] at hM
        exact ⟨2, 0, (cd, sw, fd, fn, n, (w0, f0, od0, g0, B, co0, hr0), (w1, f1, od1, g1, B1, co1, hr1), bc1, 2, rn, ra), _, u_fit_b2 l D cyI cyO cyL aX ao p q _ o _ (WXs_recv (aX, t, r0, u0, r1, u1) (cd, sw, fd, fn, n, (w0, f0, od0, g0, B, co0, hr0), (w1, f1, od1, g1, B1, co1, hr1), bc1, th, rn, ra)) hlf (gb_mk (b_fit_3 l D cyI cyO cyL (aX := aX) (aT := (t 0)) (aR0 := r0) (aR1 := r1) (ac := (t 1)) (as_ := (t 2)) (aW0 := (u0 0)) (aw0 := (u0 1)) (af0 := (u0 2)) (aG0 := (u0 3)) (ao0 := (u0 4)) (aB0 := (u0 5)) (aW1 := (u1 0)) (aw1 := (u1 1)) (af1 := (u1 2)) (aG1 := (u1 3)) (ao1 := (u1 4)) (aB1 := (u1 5)) (cd := cd) (sw := sw) (fd := fd) (fn := fn) (ab0 := (fun k => u0 (6 + k))) (w0 := w0) (f0 := f0) (od0 := od0) (g0 := g0) (bc0 := (nI n)) (hr0 := hr0) (co0 := co0) (ab1 := (fun k => u1 (6 + k))) (w1 := w1) (f1 := f1) (od1 := od1) (g1 := g1) (bc1 := bc1) (hr1 := hr1) (co1 := co1) (LB := (LB6 (fun k => u0 (6 + k)) ++ LB6 (fun k => u1 (6 + k)))) (B := B) (a_ := p) (b_ := q) (ha0 := (vp_ge0 h1)) (ha1 := (vp_lti h1 (by omega))) (hb0 := (vp_ge0 h2)) (hb1 := (vp_lti h2 (by omega))) (hia := (vp_mono h1 hn)) (hib := (vp_mono h2 hn)) (hLB0 := LBin0) (hgt := (Or.inl h3)) (hlf := hlf)) rfl rfl (Nat.le_of_ble_eq_true rfl) (Nat.le_of_ble_eq_true rfl)), gi_mk hM rfl rfl (Nat.le_of_ble_eq_true rfl) (Nat.le_of_ble_eq_true rfl), rfl, fun h9 => absurd h9 (by decide), hI.mono⟩
      · by_cases h4 : B (u0 (6 + q.toNatClampNeg)) 1 = 0
        · have e10 : ¬ B (u0 (6 + q.toNatClampNeg)) 1 = 1 := by rw [h4]; decide
          have e9 : mFit rn (nI n) p q = (B (u0 (6 + q.toNatClampNeg)) 0, 0, upd (upd rn (72 + 6 * p.toNatClampNeg + 1) 0) (72 + 6 * q.toNatClampNeg + 1) 1) := by
            unfold mFit
            rw [i1, i2, if_neg (by decide), if_neg (by decide), b1, if_neg h3, b2, if_neg e10, upd_ne _ _ (by omega), upd_ne _ _ (by omega), b3]
          rw [e9] at hM
          have hrel2 := put_busrel (x := 1) (v := 1) hn (vp_lt h2) (by decide) had0 (put_busrel (x := 1) (v := 0) hn (vp_lt h1) (by decide) had0 hrel)
          have hok2 : OkQ (72 * (j + 1)) (w0, f0, od0, g0, up2 (up2 B (u0 (6 + p.toNatClampNeg)) 1 0) (u0 (6 + q.toNatClampNeg)) 1 1, co0, hr0) := by
            obtain ⟨⟨k1, k2, k3, k4, k5⟩, k6⟩ := hok.mono (show 72 * j ≤ 72 * (j + 1) by omega)
            exact ⟨⟨k1, k2, k3, (OkB.up1 (OkB.up1 k4 (Or.inl rfl)) (Or.inr rfl)), k5⟩, k6⟩
          have l1 := vp_lt h1
          have l2 := vp_lt h2
          have hz2 : ∀ i x, n ≤ i → i < 6 → x < 6 → upd (upd rn (72 + 6 * p.toNatClampNeg + 1) 0) (72 + 6 * q.toNatClampNeg + 1) 1 (72 + 6 * i + x) = 0 ∧ up2 (up2 B (u0 (6 + p.toNatClampNeg)) 1 0) (u0 (6 + q.toNatClampNeg)) 1 1 (u0 (6 + i)) x = 0 := fun i x h5 h6 h7 => by
            obtain ⟨z1, z2⟩ := hz i x h5 h6 h7
            have n1 : ¬ u0 (6 + i) = (u0 (6 + p.toNatClampNeg)) := fun e => by have h8 := had0 _ _ h6 (by omega) e; omega
            have n2 : ¬ u0 (6 + i) = (u0 (6 + q.toNatClampNeg)) := fun e => by have h8 := had0 _ _ h6 (by omega) e; omega
            refine ⟨by rw [upd_ne _ _ (by omega), upd_ne _ _ (by omega)]; exact z1, ?_⟩
            simp only [up2, n1, n2, and_false, if_false]
            exact z2
          exact ⟨0, (B (u0 (6 + q.toNatClampNeg)) 0), (cd, sw, fd, fn, n, (w0, f0, od0, g0, up2 (up2 B (u0 (6 + p.toNatClampNeg)) 1 0) (u0 (6 + q.toNatClampNeg)) 1 1, co0, hr0), (w1, f1, od1, g1, B1, co1, hr1), bc1, 0, upd (upd rn (72 + 6 * p.toNatClampNeg + 1) 0) (72 + 6 * q.toNatClampNeg + 1) 1, ra), _, u_fit_g l D cyI cyO cyL aX ao p q _ _ o _ (WXs_recv (aX, t, r0, u0, r1, u1) (cd, sw, fd, fn, n, (w0, f0, od0, g0, B, co0, hr0), (w1, f1, od1, g1, B1, co1, hr1), bc1, th, rn, ra)) (B (u0 (6 + q.toNatClampNeg)) 0) (WXs_fst (a := (aX, t, r0, u0, r1, u1)) (cd, sw, fd, fn, n, (w0, f0, od0, g0, B, co0, hr0), (w1, f1, od1, g1, B1, co1, hr1), bc1, th, rn, ra) (cd, sw, fd, fn, n, (w0, f0, od0, g0, up2 (up2 B (u0 (6 + p.toNatClampNeg)) 1 0) (u0 (6 + q.toNatClampNeg)) 1 1, co0, hr0), (w1, f1, od1, g1, B1, co1, hr1), bc1, 0, upd (upd rn (72 + 6 * p.toNatClampNeg + 1) 0) (72 + 6 * q.toNatClampNeg + 1) 1, ra)) (gi_mk (c_X5_fit l D cyI cyO cyL (aX := aX) (aT := (t 0)) (aR0 := r0) (aR1 := r1) (ac := (t 1)) (as_ := (t 2)) (aW0 := (u0 0)) (aw0 := (u0 1)) (af0 := (u0 2)) (aG0 := (u0 3)) (ao0 := (u0 4)) (aB0 := (u0 5)) (aW1 := (u1 0)) (aw1 := (u1 1)) (af1 := (u1 2)) (aG1 := (u1 3)) (ao1 := (u1 4)) (aB1 := (u1 5)) (cd := cd) (sw := sw) (fd := fd) (fn := fn) (ab0 := (fun k => u0 (6 + k))) (w0 := w0) (f0 := f0) (od0 := od0) (g0 := g0) (bc0 := (nI n)) (hr0 := hr0) (co0 := co0) (ab1 := (fun k => u1 (6 + k))) (w1 := w1) (f1 := f1) (od1 := od1) (g1 := g1) (bc1 := bc1) (hr1 := hr1) (co1 := co1) (LB := (LB6 (fun k => u0 (6 + k)) ++ LB6 (fun k => u1 (6 + k)))) (B := B) (a_ := p) (b_ := q) (ha0 := (vp_ge0 h1)) (ha1 := (vp_lti h1 (by omega))) (hb0 := (vp_ge0 h2)) (hb1 := (vp_lti h2 (by omega))) (hia := (vp_mono h1 hn)) (hib := (vp_mono h2 hn)) (hLB0 := LBin0) (hgv := h3) (htk := h4)) rfl rfl (Nat.le_of_ble_eq_true rfl) (Nat.le_of_ble_eq_true rfl)), gi_mk hM rfl rfl (Nat.le_of_ble_eq_true rfl) (Nat.le_of_ble_eq_true rfl), rfl, fun _ => rfl, ⟨hn, hcd, hsw, hok2, hrel2, ho1, hz2⟩⟩
        · have e10 : B (u0 (6 + q.toNatClampNeg)) 1 = 1 := ((k4 _).2.1).resolve_left h4
          have e9 : mFit rn (nI n) p q = (0, 2, rn) := by
            unfold mFit
            rw [i1, i2, if_neg (by decide), if_neg (by decide), b1, if_neg h3, b2, if_pos e10]
          rw [e9] at hM
          exact ⟨2, 0, (cd, sw, fd, fn, n, (w0, f0, od0, g0, B, co0, hr0), (w1, f1, od1, g1, B1, co1, hr1), bc1, 2, rn, ra), _, u_fit_b2 l D cyI cyO cyL aX ao p q _ o _ (WXs_recv (aX, t, r0, u0, r1, u1) (cd, sw, fd, fn, n, (w0, f0, od0, g0, B, co0, hr0), (w1, f1, od1, g1, B1, co1, hr1), bc1, th, rn, ra)) hlf (gb_mk (b_fit_3 l D cyI cyO cyL (aX := aX) (aT := (t 0)) (aR0 := r0) (aR1 := r1) (ac := (t 1)) (as_ := (t 2)) (aW0 := (u0 0)) (aw0 := (u0 1)) (af0 := (u0 2)) (aG0 := (u0 3)) (ao0 := (u0 4)) (aB0 := (u0 5)) (aW1 := (u1 0)) (aw1 := (u1 1)) (af1 := (u1 2)) (aG1 := (u1 3)) (ao1 := (u1 4)) (aB1 := (u1 5)) (cd := cd) (sw := sw) (fd := fd) (fn := fn) (ab0 := (fun k => u0 (6 + k))) (w0 := w0) (f0 := f0) (od0 := od0) (g0 := g0) (bc0 := (nI n)) (hr0 := hr0) (co0 := co0) (ab1 := (fun k => u1 (6 + k))) (w1 := w1) (f1 := f1) (od1 := od1) (g1 := g1) (bc1 := bc1) (hr1 := hr1) (co1 := co1) (LB := (LB6 (fun k => u0 (6 + k)) ++ LB6 (fun k => u1 (6 + k)))) (B := B) (a_ := p) (b_ := q) (ha0 := (vp_ge0 h1)) (ha1 := (vp_lti h1 (by omega))) (hb0 := (vp_ge0 h2)) (hb1 := (vp_lti h2 (by omega))) (hia := (vp_mono h1 hn)) (hib := (vp_mono h2 hn)) (hLB0 := LBin0) (hgt := (Or.inr h4)) (hlf := hlf)) rfl rfl (Nat.le_of_ble_eq_true rfl) (Nat.le_of_ble_eq_true rfl)), gi_mk hM rfl rfl (Nat.le_of_ble_eq_true rfl) (Nat.le_of_ble_eq_true rfl), rfl, fun h9 => absurd h9 (by decide), hI.mono⟩
    · have e9 : mFit rn (nI n) p q = (0, 1, rn) := by
        unfold mFit
        rw [i1, if_neg (by decide), show inI q 0 (nI n - 1) = 0 from inI_b0 rfl hn h2, if_pos rfl]
      rw [e9] at hM
      exact ⟨1, 0, (cd, sw, fd, fn, n, (w0, f0, od0, g0, B, co0, hr0), (w1, f1, od1, g1, B1, co1, hr1), bc1, 1, rn, ra), _, u_fit_b1 l D cyI cyO cyL aX ao p q _ o _ (WXs_recv (aX, t, r0, u0, r1, u1) (cd, sw, fd, fn, n, (w0, f0, od0, g0, B, co0, hr0), (w1, f1, od1, g1, B1, co1, hr1), bc1, th, rn, ra)) hlf (gb_mk (b_fit_2 l D cyI cyO cyL (aX := aX) (aT := (t 0)) (aR0 := r0) (aR1 := r1) (ac := (t 1)) (as_ := (t 2)) (aW0 := (u0 0)) (aw0 := (u0 1)) (af0 := (u0 2)) (aG0 := (u0 3)) (ao0 := (u0 4)) (aB0 := (u0 5)) (aW1 := (u1 0)) (aw1 := (u1 1)) (af1 := (u1 2)) (aG1 := (u1 3)) (ao1 := (u1 4)) (aB1 := (u1 5)) (cd := cd) (sw := sw) (fd := fd) (fn := fn) (ab0 := (fun k => u0 (6 + k))) (w0 := w0) (f0 := f0) (od0 := od0) (g0 := g0) (bc0 := (nI n)) (hr0 := hr0) (co0 := co0) (ab1 := (fun k => u1 (6 + k))) (w1 := w1) (f1 := f1) (od1 := od1) (g1 := g1) (bc1 := bc1) (hr1 := hr1) (co1 := co1) (LB := (LB6 (fun k => u0 (6 + k)) ++ LB6 (fun k => u1 (6 + k)))) (B := B) (a_ := p) (b_ := q) (ha0 := (vp_ge0 h1)) (ha1 := (vp_lti h1 (by omega))) (hb9 := (fun h8 h9 => h2 (vp_of h8 h9 (by omega)))) (hlf := hlf)) rfl rfl (Nat.le_of_ble_eq_true rfl) (Nat.le_of_ble_eq_true rfl)), gi_mk hM rfl rfl (Nat.le_of_ble_eq_true rfl) (Nat.le_of_ble_eq_true rfl), rfl, fun h9 => absurd h9 (by decide), hI.mono⟩
  · have e9 : mFit rn (nI n) p q = (0, 1, rn) := by
      unfold mFit
      rw [show inI p 0 (nI n - 1) = 0 from inI_b0 rfl hn h1, if_pos rfl]
    rw [e9] at hM
    exact ⟨1, 0, (cd, sw, fd, fn, n, (w0, f0, od0, g0, B, co0, hr0), (w1, f1, od1, g1, B1, co1, hr1), bc1, 1, rn, ra), _, u_fit_b1 l D cyI cyO cyL aX ao p q _ o _ (WXs_recv (aX, t, r0, u0, r1, u1) (cd, sw, fd, fn, n, (w0, f0, od0, g0, B, co0, hr0), (w1, f1, od1, g1, B1, co1, hr1), bc1, th, rn, ra)) hlf (gb_mk (b_fit_1 l D cyI cyO cyL (aX := aX) (aT := (t 0)) (aR0 := r0) (aR1 := r1) (ac := (t 1)) (as_ := (t 2)) (aW0 := (u0 0)) (aw0 := (u0 1)) (af0 := (u0 2)) (aG0 := (u0 3)) (ao0 := (u0 4)) (aB0 := (u0 5)) (aW1 := (u1 0)) (aw1 := (u1 1)) (af1 := (u1 2)) (aG1 := (u1 3)) (ao1 := (u1 4)) (aB1 := (u1 5)) (cd := cd) (sw := sw) (fd := fd) (fn := fn) (ab0 := (fun k => u0 (6 + k))) (w0 := w0) (f0 := f0) (od0 := od0) (g0 := g0) (bc0 := (nI n)) (hr0 := hr0) (co0 := co0) (ab1 := (fun k => u1 (6 + k))) (w1 := w1) (f1 := f1) (od1 := od1) (g1 := g1) (bc1 := bc1) (hr1 := hr1) (co1 := co1) (LB := (LB6 (fun k => u0 (6 + k)) ++ LB6 (fun k => u1 (6 + k)))) (B := B) (a_ := p) (b_ := q) (ha := (fun h8 h9 => h1 (vp_of h8 h9 (by omega)))) (hlf := hlf)) rfl rfl (Nat.le_of_ble_eq_true rfl) (Nat.le_of_ble_eq_true rfl)), gi_mk hM rfl rfl (Nat.le_of_ble_eq_true rfl) (Nat.le_of_ble_eq_true rfl), rfl, fun h9 => absurd h9 (by decide), hI.mono⟩
set_option maxHeartbeats 1000000 in
set_option maxRecDepth 20000 in
theorem st_park (l : Launch) (D : va_G) (cyI cyO cyL : ClassId) (hlf : l.stackTraces = false) (a : AX) (am : AM) (ao j : Nat) (hj : j < 512) (g : SG) (o : Nat → Int64) (hAd : Adr a) (hI : Inv a j g) (p : Int32) : STP l D cyI cyO cyL yL_park wsL_park yX6_park wsX6_park [.int p] (fun b => if b = 0 then 0 else 1) a am ao j g o := by
  obtain ⟨aX, t, r0, u0, r1, u1⟩ := a
  obtain ⟨aM, v⟩ := am
  obtain ⟨cd, sw, fd, fn, n, ⟨w0, f0, od0, g0, B, co0, hr0⟩, ⟨w1, f1, od1, g1, B1, co1, hr1⟩, bc1, th, rn, ra⟩ := g
  obtain ⟨had0, had1, hne⟩ := hAd
  have had0 : ∀ i j, i < 6 → j < 6 → u0 (6 + i) = u0 (6 + j) → i = j := had0
  have had1 : ∀ i j, i < 6 → j < 6 → u1 (6 + i) = u1 (6 + j) → i = j := had1
  have hne : ∀ i j, i < 6 → j < 6 → u1 (6 + i) ≠ u0 (6 + j) := hne
  have hI : InvE (fun k => u0 (6 + k)) j cd sw n (w0, f0, od0, g0, B, co0, hr0) od1 rn := hI
  obtain ⟨hn, hcd, hsw, hok, hrel, ho1, hz⟩ := id hI
  obtain ⟨m, hm, hg⟩ := hok.1.1
  have hg : g0 0 = nI m := hg
  have hon := OkN_of hok hrel hz
  have hgM : rn 109 = nI m := hrel.2.2.2.1.2.1.trans hg
  have hM := (c_X6_park l D cyI cyO cyL (aM := aM) (ac := (v 0)) (as_ := (v 1)) (an := (v 2)) (ah := (v 3)) (th := th) (bu := (nI n)) (fd := fd) (fn := fn) (cd := cd) (sw := sw) (rn := rn) (ra := ra) (b_ := p) (n := n) (hn := hn) (hbu := rfl))
  by_cases h1 : vp_in p n
  · have i1 : inI p 0 (nI n - 1) = 1 := inI_b1 rfl hn h1
    have b1 : rn (72 + 6 * p.toNatClampNeg + 2) = B (u0 (6 + p.toNatClampNeg)) 2 := hrel.2.2.1 _ 2 (vp_lt h1) (by decide)
    have k4 : OkB B := hok.1.2.2.2.1
    have e10 : 1 - B (u0 (6 + p.toNatClampNeg)) 2 = pkI (B (u0 (6 + p.toNatClampNeg)) 2) := by rcases (k4 (u0 (6 + p.toNatClampNeg))).2.2 with e | e <;> rw [e] <;> decide
    have e11 : (if pkI (B (u0 (6 + p.toNatClampNeg)) 2) = 1 then (1 : Int32) else 0) = pkI (B (u0 (6 + p.toNatClampNeg)) 2) := by rcases (k4 (u0 (6 + p.toNatClampNeg))).2.2 with e | e <;> rw [e] <;> decide
    have e12 : pkI (B (u0 (6 + p.toNatClampNeg)) 2) = 0 ∨ pkI (B (u0 (6 + p.toNatClampNeg)) 2) = 1 := by rcases (k4 (u0 (6 + p.toNatClampNeg))).2.2 with e | e <;> rw [e] <;> decide
    have e9 : mPark rn (nI n) p = (pkI (B (u0 (6 + p.toNatClampNeg)) 2), 0, upd rn (72 + 6 * p.toNatClampNeg + 2) (pkI (B (u0 (6 + p.toNatClampNeg)) 2))) := by
      unfold mPark
      rw [i1, if_neg (by decide), pk_us, b1, e10, e11]
    rw [e9] at hM
    have hrel2 := put_busrel (x := 2) (v := pkI (B (u0 (6 + p.toNatClampNeg)) 2)) hn (vp_lt h1) (by decide) had0 hrel
    have hok2 : OkQ (72 * (j + 1)) (w0, f0, od0, g0, up2 B (u0 (6 + p.toNatClampNeg)) 2 (pkI (B (u0 (6 + p.toNatClampNeg)) 2)), co0, hr0) := by
      obtain ⟨⟨k1, k2, k3, k4, k5⟩, k6⟩ := hok.mono (show 72 * j ≤ 72 * (j + 1) by omega)
      exact ⟨⟨k1, k2, k3, OkB.up2_ k4 e12, k5⟩, k6⟩
    have l1 := vp_lt h1
    have hz2 : ∀ i x, n ≤ i → i < 6 → x < 6 → upd rn (72 + 6 * p.toNatClampNeg + 2) (pkI (B (u0 (6 + p.toNatClampNeg)) 2)) (72 + 6 * i + x) = 0 ∧ up2 B (u0 (6 + p.toNatClampNeg)) 2 (pkI (B (u0 (6 + p.toNatClampNeg)) 2)) (u0 (6 + i)) x = 0 := fun i x h5 h6 h7 => by
      obtain ⟨z1, z2⟩ := hz i x h5 h6 h7
      have n1 : ¬ u0 (6 + i) = (u0 (6 + p.toNatClampNeg)) := fun e => by have h8 := had0 _ _ h6 (by omega) e; omega
      refine ⟨by rw [upd_ne _ _ (by omega)]; exact z1, ?_⟩
      simp only [up2, n1, and_false, if_false]
      exact z2
    exact ⟨0, (pkI (B (u0 (6 + p.toNatClampNeg)) 2)), (cd, sw, fd, fn, n, (w0, f0, od0, g0, up2 B (u0 (6 + p.toNatClampNeg)) 2 (pkI (B (u0 (6 + p.toNatClampNeg)) 2)), co0, hr0), (w1, f1, od1, g1, B1, co1, hr1), bc1, 0, upd rn (72 + 6 * p.toNatClampNeg + 2) (pkI (B (u0 (6 + p.toNatClampNeg)) 2)), ra), _, u_park_g l D cyI cyO cyL aX ao p _ _ o _ (WXs_recv (aX, t, r0, u0, r1, u1) (cd, sw, fd, fn, n, (w0, f0, od0, g0, B, co0, hr0), (w1, f1, od1, g1, B1, co1, hr1), bc1, th, rn, ra)) (pkI (B (u0 (6 + p.toNatClampNeg)) 2)) (WXs_fst (a := (aX, t, r0, u0, r1, u1)) (cd, sw, fd, fn, n, (w0, f0, od0, g0, B, co0, hr0), (w1, f1, od1, g1, B1, co1, hr1), bc1, th, rn, ra) (cd, sw, fd, fn, n, (w0, f0, od0, g0, up2 B (u0 (6 + p.toNatClampNeg)) 2 (pkI (B (u0 (6 + p.toNatClampNeg)) 2)), co0, hr0), (w1, f1, od1, g1, B1, co1, hr1), bc1, 0, upd rn (72 + 6 * p.toNatClampNeg + 2) (pkI (B (u0 (6 + p.toNatClampNeg)) 2)), ra)) (gi_mk (c_X5_park l D cyI cyO cyL (aX := aX) (aT := (t 0)) (aR0 := r0) (aR1 := r1) (ac := (t 1)) (as_ := (t 2)) (aW0 := (u0 0)) (aw0 := (u0 1)) (af0 := (u0 2)) (aG0 := (u0 3)) (ao0 := (u0 4)) (aB0 := (u0 5)) (aW1 := (u1 0)) (aw1 := (u1 1)) (af1 := (u1 2)) (aG1 := (u1 3)) (ao1 := (u1 4)) (aB1 := (u1 5)) (cd := cd) (sw := sw) (fd := fd) (fn := fn) (ab0 := (fun k => u0 (6 + k))) (w0 := w0) (f0 := f0) (od0 := od0) (g0 := g0) (bc0 := (nI n)) (hr0 := hr0) (co0 := co0) (ab1 := (fun k => u1 (6 + k))) (w1 := w1) (f1 := f1) (od1 := od1) (g1 := g1) (bc1 := bc1) (hr1 := hr1) (co1 := co1) (LB := (LB6 (fun k => u0 (6 + k)) ++ LB6 (fun k => u1 (6 + k)))) (B := B) (b_ := p) (h0 := (vp_ge0 h1)) (h1 := (vp_lti h1 (by omega))) (hib := (vp_mono h1 hn)) (hLB0 := LBin0)) rfl rfl (Nat.le_of_ble_eq_true rfl) (Nat.le_of_ble_eq_true rfl)), gi_mk hM rfl rfl (Nat.le_of_ble_eq_true rfl) (Nat.le_of_ble_eq_true rfl), rfl, fun _ => rfl, ⟨hn, hcd, hsw, hok2, hrel2, ho1, hz2⟩⟩
  · have e9 : mPark rn (nI n) p = (0, 1, rn) := by
      unfold mPark
      rw [show inI p 0 (nI n - 1) = 0 from inI_b0 rfl hn h1, if_pos rfl]
    rw [e9] at hM
    exact ⟨1, 0, (cd, sw, fd, fn, n, (w0, f0, od0, g0, B, co0, hr0), (w1, f1, od1, g1, B1, co1, hr1), bc1, 1, rn, ra), _, u_park_b1 l D cyI cyO cyL aX ao p _ o _ (WXs_recv (aX, t, r0, u0, r1, u1) (cd, sw, fd, fn, n, (w0, f0, od0, g0, B, co0, hr0), (w1, f1, od1, g1, B1, co1, hr1), bc1, th, rn, ra)) hlf (gb_mk (b_park l D cyI cyO cyL (aX := aX) (aT := (t 0)) (aR0 := r0) (aR1 := r1) (ac := (t 1)) (as_ := (t 2)) (aW0 := (u0 0)) (aw0 := (u0 1)) (af0 := (u0 2)) (aG0 := (u0 3)) (ao0 := (u0 4)) (aB0 := (u0 5)) (aW1 := (u1 0)) (aw1 := (u1 1)) (af1 := (u1 2)) (aG1 := (u1 3)) (ao1 := (u1 4)) (aB1 := (u1 5)) (cd := cd) (sw := sw) (fd := fd) (fn := fn) (ab0 := (fun k => u0 (6 + k))) (w0 := w0) (f0 := f0) (od0 := od0) (g0 := g0) (bc0 := (nI n)) (hr0 := hr0) (co0 := co0) (ab1 := (fun k => u1 (6 + k))) (w1 := w1) (f1 := f1) (od1 := od1) (g1 := g1) (bc1 := bc1) (hr1 := hr1) (co1 := co1) (LB := (LB6 (fun k => u0 (6 + k)) ++ LB6 (fun k => u1 (6 + k)))) (B := B) (b_ := p) (hb9 := (fun h8 h9 => h1 (vp_of h8 h9 (by omega)))) (hlf := hlf)) rfl rfl (Nat.le_of_ble_eq_true rfl) (Nat.le_of_ble_eq_true rfl)), gi_mk hM rfl rfl (Nat.le_of_ble_eq_true rfl) (Nat.le_of_ble_eq_true rfl), rfl, fun h9 => absurd h9 (by decide), hI.mono⟩
set_option maxHeartbeats 1000000 in
set_option maxRecDepth 20000 in
theorem st_told (l : Launch) (D : va_G) (cyI cyO cyL : ClassId) (hlf : l.stackTraces = false) (a : AX) (am : AM) (ao j : Nat) (hj : j < 512) (g : SG) (o : Nat → Int64) (hAd : Adr a) (hI : Inv a j g) (p q : Int32) : STP l D cyI cyO cyL yL_told wsL_told yX6_told wsX6_told [.int p, .int q] Int32.toInt64 a am ao j g o := by
  obtain ⟨aX, t, r0, u0, r1, u1⟩ := a
  obtain ⟨aM, v⟩ := am
  obtain ⟨cd, sw, fd, fn, n, ⟨w0, f0, od0, g0, B, co0, hr0⟩, ⟨w1, f1, od1, g1, B1, co1, hr1⟩, bc1, th, rn, ra⟩ := g
  obtain ⟨had0, had1, hne⟩ := hAd
  have had0 : ∀ i j, i < 6 → j < 6 → u0 (6 + i) = u0 (6 + j) → i = j := had0
  have had1 : ∀ i j, i < 6 → j < 6 → u1 (6 + i) = u1 (6 + j) → i = j := had1
  have hne : ∀ i j, i < 6 → j < 6 → u1 (6 + i) ≠ u0 (6 + j) := hne
  have hI : InvE (fun k => u0 (6 + k)) j cd sw n (w0, f0, od0, g0, B, co0, hr0) od1 rn := hI
  obtain ⟨hn, hcd, hsw, hok, hrel, ho1, hz⟩ := id hI
  obtain ⟨m, hm, hg⟩ := hok.1.1
  have hg : g0 0 = nI m := hg
  have hon := OkN_of hok hrel hz
  have hgM : rn 109 = nI m := hrel.2.2.2.1.2.1.trans hg
  have hM := (c_X6_told l D cyI cyO cyL (aM := aM) (ac := (v 0)) (as_ := (v 1)) (an := (v 2)) (ah := (v 3)) (th := th) (bu := (nI n)) (fd := fd) (fn := fn) (cd := cd) (sw := sw) (rn := rn) (ra := ra) (b_ := p) (x_ := q) (n := n) (M_ := (72 * j)) (hn := hn) (hbu := rfl) (hok := hon))
  by_cases h1 : vp_in p n
  · have i1 : inI p 0 (nI n - 1) = 1 := inI_b1 rfl hn h1
    by_cases h2 : vp_in q 7
    · have e8 : mbtold rn p q = toldS q B (u0 (6 + p.toNatClampNeg)) w0 := told_rel (n := n) (ab := fun k => u0 (6 + k)) (w := w0) (R := rn) (B := B) (b_ := p) (x := q) hok.1.2.2.2.1 hrel.1 hrel.2.2.1 h1 h2
      have e9 : mTold rn (nI n) p q = (toldS q B (u0 (6 + p.toNatClampNeg)) w0, 0) := by
        unfold mTold
        rw [i1, if_neg (by decide), show inI q 0 6 = 1 from vp_inI (N := 6) h2 (by decide), if_neg (by decide), e8]
      rw [e9] at hM
      exact ⟨0, (toldS q B (u0 (6 + p.toNatClampNeg)) w0), (cd, sw, fd, fn, n, (w0, f0, od0, g0, B, co0, hr0), (w1, f1, od1, g1, B1, co1, hr1), bc1, 0, rn, ra), _, u_told_g l D cyI cyO cyL aX ao p q _ _ o _ (WXs_recv (aX, t, r0, u0, r1, u1) (cd, sw, fd, fn, n, (w0, f0, od0, g0, B, co0, hr0), (w1, f1, od1, g1, B1, co1, hr1), bc1, th, rn, ra)) (toldS q B (u0 (6 + p.toNatClampNeg)) w0) (WXs_fst (a := (aX, t, r0, u0, r1, u1)) (cd, sw, fd, fn, n, (w0, f0, od0, g0, B, co0, hr0), (w1, f1, od1, g1, B1, co1, hr1), bc1, th, rn, ra) (cd, sw, fd, fn, n, (w0, f0, od0, g0, B, co0, hr0), (w1, f1, od1, g1, B1, co1, hr1), bc1, 0, rn, ra)) (gi_mk (c_X5_told l D cyI cyO cyL (aX := aX) (aT := (t 0)) (aR0 := r0) (aR1 := r1) (ac := (t 1)) (as_ := (t 2)) (aW0 := (u0 0)) (aw0 := (u0 1)) (af0 := (u0 2)) (aG0 := (u0 3)) (ao0 := (u0 4)) (aB0 := (u0 5)) (aW1 := (u1 0)) (aw1 := (u1 1)) (af1 := (u1 2)) (aG1 := (u1 3)) (ao1 := (u1 4)) (aB1 := (u1 5)) (cd := cd) (sw := sw) (fd := fd) (fn := fn) (ab0 := (fun k => u0 (6 + k))) (w0 := w0) (f0 := f0) (od0 := od0) (g0 := g0) (bc0 := (nI n)) (hr0 := hr0) (co0 := co0) (ab1 := (fun k => u1 (6 + k))) (w1 := w1) (f1 := f1) (od1 := od1) (g1 := g1) (bc1 := bc1) (hr1 := hr1) (co1 := co1) (LB := (LB6 (fun k => u0 (6 + k)) ++ LB6 (fun k => u1 (6 + k)))) (B := B) (b_ := p) (x_ := q) (h0 := (vp_ge0 h1)) (h1 := (vp_lti h1 (by omega))) (hib := (vp_mono h1 hn)) (hLB0 := LBin0) (hB := hok.1.2.2.2.1) (hx0 := (vp_ge0 h2)) (hx1 := (vp_lti h2 (by decide)))) rfl rfl (Nat.le_of_ble_eq_true rfl) (Nat.le_of_ble_eq_true rfl)), gi_mk hM rfl rfl (Nat.le_of_ble_eq_true rfl) (Nat.le_of_ble_eq_true rfl), rfl, fun _ => rfl, hI.mono⟩
    · have e9 : mTold rn (nI n) p q = (0, 1) := by
        unfold mTold
        rw [i1, if_neg (by decide), show inI q 0 6 = 0 from vp_inI0 (N := 6) h2 (by decide), if_pos rfl]
      rw [e9] at hM
      exact ⟨1, 0, (cd, sw, fd, fn, n, (w0, f0, od0, g0, B, co0, hr0), (w1, f1, od1, g1, B1, co1, hr1), bc1, 1, rn, ra), _, u_told_b1 l D cyI cyO cyL aX ao p q _ o _ (WXs_recv (aX, t, r0, u0, r1, u1) (cd, sw, fd, fn, n, (w0, f0, od0, g0, B, co0, hr0), (w1, f1, od1, g1, B1, co1, hr1), bc1, th, rn, ra)) hlf (gb_mk (b_told_2 l D cyI cyO cyL (aX := aX) (aT := (t 0)) (aR0 := r0) (aR1 := r1) (ac := (t 1)) (as_ := (t 2)) (aW0 := (u0 0)) (aw0 := (u0 1)) (af0 := (u0 2)) (aG0 := (u0 3)) (ao0 := (u0 4)) (aB0 := (u0 5)) (aW1 := (u1 0)) (aw1 := (u1 1)) (af1 := (u1 2)) (aG1 := (u1 3)) (ao1 := (u1 4)) (aB1 := (u1 5)) (cd := cd) (sw := sw) (fd := fd) (fn := fn) (ab0 := (fun k => u0 (6 + k))) (w0 := w0) (f0 := f0) (od0 := od0) (g0 := g0) (bc0 := (nI n)) (hr0 := hr0) (co0 := co0) (ab1 := (fun k => u1 (6 + k))) (w1 := w1) (f1 := f1) (od1 := od1) (g1 := g1) (bc1 := bc1) (hr1 := hr1) (co1 := co1) (LB := (LB6 (fun k => u0 (6 + k)) ++ LB6 (fun k => u1 (6 + k)))) (B := B) (b_ := p) (x_ := q) (hb0 := (vp_ge0 h1)) (hb1 := (vp_lti h1 (by omega))) (hx9 := (fun h8 h9 => h2 (vp_of (N := 7) h8 h9 (by decide)))) (hlf := hlf)) rfl rfl (Nat.le_of_ble_eq_true rfl) (Nat.le_of_ble_eq_true rfl)), gi_mk hM rfl rfl (Nat.le_of_ble_eq_true rfl) (Nat.le_of_ble_eq_true rfl), rfl, fun h9 => absurd h9 (by decide), hI.mono⟩
  · have e9 : mTold rn (nI n) p q = (0, 1) := by
      unfold mTold
      rw [show inI p 0 (nI n - 1) = 0 from inI_b0 rfl hn h1, if_pos rfl]
    rw [e9] at hM
    exact ⟨1, 0, (cd, sw, fd, fn, n, (w0, f0, od0, g0, B, co0, hr0), (w1, f1, od1, g1, B1, co1, hr1), bc1, 1, rn, ra), _, u_told_b1 l D cyI cyO cyL aX ao p q _ o _ (WXs_recv (aX, t, r0, u0, r1, u1) (cd, sw, fd, fn, n, (w0, f0, od0, g0, B, co0, hr0), (w1, f1, od1, g1, B1, co1, hr1), bc1, th, rn, ra)) hlf (gb_mk (b_told_1 l D cyI cyO cyL (aX := aX) (aT := (t 0)) (aR0 := r0) (aR1 := r1) (ac := (t 1)) (as_ := (t 2)) (aW0 := (u0 0)) (aw0 := (u0 1)) (af0 := (u0 2)) (aG0 := (u0 3)) (ao0 := (u0 4)) (aB0 := (u0 5)) (aW1 := (u1 0)) (aw1 := (u1 1)) (af1 := (u1 2)) (aG1 := (u1 3)) (ao1 := (u1 4)) (aB1 := (u1 5)) (cd := cd) (sw := sw) (fd := fd) (fn := fn) (ab0 := (fun k => u0 (6 + k))) (w0 := w0) (f0 := f0) (od0 := od0) (g0 := g0) (bc0 := (nI n)) (hr0 := hr0) (co0 := co0) (ab1 := (fun k => u1 (6 + k))) (w1 := w1) (f1 := f1) (od1 := od1) (g1 := g1) (bc1 := bc1) (hr1 := hr1) (co1 := co1) (LB := (LB6 (fun k => u0 (6 + k)) ++ LB6 (fun k => u1 (6 + k)))) (B := B) (b_ := p) (x_ := q) (hb9 := (fun h8 h9 => h1 (vp_of h8 h9 (by omega)))) (hlf := hlf)) rfl rfl (Nat.le_of_ble_eq_true rfl) (Nat.le_of_ble_eq_true rfl)), gi_mk hM rfl rfl (Nat.le_of_ble_eq_true rfl) (Nat.le_of_ble_eq_true rfl), rfl, fun h9 => absurd h9 (by decide), hI.mono⟩
set_option maxHeartbeats 1000000 in
set_option maxRecDepth 20000 in
theorem st_span (l : Launch) (D : va_G) (cyI cyO cyL : ClassId) (hlf : l.stackTraces = false) (a : AX) (am : AM) (ao j : Nat) (hj : j < 512) (g : SG) (o : Nat → Int64) (hAd : Adr a) (hI : Inv a j g) (p q : Int32) : STP l D cyI cyO cyL yL_span wsL_span yX6_span wsX6_span [.int p, .int q] Int32.toInt64 a am ao j g o := by
  obtain ⟨aX, t, r0, u0, r1, u1⟩ := a
  obtain ⟨aM, v⟩ := am
  obtain ⟨cd, sw, fd, fn, n, ⟨w0, f0, od0, g0, B, co0, hr0⟩, ⟨w1, f1, od1, g1, B1, co1, hr1⟩, bc1, th, rn, ra⟩ := g
  obtain ⟨had0, had1, hne⟩ := hAd
  have had0 : ∀ i j, i < 6 → j < 6 → u0 (6 + i) = u0 (6 + j) → i = j := had0
  have had1 : ∀ i j, i < 6 → j < 6 → u1 (6 + i) = u1 (6 + j) → i = j := had1
  have hne : ∀ i j, i < 6 → j < 6 → u1 (6 + i) ≠ u0 (6 + j) := hne
  have hI : InvE (fun k => u0 (6 + k)) j cd sw n (w0, f0, od0, g0, B, co0, hr0) od1 rn := hI
  obtain ⟨hn, hcd, hsw, hok, hrel, ho1, hz⟩ := id hI
  obtain ⟨m, hm, hg⟩ := hok.1.1
  have hg : g0 0 = nI m := hg
  have hon := OkN_of hok hrel hz
  have hgM : rn 109 = nI m := hrel.2.2.2.1.2.1.trans hg
  have hM := (c_X6_span l D cyI cyO cyL (aM := aM) (ac := (v 0)) (as_ := (v 1)) (an := (v 2)) (ah := (v 3)) (th := th) (bu := (nI n)) (fd := fd) (fn := fn) (cd := cd) (sw := sw) (rn := rn) (ra := ra) (s_ := p) (x_ := q) (n := n) (k_ := m) (hn := hn) (hbu := rfl) (hm := hm) (hoc := hgM))
  by_cases h1 : vp_in p 24
  · have i1 : inI p 0 23 = 1 := vp_inI (N := 23) h1 (by decide)
    by_cases h2 : vp_in q 5
    · have e8 : mstold rn n m p q = spanS p q n m (fun k => u0 (6 + k)) w0 f0 od0 B := span_rel (n := n) (m := m) (ab := fun k => u0 (6 + k)) (q := (w0, f0, od0, g0, B, co0, hr0)) (R := rn) (s_ := p) (x := q) hm hg hrel h1 h2
      have e9 : mSpan rn n m p q = (spanS p q n m (fun k => u0 (6 + k)) w0 f0 od0 B, 0) := by
        unfold mSpan
        rw [i1, if_neg (by decide), show inI q 0 4 = 1 from vp_inI (N := 4) h2 (by decide), if_neg (by decide), e8]
      rw [e9] at hM
      exact ⟨0, (spanS p q n m (fun k => u0 (6 + k)) w0 f0 od0 B), (cd, sw, fd, fn, n, (w0, f0, od0, g0, B, co0, hr0), (w1, f1, od1, g1, B1, co1, hr1), bc1, 0, rn, ra), _, u_span_g l D cyI cyO cyL aX ao p q _ _ o _ (WXs_recv (aX, t, r0, u0, r1, u1) (cd, sw, fd, fn, n, (w0, f0, od0, g0, B, co0, hr0), (w1, f1, od1, g1, B1, co1, hr1), bc1, th, rn, ra)) (spanS p q n m (fun k => u0 (6 + k)) w0 f0 od0 B) (WXs_fst (a := (aX, t, r0, u0, r1, u1)) (cd, sw, fd, fn, n, (w0, f0, od0, g0, B, co0, hr0), (w1, f1, od1, g1, B1, co1, hr1), bc1, th, rn, ra) (cd, sw, fd, fn, n, (w0, f0, od0, g0, B, co0, hr0), (w1, f1, od1, g1, B1, co1, hr1), bc1, 0, rn, ra)) (gi_mk (c_X5_span l D cyI cyO cyL (aX := aX) (aT := (t 0)) (aR0 := r0) (aR1 := r1) (ac := (t 1)) (as_ := (t 2)) (aW0 := (u0 0)) (aw0 := (u0 1)) (af0 := (u0 2)) (aG0 := (u0 3)) (ao0 := (u0 4)) (aB0 := (u0 5)) (aW1 := (u1 0)) (aw1 := (u1 1)) (af1 := (u1 2)) (aG1 := (u1 3)) (ao1 := (u1 4)) (aB1 := (u1 5)) (cd := cd) (sw := sw) (fd := fd) (fn := fn) (ab0 := (fun k => u0 (6 + k))) (w0 := w0) (f0 := f0) (od0 := od0) (g0 := g0) (bc0 := (nI n)) (hr0 := hr0) (co0 := co0) (ab1 := (fun k => u1 (6 + k))) (w1 := w1) (f1 := f1) (od1 := od1) (g1 := g1) (bc1 := bc1) (hr1 := hr1) (co1 := co1) (LB := (LB6 (fun k => u0 (6 + k)) ++ LB6 (fun k => u1 (6 + k)))) (B := B) (s_ := p) (x_ := q) (n := n) (o_ := m) (hi := h1) (hx0 := (vp_ge0 h2)) (hx1 := (vp_lti h2 (by decide))) (hn := hn) (hbc := rfl) (hLB0 := LBin0) (hm := hm) (hoc := hg)) rfl rfl (Nat.le_of_ble_eq_true rfl) (Nat.le_of_ble_eq_true rfl)), gi_mk hM rfl rfl (Nat.le_of_ble_eq_true rfl) (Nat.le_of_ble_eq_true rfl), rfl, fun _ => rfl, hI.mono⟩
    · have e9 : mSpan rn n m p q = (0, 1) := by
        unfold mSpan
        rw [i1, if_neg (by decide), show inI q 0 4 = 0 from vp_inI0 (N := 4) h2 (by decide), if_pos rfl]
      rw [e9] at hM
      exact ⟨1, 0, (cd, sw, fd, fn, n, (w0, f0, od0, g0, B, co0, hr0), (w1, f1, od1, g1, B1, co1, hr1), bc1, 1, rn, ra), _, u_span_b1 l D cyI cyO cyL aX ao p q _ o _ (WXs_recv (aX, t, r0, u0, r1, u1) (cd, sw, fd, fn, n, (w0, f0, od0, g0, B, co0, hr0), (w1, f1, od1, g1, B1, co1, hr1), bc1, th, rn, ra)) hlf (gb_mk (b_span_2 l D cyI cyO cyL (aX := aX) (aT := (t 0)) (aR0 := r0) (aR1 := r1) (ac := (t 1)) (as_ := (t 2)) (aW0 := (u0 0)) (aw0 := (u0 1)) (af0 := (u0 2)) (aG0 := (u0 3)) (ao0 := (u0 4)) (aB0 := (u0 5)) (aW1 := (u1 0)) (aw1 := (u1 1)) (af1 := (u1 2)) (aG1 := (u1 3)) (ao1 := (u1 4)) (aB1 := (u1 5)) (cd := cd) (sw := sw) (fd := fd) (fn := fn) (ab0 := (fun k => u0 (6 + k))) (w0 := w0) (f0 := f0) (od0 := od0) (g0 := g0) (bc0 := (nI n)) (hr0 := hr0) (co0 := co0) (ab1 := (fun k => u1 (6 + k))) (w1 := w1) (f1 := f1) (od1 := od1) (g1 := g1) (bc1 := bc1) (hr1 := hr1) (co1 := co1) (LB := (LB6 (fun k => u0 (6 + k)) ++ LB6 (fun k => u1 (6 + k)))) (B := B) (s_ := p) (x_ := q) (hs := h1) (hx9 := (fun h8 h9 => h2 (vp_of (N := 5) h8 h9 (by decide)))) (hlf := hlf)) rfl rfl (Nat.le_of_ble_eq_true rfl) (Nat.le_of_ble_eq_true rfl)), gi_mk hM rfl rfl (Nat.le_of_ble_eq_true rfl) (Nat.le_of_ble_eq_true rfl), rfl, fun h9 => absurd h9 (by decide), hI.mono⟩
  · have e9 : mSpan rn n m p q = (0, 1) := by
      unfold mSpan
      rw [show inI p 0 23 = 0 from vp_inI0 (N := 23) h1 (by decide), if_pos rfl]
    rw [e9] at hM
    exact ⟨1, 0, (cd, sw, fd, fn, n, (w0, f0, od0, g0, B, co0, hr0), (w1, f1, od1, g1, B1, co1, hr1), bc1, 1, rn, ra), _, u_span_b1 l D cyI cyO cyL aX ao p q _ o _ (WXs_recv (aX, t, r0, u0, r1, u1) (cd, sw, fd, fn, n, (w0, f0, od0, g0, B, co0, hr0), (w1, f1, od1, g1, B1, co1, hr1), bc1, th, rn, ra)) hlf (gb_mk (b_span_1 l D cyI cyO cyL (aX := aX) (aT := (t 0)) (aR0 := r0) (aR1 := r1) (ac := (t 1)) (as_ := (t 2)) (aW0 := (u0 0)) (aw0 := (u0 1)) (af0 := (u0 2)) (aG0 := (u0 3)) (ao0 := (u0 4)) (aB0 := (u0 5)) (aW1 := (u1 0)) (aw1 := (u1 1)) (af1 := (u1 2)) (aG1 := (u1 3)) (ao1 := (u1 4)) (aB1 := (u1 5)) (cd := cd) (sw := sw) (fd := fd) (fn := fn) (ab0 := (fun k => u0 (6 + k))) (w0 := w0) (f0 := f0) (od0 := od0) (g0 := g0) (bc0 := (nI n)) (hr0 := hr0) (co0 := co0) (ab1 := (fun k => u1 (6 + k))) (w1 := w1) (f1 := f1) (od1 := od1) (g1 := g1) (bc1 := bc1) (hr1 := hr1) (co1 := co1) (LB := (LB6 (fun k => u0 (6 + k)) ++ LB6 (fun k => u1 (6 + k)))) (B := B) (s_ := p) (x_ := q) (hs := h1) (hlf := hlf)) rfl rfl (Nat.le_of_ble_eq_true rfl) (Nat.le_of_ble_eq_true rfl)), gi_mk hM rfl rfl (Nat.le_of_ble_eq_true rfl) (Nat.le_of_ble_eq_true rfl), rfl, fun h9 => absurd h9 (by decide), hI.mono⟩
set_option maxHeartbeats 1000000 in
set_option maxRecDepth 20000 in
theorem st_order (l : Launch) (D : va_G) (cyI cyO cyL : ClassId) (hlf : l.stackTraces = false) (a : AX) (am : AM) (ao j : Nat) (hj : j < 512) (g : SG) (o : Nat → Int64) (hAd : Adr a) (hI : Inv a j g) (p : Int32) : STP l D cyI cyO cyL yL_order wsL_order yX6_order wsX6_order [.int p] Int32.toInt64 a am ao j g o := by
  obtain ⟨aX, t, r0, u0, r1, u1⟩ := a
  obtain ⟨aM, v⟩ := am
  obtain ⟨cd, sw, fd, fn, n, ⟨w0, f0, od0, g0, B, co0, hr0⟩, ⟨w1, f1, od1, g1, B1, co1, hr1⟩, bc1, th, rn, ra⟩ := g
  obtain ⟨had0, had1, hne⟩ := hAd
  have had0 : ∀ i j, i < 6 → j < 6 → u0 (6 + i) = u0 (6 + j) → i = j := had0
  have had1 : ∀ i j, i < 6 → j < 6 → u1 (6 + i) = u1 (6 + j) → i = j := had1
  have hne : ∀ i j, i < 6 → j < 6 → u1 (6 + i) ≠ u0 (6 + j) := hne
  have hI : InvE (fun k => u0 (6 + k)) j cd sw n (w0, f0, od0, g0, B, co0, hr0) od1 rn := hI
  obtain ⟨hn, hcd, hsw, hok, hrel, ho1, hz⟩ := id hI
  obtain ⟨m, hm, hg⟩ := hok.1.1
  have hg : g0 0 = nI m := hg
  have hon := OkN_of hok hrel hz
  have hgM : rn 109 = nI m := hrel.2.2.2.1.2.1.trans hg
  have hM := (c_X6_order l D cyI cyO cyL (aM := aM) (ac := (v 0)) (as_ := (v 1)) (an := (v 2)) (ah := (v 3)) (th := th) (bu := (nI n)) (fd := fd) (fn := fn) (cd := cd) (sw := sw) (rn := rn) (ra := ra) (s_ := p) (k_ := m) (hm := hm) (hoc := hgM))
  by_cases h1 : vp_in p 24
  · have i1 : inI p 0 23 = 1 := vp_inI (N := 23) h1 (by decide)
    have e7 : mplace rn p m 0 = pofL od0 p m 0 := place_rel hrel.2.2.2.1 hg hm m 0 (Nat.zero_add m)
    by_cases h2 : m < 6
    · have e8 : ¬ nI m = 6 := fun e => by have h8 := (nI_eq (a := m) (b := 6) (by omega) (by decide)).mp e; omega
      by_cases h3 : pofL od0 p m 0 = -1
      · have e9 : mOrder rn m p = (nI (m + 1), 0, upd (upd rn (113 + m) p) 109 (nI (m + 1))) := by
          unfold mOrder
          rw [i1, if_neg (by decide), if_neg e8, e7, h3, if_pos (by decide), pk_us]
        rw [e9] at hM
        have hrel2 := order_rel (s_ := p) hn h2 hg hrel
        have hok2 : OkQ (72 * (j + 1)) (w0, f0, upd od0 m p, upd g0 0 (nI (m + 1)), B, co0, hr0) := by
          obtain ⟨⟨k1, k2, k3, k4, k5⟩, k6⟩ := hok.mono (show 72 * j ≤ 72 * (j + 1) by omega)
          refine ⟨⟨⟨m + 1, h2, by show upd g0 0 (nI (m + 1)) 0 = nI (m + 1); exact pk_us⟩, by show vp_in (upd g0 0 (nI (m + 1)) 1) 24; rw [upd_ne _ _ (by decide)]; exact k2, fun k => ?_, k4, k5⟩, k6⟩
          show vp_in (upd od0 m p k) 24
          by_cases e : k = m
          · rw [e, pk_us]
            exact h1
          · rw [upd_ne _ _ e]
            exact k3 k
        have hz2 : ∀ i x, n ≤ i → i < 6 → x < 6 → upd (upd rn (113 + m) p) 109 (nI (m + 1)) (72 + 6 * i + x) = 0 ∧ B (u0 (6 + i)) x = 0 := fun i x h5 h6 h7 => by
          rw [upd_ne _ _ (by omega), upd_ne _ _ (by omega)]
          exact hz i x h5 h6 h7
        exact ⟨0, (nI (m + 1)), (cd, sw, fd, fn, n, (w0, f0, upd od0 m p, upd g0 0 (nI (m + 1)), B, co0, hr0), (w1, f1, od1, g1, B1, co1, hr1), bc1, 0, upd (upd rn (113 + m) p) 109 (nI (m + 1)), ra), _, u_order_g l D cyI cyO cyL aX ao p _ _ o _ (WXs_recv (aX, t, r0, u0, r1, u1) (cd, sw, fd, fn, n, (w0, f0, od0, g0, B, co0, hr0), (w1, f1, od1, g1, B1, co1, hr1), bc1, th, rn, ra)) (nI (m + 1)) (WXs_fst (a := (aX, t, r0, u0, r1, u1)) (cd, sw, fd, fn, n, (w0, f0, od0, g0, B, co0, hr0), (w1, f1, od1, g1, B1, co1, hr1), bc1, th, rn, ra) (cd, sw, fd, fn, n, (w0, f0, upd od0 m p, upd g0 0 (nI (m + 1)), B, co0, hr0), (w1, f1, od1, g1, B1, co1, hr1), bc1, 0, upd (upd rn (113 + m) p) 109 (nI (m + 1)), ra)) (gi_mk (c_X5_order l D cyI cyO cyL (aX := aX) (aT := (t 0)) (aR0 := r0) (aR1 := r1) (ac := (t 1)) (as_ := (t 2)) (aW0 := (u0 0)) (aw0 := (u0 1)) (af0 := (u0 2)) (aG0 := (u0 3)) (ao0 := (u0 4)) (aB0 := (u0 5)) (aW1 := (u1 0)) (aw1 := (u1 1)) (af1 := (u1 2)) (aG1 := (u1 3)) (ao1 := (u1 4)) (aB1 := (u1 5)) (cd := cd) (sw := sw) (fd := fd) (fn := fn) (ab0 := (fun k => u0 (6 + k))) (w0 := w0) (f0 := f0) (od0 := od0) (g0 := g0) (bc0 := (nI n)) (hr0 := hr0) (co0 := co0) (ab1 := (fun k => u1 (6 + k))) (w1 := w1) (f1 := f1) (od1 := od1) (g1 := g1) (bc1 := bc1) (hr1 := hr1) (co1 := co1) (LB := (LB6 (fun k => u0 (6 + k)) ++ LB6 (fun k => u1 (6 + k)))) (B := B) (s_ := p) (o_ := m) (hi := h1) (hm := h2) (hoc := hg) (hp := h3)) rfl rfl (Nat.le_of_ble_eq_true rfl) (Nat.le_of_ble_eq_true rfl)), gi_mk hM rfl rfl (Nat.le_of_ble_eq_true rfl) (Nat.le_of_ble_eq_true rfl), rfl, fun _ => rfl, ⟨hn, hcd, hsw, hok2, hrel2, ho1, hz2⟩⟩
      · have e10 : ¬ pofL od0 p m 0 < 0 := by
          rcases pof_cases (od := od0) (x := p) m 0 with e | ⟨z, -, h8, e⟩
          · exact absurd e h3
          · rw [e]
            exact nI_pos (by omega)
        have e9 : mOrder rn m p = (0, 2, rn) := by
          unfold mOrder
          rw [i1, if_neg (by decide), if_neg e8, e7, if_neg e10]
        rw [e9] at hM
        exact ⟨2, 0, (cd, sw, fd, fn, n, (w0, f0, od0, g0, B, co0, hr0), (w1, f1, od1, g1, B1, co1, hr1), bc1, 2, rn, ra), _, u_order_b2 l D cyI cyO cyL aX ao p _ o _ (WXs_recv (aX, t, r0, u0, r1, u1) (cd, sw, fd, fn, n, (w0, f0, od0, g0, B, co0, hr0), (w1, f1, od1, g1, B1, co1, hr1), bc1, th, rn, ra)) hlf (gb_mk (b_order_3 l D cyI cyO cyL (aX := aX) (aT := (t 0)) (aR0 := r0) (aR1 := r1) (ac := (t 1)) (as_ := (t 2)) (aW0 := (u0 0)) (aw0 := (u0 1)) (af0 := (u0 2)) (aG0 := (u0 3)) (ao0 := (u0 4)) (aB0 := (u0 5)) (aW1 := (u1 0)) (aw1 := (u1 1)) (af1 := (u1 2)) (aG1 := (u1 3)) (ao1 := (u1 4)) (aB1 := (u1 5)) (cd := cd) (sw := sw) (fd := fd) (fn := fn) (ab0 := (fun k => u0 (6 + k))) (w0 := w0) (f0 := f0) (od0 := od0) (g0 := g0) (bc0 := (nI n)) (hr0 := hr0) (co0 := co0) (ab1 := (fun k => u1 (6 + k))) (w1 := w1) (f1 := f1) (od1 := od1) (g1 := g1) (bc1 := bc1) (hr1 := hr1) (co1 := co1) (LB := (LB6 (fun k => u0 (6 + k)) ++ LB6 (fun k => u1 (6 + k)))) (B := B) (s_ := p) (o_ := m) (hs := h1) (hm := h2) (hoc := hg) (hp := h3) (hlf := hlf)) rfl rfl (Nat.le_of_ble_eq_true rfl) (Nat.le_of_ble_eq_true rfl)), gi_mk hM rfl rfl (Nat.le_of_ble_eq_true rfl) (Nat.le_of_ble_eq_true rfl), rfl, fun h9 => absurd h9 (by decide), hI.mono⟩
    · have h6 : m = 6 := by omega
      have e8 : nI m = 6 := by subst h6; rfl
      have e9 : mOrder rn m p = (0, 2, rn) := by
        unfold mOrder
        rw [i1, if_neg (by decide), if_pos e8]
      rw [e9] at hM
      exact ⟨2, 0, (cd, sw, fd, fn, n, (w0, f0, od0, g0, B, co0, hr0), (w1, f1, od1, g1, B1, co1, hr1), bc1, 2, rn, ra), _, u_order_b2 l D cyI cyO cyL aX ao p _ o _ (WXs_recv (aX, t, r0, u0, r1, u1) (cd, sw, fd, fn, n, (w0, f0, od0, g0, B, co0, hr0), (w1, f1, od1, g1, B1, co1, hr1), bc1, th, rn, ra)) hlf (gb_mk (b_order_2 l D cyI cyO cyL (aX := aX) (aT := (t 0)) (aR0 := r0) (aR1 := r1) (ac := (t 1)) (as_ := (t 2)) (aW0 := (u0 0)) (aw0 := (u0 1)) (af0 := (u0 2)) (aG0 := (u0 3)) (ao0 := (u0 4)) (aB0 := (u0 5)) (aW1 := (u1 0)) (aw1 := (u1 1)) (af1 := (u1 2)) (aG1 := (u1 3)) (ao1 := (u1 4)) (aB1 := (u1 5)) (cd := cd) (sw := sw) (fd := fd) (fn := fn) (ab0 := (fun k => u0 (6 + k))) (w0 := w0) (f0 := f0) (od0 := od0) (g0 := g0) (bc0 := (nI n)) (hr0 := hr0) (co0 := co0) (ab1 := (fun k => u1 (6 + k))) (w1 := w1) (f1 := f1) (od1 := od1) (g1 := g1) (bc1 := bc1) (hr1 := hr1) (co1 := co1) (LB := (LB6 (fun k => u0 (6 + k)) ++ LB6 (fun k => u1 (6 + k)))) (B := B) (s_ := p) (hs := h1) (hfull := (by rw [hg, e8]; decide)) (hlf := hlf)) rfl rfl (Nat.le_of_ble_eq_true rfl) (Nat.le_of_ble_eq_true rfl)), gi_mk hM rfl rfl (Nat.le_of_ble_eq_true rfl) (Nat.le_of_ble_eq_true rfl), rfl, fun h9 => absurd h9 (by decide), hI.mono⟩
  · have e9 : mOrder rn m p = (0, 1, rn) := by
      unfold mOrder
      rw [show inI p 0 23 = 0 from vp_inI0 (N := 23) h1 (by decide), if_pos rfl]
    rw [e9] at hM
    exact ⟨1, 0, (cd, sw, fd, fn, n, (w0, f0, od0, g0, B, co0, hr0), (w1, f1, od1, g1, B1, co1, hr1), bc1, 1, rn, ra), _, u_order_b1 l D cyI cyO cyL aX ao p _ o _ (WXs_recv (aX, t, r0, u0, r1, u1) (cd, sw, fd, fn, n, (w0, f0, od0, g0, B, co0, hr0), (w1, f1, od1, g1, B1, co1, hr1), bc1, th, rn, ra)) hlf (gb_mk (b_order_1 l D cyI cyO cyL (aX := aX) (aT := (t 0)) (aR0 := r0) (aR1 := r1) (ac := (t 1)) (as_ := (t 2)) (aW0 := (u0 0)) (aw0 := (u0 1)) (af0 := (u0 2)) (aG0 := (u0 3)) (ao0 := (u0 4)) (aB0 := (u0 5)) (aW1 := (u1 0)) (aw1 := (u1 1)) (af1 := (u1 2)) (aG1 := (u1 3)) (ao1 := (u1 4)) (aB1 := (u1 5)) (cd := cd) (sw := sw) (fd := fd) (fn := fn) (ab0 := (fun k => u0 (6 + k))) (w0 := w0) (f0 := f0) (od0 := od0) (g0 := g0) (bc0 := (nI n)) (hr0 := hr0) (co0 := co0) (ab1 := (fun k => u1 (6 + k))) (w1 := w1) (f1 := f1) (od1 := od1) (g1 := g1) (bc1 := bc1) (hr1 := hr1) (co1 := co1) (LB := (LB6 (fun k => u0 (6 + k)) ++ LB6 (fun k => u1 (6 + k)))) (B := B) (s_ := p) (hs := h1) (hlf := hlf)) rfl rfl (Nat.le_of_ble_eq_true rfl) (Nat.le_of_ble_eq_true rfl)), gi_mk hM rfl rfl (Nat.le_of_ble_eq_true rfl) (Nat.le_of_ble_eq_true rfl), rfl, fun h9 => absurd h9 (by decide), hI.mono⟩
set_option maxHeartbeats 1000000 in
set_option maxRecDepth 20000 in
theorem st_cancel (l : Launch) (D : va_G) (cyI cyO cyL : ClassId) (hlf : l.stackTraces = false) (a : AX) (am : AM) (ao j : Nat) (hj : j < 512) (g : SG) (o : Nat → Int64) (hAd : Adr a) (hI : Inv a j g) (p : Int32) : STP l D cyI cyO cyL yL_cancel wsL_cancel yX6_cancel wsX6_cancel [.int p] Int32.toInt64 a am ao j g o := by
  obtain ⟨aX, t, r0, u0, r1, u1⟩ := a
  obtain ⟨aM, v⟩ := am
  obtain ⟨cd, sw, fd, fn, n, ⟨w0, f0, od0, g0, B, co0, hr0⟩, ⟨w1, f1, od1, g1, B1, co1, hr1⟩, bc1, th, rn, ra⟩ := g
  obtain ⟨had0, had1, hne⟩ := hAd
  have had0 : ∀ i j, i < 6 → j < 6 → u0 (6 + i) = u0 (6 + j) → i = j := had0
  have had1 : ∀ i j, i < 6 → j < 6 → u1 (6 + i) = u1 (6 + j) → i = j := had1
  have hne : ∀ i j, i < 6 → j < 6 → u1 (6 + i) ≠ u0 (6 + j) := hne
  have hI : InvE (fun k => u0 (6 + k)) j cd sw n (w0, f0, od0, g0, B, co0, hr0) od1 rn := hI
  obtain ⟨hn, hcd, hsw, hok, hrel, ho1, hz⟩ := id hI
  obtain ⟨m, hm, hg⟩ := hok.1.1
  have hg : g0 0 = nI m := hg
  have hon := OkN_of hok hrel hz
  have hgM : rn 109 = nI m := hrel.2.2.2.1.2.1.trans hg
  by_cases h1 : vp_in p 24
  · have i1 : inI p 0 23 = 1 := vp_inI (N := 23) h1 (by decide)
    have e7 : mplace rn p m 0 = pofL od0 p m 0 := place_rel hrel.2.2.2.1 hg hm m 0 (Nat.zero_add m)
    rcases pof_cases (od := od0) (x := p) m 0 with h3 | ⟨z, -, h8, h3⟩
    · have hM := (c_X6_cancel_b l D cyI cyO cyL (aM := aM) (ac := (v 0)) (as_ := (v 1)) (an := (v 2)) (ah := (v 3)) (th := th) (bu := (nI n)) (fd := fd) (fn := fn) (cd := cd) (sw := sw) (rn := rn) (ra := ra) (s_ := p) (k_ := m) (hm := hm) (hoc := hgM) (hp := (Or.inr (e7.trans h3))))
      rw [show mCb p = 2 by rw [mCb, i1, if_neg (by decide)]] at hM
      exact ⟨2, 0, (cd, sw, fd, fn, n, (w0, f0, od0, g0, B, co0, hr0), (w1, f1, od1, g1, B1, co1, hr1), bc1, 2, rn, ra), _, u_cancel_b2 l D cyI cyO cyL aX ao p _ o _ (WXs_recv (aX, t, r0, u0, r1, u1) (cd, sw, fd, fn, n, (w0, f0, od0, g0, B, co0, hr0), (w1, f1, od1, g1, B1, co1, hr1), bc1, th, rn, ra)) hlf (gb_mk (b_cancel_2 l D cyI cyO cyL (aX := aX) (aT := (t 0)) (aR0 := r0) (aR1 := r1) (ac := (t 1)) (as_ := (t 2)) (aW0 := (u0 0)) (aw0 := (u0 1)) (af0 := (u0 2)) (aG0 := (u0 3)) (ao0 := (u0 4)) (aB0 := (u0 5)) (aW1 := (u1 0)) (aw1 := (u1 1)) (af1 := (u1 2)) (aG1 := (u1 3)) (ao1 := (u1 4)) (aB1 := (u1 5)) (cd := cd) (sw := sw) (fd := fd) (fn := fn) (ab0 := (fun k => u0 (6 + k))) (w0 := w0) (f0 := f0) (od0 := od0) (g0 := g0) (bc0 := (nI n)) (hr0 := hr0) (co0 := co0) (ab1 := (fun k => u1 (6 + k))) (w1 := w1) (f1 := f1) (od1 := od1) (g1 := g1) (bc1 := bc1) (hr1 := hr1) (co1 := co1) (LB := (LB6 (fun k => u0 (6 + k)) ++ LB6 (fun k => u1 (6 + k)))) (B := B) (s_ := p) (o_ := m) (hs := h1) (hm := hm) (hoc := hg) (hp := h3) (hlf := hlf)) rfl rfl (Nat.le_of_ble_eq_true rfl) (Nat.le_of_ble_eq_true rfl)), gi_mk hM rfl rfl (Nat.le_of_ble_eq_true rfl) (Nat.le_of_ble_eq_true rfl), rfl, fun h9 => absurd h9 (by decide), hI.mono⟩
    · have hzm : z < m := by omega
      have hM := (c_X6_cancel l D cyI cyO cyL (aM := aM) (ac := (v 0)) (as_ := (v 1)) (an := (v 2)) (ah := (v 3)) (th := th) (bu := (nI n)) (fd := fd) (fn := fn) (cd := cd) (sw := sw) (rn := rn) (ra := ra) (s_ := p) (k_ := m) (p_ := z) (hs := i1) (hm := hm) (hoc := hgM) (hp := (e7.trans h3)) (hpk := hzm))
      have hrel2 := cancel_rel hn hm hzm hg hrel
      have htg : (takeS od0 g0 z m).2 0 = g0 0 - 1 ∧ (takeS od0 g0 z m).2 1 = g0 1 := by
        unfold takeS
        dsimp only
        split
        · exact ⟨by rw [upd_ne _ _ (by decide), pk_us], by rw [upd_ne _ _ (by decide), upd_ne _ _ (by decide)]⟩
        · exact ⟨by rw [pk_us], by rw [upd_ne _ _ (by decide)]⟩
      have hok2 : OkQ (72 * (j + 1)) (w0, f0, (takeS od0 g0 z m).1, (takeS od0 g0 z m).2, B, co0, hr0) := by
        obtain ⟨⟨k1, k2, k3, k4, k5⟩, k6⟩ := hok.mono (show 72 * j ≤ 72 * (j + 1) by omega)
        refine ⟨⟨⟨m - 1, by omega, ?_⟩, by show vp_in ((takeS od0 g0 z m).2 1) 24; rw [htg.2]; exact k2, tkL_ok _ _ _ k3, k4, k5⟩, k6⟩
        show (takeS od0 g0 z m).2 0 = nI (m - 1)
        obtain ⟨m, rfl⟩ : ∃ z, m = z + 1 := ⟨m - 1, by omega⟩
        rw [htg.1, hg]
        exact nI_pred m
      have hz2 : ∀ i x, n ≤ i → i < 6 → x < 6 → mrem rn z m (72 + 6 * i + x) = 0 ∧ B (u0 (6 + i)) x = 0 := fun i x h5 h6 h7 => by
        rw [mrem_keep hzm (by omega)]
        exact hz i x h5 h6 h7
      exact ⟨0, (nI z), (cd, sw, fd, fn, n, (w0, f0, (takeS od0 g0 z m).1, (takeS od0 g0 z m).2, B, co0, hr0), (w1, f1, od1, g1, B1, co1, hr1), bc1, 0, mrem rn z m, ra), _, u_cancel_g l D cyI cyO cyL aX ao p _ _ o _ (WXs_recv (aX, t, r0, u0, r1, u1) (cd, sw, fd, fn, n, (w0, f0, od0, g0, B, co0, hr0), (w1, f1, od1, g1, B1, co1, hr1), bc1, th, rn, ra)) (nI z) (WXs_fst (a := (aX, t, r0, u0, r1, u1)) (cd, sw, fd, fn, n, (w0, f0, od0, g0, B, co0, hr0), (w1, f1, od1, g1, B1, co1, hr1), bc1, th, rn, ra) (cd, sw, fd, fn, n, (w0, f0, (takeS od0 g0 z m).1, (takeS od0 g0 z m).2, B, co0, hr0), (w1, f1, od1, g1, B1, co1, hr1), bc1, 0, mrem rn z m, ra)) (gi_mk (c_X5_cancel l D cyI cyO cyL (aX := aX) (aT := (t 0)) (aR0 := r0) (aR1 := r1) (ac := (t 1)) (as_ := (t 2)) (aW0 := (u0 0)) (aw0 := (u0 1)) (af0 := (u0 2)) (aG0 := (u0 3)) (ao0 := (u0 4)) (aB0 := (u0 5)) (aW1 := (u1 0)) (aw1 := (u1 1)) (af1 := (u1 2)) (aG1 := (u1 3)) (ao1 := (u1 4)) (aB1 := (u1 5)) (cd := cd) (sw := sw) (fd := fd) (fn := fn) (ab0 := (fun k => u0 (6 + k))) (w0 := w0) (f0 := f0) (od0 := od0) (g0 := g0) (bc0 := (nI n)) (hr0 := hr0) (co0 := co0) (ab1 := (fun k => u1 (6 + k))) (w1 := w1) (f1 := f1) (od1 := od1) (g1 := g1) (bc1 := bc1) (hr1 := hr1) (co1 := co1) (LB := (LB6 (fun k => u0 (6 + k)) ++ LB6 (fun k => u1 (6 + k)))) (B := B) (s_ := p) (o_ := m) (p_ := z) (hi := h1) (hm := hm) (hoc := hg) (hp := h3) (hpm := hzm)) rfl rfl (Nat.le_of_ble_eq_true rfl) (Nat.le_of_ble_eq_true rfl)), gi_mk hM rfl rfl (Nat.le_of_ble_eq_true rfl) (Nat.le_of_ble_eq_true rfl), rfl, fun _ => rfl, ⟨hn, hcd, hsw, hok2, hrel2, ho1, hz2⟩⟩
  · have i1 : inI p 0 23 = 0 := vp_inI0 (N := 23) h1 (by decide)
    have hM := (c_X6_cancel_b l D cyI cyO cyL (aM := aM) (ac := (v 0)) (as_ := (v 1)) (an := (v 2)) (ah := (v 3)) (th := th) (bu := (nI n)) (fd := fd) (fn := fn) (cd := cd) (sw := sw) (rn := rn) (ra := ra) (s_ := p) (k_ := m) (hm := hm) (hoc := hgM) (hp := (Or.inl i1)))
    rw [show mCb p = 1 by rw [mCb, i1, if_pos rfl]] at hM
    exact ⟨1, 0, (cd, sw, fd, fn, n, (w0, f0, od0, g0, B, co0, hr0), (w1, f1, od1, g1, B1, co1, hr1), bc1, 1, rn, ra), _, u_cancel_b1 l D cyI cyO cyL aX ao p _ o _ (WXs_recv (aX, t, r0, u0, r1, u1) (cd, sw, fd, fn, n, (w0, f0, od0, g0, B, co0, hr0), (w1, f1, od1, g1, B1, co1, hr1), bc1, th, rn, ra)) hlf (gb_mk (b_cancel_1 l D cyI cyO cyL (aX := aX) (aT := (t 0)) (aR0 := r0) (aR1 := r1) (ac := (t 1)) (as_ := (t 2)) (aW0 := (u0 0)) (aw0 := (u0 1)) (af0 := (u0 2)) (aG0 := (u0 3)) (ao0 := (u0 4)) (aB0 := (u0 5)) (aW1 := (u1 0)) (aw1 := (u1 1)) (af1 := (u1 2)) (aG1 := (u1 3)) (ao1 := (u1 4)) (aB1 := (u1 5)) (cd := cd) (sw := sw) (fd := fd) (fn := fn) (ab0 := (fun k => u0 (6 + k))) (w0 := w0) (f0 := f0) (od0 := od0) (g0 := g0) (bc0 := (nI n)) (hr0 := hr0) (co0 := co0) (ab1 := (fun k => u1 (6 + k))) (w1 := w1) (f1 := f1) (od1 := od1) (g1 := g1) (bc1 := bc1) (hr1 := hr1) (co1 := co1) (LB := (LB6 (fun k => u0 (6 + k)) ++ LB6 (fun k => u1 (6 + k)))) (B := B) (s_ := p) (hs := h1) (hlf := hlf)) rfl rfl (Nat.le_of_ble_eq_true rfl) (Nat.le_of_ble_eq_true rfl)), gi_mk hM rfl rfl (Nat.le_of_ble_eq_true rfl) (Nat.le_of_ble_eq_true rfl), rfl, fun h9 => absurd h9 (by decide), hI.mono⟩
set_option maxHeartbeats 1000000 in
set_option maxRecDepth 20000 in
theorem st_gang (l : Launch) (D : va_G) (cyI cyO cyL : ClassId) (hlf : l.stackTraces = false) (a : AX) (am : AM) (ao j : Nat) (hj : j < 512) (g : SG) (o : Nat → Int64) (hAd : Adr a) (hI : Inv a j g) (p : Int32) : STP l D cyI cyO cyL yL_gang wsL_gang yX6_gang wsX6_gang [.int p] Int32.toInt64 a am ao j g o := by
  obtain ⟨aX, t, r0, u0, r1, u1⟩ := a
  obtain ⟨aM, v⟩ := am
  obtain ⟨cd, sw, fd, fn, n, ⟨w0, f0, od0, g0, B, co0, hr0⟩, ⟨w1, f1, od1, g1, B1, co1, hr1⟩, bc1, th, rn, ra⟩ := g
  obtain ⟨had0, had1, hne⟩ := hAd
  have had0 : ∀ i j, i < 6 → j < 6 → u0 (6 + i) = u0 (6 + j) → i = j := had0
  have had1 : ∀ i j, i < 6 → j < 6 → u1 (6 + i) = u1 (6 + j) → i = j := had1
  have hne : ∀ i j, i < 6 → j < 6 → u1 (6 + i) ≠ u0 (6 + j) := hne
  have hI : InvE (fun k => u0 (6 + k)) j cd sw n (w0, f0, od0, g0, B, co0, hr0) od1 rn := hI
  obtain ⟨hn, hcd, hsw, hok, hrel, ho1, hz⟩ := id hI
  obtain ⟨m, hm, hg⟩ := hok.1.1
  have hg : g0 0 = nI m := hg
  have hon := OkN_of hok hrel hz
  have hgM : rn 109 = nI m := hrel.2.2.2.1.2.1.trans hg
  have hM := (c_X6_gang l D cyI cyO cyL (aM := aM) (ac := (v 0)) (as_ := (v 1)) (an := (v 2)) (ah := (v 3)) (th := th) (bu := (nI n)) (fd := fd) (fn := fn) (cd := cd) (sw := sw) (rn := rn) (ra := ra) (x_ := p))
  by_cases h1 : vp_in p 7
  · have e8 : mgtold rn p = gangS p od0 g0 := gang_rel (m := m) (od := od0) (g := g0) (R := rn) (x := p) hm hg hrel.2.2.2.1 h1
    have e9 : mGang rn p = (gangS p od0 g0, 0) := by
      unfold mGang
      rw [show inI p 0 6 = 1 from vp_inI (N := 6) h1 (by decide), if_neg (by decide), e8]
    rw [e9] at hM
    exact ⟨0, (gangS p od0 g0), (cd, sw, fd, fn, n, (w0, f0, od0, g0, B, co0, hr0), (w1, f1, od1, g1, B1, co1, hr1), bc1, 0, rn, ra), _, u_gang_g l D cyI cyO cyL aX ao p _ _ o _ (WXs_recv (aX, t, r0, u0, r1, u1) (cd, sw, fd, fn, n, (w0, f0, od0, g0, B, co0, hr0), (w1, f1, od1, g1, B1, co1, hr1), bc1, th, rn, ra)) (gangS p od0 g0) (WXs_fst (a := (aX, t, r0, u0, r1, u1)) (cd, sw, fd, fn, n, (w0, f0, od0, g0, B, co0, hr0), (w1, f1, od1, g1, B1, co1, hr1), bc1, th, rn, ra) (cd, sw, fd, fn, n, (w0, f0, od0, g0, B, co0, hr0), (w1, f1, od1, g1, B1, co1, hr1), bc1, 0, rn, ra)) (gi_mk (c_X5_gang l D cyI cyO cyL (aX := aX) (aT := (t 0)) (aR0 := r0) (aR1 := r1) (ac := (t 1)) (as_ := (t 2)) (aW0 := (u0 0)) (aw0 := (u0 1)) (af0 := (u0 2)) (aG0 := (u0 3)) (ao0 := (u0 4)) (aB0 := (u0 5)) (aW1 := (u1 0)) (aw1 := (u1 1)) (af1 := (u1 2)) (aG1 := (u1 3)) (ao1 := (u1 4)) (aB1 := (u1 5)) (cd := cd) (sw := sw) (fd := fd) (fn := fn) (ab0 := (fun k => u0 (6 + k))) (w0 := w0) (f0 := f0) (od0 := od0) (g0 := g0) (bc0 := (nI n)) (hr0 := hr0) (co0 := co0) (ab1 := (fun k => u1 (6 + k))) (w1 := w1) (f1 := f1) (od1 := od1) (g1 := g1) (bc1 := bc1) (hr1 := hr1) (co1 := co1) (LB := (LB6 (fun k => u0 (6 + k)) ++ LB6 (fun k => u1 (6 + k)))) (B := B) (x_ := p) (hx0 := (vp_ge0 h1)) (hx1 := (vp_lti h1 (by decide)))) rfl rfl (Nat.le_of_ble_eq_true rfl) (Nat.le_of_ble_eq_true rfl)), gi_mk hM rfl rfl (Nat.le_of_ble_eq_true rfl) (Nat.le_of_ble_eq_true rfl), rfl, fun _ => rfl, hI.mono⟩
  · have e9 : mGang rn p = (0, 1) := by
      unfold mGang
      rw [show inI p 0 6 = 0 from vp_inI0 (N := 6) h1 (by decide), if_pos rfl]
    rw [e9] at hM
    exact ⟨1, 0, (cd, sw, fd, fn, n, (w0, f0, od0, g0, B, co0, hr0), (w1, f1, od1, g1, B1, co1, hr1), bc1, 1, rn, ra), _, u_gang_b1 l D cyI cyO cyL aX ao p _ o _ (WXs_recv (aX, t, r0, u0, r1, u1) (cd, sw, fd, fn, n, (w0, f0, od0, g0, B, co0, hr0), (w1, f1, od1, g1, B1, co1, hr1), bc1, th, rn, ra)) hlf (gb_mk (b_gang l D cyI cyO cyL (aX := aX) (aT := (t 0)) (aR0 := r0) (aR1 := r1) (ac := (t 1)) (as_ := (t 2)) (aW0 := (u0 0)) (aw0 := (u0 1)) (af0 := (u0 2)) (aG0 := (u0 3)) (ao0 := (u0 4)) (aB0 := (u0 5)) (aW1 := (u1 0)) (aw1 := (u1 1)) (af1 := (u1 2)) (aG1 := (u1 3)) (ao1 := (u1 4)) (aB1 := (u1 5)) (cd := cd) (sw := sw) (fd := fd) (fn := fn) (ab0 := (fun k => u0 (6 + k))) (w0 := w0) (f0 := f0) (od0 := od0) (g0 := g0) (bc0 := (nI n)) (hr0 := hr0) (co0 := co0) (ab1 := (fun k => u1 (6 + k))) (w1 := w1) (f1 := f1) (od1 := od1) (g1 := g1) (bc1 := bc1) (hr1 := hr1) (co1 := co1) (LB := (LB6 (fun k => u0 (6 + k)) ++ LB6 (fun k => u1 (6 + k)))) (B := B) (x_ := p) (hx9 := (fun h8 h9 => h1 (vp_of (N := 7) h8 h9 (by decide)))) (hlf := hlf)) rfl rfl (Nat.le_of_ble_eq_true rfl) (Nat.le_of_ble_eq_true rfl)), gi_mk hM rfl rfl (Nat.le_of_ble_eq_true rfl) (Nat.le_of_ble_eq_true rfl), rfl, fun h9 => absurd h9 (by decide), hI.mono⟩
set_option maxHeartbeats 1000000 in
set_option maxRecDepth 20000 in
theorem st_count (l : Launch) (D : va_G) (cyI cyO cyL : ClassId) (hlf : l.stackTraces = false) (a : AX) (am : AM) (ao j : Nat) (hj : j < 512) (g : SG) (o : Nat → Int64) (hAd : Adr a) (hI : Inv a j g) (p : Int32) : STP l D cyI cyO cyL yL_count wsL_count yX6_count wsX6_count [.int p] Int32.toInt64 a am ao j g o := by
  obtain ⟨aX, t, r0, u0, r1, u1⟩ := a
  obtain ⟨aM, v⟩ := am
  obtain ⟨cd, sw, fd, fn, n, ⟨w0, f0, od0, g0, B, co0, hr0⟩, ⟨w1, f1, od1, g1, B1, co1, hr1⟩, bc1, th, rn, ra⟩ := g
  obtain ⟨had0, had1, hne⟩ := hAd
  have had0 : ∀ i j, i < 6 → j < 6 → u0 (6 + i) = u0 (6 + j) → i = j := had0
  have had1 : ∀ i j, i < 6 → j < 6 → u1 (6 + i) = u1 (6 + j) → i = j := had1
  have hne : ∀ i j, i < 6 → j < 6 → u1 (6 + i) ≠ u0 (6 + j) := hne
  have hI : InvE (fun k => u0 (6 + k)) j cd sw n (w0, f0, od0, g0, B, co0, hr0) od1 rn := hI
  obtain ⟨hn, hcd, hsw, hok, hrel, ho1, hz⟩ := id hI
  obtain ⟨m, hm, hg⟩ := hok.1.1
  have hg : g0 0 = nI m := hg
  have hon := OkN_of hok hrel hz
  have hgM : rn 109 = nI m := hrel.2.2.2.1.2.1.trans hg
  have hM := (c_X6_count l D cyI cyO cyL (aM := aM) (ac := (v 0)) (as_ := (v 1)) (an := (v 2)) (ah := (v 3)) (th := th) (bu := (nI n)) (fd := fd) (fn := fn) (cd := cd) (sw := sw) (rn := rn) (ra := ra) (x_ := p) (n := n) (hn := hn) (hbu := rfl))
  by_cases h1 : vp_in p 9
  · have e8 : mcounted rn n (nI n) p = (tallyS p n (fun k => u0 (6 + k)) w0 f0 B (nI n) hr0 co0) := counted_rel (n := n) (ab := fun k => u0 (6 + k)) (q := (w0, f0, od0, g0, B, co0, hr0)) (R := rn) (x := p) (bu := nI n) (bc := nI n) hok.1.2.2.2.1 hrel rfl h1
    have e9 : mCount rn n (nI n) p = ((tallyS p n (fun k => u0 (6 + k)) w0 f0 B (nI n) hr0 co0), 0) := by
      unfold mCount
      rw [show inI p 0 8 = 1 from vp_inI (N := 8) h1 (by decide), if_neg (by decide), e8]
    rw [e9] at hM
    exact ⟨0, (tallyS p n (fun k => u0 (6 + k)) w0 f0 B (nI n) hr0 co0), (cd, sw, fd, fn, n, (w0, f0, od0, g0, B, co0, hr0), (w1, f1, od1, g1, B1, co1, hr1), bc1, 0, rn, ra), _, u_count_g l D cyI cyO cyL aX ao p _ _ o _ (WXs_recv (aX, t, r0, u0, r1, u1) (cd, sw, fd, fn, n, (w0, f0, od0, g0, B, co0, hr0), (w1, f1, od1, g1, B1, co1, hr1), bc1, th, rn, ra)) (tallyS p n (fun k => u0 (6 + k)) w0 f0 B (nI n) hr0 co0) (WXs_fst (a := (aX, t, r0, u0, r1, u1)) (cd, sw, fd, fn, n, (w0, f0, od0, g0, B, co0, hr0), (w1, f1, od1, g1, B1, co1, hr1), bc1, th, rn, ra) (cd, sw, fd, fn, n, (w0, f0, od0, g0, B, co0, hr0), (w1, f1, od1, g1, B1, co1, hr1), bc1, 0, rn, ra)) (gi_mk (c_X5_count l D cyI cyO cyL (aX := aX) (aT := (t 0)) (aR0 := r0) (aR1 := r1) (ac := (t 1)) (as_ := (t 2)) (aW0 := (u0 0)) (aw0 := (u0 1)) (af0 := (u0 2)) (aG0 := (u0 3)) (ao0 := (u0 4)) (aB0 := (u0 5)) (aW1 := (u1 0)) (aw1 := (u1 1)) (af1 := (u1 2)) (aG1 := (u1 3)) (ao1 := (u1 4)) (aB1 := (u1 5)) (cd := cd) (sw := sw) (fd := fd) (fn := fn) (ab0 := (fun k => u0 (6 + k))) (w0 := w0) (f0 := f0) (od0 := od0) (g0 := g0) (bc0 := (nI n)) (hr0 := hr0) (co0 := co0) (ab1 := (fun k => u1 (6 + k))) (w1 := w1) (f1 := f1) (od1 := od1) (g1 := g1) (bc1 := bc1) (hr1 := hr1) (co1 := co1) (LB := (LB6 (fun k => u0 (6 + k)) ++ LB6 (fun k => u1 (6 + k)))) (B := B) (x_ := p) (n := n) (hx0 := (vp_ge0 h1)) (hx1 := (vp_lti h1 (by decide))) (hn := hn) (hbc := rfl) (hLB0 := LBin0) (hhr := hok.1.2.2.2.2)) rfl rfl (Nat.le_of_ble_eq_true rfl) (Nat.le_of_ble_eq_true rfl)), gi_mk hM rfl rfl (Nat.le_of_ble_eq_true rfl) (Nat.le_of_ble_eq_true rfl), rfl, fun _ => rfl, hI.mono⟩
  · have e9 : mCount rn n (nI n) p = (0, 1) := by
      unfold mCount
      rw [show inI p 0 8 = 0 from vp_inI0 (N := 8) h1 (by decide), if_pos rfl]
    rw [e9] at hM
    exact ⟨1, 0, (cd, sw, fd, fn, n, (w0, f0, od0, g0, B, co0, hr0), (w1, f1, od1, g1, B1, co1, hr1), bc1, 1, rn, ra), _, u_count_b1 l D cyI cyO cyL aX ao p _ o _ (WXs_recv (aX, t, r0, u0, r1, u1) (cd, sw, fd, fn, n, (w0, f0, od0, g0, B, co0, hr0), (w1, f1, od1, g1, B1, co1, hr1), bc1, th, rn, ra)) hlf (gb_mk (b_count l D cyI cyO cyL (aX := aX) (aT := (t 0)) (aR0 := r0) (aR1 := r1) (ac := (t 1)) (as_ := (t 2)) (aW0 := (u0 0)) (aw0 := (u0 1)) (af0 := (u0 2)) (aG0 := (u0 3)) (ao0 := (u0 4)) (aB0 := (u0 5)) (aW1 := (u1 0)) (aw1 := (u1 1)) (af1 := (u1 2)) (aG1 := (u1 3)) (ao1 := (u1 4)) (aB1 := (u1 5)) (cd := cd) (sw := sw) (fd := fd) (fn := fn) (ab0 := (fun k => u0 (6 + k))) (w0 := w0) (f0 := f0) (od0 := od0) (g0 := g0) (bc0 := (nI n)) (hr0 := hr0) (co0 := co0) (ab1 := (fun k => u1 (6 + k))) (w1 := w1) (f1 := f1) (od1 := od1) (g1 := g1) (bc1 := bc1) (hr1 := hr1) (co1 := co1) (LB := (LB6 (fun k => u0 (6 + k)) ++ LB6 (fun k => u1 (6 + k)))) (B := B) (x_ := p) (hx9 := (fun h8 h9 => h1 (vp_of (N := 9) h8 h9 (by decide)))) (hlf := hlf)) rfl rfl (Nat.le_of_ble_eq_true rfl) (Nat.le_of_ble_eq_true rfl)), gi_mk hM rfl rfl (Nat.le_of_ble_eq_true rfl) (Nat.le_of_ble_eq_true rfl), rfl, fun h9 => absurd h9 (by decide), hI.mono⟩
set_option maxHeartbeats 1000000 in
set_option maxRecDepth 20000 in
theorem st_pass (l : Launch) (D : va_G) (cyI cyO cyL : ClassId) (hlf : l.stackTraces = false) (a : AX) (am : AM) (ao j : Nat) (hj : j < 512) (g : SG) (o : Nat → Int64) (hAd : Adr a) (hI : Inv a j g) (p : Int32) : STP l D cyI cyO cyL yL_pass wsL_pass yX6_pass_ wsX6_pass_ [.int p] Int32.toInt64 a am ao j g o := by
  obtain ⟨aX, t, r0, u0, r1, u1⟩ := a
  obtain ⟨aM, v⟩ := am
  obtain ⟨cd, sw, fd, fn, n, ⟨w0, f0, od0, g0, B, co0, hr0⟩, ⟨w1, f1, od1, g1, B1, co1, hr1⟩, bc1, th, rn, ra⟩ := g
  obtain ⟨had0, had1, hne⟩ := hAd
  have had0 : ∀ i j, i < 6 → j < 6 → u0 (6 + i) = u0 (6 + j) → i = j := had0
  have had1 : ∀ i j, i < 6 → j < 6 → u1 (6 + i) = u1 (6 + j) → i = j := had1
  have hne : ∀ i j, i < 6 → j < 6 → u1 (6 + i) ≠ u0 (6 + j) := hne
  have hI : InvE (fun k => u0 (6 + k)) j cd sw n (w0, f0, od0, g0, B, co0, hr0) od1 rn := hI
  obtain ⟨hn, hcd, hsw, hok, hrel, ho1, hz⟩ := id hI
  obtain ⟨m, hm, hg⟩ := hok.1.1
  have hg : g0 0 = nI m := hg
  have hon := OkN_of hok hrel hz
  have hgM : rn 109 = nI m := hrel.2.2.2.1.2.1.trans hg
  by_cases h1 : ¬ p < 1 ∧ p ≤ 72
  · obtain ⟨h, hh1, hh2, rfl⟩ := hrs_ex (N := 72) h1.1 h1.2 (by decide)
    have hM := (c_X6_pass_ l D cyI cyO cyL (aM := aM) (ac := (v 0)) (as_ := (v 1)) (an := (v 2)) (ah := (v 3)) (th := th) (bu := (nI n)) (fd := fd) (fn := fn) (cd := cd) (sw := sw) (rn := rn) (ra := ra) (h_ := h) (n := n) (M_ := (72 * j)) (hn := hn) (hbu := rfl) (hok := hon) (hM := (by omega)) (hsw := hsw) (hh1 := hh1) (hh2 := hh2))
    have hok2 := OkQ.hrs (cd := cd) (sw := sw) (fd := fd) (fn := fn) (ab := (fun k => u0 (6 + k))) (n := n) h (72 * j) _ (by omega) hok
    have hrel2 := hours_rel (fd := fd) (fn := fn) hn (fun i k h5 h6 => had0 i k (by omega) (by omega)) hcd hsw h (72 * j) _ _ (by omega) hok hrel
    have e7 : (mpaL cd sw fd fn n h rn) 119 = (hrsL cd sw fd fn (fun k => u0 (6 + k)) n h (w0, f0, od0, g0, B, co0, hr0)).2.2.2.2.2.1 := hrel2.2.2.2.2.1
    have e8 : rn 119 = co0 := hrel.2.2.2.2.1
    rw [e7, e8] at hM
    have hz2 : ∀ i x, n ≤ i → i < 6 → x < 6 → (mpaL cd sw fd fn n h rn) (72 + 6 * i + x) = 0 ∧ (hrsL cd sw fd fn (fun k => u0 (6 + k)) n h (w0, f0, od0, g0, B, co0, hr0)).2.2.2.2.1 (u0 (6 + i)) x = 0 := fun i x h5 h6 h7 => by
      rw [mpa_keep hn hsw (by omega) (by omega) h (72 * j) rn (by omega) hon, hrs_keepB (fun k hk e => by have h8 := had0 _ _ h6 (by omega) e; omega) h]
      exact hz i x h5 h6 h7
    exact ⟨0, ((hrsL cd sw fd fn (fun k => u0 (6 + k)) n h (w0, f0, od0, g0, B, co0, hr0)).2.2.2.2.2.1 - co0), (cd, sw, fd, fn, n, ((hrsL cd sw fd fn (fun k => u0 (6 + k)) n h (w0, f0, od0, g0, B, co0, hr0)).1, (hrsL cd sw fd fn (fun k => u0 (6 + k)) n h (w0, f0, od0, g0, B, co0, hr0)).2.1, (hrsL cd sw fd fn (fun k => u0 (6 + k)) n h (w0, f0, od0, g0, B, co0, hr0)).2.2.1, (hrsL cd sw fd fn (fun k => u0 (6 + k)) n h (w0, f0, od0, g0, B, co0, hr0)).2.2.2.1, (hrsL cd sw fd fn (fun k => u0 (6 + k)) n h (w0, f0, od0, g0, B, co0, hr0)).2.2.2.2.1, (hrsL cd sw fd fn (fun k => u0 (6 + k)) n h (w0, f0, od0, g0, B, co0, hr0)).2.2.2.2.2.1, (hrsL cd sw fd fn (fun k => u0 (6 + k)) n h (w0, f0, od0, g0, B, co0, hr0)).2.2.2.2.2.2), (w1, f1, od1, g1, B1, co1, hr1), bc1, 0, (mpaL cd sw fd fn n h rn), ra), _, u_pass_g l D cyI cyO cyL aX ao (nI h) _ _ o _ (WXs_recv (aX, t, r0, u0, r1, u1) (cd, sw, fd, fn, n, (w0, f0, od0, g0, B, co0, hr0), (w1, f1, od1, g1, B1, co1, hr1), bc1, th, rn, ra)) ((hrsL cd sw fd fn (fun k => u0 (6 + k)) n h (w0, f0, od0, g0, B, co0, hr0)).2.2.2.2.2.1 - co0) (WXs_fst (a := (aX, t, r0, u0, r1, u1)) (cd, sw, fd, fn, n, (w0, f0, od0, g0, B, co0, hr0), (w1, f1, od1, g1, B1, co1, hr1), bc1, th, rn, ra) (cd, sw, fd, fn, n, ((hrsL cd sw fd fn (fun k => u0 (6 + k)) n h (w0, f0, od0, g0, B, co0, hr0)).1, (hrsL cd sw fd fn (fun k => u0 (6 + k)) n h (w0, f0, od0, g0, B, co0, hr0)).2.1, (hrsL cd sw fd fn (fun k => u0 (6 + k)) n h (w0, f0, od0, g0, B, co0, hr0)).2.2.1, (hrsL cd sw fd fn (fun k => u0 (6 + k)) n h (w0, f0, od0, g0, B, co0, hr0)).2.2.2.1, (hrsL cd sw fd fn (fun k => u0 (6 + k)) n h (w0, f0, od0, g0, B, co0, hr0)).2.2.2.2.1, (hrsL cd sw fd fn (fun k => u0 (6 + k)) n h (w0, f0, od0, g0, B, co0, hr0)).2.2.2.2.2.1, (hrsL cd sw fd fn (fun k => u0 (6 + k)) n h (w0, f0, od0, g0, B, co0, hr0)).2.2.2.2.2.2), (w1, f1, od1, g1, B1, co1, hr1), bc1, 0, (mpaL cd sw fd fn n h rn), ra)) (gi_mk (c_X5_pass l D cyI cyO cyL (aX := aX) (aT := (t 0)) (aR0 := r0) (aR1 := r1) (ac := (t 1)) (as_ := (t 2)) (aW0 := (u0 0)) (aw0 := (u0 1)) (af0 := (u0 2)) (aG0 := (u0 3)) (ao0 := (u0 4)) (aB0 := (u0 5)) (aW1 := (u1 0)) (aw1 := (u1 1)) (af1 := (u1 2)) (aG1 := (u1 3)) (ao1 := (u1 4)) (aB1 := (u1 5)) (cd := cd) (sw := sw) (fd := fd) (fn := fn) (ab0 := (fun k => u0 (6 + k))) (w0 := w0) (f0 := f0) (od0 := od0) (g0 := g0) (bc0 := (nI n)) (hr0 := hr0) (co0 := co0) (ab1 := (fun k => u1 (6 + k))) (w1 := w1) (f1 := f1) (od1 := od1) (g1 := g1) (bc1 := bc1) (hr1 := hr1) (co1 := co1) (LB := (LB6 (fun k => u0 (6 + k)) ++ LB6 (fun k => u1 (6 + k)))) (B := B) (h_ := h) (n := n) (M_ := (72 * j)) (hn := hn) (hbc := rfl) (hLB0 := LBin0) (hok := hok) (hM := (by omega)) (hsw := hsw) (hh1 := hh1) (hh2 := hh2)) rfl rfl (Nat.le_of_ble_eq_true rfl) (Nat.le_of_ble_eq_true rfl)), gi_mk hM rfl rfl (Nat.le_of_ble_eq_true rfl) (Nat.le_of_ble_eq_true rfl), rfl, fun _ => rfl, ⟨hn, hcd, hsw, hok2.mono (by omega), hrel2, ho1, hz2⟩⟩
  · have hb : ¬ p < 1 → ¬ p ≤ 72 := fun a b => h1 ⟨a, b⟩
    have hM := (c_X6_pass__b l D cyI cyO cyL (aM := aM) (ac := (v 0)) (as_ := (v 1)) (an := (v 2)) (ah := (v 3)) (th := th) (bu := (nI n)) (fd := fd) (fn := fn) (cd := cd) (sw := sw) (rn := rn) (ra := ra) (h_ := p) (hbd := (inI_out hb)))
    exact ⟨1, 0, (cd, sw, fd, fn, n, (w0, f0, od0, g0, B, co0, hr0), (w1, f1, od1, g1, B1, co1, hr1), bc1, 1, rn, ra), _, u_pass_b1 l D cyI cyO cyL aX ao p _ o _ (WXs_recv (aX, t, r0, u0, r1, u1) (cd, sw, fd, fn, n, (w0, f0, od0, g0, B, co0, hr0), (w1, f1, od1, g1, B1, co1, hr1), bc1, th, rn, ra)) hlf (gb_mk (b_pass l D cyI cyO cyL (aX := aX) (aT := (t 0)) (aR0 := r0) (aR1 := r1) (ac := (t 1)) (as_ := (t 2)) (aW0 := (u0 0)) (aw0 := (u0 1)) (af0 := (u0 2)) (aG0 := (u0 3)) (ao0 := (u0 4)) (aB0 := (u0 5)) (aW1 := (u1 0)) (aw1 := (u1 1)) (af1 := (u1 2)) (aG1 := (u1 3)) (ao1 := (u1 4)) (aB1 := (u1 5)) (cd := cd) (sw := sw) (fd := fd) (fn := fn) (ab0 := (fun k => u0 (6 + k))) (w0 := w0) (f0 := f0) (od0 := od0) (g0 := g0) (bc0 := (nI n)) (hr0 := hr0) (co0 := co0) (ab1 := (fun k => u1 (6 + k))) (w1 := w1) (f1 := f1) (od1 := od1) (g1 := g1) (bc1 := bc1) (hr1 := hr1) (co1 := co1) (LB := (LB6 (fun k => u0 (6 + k)) ++ LB6 (fun k => u1 (6 + k)))) (B := B) (h_ := p) (hh9 := hb) (hlf := hlf)) rfl rfl (Nat.le_of_ble_eq_true rfl) (Nat.le_of_ble_eq_true rfl)), gi_mk hM rfl rfl (Nat.le_of_ble_eq_true rfl) (Nat.le_of_ble_eq_true rfl), rfl, fun h9 => absurd h9 (by decide), hI.mono⟩
set_option maxHeartbeats 1000000 in
set_option maxRecDepth 20000 in
theorem st_falls (l : Launch) (D : va_G) (cyI cyO cyL : ClassId) (hlf : l.stackTraces = false) (a : AX) (am : AM) (ao j : Nat) (hj : j < 512) (g : SG) (o : Nat → Int64) (hAd : Adr a) (hI : Inv a j g) (p : Int32) : STP l D cyI cyO cyL yL_falls wsL_falls yX6_falls wsX6_falls [.int p] Int32.toInt64 a am ao j g o := by
  obtain ⟨aX, t, r0, u0, r1, u1⟩ := a
  obtain ⟨aM, v⟩ := am
  obtain ⟨cd, sw, fd, fn, n, ⟨w0, f0, od0, g0, B, co0, hr0⟩, ⟨w1, f1, od1, g1, B1, co1, hr1⟩, bc1, th, rn, ra⟩ := g
  obtain ⟨had0, had1, hne⟩ := hAd
  have had0 : ∀ i j, i < 6 → j < 6 → u0 (6 + i) = u0 (6 + j) → i = j := had0
  have had1 : ∀ i j, i < 6 → j < 6 → u1 (6 + i) = u1 (6 + j) → i = j := had1
  have hne : ∀ i j, i < 6 → j < 6 → u1 (6 + i) ≠ u0 (6 + j) := hne
  have hI : InvE (fun k => u0 (6 + k)) j cd sw n (w0, f0, od0, g0, B, co0, hr0) od1 rn := hI
  obtain ⟨hn, hcd, hsw, hok, hrel, ho1, hz⟩ := id hI
  obtain ⟨m, hm, hg⟩ := hok.1.1
  have hg : g0 0 = nI m := hg
  have hon := OkN_of hok hrel hz
  have hgM : rn 109 = nI m := hrel.2.2.2.1.2.1.trans hg
  by_cases h1 : vp_in p 24
  · have hM := (c_X6_falls l D cyI cyO cyL (aM := aM) (ac := (v 0)) (as_ := (v 1)) (an := (v 2)) (ah := (v 3)) (th := th) (bu := (nI n)) (fd := fd) (fn := fn) (cd := cd) (sw := sw) (rn := rn) (ra := ra) (s_ := p) (n := n) (M_ := (72 * j)) (hs := h1) (hn := hn) (hbu := rfl) (hok := hon) (hM := (by omega)) (hsw := hsw))
    have hcp := cpR_ok (n := n) (ab0 := (fun k => u0 (6 + k))) (ab1 := (fun k => u1 (6 + k))) (w1 := w1) (f1 := f1) (g1 := g1) hok ho1
    have hcr := cpy_rel (w1 := w1) (f1 := f1) (od1 := od1) (g1 := g1) (ra := ra) hn (fun i k h5 h6 => hne i k (by omega) (by omega)) (fun i k h5 h6 => had1 i k (by omega) (by omega)) hrel
    have hkb : ∀ a, (∀ i, i < n → a ≠ u1 (6 + i)) → bcL (fun k => u1 (6 + k)) (fun k => u0 (6 + k)) n 0 B a = B a := fun a h5 => bc_keepB h5 n 0 B (Nat.zero_add n)
    have hf := falls_rel (fd := fd) (fn := fn) hn (fun i k h5 h6 => had1 i k (by omega) (by omega)) hcd hsw h1 97 0 (72 * j) _ _ (by omega) hcp hcr
    rw [← hf.1] at hM
    exact ⟨0, (fallsL cd sw fd fn (fun k => u1 (6 + k)) n p 97 0 (cpR n (fun k => u0 (6 + k)) (fun k => u1 (6 + k)) w0 f0 od0 g0 B co0 hr0 w1 f1 od1 g1)).1, (cd, sw, fd, fn, n, (w0, f0, od0, g0, (fallsL cd sw fd fn (fun k => u1 (6 + k)) n p 97 0 (cpR n (fun k => u0 (6 + k)) (fun k => u1 (6 + k)) w0 f0 od0 g0 B co0 hr0 w1 f1 od1 g1)).2.2.2.2.2.1, co0, hr0), ((fallsL cd sw fd fn (fun k => u1 (6 + k)) n p 97 0 (cpR n (fun k => u0 (6 + k)) (fun k => u1 (6 + k)) w0 f0 od0 g0 B co0 hr0 w1 f1 od1 g1)).2.1, (fallsL cd sw fd fn (fun k => u1 (6 + k)) n p 97 0 (cpR n (fun k => u0 (6 + k)) (fun k => u1 (6 + k)) w0 f0 od0 g0 B co0 hr0 w1 f1 od1 g1)).2.2.1, (fallsL cd sw fd fn (fun k => u1 (6 + k)) n p 97 0 (cpR n (fun k => u0 (6 + k)) (fun k => u1 (6 + k)) w0 f0 od0 g0 B co0 hr0 w1 f1 od1 g1)).2.2.2.1, (fallsL cd sw fd fn (fun k => u1 (6 + k)) n p 97 0 (cpR n (fun k => u0 (6 + k)) (fun k => u1 (6 + k)) w0 f0 od0 g0 B co0 hr0 w1 f1 od1 g1)).2.2.2.2.1, (fallsL cd sw fd fn (fun k => u1 (6 + k)) n p 97 0 (cpR n (fun k => u0 (6 + k)) (fun k => u1 (6 + k)) w0 f0 od0 g0 B co0 hr0 w1 f1 od1 g1)).2.2.2.2.2.1, (fallsL cd sw fd fn (fun k => u1 (6 + k)) n p 97 0 (cpR n (fun k => u0 (6 + k)) (fun k => u1 (6 + k)) w0 f0 od0 g0 B co0 hr0 w1 f1 od1 g1)).2.2.2.2.2.2.1, (fallsL cd sw fd fn (fun k => u1 (6 + k)) n p 97 0 (cpR n (fun k => u0 (6 + k)) (fun k => u1 (6 + k)) w0 f0 od0 g0 B co0 hr0 w1 f1 od1 g1)).2.2.2.2.2.2.2), (nI n), 0, rn, (mfaL cd sw fd fn n p 97 0 (va_cpy rn ra 0 0 121)).2), _, u_falls_g l D cyI cyO cyL aX ao p _ _ o _ (WXs_recv (aX, t, r0, u0, r1, u1) (cd, sw, fd, fn, n, (w0, f0, od0, g0, B, co0, hr0), (w1, f1, od1, g1, B1, co1, hr1), bc1, th, rn, ra)) (fallsL cd sw fd fn (fun k => u1 (6 + k)) n p 97 0 (cpR n (fun k => u0 (6 + k)) (fun k => u1 (6 + k)) w0 f0 od0 g0 B co0 hr0 w1 f1 od1 g1)).1 (WXs_fst (a := (aX, t, r0, u0, r1, u1)) (cd, sw, fd, fn, n, (w0, f0, od0, g0, B, co0, hr0), (w1, f1, od1, g1, B1, co1, hr1), bc1, th, rn, ra) (cd, sw, fd, fn, n, (w0, f0, od0, g0, (fallsL cd sw fd fn (fun k => u1 (6 + k)) n p 97 0 (cpR n (fun k => u0 (6 + k)) (fun k => u1 (6 + k)) w0 f0 od0 g0 B co0 hr0 w1 f1 od1 g1)).2.2.2.2.2.1, co0, hr0), ((fallsL cd sw fd fn (fun k => u1 (6 + k)) n p 97 0 (cpR n (fun k => u0 (6 + k)) (fun k => u1 (6 + k)) w0 f0 od0 g0 B co0 hr0 w1 f1 od1 g1)).2.1, (fallsL cd sw fd fn (fun k => u1 (6 + k)) n p 97 0 (cpR n (fun k => u0 (6 + k)) (fun k => u1 (6 + k)) w0 f0 od0 g0 B co0 hr0 w1 f1 od1 g1)).2.2.1, (fallsL cd sw fd fn (fun k => u1 (6 + k)) n p 97 0 (cpR n (fun k => u0 (6 + k)) (fun k => u1 (6 + k)) w0 f0 od0 g0 B co0 hr0 w1 f1 od1 g1)).2.2.2.1, (fallsL cd sw fd fn (fun k => u1 (6 + k)) n p 97 0 (cpR n (fun k => u0 (6 + k)) (fun k => u1 (6 + k)) w0 f0 od0 g0 B co0 hr0 w1 f1 od1 g1)).2.2.2.2.1, (fallsL cd sw fd fn (fun k => u1 (6 + k)) n p 97 0 (cpR n (fun k => u0 (6 + k)) (fun k => u1 (6 + k)) w0 f0 od0 g0 B co0 hr0 w1 f1 od1 g1)).2.2.2.2.2.1, (fallsL cd sw fd fn (fun k => u1 (6 + k)) n p 97 0 (cpR n (fun k => u0 (6 + k)) (fun k => u1 (6 + k)) w0 f0 od0 g0 B co0 hr0 w1 f1 od1 g1)).2.2.2.2.2.2.1, (fallsL cd sw fd fn (fun k => u1 (6 + k)) n p 97 0 (cpR n (fun k => u0 (6 + k)) (fun k => u1 (6 + k)) w0 f0 od0 g0 B co0 hr0 w1 f1 od1 g1)).2.2.2.2.2.2.2), (nI n), 0, rn, (mfaL cd sw fd fn n p 97 0 (va_cpy rn ra 0 0 121)).2)) (gi_mk (c_X5_falls l D cyI cyO cyL (aX := aX) (aT := (t 0)) (aR0 := r0) (aR1 := r1) (ac := (t 1)) (as_ := (t 2)) (aW0 := (u0 0)) (aw0 := (u0 1)) (af0 := (u0 2)) (aG0 := (u0 3)) (ao0 := (u0 4)) (aB0 := (u0 5)) (aW1 := (u1 0)) (aw1 := (u1 1)) (af1 := (u1 2)) (aG1 := (u1 3)) (ao1 := (u1 4)) (aB1 := (u1 5)) (cd := cd) (sw := sw) (fd := fd) (fn := fn) (ab0 := (fun k => u0 (6 + k))) (w0 := w0) (f0 := f0) (od0 := od0) (g0 := g0) (bc0 := (nI n)) (hr0 := hr0) (co0 := co0) (ab1 := (fun k => u1 (6 + k))) (w1 := w1) (f1 := f1) (od1 := od1) (g1 := g1) (bc1 := bc1) (hr1 := hr1) (co1 := co1) (LB := (LB6 (fun k => u0 (6 + k)) ++ LB6 (fun k => u1 (6 + k)))) (B := B) (s_ := p) (n := n) (M_ := (72 * j)) (hi := h1) (hn := hn) (hbc := rfl) (hLB0 := LBin0) (hLB1 := LBin1) (hok := hok) (ho1 := ho1) (hM := (by omega)) (hsw := hsw)) rfl rfl (Nat.le_of_ble_eq_true rfl) (Nat.le_of_ble_eq_true rfl)), gi_mk hM rfl rfl (Nat.le_of_ble_eq_true rfl) (Nat.le_of_ble_eq_true rfl), rfl, fun _ => rfl, ahead_inv hne hI hf.2.2 (fun a h5 => (hf.2.1 a h5).trans (hkb a h5))⟩
  · have hM := (c_X6_falls_b l D cyI cyO cyL (aM := aM) (ac := (v 0)) (as_ := (v 1)) (an := (v 2)) (ah := (v 3)) (th := th) (bu := (nI n)) (fd := fd) (fn := fn) (cd := cd) (sw := sw) (rn := rn) (ra := ra) (s_ := p) (hbd := (vp_inI0 (N := 23) h1 (by decide))))
    exact ⟨1, 0, (cd, sw, fd, fn, n, (w0, f0, od0, g0, B, co0, hr0), (w1, f1, od1, g1, B1, co1, hr1), bc1, 1, rn, ra), _, u_falls_b1 l D cyI cyO cyL aX ao p _ o _ (WXs_recv (aX, t, r0, u0, r1, u1) (cd, sw, fd, fn, n, (w0, f0, od0, g0, B, co0, hr0), (w1, f1, od1, g1, B1, co1, hr1), bc1, th, rn, ra)) hlf (gb_mk (b_falls l D cyI cyO cyL (aX := aX) (aT := (t 0)) (aR0 := r0) (aR1 := r1) (ac := (t 1)) (as_ := (t 2)) (aW0 := (u0 0)) (aw0 := (u0 1)) (af0 := (u0 2)) (aG0 := (u0 3)) (ao0 := (u0 4)) (aB0 := (u0 5)) (aW1 := (u1 0)) (aw1 := (u1 1)) (af1 := (u1 2)) (aG1 := (u1 3)) (ao1 := (u1 4)) (aB1 := (u1 5)) (cd := cd) (sw := sw) (fd := fd) (fn := fn) (ab0 := (fun k => u0 (6 + k))) (w0 := w0) (f0 := f0) (od0 := od0) (g0 := g0) (bc0 := (nI n)) (hr0 := hr0) (co0 := co0) (ab1 := (fun k => u1 (6 + k))) (w1 := w1) (f1 := f1) (od1 := od1) (g1 := g1) (bc1 := bc1) (hr1 := hr1) (co1 := co1) (LB := (LB6 (fun k => u0 (6 + k)) ++ LB6 (fun k => u1 (6 + k)))) (B := B) (s_ := p) (hs := h1) (hlf := hlf)) rfl rfl (Nat.le_of_ble_eq_true rfl) (Nat.le_of_ble_eq_true rfl)), gi_mk hM rfl rfl (Nat.le_of_ble_eq_true rfl) (Nat.le_of_ble_eq_true rfl), rfl, fun h9 => absurd h9 (by decide), hI.mono⟩
set_option maxHeartbeats 1000000 in
set_option maxRecDepth 20000 in
theorem st_foresee (l : Launch) (D : va_G) (cyI cyO cyL : ClassId) (hlf : l.stackTraces = false) (a : AX) (am : AM) (ao j : Nat) (hj : j < 512) (g : SG) (o : Nat → Int64) (hAd : Adr a) (hI : Inv a j g) (p q : Int32) : STP l D cyI cyO cyL yL_foresee wsL_foresee yX6_foresee wsX6_foresee [.int p, .int q] Int32.toInt64 a am ao j g o := by
  obtain ⟨aX, t, r0, u0, r1, u1⟩ := a
  obtain ⟨aM, v⟩ := am
  obtain ⟨cd, sw, fd, fn, n, ⟨w0, f0, od0, g0, B, co0, hr0⟩, ⟨w1, f1, od1, g1, B1, co1, hr1⟩, bc1, th, rn, ra⟩ := g
  obtain ⟨had0, had1, hne⟩ := hAd
  have had0 : ∀ i j, i < 6 → j < 6 → u0 (6 + i) = u0 (6 + j) → i = j := had0
  have had1 : ∀ i j, i < 6 → j < 6 → u1 (6 + i) = u1 (6 + j) → i = j := had1
  have hne : ∀ i j, i < 6 → j < 6 → u1 (6 + i) ≠ u0 (6 + j) := hne
  have hI : InvE (fun k => u0 (6 + k)) j cd sw n (w0, f0, od0, g0, B, co0, hr0) od1 rn := hI
  obtain ⟨hn, hcd, hsw, hok, hrel, ho1, hz⟩ := id hI
  obtain ⟨m, hm, hg⟩ := hok.1.1
  have hg : g0 0 = nI m := hg
  have hon := OkN_of hok hrel hz
  have hgM : rn 109 = nI m := hrel.2.2.2.1.2.1.trans hg
  by_cases h1 : ¬ p < 1 ∧ p ≤ 72
  · obtain ⟨h, hh1, hh2, rfl⟩ := hrs_ex (N := 72) h1.1 h1.2 (by decide)
    by_cases h2 : q = 2 ∨ (¬ q < 5 ∧ q < 9)
    · have hx : q = 2 ∨ q = 5 ∨ q = 6 ∨ q = 7 ∨ q = 8 := h2.imp id fun z => x58 z.1 z.2
      have hM := (c_X6_foresee l D cyI cyO cyL (aM := aM) (ac := (v 0)) (as_ := (v 1)) (an := (v 2)) (ah := (v 3)) (th := th) (bu := (nI n)) (fd := fd) (fn := fn) (cd := cd) (sw := sw) (rn := rn) (ra := ra) (x_ := q) (h_ := h) (n := n) (M_ := (72 * j)) (hn := hn) (hbu := rfl) (hok := hon) (hM := (by omega)) (hsw := hsw) (hh1 := hh1) (hh2 := hh2) (hwx := (by rcases hx with e | e | e | e | e <;> rw [e] <;> decide)))
      have hcp := cpR_ok (n := n) (ab0 := (fun k => u0 (6 + k))) (ab1 := (fun k => u1 (6 + k))) (w1 := w1) (f1 := f1) (g1 := g1) hok ho1
      have hcr := cpy_rel (w1 := w1) (f1 := f1) (od1 := od1) (g1 := g1) (ra := ra) hn (fun i k h5 h6 => hne i k (by omega) (by omega)) (fun i k h5 h6 => had1 i k (by omega) (by omega)) hrel
      have hkb : ∀ a, (∀ i, i < n → a ≠ u1 (6 + i)) → bcL (fun k => u1 (6 + k)) (fun k => u0 (6 + k)) n 0 B a = B a := fun a h5 => bc_keepB h5 n 0 B (Nat.zero_add n)
      have hok2 := OkQ.hrs (cd := cd) (sw := sw) (fd := fd) (fn := fn) (ab := (fun k => u1 (6 + k))) (n := n) h (72 * j) _ (by omega) hcp
      have hrel2 := hours_rel (fd := fd) (fn := fn) hn (fun i k h5 h6 => had1 i k (by omega) (by omega)) hcd hsw h (72 * j) _ _ (by omega) hcp hcr
      rw [summed_rel (bc := nI n) hrel2 hx] at hM
      exact ⟨0, (tallyS q n (fun k => u1 (6 + k)) (hrsL cd sw fd fn (fun k => u1 (6 + k)) n h (cpR n (fun k => u0 (6 + k)) (fun k => u1 (6 + k)) w0 f0 od0 g0 B co0 hr0 w1 f1 od1 g1)).1 (hrsL cd sw fd fn (fun k => u1 (6 + k)) n h (cpR n (fun k => u0 (6 + k)) (fun k => u1 (6 + k)) w0 f0 od0 g0 B co0 hr0 w1 f1 od1 g1)).2.1 (hrsL cd sw fd fn (fun k => u1 (6 + k)) n h (cpR n (fun k => u0 (6 + k)) (fun k => u1 (6 + k)) w0 f0 od0 g0 B co0 hr0 w1 f1 od1 g1)).2.2.2.2.1 (nI n) (hrsL cd sw fd fn (fun k => u1 (6 + k)) n h (cpR n (fun k => u0 (6 + k)) (fun k => u1 (6 + k)) w0 f0 od0 g0 B co0 hr0 w1 f1 od1 g1)).2.2.2.2.2.2 (hrsL cd sw fd fn (fun k => u1 (6 + k)) n h (cpR n (fun k => u0 (6 + k)) (fun k => u1 (6 + k)) w0 f0 od0 g0 B co0 hr0 w1 f1 od1 g1)).2.2.2.2.2.1), (cd, sw, fd, fn, n, (w0, f0, od0, g0, (hrsL cd sw fd fn (fun k => u1 (6 + k)) n h (cpR n (fun k => u0 (6 + k)) (fun k => u1 (6 + k)) w0 f0 od0 g0 B co0 hr0 w1 f1 od1 g1)).2.2.2.2.1, co0, hr0), ((hrsL cd sw fd fn (fun k => u1 (6 + k)) n h (cpR n (fun k => u0 (6 + k)) (fun k => u1 (6 + k)) w0 f0 od0 g0 B co0 hr0 w1 f1 od1 g1)).1, (hrsL cd sw fd fn (fun k => u1 (6 + k)) n h (cpR n (fun k => u0 (6 + k)) (fun k => u1 (6 + k)) w0 f0 od0 g0 B co0 hr0 w1 f1 od1 g1)).2.1, (hrsL cd sw fd fn (fun k => u1 (6 + k)) n h (cpR n (fun k => u0 (6 + k)) (fun k => u1 (6 + k)) w0 f0 od0 g0 B co0 hr0 w1 f1 od1 g1)).2.2.1, (hrsL cd sw fd fn (fun k => u1 (6 + k)) n h (cpR n (fun k => u0 (6 + k)) (fun k => u1 (6 + k)) w0 f0 od0 g0 B co0 hr0 w1 f1 od1 g1)).2.2.2.1, (hrsL cd sw fd fn (fun k => u1 (6 + k)) n h (cpR n (fun k => u0 (6 + k)) (fun k => u1 (6 + k)) w0 f0 od0 g0 B co0 hr0 w1 f1 od1 g1)).2.2.2.2.1, (hrsL cd sw fd fn (fun k => u1 (6 + k)) n h (cpR n (fun k => u0 (6 + k)) (fun k => u1 (6 + k)) w0 f0 od0 g0 B co0 hr0 w1 f1 od1 g1)).2.2.2.2.2.1, (hrsL cd sw fd fn (fun k => u1 (6 + k)) n h (cpR n (fun k => u0 (6 + k)) (fun k => u1 (6 + k)) w0 f0 od0 g0 B co0 hr0 w1 f1 od1 g1)).2.2.2.2.2.2), (nI n), 0, rn, (mpaL cd sw fd fn n h (va_cpy rn ra 0 0 121))), _, u_foresee_g l D cyI cyO cyL aX ao (nI h) q _ _ o _ (WXs_recv (aX, t, r0, u0, r1, u1) (cd, sw, fd, fn, n, (w0, f0, od0, g0, B, co0, hr0), (w1, f1, od1, g1, B1, co1, hr1), bc1, th, rn, ra)) (tallyS q n (fun k => u1 (6 + k)) (hrsL cd sw fd fn (fun k => u1 (6 + k)) n h (cpR n (fun k => u0 (6 + k)) (fun k => u1 (6 + k)) w0 f0 od0 g0 B co0 hr0 w1 f1 od1 g1)).1 (hrsL cd sw fd fn (fun k => u1 (6 + k)) n h (cpR n (fun k => u0 (6 + k)) (fun k => u1 (6 + k)) w0 f0 od0 g0 B co0 hr0 w1 f1 od1 g1)).2.1 (hrsL cd sw fd fn (fun k => u1 (6 + k)) n h (cpR n (fun k => u0 (6 + k)) (fun k => u1 (6 + k)) w0 f0 od0 g0 B co0 hr0 w1 f1 od1 g1)).2.2.2.2.1 (nI n) (hrsL cd sw fd fn (fun k => u1 (6 + k)) n h (cpR n (fun k => u0 (6 + k)) (fun k => u1 (6 + k)) w0 f0 od0 g0 B co0 hr0 w1 f1 od1 g1)).2.2.2.2.2.2 (hrsL cd sw fd fn (fun k => u1 (6 + k)) n h (cpR n (fun k => u0 (6 + k)) (fun k => u1 (6 + k)) w0 f0 od0 g0 B co0 hr0 w1 f1 od1 g1)).2.2.2.2.2.1) (WXs_fst (a := (aX, t, r0, u0, r1, u1)) (cd, sw, fd, fn, n, (w0, f0, od0, g0, B, co0, hr0), (w1, f1, od1, g1, B1, co1, hr1), bc1, th, rn, ra) (cd, sw, fd, fn, n, (w0, f0, od0, g0, (hrsL cd sw fd fn (fun k => u1 (6 + k)) n h (cpR n (fun k => u0 (6 + k)) (fun k => u1 (6 + k)) w0 f0 od0 g0 B co0 hr0 w1 f1 od1 g1)).2.2.2.2.1, co0, hr0), ((hrsL cd sw fd fn (fun k => u1 (6 + k)) n h (cpR n (fun k => u0 (6 + k)) (fun k => u1 (6 + k)) w0 f0 od0 g0 B co0 hr0 w1 f1 od1 g1)).1, (hrsL cd sw fd fn (fun k => u1 (6 + k)) n h (cpR n (fun k => u0 (6 + k)) (fun k => u1 (6 + k)) w0 f0 od0 g0 B co0 hr0 w1 f1 od1 g1)).2.1, (hrsL cd sw fd fn (fun k => u1 (6 + k)) n h (cpR n (fun k => u0 (6 + k)) (fun k => u1 (6 + k)) w0 f0 od0 g0 B co0 hr0 w1 f1 od1 g1)).2.2.1, (hrsL cd sw fd fn (fun k => u1 (6 + k)) n h (cpR n (fun k => u0 (6 + k)) (fun k => u1 (6 + k)) w0 f0 od0 g0 B co0 hr0 w1 f1 od1 g1)).2.2.2.1, (hrsL cd sw fd fn (fun k => u1 (6 + k)) n h (cpR n (fun k => u0 (6 + k)) (fun k => u1 (6 + k)) w0 f0 od0 g0 B co0 hr0 w1 f1 od1 g1)).2.2.2.2.1, (hrsL cd sw fd fn (fun k => u1 (6 + k)) n h (cpR n (fun k => u0 (6 + k)) (fun k => u1 (6 + k)) w0 f0 od0 g0 B co0 hr0 w1 f1 od1 g1)).2.2.2.2.2.1, (hrsL cd sw fd fn (fun k => u1 (6 + k)) n h (cpR n (fun k => u0 (6 + k)) (fun k => u1 (6 + k)) w0 f0 od0 g0 B co0 hr0 w1 f1 od1 g1)).2.2.2.2.2.2), (nI n), 0, rn, (mpaL cd sw fd fn n h (va_cpy rn ra 0 0 121)))) (gi_mk (c_X5_foresee l D cyI cyO cyL (aX := aX) (aT := (t 0)) (aR0 := r0) (aR1 := r1) (ac := (t 1)) (as_ := (t 2)) (aW0 := (u0 0)) (aw0 := (u0 1)) (af0 := (u0 2)) (aG0 := (u0 3)) (ao0 := (u0 4)) (aB0 := (u0 5)) (aW1 := (u1 0)) (aw1 := (u1 1)) (af1 := (u1 2)) (aG1 := (u1 3)) (ao1 := (u1 4)) (aB1 := (u1 5)) (cd := cd) (sw := sw) (fd := fd) (fn := fn) (ab0 := (fun k => u0 (6 + k))) (w0 := w0) (f0 := f0) (od0 := od0) (g0 := g0) (bc0 := (nI n)) (hr0 := hr0) (co0 := co0) (ab1 := (fun k => u1 (6 + k))) (w1 := w1) (f1 := f1) (od1 := od1) (g1 := g1) (bc1 := bc1) (hr1 := hr1) (co1 := co1) (LB := (LB6 (fun k => u0 (6 + k)) ++ LB6 (fun k => u1 (6 + k)))) (B := B) (x_ := q) (h_ := h) (n := n) (M_ := (72 * j)) (hn := hn) (hbc := rfl) (hLB0 := LBin0) (hLB1 := LBin1) (hok := hok) (ho1 := ho1) (hM := (by omega)) (hsw := hsw) (hh1 := hh1) (hh2 := hh2) (hwx := h2)) rfl rfl (Nat.le_of_ble_eq_true rfl) (Nat.le_of_ble_eq_true rfl)), gi_mk hM rfl rfl (Nat.le_of_ble_eq_true rfl) (Nat.le_of_ble_eq_true rfl), rfl, fun _ => rfl, ahead_inv hne hI hok2 (fun a h5 => (hrs_keepB h5 h (cpR n (fun k => u0 (6 + k)) (fun k => u1 (6 + k)) w0 f0 od0 g0 B co0 hr0 w1 f1 od1 g1)).trans (hkb a h5))⟩
    · have hM := (c_X6_foresee_b2 l D cyI cyO cyL (aM := aM) (ac := (v 0)) (as_ := (v 1)) (an := (v 2)) (ah := (v 3)) (th := th) (bu := (nI n)) (fd := fd) (fn := fn) (cd := cd) (sw := sw) (rn := rn) (ra := ra) (x_ := q) (h_ := h) (hh1 := hh1) (hh2 := hh2) (hwx := ⟨fun e => h2 (Or.inl e), inI_out fun a b => h2 (Or.inr ⟨a, (by rw [Int32.le_iff_toInt_le] at b; rw [Int32.lt_iff_toInt_lt]; have e8 : (8 : Int32).toInt = 8 := rfl; have e9 : (9 : Int32).toInt = 9 := rfl; omega)⟩)⟩))
      exact ⟨2, 0, (cd, sw, fd, fn, n, (w0, f0, od0, g0, B, co0, hr0), (w1, f1, od1, g1, B1, co1, hr1), bc1, 2, rn, ra), _, u_foresee_b2 l D cyI cyO cyL aX ao (nI h) q _ o _ (WXs_recv (aX, t, r0, u0, r1, u1) (cd, sw, fd, fn, n, (w0, f0, od0, g0, B, co0, hr0), (w1, f1, od1, g1, B1, co1, hr1), bc1, th, rn, ra)) hlf (gb_mk (b_foresee_2 l D cyI cyO cyL (aX := aX) (aT := (t 0)) (aR0 := r0) (aR1 := r1) (ac := (t 1)) (as_ := (t 2)) (aW0 := (u0 0)) (aw0 := (u0 1)) (af0 := (u0 2)) (aG0 := (u0 3)) (ao0 := (u0 4)) (aB0 := (u0 5)) (aW1 := (u1 0)) (aw1 := (u1 1)) (af1 := (u1 2)) (aG1 := (u1 3)) (ao1 := (u1 4)) (aB1 := (u1 5)) (cd := cd) (sw := sw) (fd := fd) (fn := fn) (ab0 := (fun k => u0 (6 + k))) (w0 := w0) (f0 := f0) (od0 := od0) (g0 := g0) (bc0 := (nI n)) (hr0 := hr0) (co0 := co0) (ab1 := (fun k => u1 (6 + k))) (w1 := w1) (f1 := f1) (od1 := od1) (g1 := g1) (bc1 := bc1) (hr1 := hr1) (co1 := co1) (LB := (LB6 (fun k => u0 (6 + k)) ++ LB6 (fun k => u1 (6 + k)))) (B := B) (h_ := (nI h)) (x_ := q) (hh0 := h1.1) (hh1 := h1.2) (hwx := h2) (hlf := hlf)) rfl rfl (Nat.le_of_ble_eq_true rfl) (Nat.le_of_ble_eq_true rfl)), gi_mk hM rfl rfl (Nat.le_of_ble_eq_true rfl) (Nat.le_of_ble_eq_true rfl), rfl, fun h9 => absurd h9 (by decide), hI.mono⟩
  · have hb : ¬ p < 1 → ¬ p ≤ 72 := fun a b => h1 ⟨a, b⟩
    have hM := (c_X6_foresee_b l D cyI cyO cyL (aM := aM) (ac := (v 0)) (as_ := (v 1)) (an := (v 2)) (ah := (v 3)) (th := th) (bu := (nI n)) (fd := fd) (fn := fn) (cd := cd) (sw := sw) (rn := rn) (ra := ra) (h_ := p) (x_ := q) (hbd := (inI_out hb)))
    exact ⟨1, 0, (cd, sw, fd, fn, n, (w0, f0, od0, g0, B, co0, hr0), (w1, f1, od1, g1, B1, co1, hr1), bc1, 1, rn, ra), _, u_foresee_b1 l D cyI cyO cyL aX ao p q _ o _ (WXs_recv (aX, t, r0, u0, r1, u1) (cd, sw, fd, fn, n, (w0, f0, od0, g0, B, co0, hr0), (w1, f1, od1, g1, B1, co1, hr1), bc1, th, rn, ra)) hlf (gb_mk (b_foresee_1 l D cyI cyO cyL (aX := aX) (aT := (t 0)) (aR0 := r0) (aR1 := r1) (ac := (t 1)) (as_ := (t 2)) (aW0 := (u0 0)) (aw0 := (u0 1)) (af0 := (u0 2)) (aG0 := (u0 3)) (ao0 := (u0 4)) (aB0 := (u0 5)) (aW1 := (u1 0)) (aw1 := (u1 1)) (af1 := (u1 2)) (aG1 := (u1 3)) (ao1 := (u1 4)) (aB1 := (u1 5)) (cd := cd) (sw := sw) (fd := fd) (fn := fn) (ab0 := (fun k => u0 (6 + k))) (w0 := w0) (f0 := f0) (od0 := od0) (g0 := g0) (bc0 := (nI n)) (hr0 := hr0) (co0 := co0) (ab1 := (fun k => u1 (6 + k))) (w1 := w1) (f1 := f1) (od1 := od1) (g1 := g1) (bc1 := bc1) (hr1 := hr1) (co1 := co1) (LB := (LB6 (fun k => u0 (6 + k)) ++ LB6 (fun k => u1 (6 + k)))) (B := B) (h_ := p) (x_ := q) (hh9 := hb) (hlf := hlf)) rfl rfl (Nat.le_of_ble_eq_true rfl) (Nat.le_of_ble_eq_true rfl)), gi_mk hM rfl rfl (Nat.le_of_ble_eq_true rfl) (Nat.le_of_ble_eq_true rfl), rfl, fun h9 => absurd h9 (by decide), hI.mono⟩
set_option maxHeartbeats 1000000 in
set_option maxRecDepth 20000 in
theorem st_advise (l : Launch) (D : va_G) (cyI cyO cyL : ClassId) (hlf : l.stackTraces = false) (a : AX) (am : AM) (ao j : Nat) (hj : j < 512) (g : SG) (o : Nat → Int64) (hAd : Adr a) (hI : Inv a j g) (p : Int32) : STP l D cyI cyO cyL yL_advise wsL_advise yX6_advise wsX6_advise [.int p] Int32.toInt64 a am ao j g o := by
  obtain ⟨aX, t, r0, u0, r1, u1⟩ := a
  obtain ⟨aM, v⟩ := am
  obtain ⟨cd, sw, fd, fn, n, ⟨w0, f0, od0, g0, B, co0, hr0⟩, ⟨w1, f1, od1, g1, B1, co1, hr1⟩, bc1, th, rn, ra⟩ := g
  obtain ⟨had0, had1, hne⟩ := hAd
  have had0 : ∀ i j, i < 6 → j < 6 → u0 (6 + i) = u0 (6 + j) → i = j := had0
  have had1 : ∀ i j, i < 6 → j < 6 → u1 (6 + i) = u1 (6 + j) → i = j := had1
  have hne : ∀ i j, i < 6 → j < 6 → u1 (6 + i) ≠ u0 (6 + j) := hne
  have hI : InvE (fun k => u0 (6 + k)) j cd sw n (w0, f0, od0, g0, B, co0, hr0) od1 rn := hI
  obtain ⟨hn, hcd, hsw, hok, hrel, ho1, hz⟩ := id hI
  obtain ⟨m, hm, hg⟩ := hok.1.1
  have hg : g0 0 = nI m := hg
  have hon := OkN_of hok hrel hz
  have hgM : rn 109 = nI m := hrel.2.2.2.1.2.1.trans hg
  by_cases h1 : ¬ p < 1 ∧ p ≤ 48
  · obtain ⟨h, hh1, hh2, rfl⟩ := hrs_ex (N := 48) h1.1 h1.2 (by decide)
    have hM := (c_X6_advise l D cyI cyO cyL (aM := aM) (ac := (v 0)) (as_ := (v 1)) (an := (v 2)) (ah := (v 3)) (th := th) (bu := (nI n)) (fd := fd) (fn := fn) (cd := cd) (sw := sw) (rn := rn) (ra := ra) (h_ := h) (n := n) (M_ := (72 * j)) (hn := hn) (hbu := rfl) (hok := hon) (hM := (by omega)) (hsw := hsw) (hh1 := hh1) (hh2 := hh2))
    have hcw := cw_rel (fd := fd) (fn := fn) (s_ := -1) (ra := ra) (M := 72 * j) (h_ := h) (q := (w1, f1, od1, g1, B, co1, hr1)) hn (fun i k h5 h6 => hne i k (by omega) (by omega)) (fun i k h5 h6 => had1 i k (by omega) (by omega)) hcd hsw (by omega) (Or.inl rfl) hok ho1 hrel
    have ha := adv_rel (fd := fd) (fn := fn) (M := 72 * j) (h_ := h) hn (fun i k h5 h6 => hne i k (by omega) (by omega)) (fun i k h5 h6 => had1 i k (by omega) (by omega)) hcd hsw (by omega) hok hrel 24 0 (-1) (cwR cd sw fd fn n (fun k => u0 (6 + k)) (fun k => u1 (6 + k)) w0 f0 od0 g0 co0 hr0 (-1) h (w1, f1, od1, g1, B, co1, hr1)).2.2.2.2.2.1 (cwR cd sw fd fn n (fun k => u0 (6 + k)) (fun k => u1 (6 + k)) w0 f0 od0 g0 co0 hr0 (-1) h (w1, f1, od1, g1, B, co1, hr1)) (mcw cd sw fd fn n h rn (-1) ra) rfl hcw.2.2 hcw.2.1
    have e7 : (mcw cd sw fd fn n h rn (-1) ra) 119 = (cwR cd sw fd fn n (fun k => u0 (6 + k)) (fun k => u1 (6 + k)) w0 f0 od0 g0 co0 hr0 (-1) h (w1, f1, od1, g1, B, co1, hr1)).2.2.2.2.2.1 := hcw.1.2.2.2.2.1
    rw [e7, ← ha.1] at hM
    exact ⟨0, (advL (fun z => cwR cd sw fd fn n (fun k => u0 (6 + k)) (fun k => u1 (6 + k)) w0 f0 od0 g0 co0 hr0 z h) 24 0 (-1) (cwR cd sw fd fn n (fun k => u0 (6 + k)) (fun k => u1 (6 + k)) w0 f0 od0 g0 co0 hr0 (-1) h (w1, f1, od1, g1, B, co1, hr1)).2.2.2.2.2.1 (cwR cd sw fd fn n (fun k => u0 (6 + k)) (fun k => u1 (6 + k)) w0 f0 od0 g0 co0 hr0 (-1) h (w1, f1, od1, g1, B, co1, hr1))).1, (cd, sw, fd, fn, n, (w0, f0, od0, g0, (advL (fun z => cwR cd sw fd fn n (fun k => u0 (6 + k)) (fun k => u1 (6 + k)) w0 f0 od0 g0 co0 hr0 z h) 24 0 (-1) (cwR cd sw fd fn n (fun k => u0 (6 + k)) (fun k => u1 (6 + k)) w0 f0 od0 g0 co0 hr0 (-1) h (w1, f1, od1, g1, B, co1, hr1)).2.2.2.2.2.1 (cwR cd sw fd fn n (fun k => u0 (6 + k)) (fun k => u1 (6 + k)) w0 f0 od0 g0 co0 hr0 (-1) h (w1, f1, od1, g1, B, co1, hr1))).2.2.2.2.2.1, co0, hr0), ((advL (fun z => cwR cd sw fd fn n (fun k => u0 (6 + k)) (fun k => u1 (6 + k)) w0 f0 od0 g0 co0 hr0 z h) 24 0 (-1) (cwR cd sw fd fn n (fun k => u0 (6 + k)) (fun k => u1 (6 + k)) w0 f0 od0 g0 co0 hr0 (-1) h (w1, f1, od1, g1, B, co1, hr1)).2.2.2.2.2.1 (cwR cd sw fd fn n (fun k => u0 (6 + k)) (fun k => u1 (6 + k)) w0 f0 od0 g0 co0 hr0 (-1) h (w1, f1, od1, g1, B, co1, hr1))).2.1, (advL (fun z => cwR cd sw fd fn n (fun k => u0 (6 + k)) (fun k => u1 (6 + k)) w0 f0 od0 g0 co0 hr0 z h) 24 0 (-1) (cwR cd sw fd fn n (fun k => u0 (6 + k)) (fun k => u1 (6 + k)) w0 f0 od0 g0 co0 hr0 (-1) h (w1, f1, od1, g1, B, co1, hr1)).2.2.2.2.2.1 (cwR cd sw fd fn n (fun k => u0 (6 + k)) (fun k => u1 (6 + k)) w0 f0 od0 g0 co0 hr0 (-1) h (w1, f1, od1, g1, B, co1, hr1))).2.2.1, (advL (fun z => cwR cd sw fd fn n (fun k => u0 (6 + k)) (fun k => u1 (6 + k)) w0 f0 od0 g0 co0 hr0 z h) 24 0 (-1) (cwR cd sw fd fn n (fun k => u0 (6 + k)) (fun k => u1 (6 + k)) w0 f0 od0 g0 co0 hr0 (-1) h (w1, f1, od1, g1, B, co1, hr1)).2.2.2.2.2.1 (cwR cd sw fd fn n (fun k => u0 (6 + k)) (fun k => u1 (6 + k)) w0 f0 od0 g0 co0 hr0 (-1) h (w1, f1, od1, g1, B, co1, hr1))).2.2.2.1, (advL (fun z => cwR cd sw fd fn n (fun k => u0 (6 + k)) (fun k => u1 (6 + k)) w0 f0 od0 g0 co0 hr0 z h) 24 0 (-1) (cwR cd sw fd fn n (fun k => u0 (6 + k)) (fun k => u1 (6 + k)) w0 f0 od0 g0 co0 hr0 (-1) h (w1, f1, od1, g1, B, co1, hr1)).2.2.2.2.2.1 (cwR cd sw fd fn n (fun k => u0 (6 + k)) (fun k => u1 (6 + k)) w0 f0 od0 g0 co0 hr0 (-1) h (w1, f1, od1, g1, B, co1, hr1))).2.2.2.2.1, (advL (fun z => cwR cd sw fd fn n (fun k => u0 (6 + k)) (fun k => u1 (6 + k)) w0 f0 od0 g0 co0 hr0 z h) 24 0 (-1) (cwR cd sw fd fn n (fun k => u0 (6 + k)) (fun k => u1 (6 + k)) w0 f0 od0 g0 co0 hr0 (-1) h (w1, f1, od1, g1, B, co1, hr1)).2.2.2.2.2.1 (cwR cd sw fd fn n (fun k => u0 (6 + k)) (fun k => u1 (6 + k)) w0 f0 od0 g0 co0 hr0 (-1) h (w1, f1, od1, g1, B, co1, hr1))).2.2.2.2.2.1, (advL (fun z => cwR cd sw fd fn n (fun k => u0 (6 + k)) (fun k => u1 (6 + k)) w0 f0 od0 g0 co0 hr0 z h) 24 0 (-1) (cwR cd sw fd fn n (fun k => u0 (6 + k)) (fun k => u1 (6 + k)) w0 f0 od0 g0 co0 hr0 (-1) h (w1, f1, od1, g1, B, co1, hr1)).2.2.2.2.2.1 (cwR cd sw fd fn n (fun k => u0 (6 + k)) (fun k => u1 (6 + k)) w0 f0 od0 g0 co0 hr0 (-1) h (w1, f1, od1, g1, B, co1, hr1))).2.2.2.2.2.2.1, (advL (fun z => cwR cd sw fd fn n (fun k => u0 (6 + k)) (fun k => u1 (6 + k)) w0 f0 od0 g0 co0 hr0 z h) 24 0 (-1) (cwR cd sw fd fn n (fun k => u0 (6 + k)) (fun k => u1 (6 + k)) w0 f0 od0 g0 co0 hr0 (-1) h (w1, f1, od1, g1, B, co1, hr1)).2.2.2.2.2.1 (cwR cd sw fd fn n (fun k => u0 (6 + k)) (fun k => u1 (6 + k)) w0 f0 od0 g0 co0 hr0 (-1) h (w1, f1, od1, g1, B, co1, hr1))).2.2.2.2.2.2.2), (nI n), 0, rn, (madL (fun z => mcw cd sw fd fn n h rn z) 24 0 (-1) (cwR cd sw fd fn n (fun k => u0 (6 + k)) (fun k => u1 (6 + k)) w0 f0 od0 g0 co0 hr0 (-1) h (w1, f1, od1, g1, B, co1, hr1)).2.2.2.2.2.1 (mcw cd sw fd fn n h rn (-1) ra)).2), _, u_advise_g l D cyI cyO cyL aX ao (nI h) _ _ o _ (WXs_recv (aX, t, r0, u0, r1, u1) (cd, sw, fd, fn, n, (w0, f0, od0, g0, B, co0, hr0), (w1, f1, od1, g1, B1, co1, hr1), bc1, th, rn, ra)) (advL (fun z => cwR cd sw fd fn n (fun k => u0 (6 + k)) (fun k => u1 (6 + k)) w0 f0 od0 g0 co0 hr0 z h) 24 0 (-1) (cwR cd sw fd fn n (fun k => u0 (6 + k)) (fun k => u1 (6 + k)) w0 f0 od0 g0 co0 hr0 (-1) h (w1, f1, od1, g1, B, co1, hr1)).2.2.2.2.2.1 (cwR cd sw fd fn n (fun k => u0 (6 + k)) (fun k => u1 (6 + k)) w0 f0 od0 g0 co0 hr0 (-1) h (w1, f1, od1, g1, B, co1, hr1))).1 (WXs_fst (a := (aX, t, r0, u0, r1, u1)) (cd, sw, fd, fn, n, (w0, f0, od0, g0, B, co0, hr0), (w1, f1, od1, g1, B1, co1, hr1), bc1, th, rn, ra) (cd, sw, fd, fn, n, (w0, f0, od0, g0, (advL (fun z => cwR cd sw fd fn n (fun k => u0 (6 + k)) (fun k => u1 (6 + k)) w0 f0 od0 g0 co0 hr0 z h) 24 0 (-1) (cwR cd sw fd fn n (fun k => u0 (6 + k)) (fun k => u1 (6 + k)) w0 f0 od0 g0 co0 hr0 (-1) h (w1, f1, od1, g1, B, co1, hr1)).2.2.2.2.2.1 (cwR cd sw fd fn n (fun k => u0 (6 + k)) (fun k => u1 (6 + k)) w0 f0 od0 g0 co0 hr0 (-1) h (w1, f1, od1, g1, B, co1, hr1))).2.2.2.2.2.1, co0, hr0), ((advL (fun z => cwR cd sw fd fn n (fun k => u0 (6 + k)) (fun k => u1 (6 + k)) w0 f0 od0 g0 co0 hr0 z h) 24 0 (-1) (cwR cd sw fd fn n (fun k => u0 (6 + k)) (fun k => u1 (6 + k)) w0 f0 od0 g0 co0 hr0 (-1) h (w1, f1, od1, g1, B, co1, hr1)).2.2.2.2.2.1 (cwR cd sw fd fn n (fun k => u0 (6 + k)) (fun k => u1 (6 + k)) w0 f0 od0 g0 co0 hr0 (-1) h (w1, f1, od1, g1, B, co1, hr1))).2.1, (advL (fun z => cwR cd sw fd fn n (fun k => u0 (6 + k)) (fun k => u1 (6 + k)) w0 f0 od0 g0 co0 hr0 z h) 24 0 (-1) (cwR cd sw fd fn n (fun k => u0 (6 + k)) (fun k => u1 (6 + k)) w0 f0 od0 g0 co0 hr0 (-1) h (w1, f1, od1, g1, B, co1, hr1)).2.2.2.2.2.1 (cwR cd sw fd fn n (fun k => u0 (6 + k)) (fun k => u1 (6 + k)) w0 f0 od0 g0 co0 hr0 (-1) h (w1, f1, od1, g1, B, co1, hr1))).2.2.1, (advL (fun z => cwR cd sw fd fn n (fun k => u0 (6 + k)) (fun k => u1 (6 + k)) w0 f0 od0 g0 co0 hr0 z h) 24 0 (-1) (cwR cd sw fd fn n (fun k => u0 (6 + k)) (fun k => u1 (6 + k)) w0 f0 od0 g0 co0 hr0 (-1) h (w1, f1, od1, g1, B, co1, hr1)).2.2.2.2.2.1 (cwR cd sw fd fn n (fun k => u0 (6 + k)) (fun k => u1 (6 + k)) w0 f0 od0 g0 co0 hr0 (-1) h (w1, f1, od1, g1, B, co1, hr1))).2.2.2.1, (advL (fun z => cwR cd sw fd fn n (fun k => u0 (6 + k)) (fun k => u1 (6 + k)) w0 f0 od0 g0 co0 hr0 z h) 24 0 (-1) (cwR cd sw fd fn n (fun k => u0 (6 + k)) (fun k => u1 (6 + k)) w0 f0 od0 g0 co0 hr0 (-1) h (w1, f1, od1, g1, B, co1, hr1)).2.2.2.2.2.1 (cwR cd sw fd fn n (fun k => u0 (6 + k)) (fun k => u1 (6 + k)) w0 f0 od0 g0 co0 hr0 (-1) h (w1, f1, od1, g1, B, co1, hr1))).2.2.2.2.1, (advL (fun z => cwR cd sw fd fn n (fun k => u0 (6 + k)) (fun k => u1 (6 + k)) w0 f0 od0 g0 co0 hr0 z h) 24 0 (-1) (cwR cd sw fd fn n (fun k => u0 (6 + k)) (fun k => u1 (6 + k)) w0 f0 od0 g0 co0 hr0 (-1) h (w1, f1, od1, g1, B, co1, hr1)).2.2.2.2.2.1 (cwR cd sw fd fn n (fun k => u0 (6 + k)) (fun k => u1 (6 + k)) w0 f0 od0 g0 co0 hr0 (-1) h (w1, f1, od1, g1, B, co1, hr1))).2.2.2.2.2.1, (advL (fun z => cwR cd sw fd fn n (fun k => u0 (6 + k)) (fun k => u1 (6 + k)) w0 f0 od0 g0 co0 hr0 z h) 24 0 (-1) (cwR cd sw fd fn n (fun k => u0 (6 + k)) (fun k => u1 (6 + k)) w0 f0 od0 g0 co0 hr0 (-1) h (w1, f1, od1, g1, B, co1, hr1)).2.2.2.2.2.1 (cwR cd sw fd fn n (fun k => u0 (6 + k)) (fun k => u1 (6 + k)) w0 f0 od0 g0 co0 hr0 (-1) h (w1, f1, od1, g1, B, co1, hr1))).2.2.2.2.2.2.1, (advL (fun z => cwR cd sw fd fn n (fun k => u0 (6 + k)) (fun k => u1 (6 + k)) w0 f0 od0 g0 co0 hr0 z h) 24 0 (-1) (cwR cd sw fd fn n (fun k => u0 (6 + k)) (fun k => u1 (6 + k)) w0 f0 od0 g0 co0 hr0 (-1) h (w1, f1, od1, g1, B, co1, hr1)).2.2.2.2.2.1 (cwR cd sw fd fn n (fun k => u0 (6 + k)) (fun k => u1 (6 + k)) w0 f0 od0 g0 co0 hr0 (-1) h (w1, f1, od1, g1, B, co1, hr1))).2.2.2.2.2.2.2), (nI n), 0, rn, (madL (fun z => mcw cd sw fd fn n h rn z) 24 0 (-1) (cwR cd sw fd fn n (fun k => u0 (6 + k)) (fun k => u1 (6 + k)) w0 f0 od0 g0 co0 hr0 (-1) h (w1, f1, od1, g1, B, co1, hr1)).2.2.2.2.2.1 (mcw cd sw fd fn n h rn (-1) ra)).2)) (gi_mk (c_X5_advise l D cyI cyO cyL (aX := aX) (aT := (t 0)) (aR0 := r0) (aR1 := r1) (ac := (t 1)) (as_ := (t 2)) (aW0 := (u0 0)) (aw0 := (u0 1)) (af0 := (u0 2)) (aG0 := (u0 3)) (ao0 := (u0 4)) (aB0 := (u0 5)) (aW1 := (u1 0)) (aw1 := (u1 1)) (af1 := (u1 2)) (aG1 := (u1 3)) (ao1 := (u1 4)) (aB1 := (u1 5)) (cd := cd) (sw := sw) (fd := fd) (fn := fn) (ab0 := (fun k => u0 (6 + k))) (w0 := w0) (f0 := f0) (od0 := od0) (g0 := g0) (bc0 := (nI n)) (hr0 := hr0) (co0 := co0) (ab1 := (fun k => u1 (6 + k))) (w1 := w1) (f1 := f1) (od1 := od1) (g1 := g1) (bc1 := bc1) (hr1 := hr1) (co1 := co1) (LB := (LB6 (fun k => u0 (6 + k)) ++ LB6 (fun k => u1 (6 + k)))) (B := B) (h_ := h) (n := n) (M_ := (72 * j)) (hn := hn) (hbc := rfl) (hLB0 := LBin0) (hLB1 := LBin1) (hok := hok) (ho1 := ho1) (hM := (by omega)) (hsw := hsw) (hh1 := hh1) (hh2 := hh2)) rfl rfl (Nat.le_of_ble_eq_true rfl) (Nat.le_of_ble_eq_true rfl)), gi_mk hM rfl rfl (Nat.le_of_ble_eq_true rfl) (Nat.le_of_ble_eq_true rfl), rfl, fun _ => rfl, ahead_inv hne hI ha.2.2 ha.2.1⟩
  · have hb : ¬ p < 1 → ¬ p ≤ 48 := fun a b => h1 ⟨a, b⟩
    have hM := (c_X6_advise_b l D cyI cyO cyL (aM := aM) (ac := (v 0)) (as_ := (v 1)) (an := (v 2)) (ah := (v 3)) (th := th) (bu := (nI n)) (fd := fd) (fn := fn) (cd := cd) (sw := sw) (rn := rn) (ra := ra) (h_ := p) (hbd := (inI_out hb)))
    exact ⟨1, 0, (cd, sw, fd, fn, n, (w0, f0, od0, g0, B, co0, hr0), (w1, f1, od1, g1, B1, co1, hr1), bc1, 1, rn, ra), _, u_advise_b1 l D cyI cyO cyL aX ao p _ o _ (WXs_recv (aX, t, r0, u0, r1, u1) (cd, sw, fd, fn, n, (w0, f0, od0, g0, B, co0, hr0), (w1, f1, od1, g1, B1, co1, hr1), bc1, th, rn, ra)) hlf (gb_mk (b_advise l D cyI cyO cyL (aX := aX) (aT := (t 0)) (aR0 := r0) (aR1 := r1) (ac := (t 1)) (as_ := (t 2)) (aW0 := (u0 0)) (aw0 := (u0 1)) (af0 := (u0 2)) (aG0 := (u0 3)) (ao0 := (u0 4)) (aB0 := (u0 5)) (aW1 := (u1 0)) (aw1 := (u1 1)) (af1 := (u1 2)) (aG1 := (u1 3)) (ao1 := (u1 4)) (aB1 := (u1 5)) (cd := cd) (sw := sw) (fd := fd) (fn := fn) (ab0 := (fun k => u0 (6 + k))) (w0 := w0) (f0 := f0) (od0 := od0) (g0 := g0) (bc0 := (nI n)) (hr0 := hr0) (co0 := co0) (ab1 := (fun k => u1 (6 + k))) (w1 := w1) (f1 := f1) (od1 := od1) (g1 := g1) (bc1 := bc1) (hr1 := hr1) (co1 := co1) (LB := (LB6 (fun k => u0 (6 + k)) ++ LB6 (fun k => u1 (6 + k)))) (B := B) (h_ := p) (hh9 := hb) (hlf := hlf)) rfl rfl (Nat.le_of_ble_eq_true rfl) (Nat.le_of_ble_eq_true rfl)), gi_mk hM rfl rfl (Nat.le_of_ble_eq_true rfl) (Nat.le_of_ble_eq_true rfl), rfl, fun h9 => absurd h9 (by decide), hI.mono⟩
set_option maxHeartbeats 1000000 in
set_option maxRecDepth 20000 in
theorem st_mean (l : Launch) (D : va_G) (cyI cyO cyL : ClassId) (a : AX) (am : AM) (j : Nat) (g : SG) (hI : Inv a j g) : ∃ (r : UInt64) (g2 : SG), GD l yX5_mean wsX5_mean D cyI cyO cyL [.ref a.1] (WXs cyI cyO a g) (WXs cyI cyO a g2) r ∧ GD l yX6_mean wsX6_mean D cyI cyO cyL [.ref am.1] (WMs cyI am g) (WMs cyI am g2) r ∧ Inv a (j + 1) g2 ∧ ∃ k : Nat, k ≤ 2400 ∧ r = FP.ddiv (FP.i2d (nI k)) 4627448617123184640 := by
  obtain ⟨aX, t, r0, u0, r1, u1⟩ := a
  obtain ⟨aM, v⟩ := am
  obtain ⟨cd, sw, fd, fn, n, ⟨w0, f0, od0, g0, B, co0, hr0⟩, ⟨w1, f1, od1, g1, B1, co1, hr1⟩, bc1, th, rn, ra⟩ := g
  have hI : InvE (fun k => u0 (6 + k)) j cd sw n (w0, f0, od0, g0, B, co0, hr0) od1 rn := hI
  obtain ⟨hn, hcd, hsw, hok, hrel, ho1, hz⟩ := id hI
  obtain ⟨m, hm, hg⟩ := hok.1.1
  have hg : g0 0 = nI m := hg
  have hon := OkN_of hok hrel hz
  have hgM : rn 109 = nI m := hrel.2.2.2.1.2.1.trans hg
  obtain ⟨k, hk1, hk2⟩ := sum_bound hrel.1 24 0 0 rfl (Nat.zero_le _)
  have e8 : sumL w0 24 0 0 = nI k := hk2
  have hM := (c_X6_mean l D cyI cyO cyL (aM := aM) (ac := (v 0)) (as_ := (v 1)) (an := (v 2)) (ah := (v 3)) (th := th) (bu := (nI n)) (fd := fd) (fn := fn) (cd := cd) (sw := sw) (rn := rn) (ra := ra) (hsum := ⟨k, hk1, (sumw_rel hrel.1).trans e8⟩))
  have e9 : mmn rn = mnS w0 := by unfold mmn mnS; rw [sumw_rel hrel.1]
  rw [e9] at hM
  exact ⟨mnS w0, (cd, sw, fd, fn, n, (w0, f0, od0, g0, B, co0, hr0), (w1, f1, od1, g1, B1, co1, hr1), bc1, 0, rn, ra), gd_mk (c_X5_mean l D cyI cyO cyL (aX := aX) (aT := (t 0)) (aR0 := r0) (aR1 := r1) (ac := (t 1)) (as_ := (t 2)) (aW0 := (u0 0)) (aw0 := (u0 1)) (af0 := (u0 2)) (aG0 := (u0 3)) (ao0 := (u0 4)) (aB0 := (u0 5)) (aW1 := (u1 0)) (aw1 := (u1 1)) (af1 := (u1 2)) (aG1 := (u1 3)) (ao1 := (u1 4)) (aB1 := (u1 5)) (cd := cd) (sw := sw) (fd := fd) (fn := fn) (ab0 := (fun k => u0 (6 + k))) (w0 := w0) (f0 := f0) (od0 := od0) (g0 := g0) (bc0 := (nI n)) (hr0 := hr0) (co0 := co0) (ab1 := (fun k => u1 (6 + k))) (w1 := w1) (f1 := f1) (od1 := od1) (g1 := g1) (bc1 := bc1) (hr1 := hr1) (co1 := co1) (LB := (LB6 (fun k => u0 (6 + k)) ++ LB6 (fun k => u1 (6 + k)))) (B := B) (hsum := ⟨k, hk1, e8⟩)) rfl rfl (Nat.le_of_ble_eq_true rfl) (Nat.le_of_ble_eq_true rfl), gd_mk hM rfl rfl (Nat.le_of_ble_eq_true rfl) (Nat.le_of_ble_eq_true rfl), hI.mono, k, hk1, by rw [mnS, e8]⟩
set_option maxHeartbeats 1000000 in
set_option maxRecDepth 20000 in
theorem st_digest (l : Launch) (D : va_G) (cyI cyO cyL : ClassId) (a : AX) (am : AM) (j : Nat) (g : SG) (hI : Inv a j g) : ∃ (r : Int64) (g2 : SG), GL l yX5_digest wsX5_digest D cyI cyO cyL [.ref a.1] (WXs cyI cyO a g) (WXs cyI cyO a g2) r ∧ GL l yX6_digest wsX6_digest D cyI cyO cyL [.ref am.1] (WMs cyI am g) (WMs cyI am g2) r ∧ Inv a (j + 1) g2 := by
  obtain ⟨aX, t, r0, u0, r1, u1⟩ := a
  obtain ⟨aM, v⟩ := am
  obtain ⟨cd, sw, fd, fn, n, ⟨w0, f0, od0, g0, B, co0, hr0⟩, ⟨w1, f1, od1, g1, B1, co1, hr1⟩, bc1, th, rn, ra⟩ := g
  have hI : InvE (fun k => u0 (6 + k)) j cd sw n (w0, f0, od0, g0, B, co0, hr0) od1 rn := hI
  obtain ⟨hn, hcd, hsw, hok, hrel, ho1, hz⟩ := id hI
  obtain ⟨m, hm, hg⟩ := hok.1.1
  have hg : g0 0 = nI m := hg
  have hon := OkN_of hok hrel hz
  have hgM : rn 109 = nI m := hrel.2.2.2.1.2.1.trans hg
  have hM := (c_X6_digest l D cyI cyO cyL (aM := aM) (ac := (v 0)) (as_ := (v 1)) (an := (v 2)) (ah := (v 3)) (th := th) (bu := (nI n)) (fd := fd) (fn := fn) (cd := cd) (sw := sw) (rn := rn) (ra := ra) (n := n) (k_ := m) (M_ := (72 * j)) (hn := hn) (hbu := rfl) (hok := hon) (hm := hm) (hoc := hgM))
  have e9 := digest_rel (cd := cd) (sw := sw) (fd := fd) (fn := fn) (bu := nI n) (bc := nI n) hn hm hg hok.1.2.2.2.1 rfl hrel
  rw [e9] at hM
  exact ⟨_, (cd, sw, fd, fn, n, (w0, f0, od0, g0, B, co0, hr0), (w1, f1, od1, g1, B1, co1, hr1), bc1, 0, rn, ra), gl_mk (c_X5_digest l D cyI cyO cyL (aX := aX) (aT := (t 0)) (aR0 := r0) (aR1 := r1) (ac := (t 1)) (as_ := (t 2)) (aW0 := (u0 0)) (aw0 := (u0 1)) (af0 := (u0 2)) (aG0 := (u0 3)) (ao0 := (u0 4)) (aB0 := (u0 5)) (aW1 := (u1 0)) (aw1 := (u1 1)) (af1 := (u1 2)) (aG1 := (u1 3)) (ao1 := (u1 4)) (aB1 := (u1 5)) (cd := cd) (sw := sw) (fd := fd) (fn := fn) (ab0 := (fun k => u0 (6 + k))) (w0 := w0) (f0 := f0) (od0 := od0) (g0 := g0) (bc0 := (nI n)) (hr0 := hr0) (co0 := co0) (ab1 := (fun k => u1 (6 + k))) (w1 := w1) (f1 := f1) (od1 := od1) (g1 := g1) (bc1 := bc1) (hr1 := hr1) (co1 := co1) (LB := (LB6 (fun k => u0 (6 + k)) ++ LB6 (fun k => u1 (6 + k)))) (B := B) (n := n) (o_ := m) (hn := hn) (hbc := rfl) (hLB0 := LBin0) (hm := hm) (hoc := hg) (hB := hok.1.2.2.2.1) (hhr := hok.1.2.2.2.2)) rfl rfl (Nat.le_of_ble_eq_true rfl) (Nat.le_of_ble_eq_true rfl), gl_mk hM rfl rfl (Nat.le_of_ble_eq_true rfl) (Nat.le_of_ble_eq_true rfl), hI.mono⟩
