/-! bounds of a ring's numbers: works, spans, hours stuck, coins -/
theorem n0 : nI 0 = 0 := rfl
theorem n1 : nI 1 = 1 := rfl
theorem n2 : nI 2 = 2 := rfl
def GQ (M : Nat) (ab : Nat → Nat) (q : RS) : Prop := ∃ H a b c : Nat, H ≤ M ∧ q.2.2.2.2.2.2 = nI H ∧ q.2.2.2.1 2 = nI a ∧ q.2.2.2.1 3 = nI b ∧ q.2.2.2.1 4 = nI c ∧ 2 * c + a ≤ b ∧ b ≤ H ∧ (q.2.2.2.1 0 = 0 → a = 0) ∧ (∀ i, i < 3 → ∃ s t : Nat, q.2.2.2.2.1 (ab i) 3 = nI s ∧ s ≤ 3 * H ∧ q.2.2.2.2.1 (ab i) 5 = nI t ∧ t ≤ H) ∧ q.2.2.2.2.2.1 = q.2.2.2.2.1 (ab 0) 4 + q.2.2.2.2.1 (ab 1) 4 + q.2.2.2.2.1 (ab 2) 4 - 2 * q.2.2.2.1 3
/-- what an hour does to a bus' numbers: s spans, t hours stuck, x coins -/
def BUS (F d : Nat) (b : Nat) (B B' : Nat → Nat → Int32) (co co' : Int32) : Prop := ∃ s t x : Nat, s ≤ d ∧ t ≤ 1 ∧ x ≤ F * d ∧ B' b 3 = B b 3 + nI s ∧ B' b 5 = B b 5 + nI t ∧ B' b 4 = B b 4 + nI x ∧ co' = co + nI x
theorem BUS.rfl' {F d b : Nat} {B : Nat → Nat → Int32} {co : Int32} : BUS F d b B B co co := ⟨0, 0, 0, Nat.zero_le _, Nat.zero_le _, Nat.zero_le _, by rw [n0, Int32.add_zero], by rw [n0, Int32.add_zero], by rw [n0, Int32.add_zero], by rw [n0, Int32.add_zero]⟩
theorem b1s_3 (B : Nat → Nat → Int32) (b : Nat) (fare : Int32) : B1S B b fare b 3 = B b 3 + 1 := by simp [B1S, up2]
theorem b1s_4 (B : Nat → Nat → Int32) (b : Nat) (fare : Int32) : B1S B b fare b 4 = B b 4 + fare := by simp [B1S, up2]
theorem b1s_5 (B : Nat → Nat → Int32) (b : Nat) (fare : Int32) : B1S B b fare b 5 = B b 5 := by simp [B1S, up2]
theorem drv_q {b F : Nat} {fare : Int32} (hf : fare = nI F) : ∀ (d : Nat) (w f : Nat → Int32) (B : Nat → Nat → Int32) (co : Int32), BUS F d b B (drvL b fare d w f B co).2.2.1 co (drvL b fare d w f B co).2.2.2
  | 0, w, f, B, co => BUS.rfl'
  | d + 1, w, f, B, co => by
    unfold drvL
    split
    · split
      · obtain ⟨s, t, x, h1, h2, h3, e1, e2, e3, e4⟩ := drv_q (b := b) hf d (w1S w f B b) (f1S f B b) (B1S B b fare) (co + fare)
        refine ⟨s + 1, t, x + F, by omega, h2, by rw [Nat.mul_succ]; omega, ?_, ?_, ?_, ?_⟩
        · rw [e1, b1s_3, ← nI_add s 1, n1]; grind
        · rw [e2, b1s_5]
        · rw [e3, b1s_4, ← nI_add x F, hf]; grind
        · rw [e4, ← nI_add x F, hf]; grind
      · refine ⟨1, 0, F, by omega, by omega, by rw [Nat.mul_succ]; omega, ?_, ?_, ?_, ?_⟩
        · show B1S B b fare b 3 = _; rw [b1s_3, n1]
        · show B1S B b fare b 5 = _; rw [b1s_5, n0, Int32.add_zero]
        · show B1S B b fare b 4 = _; rw [b1s_4, hf]
        · show co + fare = _; rw [hf]
    · refine ⟨0, 1, 0, by omega, by omega, by omega, ?_, ?_, ?_, ?_⟩
      · show up2 B b 5 (B b 5 + 1) b 3 = _; rw [n0, Int32.add_zero]; simp [up2]
      · show up2 B b 5 (B b 5 + 1) b 5 = _; rw [n1]; simp [up2]
      · show up2 B b 5 (B b 5 + 1) b 4 = _; rw [n0, Int32.add_zero]; simp [up2]
      · show co = _; rw [n0, Int32.add_zero]
theorem drive_q {b F : Nat} {fare : Int32} (hf : fare = nI F) (w f : Nat → Int32) (B : Nat → Nat → Int32) (co : Int32) : BUS F 3 b B (driveS b fare w f B co).2.2.1 co (driveS b fare w f B co).2.2.2 := by
  unfold driveS
  split
  · exact BUS.rfl'
  · exact drv_q hf 3 w f B co
theorem drive_keep {b a : Nat} {fare : Int32} (h : a ≠ b) (w f : Nat → Int32) (B : Nat → Nat → Int32) (co : Int32) : (driveS b fare w f B co).2.2.1 a = B a := by
  unfold driveS
  split
  · rfl
  · exact drv_keepB h 3 w f B co
/-- three buses -/
theorem bus3_q {ab : Nat → Nat} {F : Nat} {fare : Int32} (hf : fare = nI F) (hab : ∀ i j, i < 3 → j < 3 → ab i = ab j → i = j) (w f : Nat → Int32) (B : Nat → Nat → Int32) (co : Int32) : ∃ s t x : Nat → Nat, (∀ i, i < 3 → s i ≤ 3 ∧ t i ≤ 1 ∧ x i ≤ F * 3 ∧ (busL ab fare 3 0 w f B co).2.2.1 (ab i) 3 = B (ab i) 3 + nI (s i) ∧ (busL ab fare 3 0 w f B co).2.2.1 (ab i) 5 = B (ab i) 5 + nI (t i) ∧ (busL ab fare 3 0 w f B co).2.2.1 (ab i) 4 = B (ab i) 4 + nI (x i)) ∧ (busL ab fare 3 0 w f B co).2.2.2 = co + nI (x 0) + nI (x 1) + nI (x 2) := by
  have e : busL ab fare 3 0 w f B co = driveS (ab 2) fare (driveS (ab 1) fare (driveS (ab 0) fare w f B co).1 (driveS (ab 0) fare w f B co).2.1 (driveS (ab 0) fare w f B co).2.2.1 (driveS (ab 0) fare w f B co).2.2.2).1 (driveS (ab 1) fare (driveS (ab 0) fare w f B co).1 (driveS (ab 0) fare w f B co).2.1 (driveS (ab 0) fare w f B co).2.2.1 (driveS (ab 0) fare w f B co).2.2.2).2.1 (driveS (ab 1) fare (driveS (ab 0) fare w f B co).1 (driveS (ab 0) fare w f B co).2.1 (driveS (ab 0) fare w f B co).2.2.1 (driveS (ab 0) fare w f B co).2.2.2).2.2.1 (driveS (ab 1) fare (driveS (ab 0) fare w f B co).1 (driveS (ab 0) fare w f B co).2.1 (driveS (ab 0) fare w f B co).2.2.1 (driveS (ab 0) fare w f B co).2.2.2).2.2.2 := rfl
  rw [e]
  have q0 := drive_q (b := ab 0) hf w f B co
  have k0 : ∀ a, a ≠ ab 0 → _ := fun a h => drive_keep (fare := fare) h w f B co
  generalize driveS (ab 0) fare w f B co = r0 at q0 k0 ⊢
  obtain ⟨w0, f0, B0, c0⟩ := r0
  dsimp only at q0 k0 ⊢
  have q1 := drive_q (b := ab 1) hf w0 f0 B0 c0
  have k1 : ∀ a, a ≠ ab 1 → _ := fun a h => drive_keep (fare := fare) h w0 f0 B0 c0
  generalize driveS (ab 1) fare w0 f0 B0 c0 = r1 at q1 k1 ⊢
  obtain ⟨w1, f1, B1, c1⟩ := r1
  dsimp only at q1 k1 ⊢
  have q2 := drive_q (b := ab 2) hf w1 f1 B1 c1
  have k2 : ∀ a, a ≠ ab 2 → _ := fun a h => drive_keep (fare := fare) h w1 f1 B1 c1
  generalize driveS (ab 2) fare w1 f1 B1 c1 = r2 at q2 k2 ⊢
  obtain ⟨w2, f2, B2, c2⟩ := r2
  dsimp only at q2 k2 ⊢
  obtain ⟨s0, t0, x0, p1, p2, p3, p4, p5, p6, p7⟩ := q0
  obtain ⟨s1, t1, x1, j1, j2, j3, j4, j5, j6, j7⟩ := q1
  obtain ⟨s2, t2, x2, v1, v2, v3, v4, v5, v6, v7⟩ := q2
  have n01 : ab 0 ≠ ab 1 := fun h => absurd (hab 0 1 (by decide) (by decide) h) (by decide)
  have n02 : ab 0 ≠ ab 2 := fun h => absurd (hab 0 2 (by decide) (by decide) h) (by decide)
  have n12 : ab 1 ≠ ab 2 := fun h => absurd (hab 1 2 (by decide) (by decide) h) (by decide)
  refine ⟨fun i => match i with | 0 => s0 | 1 => s1 | _ => s2, fun i => match i with | 0 => t0 | 1 => t1 | _ => t2, fun i => match i with | 0 => x0 | 1 => x1 | _ => x2, fun i hi => ?_, ?_⟩
  · match i, hi with
    | 0, _ => rw [k2 _ n02, k1 _ n01]; exact ⟨p1, p2, p3, p4, p5, p6⟩
    | 1, _ => rw [k2 _ n12]; rw [k0 _ (Ne.symm n01)] at j4 j5 j6; exact ⟨j1, j2, j3, j4, j5, j6⟩
    | 2, _ => rw [k1 _ (Ne.symm n12), k0 _ (Ne.symm n02)] at v4 v5 v6; exact ⟨v1, v2, v3, v4, v5, v6⟩
  · show c2 = co + nI x0 + nI x1 + nI x2
    rw [v7, j7, p7]

theorem GQ.mono {M M' : Nat} {ab : Nat → Nat} {q : RS} (hM : M ≤ M') (h : GQ M ab q) : GQ M' ab q := by
  obtain ⟨H, a, b, c, h0, h1⟩ := h
  exact ⟨H, a, b, c, Nat.le_trans h0 hM, h1⟩
theorem iod_q {w G : Nat → Int32} {s_ : Int32} {a c : Nat} (h2 : G 2 = nI a) (h4 : G 4 = nI c) (ha : a < 2 ^ 31) : ((iodS w G s_).1 = 0 → (iodS w G s_).2.2 4 = nI c) ∧ ((iodS w G s_).2.2 4 = nI c ∨ ((iodS w G s_).2.2 4 = nI (c + 1) ∧ 2 ≤ a)) := by
  unfold iodS
  split
  · exact ⟨fun _ => h4, Or.inl h4⟩
  · split
    · rename_i h5
      refine ⟨fun h => absurd (show (1 : Int32) = 0 from h) (by decide), Or.inr ⟨?_, ?_⟩⟩
      · show upd G 4 (G 4 + 1) 4 = _
        rw [pk_us, h4, nI_1]
      · rw [h2] at h5
        exact (nI_leI (a := 2) (b := a) (by decide) ha).mp h5
    · exact ⟨fun _ => h4, Or.inl h4⟩
theorem gw_q {m a b c : Nat} {w od g : Nat → Int32} {co : Int32} (hm : m ≤ 6) (hg : g 0 = nI m) (ha : g 2 = nI a) (hb : g 3 = nI b) (hc : g 4 = nI c) (h1 : 2 * c + a ≤ b) (h0 : g 0 = 0 → a = 0) (hbb : b < 2 ^ 20) :
    ∃ a' b' c' y : Nat, y ≤ 1 ∧ b' = b + y ∧ (gwS m w od g co).2.2.1 2 = nI a' ∧ (gwS m w od g co).2.2.1 3 = nI b' ∧ (gwS m w od g co).2.2.1 4 = nI c' ∧ 2 * c' + a' ≤ b' ∧ ((gwS m w od g co).2.2.1 0 = 0 → a' = 0) ∧ (gwS m w od g co).2.2.2 = co - nI (2 * y) := by
  have G2 : g2S od g 2 = nI (a + 1) := by
    show goS od g 2 + 1 = _
    rw [show goS od g 2 = g 2 from rfl, ha, nI_1]
  have G3 : g2S od g 3 = nI (b + 1) := by
    show goS od g 3 + 1 = _
    rw [show goS od g 3 = g 3 from rfl, hb, nI_1]
  have G4 : g2S od g 4 = nI c := by
    show g 4 = _
    exact hc
  have hi := iod_q (w := w) (s_ := goS od g 1) G2 G4 (by omega)
  have k2 : (iodS w (g2S od g) (goS od g 1)).2.2 2 = nI (a + 1) := (iod_g _ _ _ (by decide)).trans G2
  have k3 : (iodS w (g2S od g) (goS od g 1)).2.2 3 = nI (b + 1) := (iod_g _ _ _ (by decide)).trans G3
  have k0 : (iodS w (g2S od g) (goS od g 1)).2.2 0 = g 0 := (iod_g _ _ _ (by decide)).trans rfl
  unfold gwS
  split
  · rename_i h
    exact ⟨a, b, c, 0, by omega, rfl, ha, hb, hc, h1, h0, by show co = _; rw [show nI (2 * 0) = 0 from rfl, Int32.sub_zero]⟩
  · rename_i h
    split
    · split
      · rename_i h5
        refine ⟨a + 1, b + 1, c, 1, by omega, rfl, k2, k3, hi.1 h5, by omega, ?_, rfl⟩
        intro h6
        exact absurd (k0.symm.trans h6) h
      · have e0 : nI 0 = 0 := rfl
        have t2 : (takeS od (iodS w (g2S od g) (goS od g 1)).2.2 0 m).2 2 = 0 := by unfold takeS; rw [if_pos e0]; show upd (upd (iodS w (g2S od g) (goS od g 1)).2.2 0 ((iodS w (g2S od g) (goS od g 1)).2.2 0 - 1)) 2 0 2 = 0; exact pk_us
        have t3 : (takeS od (iodS w (g2S od g) (goS od g 1)).2.2 0 m).2 3 = nI (b + 1) := by
          unfold takeS; rw [if_pos e0]
          show upd (upd (iodS w (g2S od g) (goS od g 1)).2.2 0 ((iodS w (g2S od g) (goS od g 1)).2.2 0 - 1)) 2 0 3 = _
          rw [upd_ne _ _ (by decide), upd_ne _ _ (by decide)]; exact k3
        have t4 : (takeS od (iodS w (g2S od g) (goS od g 1)).2.2 0 m).2 4 = (iodS w (g2S od g) (goS od g 1)).2.2 4 := by
          unfold takeS; rw [if_pos e0]
          show upd (upd (iodS w (g2S od g) (goS od g 1)).2.2 0 ((iodS w (g2S od g) (goS od g 1)).2.2 0 - 1)) 2 0 4 = _
          rw [upd_ne _ _ (by decide), upd_ne _ _ (by decide)]
        rcases hi.2 with h7 | ⟨h7, h8⟩
        · exact ⟨0, b + 1, c, 1, by omega, rfl, t2, t3, t4.trans h7, by omega, fun _ => rfl, rfl⟩
        · exact ⟨0, b + 1, c + 1, 1, by omega, rfl, t2, t3, t4.trans h7, by omega, fun _ => rfl, rfl⟩
    · exact ⟨a, b, c, 0, by omega, rfl, ha, hb, hc, h1, h0, by show co = _; rw [show nI (2 * 0) = 0 from rfl, Int32.sub_zero]⟩
theorem hour_q {cd sw : Nat → Int32} {fd fn : Int32} {ab : Nat → Nat} {M : Nat} {q : RS} (hfd : ∃ F : Nat, F ≤ 9 ∧ fd = nI F) (hfn : ∃ F : Nat, F ≤ 9 ∧ fn = nI F) (hab : ∀ i j, i < 3 → j < 3 → ab i = ab j → i = j) (hok : OkQ M q) (hM : M < 2 ^ 18) (h : GQ M ab q) : GQ (M + 1) ab (hourT cd sw fd fn ab 3 q) ∧ ∃ x y : Nat, x ≤ 81 ∧ y ≤ 2 ∧ (hourT cd sw fd fn ab 3 q).2.2.2.2.2.1 = q.2.2.2.2.2.1 + nI x - nI y := by
  obtain ⟨w, f, od, g, B, co, hr⟩ := q
  obtain ⟨H, a, b, c, hHM, hr_, ha, hb, hc, h1, hbH, h0, hbus, hco⟩ := h
  obtain ⟨⟨⟨m, hm, hg⟩, -⟩, -⟩ := hok
  dsimp only at hr_ ha hb hc h0 hbus hco hg
  have hcl : (g 0).toNatClampNeg = m := by rw [hg, nI_clamp (by omega)]
  have hF : ∃ F : Nat, F ≤ 9 ∧ fareS (ntI hr) fd fn = nI F := by
    unfold fareS
    split
    · exact hfd
    · exact hfn
  obtain ⟨F, hF9, hF⟩ := hF
  obtain ⟨s, t, x, hb3, hc3⟩ := bus3_q (ab := ab) (F := F) hF hab (swanS w (sw (ir hr 12).toNatClampNeg)) (frS cd hr f) B co
  have e : hourT cd sw fd fn ab 3 (w, f, od, g, B, co, hr) = hourS cd sw fd fn ab 3 w f od g B co hr := rfl
  rw [e]
  unfold hourS
  dsimp only
  generalize busL ab (fareS (ntI hr) fd fn) 3 0 (swanS w (sw (ir hr 12).toNatClampNeg)) (frS cd hr f) B co = q3 at hb3 hc3 ⊢
  obtain ⟨w3, f3, B3, c3⟩ := q3
  dsimp only at hb3 hc3 ⊢
  rw [hcl]
  obtain ⟨a', b', c', y, hy, rfl, e2, e3, e4, h1', h0', hco'⟩ := gw_q (w := w3) (od := od) (co := c3) hm hg ha hb hc h1 h0 (by omega)
  obtain ⟨x0a, x0b, x0c, x0d, x0e, x0f⟩ := hb3 0 (by decide)
  obtain ⟨x1a, x1b, x1c, x1d, x1e, x1f⟩ := hb3 1 (by decide)
  obtain ⟨x2a, x2b, x2c, x2d, x2e, x2f⟩ := hb3 2 (by decide)
  refine ⟨⟨H + 1, a', b + y, c', by omega, ?_, e2, e3, e4, h1', by omega, h0', fun i hi => ?_, ?_⟩, x 0 + x 1 + x 2, 2 * y, by omega, by omega, ?_⟩
  · show hr + 1 = _
    rw [hr_, nI_1]
  · obtain ⟨s_, t_, z1, z2, z3, z4⟩ := hbus i hi
    obtain ⟨y1, y2, y3, y4, y5, y6⟩ := hb3 i hi
    refine ⟨s_ + s i, t_ + t i, ?_, by omega, ?_, by omega⟩
    · show B3 (ab i) 3 = _
      rw [y4, z1, nI_add]
    · show B3 (ab i) 5 = _
      rw [y5, z3, nI_add]
  · show (gwS m w3 od g c3).2.2.2 = B3 (ab 0) 4 + B3 (ab 1) 4 + B3 (ab 2) 4 - 2 * (gwS m w3 od g c3).2.2.1 3
    rw [hco', e3, hc3, x0f, x1f, x2f, hco, hb, ← nI_add b y, show nI (2 * y) = 2 * nI y from (pk_mul 2 y).symm]
    grind
  · show (gwS m w3 od g c3).2.2.2 = co + nI (x 0 + x 1 + x 2) - nI (2 * y)
    rw [hco', hc3, ← nI_add, ← nI_add]
    grind
theorem hrs_q {cd sw : Nat → Int32} {fd fn : Int32} {ab : Nat → Nat} (hfd : ∃ F : Nat, F ≤ 9 ∧ fd = nI F) (hfn : ∃ F : Nat, F ≤ 9 ∧ fn = nI F) (hab : ∀ i j, i < 3 → j < 3 → ab i = ab j → i = j) : ∀ (d M : Nat) (q : RS), M + d < 2 ^ 18 → OkQ M q → GQ M ab q → GQ (M + d) ab (hrsL cd sw fd fn ab 3 d q) ∧ ∃ x y : Nat, x ≤ 81 * d ∧ y ≤ 2 * d ∧ (hrsL cd sw fd fn ab 3 d q).2.2.2.2.2.1 = q.2.2.2.2.2.1 + nI x - nI y
  | 0, M, q, _, _, h => ⟨h, 0, 0, Nat.zero_le _, Nat.zero_le _, by rw [n0, Int32.sub_zero, Int32.add_zero]; rfl⟩
  | d + 1, M, q, hM, hok, h => by
    obtain ⟨h1, x, y, hx, hy, e⟩ := hour_q (cd := cd) (sw := sw) hfd hfn hab hok (by omega) h
    obtain ⟨h2, x2, y2, hx2, hy2, e2⟩ := hrs_q (cd := cd) (sw := sw) hfd hfn hab d (M + 1) (hourT cd sw fd fn ab 3 q) (by omega) (hok.hour (by omega)) h1
    refine ⟨?_, x + x2, y + y2, by omega, by omega, ?_⟩
    · rw [show M + (d + 1) = M + 1 + d by omega]
      exact h2
    · show (hrsL cd sw fd fn ab 3 d (hourT cd sw fd fn ab 3 q)).2.2.2.2.2.1 = _
      rw [e2, e, ← nI_add, ← nI_add]
      grind
/-- five hours: no more than 10 coins go -/
theorem pass5_ge {x y : Nat} {co co' : Int32} (hx : x ≤ 405) (hy : y ≤ 10) (e : co' = co + nI x - nI y) : ¬ co' - co < -10 := by
  have e1 : co' - co = nI x - nI y := by rw [e]; grind
  rw [e1, Int32.lt_iff_toInt_lt]
  have e2 : (nI x - nI y).toInt = (x : Int) - y := by
    rw [Int32.toInt_sub, nI_toInt (by omega), nI_toInt (by omega)]
    apply Int.bmod_eq_of_le <;> omega
  have e3 : (-10 : Int32).toInt = -10 := rfl
  rw [e2, e3]
  omega
