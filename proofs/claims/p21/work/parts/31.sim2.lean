/-! frost, the gang's work, whole hours, side by side -/
theorem thw_at : ∀ (d i : Nat) (f : Nat → Int32) (k : Nat), thwL d i f k = if i ≤ k ∧ k < i + d then mmax 0 (f k - 2) else f k
  | 0, i, f, k => by
    rw [if_neg (by omega)]; rfl
  | d + 1, i, f, k => by
    unfold thwL
    rw [thw_at d (i + 1)]
    by_cases e : k = i
    · subst e
      rw [if_neg (by omega), if_pos (by omega), pk_us]
    · rw [upd_ne _ _ e]
      by_cases h : i + 1 ≤ k ∧ k < i + 1 + d
      · rw [if_pos h, if_pos (by omega)]
      · rw [if_neg h, if_neg (by omega)]
theorem frz_at (cold : Int32) : ∀ (d i : Nat) (f : Nat → Int32) (k : Nat), frzL cold d i f k = if i ≤ k ∧ k < i + d then mmin 9 (f k + cold) else f k
  | 0, i, f, k => by
    rw [if_neg (by omega)]; rfl
  | d + 1, i, f, k => by
    unfold frzL
    rw [frz_at cold d (i + 1)]
    by_cases e : k = i
    · subst e
      rw [if_neg (by omega), if_pos (by omega), pk_us]
    · rw [upd_ne _ _ e]
      by_cases h : i + 1 ≤ k ∧ k < i + 1 + d
      · rw [if_pos h, if_pos (by omega)]
      · rw [if_neg h, if_neg (by omega)]
theorem mfr_at (cd : Nat → Int32) (h : Int32) : ∀ (d i : Nat) (R : Nat → Int32) (k : Nat), mfrL cd h d i R k = if i ≤ k ∧ k < i + d then (if ntM h = 0 then mmax 0 (R k - 2) else mmin 9 (R k + cd (ir h 8).toNatClampNeg)) else R k
  | 0, i, R, k => by
    rw [if_neg (by omega)]; rfl
  | d + 1, i, R, k => by
    unfold mfrL
    rw [mfr_at cd h d (i + 1)]
    by_cases e : k = i
    · subst e
      rw [if_neg (show ¬ (k + 1 ≤ k ∧ k < k + 1 + d) by omega), if_pos (show k ≤ k ∧ k < k + (d + 1) by omega), pk_us]
    · rw [upd_ne _ _ e]
      by_cases q : i + 1 ≤ k ∧ k < i + 1 + d
      · rw [if_pos q, if_pos (show i ≤ k ∧ k < i + (d + 1) by omega)]
      · rw [if_neg q, if_neg (show ¬ (i ≤ k ∧ k < i + (d + 1)) by omega)]
theorem mmax_nI {p : Nat} (hp : p ≤ 9) : mmax 0 (nI p - 2) = nI (p - 2) := by
  match p, hp with
  | 0, _ => decide
  | 1, _ => decide
  | 2, _ => decide
  | 3, _ => decide
  | 4, _ => decide
  | 5, _ => decide
  | 6, _ => decide
  | 7, _ => decide
  | 8, _ => decide
  | 9, _ => decide
theorem frost_rel {cd f R : Nat → Int32} {hr : Int32} (hcd : ∀ k, k < 8 → ∃ c : Nat, c ≤ 3 ∧ cd k = nI c) (hh : ∃ n : Nat, n < 2 ^ 30 ∧ hr = nI n) (h5 : R 120 = hr) (h : rF f R) : rF (frS cd hr f) (mP1 cd R) := by
  intro k hk
  obtain ⟨p, h1, h2, h3⟩ := h k hk
  obtain ⟨c, hc1, hc2⟩ := hcd _ (vp_lt (ir_in8 hh))
  unfold mP1
  rw [mfr_at, if_pos (by omega), h5, nt_eq, h3]
  unfold frS
  by_cases q : ntI hr = 0
  · rw [if_pos q, if_pos q, thw_at, if_pos (by omega), h2, mmax_nI h1]
    exact ⟨p - 2, by omega, rfl, rfl⟩
  · rw [if_neg q, if_neg q, frz_at, if_pos (by omega), h2, hc2, nI_add]
    have e : mmin 9 (nI (p + c)) = nI (min 9 (p + c)) := mmin_nI (a := 9) (by decide) (by omega)
    rw [e]
    exact ⟨min 9 (p + c), by omega, rfl, rfl⟩
/-- the gang's way -/
def mgo (a b : Int32) : Int32 := ir (a + if 24 - mup a b < mup a b then 24 - mmin 4 (mmin (mup a b) (24 - mup a b)) else mmin 4 (mmin (mup a b) (24 - mup a b))) 24
def cgo (a b : Int32) : Int32 := ir (a + (if 24 - ir (b - a + 24) 24 < ir (b - a + 24) 24 then -(mmin (24 - ir (b - a + 24) 24) 4) else mmin (ir (b - a + 24) 24) 4) + 24) 24
theorem go_eq : ∀ a, a < 24 → ∀ b, b < 24 → cgo (nI a) (nI b) = mgo (nI a) (nI b) := by decide +kernel
theorem goS_eq {od g R : Nat → Int32} (h1 : vp_in (g 1) 24) (h0 : vp_in (od 0) 24) (e1 : R 108 = g 1) (e2 : R 113 = od 0) : goS od g 1 = mw1 R 108 := by
  obtain ⟨a, ha, ea⟩ := vp_in_of h1 (by omega)
  obtain ⟨b, hb, eb⟩ := vp_in_of h0 (by omega)
  have e3 : goS od g 1 = cgo (g 1) (od 0) := rfl
  have e4 : mw1 R 108 = mgo (R 108) (R 113) := by unfold mw1; rw [pk_us]; rfl
  rw [e3, e4, e1, e2, ea, eb]
  exact go_eq a ha b hb
theorem tk_at : ∀ (d i : Nat) (od : Nat → Int32) (k : Nat), 1 ≤ i → tkL d i od k = if i ≤ k + 1 ∧ k + 1 < i + d then od (k + 1) else od k
  | 0, i, od, k, _ => by
    rw [if_neg (by omega)]; rfl
  | d + 1, i, od, k, h => by
    unfold tkL
    rw [tk_at d (i + 1) _ k (by omega)]
    by_cases q : i + 1 ≤ k + 1 ∧ k + 1 < i + 1 + d
    · rw [if_pos q, if_pos (by omega), upd_ne _ _ (by omega)]
    · rw [if_neg q]
      by_cases e : k = i - 1
      · subst e
        rw [if_pos (by omega), pk_us, show i - 1 + 1 = i by omega]
      · rw [if_neg (by omega), upd_ne _ _ e]
theorem mend_rel {w R : Nat → Int32} {s_ : Int32} (h : rW w R) (hs : vp_in s_ 24) (hup : dnI w s_ = 0) : rW (mendS w s_ 30) (upd R s_.toNatClampNeg (mmax 0 (R s_.toNatClampNeg - 30))) := by
  intro k hk
  have hsl := vp_lt hs
  obtain ⟨p, h1, h2, h3, h4⟩ := h _ hsl
  have hp : p < 100 := by
    have e := dn_rel h hs
    rw [hup, h4] at e
    by_cases q : p < 100
    · exact q
    · rw [if_neg q] at e; exact absurd e (by decide)
  have e1 : mmax 0 (nI p - 30) = nI (p - 30) := by
    by_cases q : 30 ≤ p
    · rw [show nI p - 30 = nI (p - 30) from pk_sub (a := p) (b := 30) q]
      unfold mmax
      by_cases z : p - 30 = 0
      · rw [z]; decide
      · rw [if_pos (show (0 : Int32) < nI (p - 30) from nI_lt (a := 0) (b := p - 30) (by omega) (by omega))]
    · have hn : nI p - 30 < 0 := pk_sneg (a := p) (b := 30) (by decide) (by omega)
      unfold mmax
      rw [if_neg (by rw [Int32.lt_iff_toInt_lt] at *; omega), show p - 30 = 0 by omega]; rfl
  by_cases e : k = s_.toNatClampNeg
  · subst e
    exact ⟨p - 30, by omega, by rw [mendS, pk_us, h2, e1], by rw [pk_us, h3, e1], by rw [upd_ne _ _ (by omega), h4, if_pos hp, if_pos (by omega)]⟩
  · obtain ⟨p', g1, g2, g3, g4⟩ := h k hk
    exact ⟨p', g1, by rw [mendS, upd_ne _ _ e]; exact g2, by rw [upd_ne _ _ e]; exact g3, by rw [upd_ne _ _ (by omega)]; exact g4⟩
theorem put_rel {w R : Nat → Int32} {s_ : Int32} (h : rW w R) (hs : vp_in s_ 24) : rW (putS w s_) (upd (upd R (48 + s_.toNatClampNeg) 0) s_.toNatClampNeg 50) := by
  intro k hk
  have hsl := vp_lt hs
  by_cases e : k = s_.toNatClampNeg
  · subst e
    exact ⟨50, by omega, by rw [putS, pk_us]; rfl, by rw [pk_us]; rfl, by rw [upd_ne _ _ (by omega), pk_us]; rfl⟩
  · obtain ⟨p', g1, g2, g3, g4⟩ := h k hk
    exact ⟨p', g1, by rw [putS, upd_ne _ _ e]; exact g2, by rw [upd_ne _ _ e, upd_ne _ _ (by omega)]; exact g3, by rw [upd_ne _ _ (by omega), upd_ne _ _ (by omega)]; exact g4⟩
theorem rem_rel {od g R : Nat → Int32} {p m : Nat} (hm : m ≤ 6) (hp : p < m) (hg : g 0 = nI m) (h : rG od g R) : rG (takeS od g p m).1 (takeS od g p m).2 (mrem R p m) := by
  obtain ⟨h1, h2, h3, h4, h5, h6⟩ := h
  have e0 : (takeS od g p m).2 0 = g 0 - 1 := by unfold takeS; dsimp only; split <;> rfl
  have e1 : (takeS od g p m).2 1 = g 1 := by unfold takeS; dsimp only; split <;> rfl
  have e3 : (takeS od g p m).2 3 = g 3 := by unfold takeS; dsimp only; split <;> rfl
  have e4 : (takeS od g p m).2 4 = g 4 := by unfold takeS; dsimp only; split <;> rfl
  refine ⟨?_, ?_, ?_, ?_, ?_, fun m' k a b c => ?_⟩
  · rw [mrem_keep hp (by omega), e1]; exact h1
  · rw [mrem_109 hp, e0, h2]
  · unfold mrem takeS
    dsimp only
    split
    · rw [pk_us]; rfl
    · rw [upd_ne _ _ (by omega), mrm_keep _ _ _ (by omega)]; exact h3
  · rw [mrem_keep hp (by omega), e3]; exact h4
  · rw [mrem_keep hp (by omega), e4]; exact h5
  · have hm' : m' = m - 1 := by
      rw [e0, hg, show nI m - 1 = nI (m - 1) from pk_sub (a := m) (b := 1) (by omega)] at a
      exact ((nI_eq (by omega) (by omega)).mp a).symm
    show mrem R p m (113 + k) = tkL (m - (p + 1)) (p + 1) od k
    rw [tk_at _ _ _ _ (by omega)]
    by_cases q : p ≤ k
    · rw [mrem_in q (by omega), show 113 + k + 1 = 113 + (k + 1) by omega, h6 m (k + 1) hg hm (by omega), if_pos (by omega)]
    · rw [mrem_keep hp (by omega), h6 m k hg hm (by omega), if_neg (by omega)]
theorem work_rel {w od g R : Nat → Int32} {co : Int32} {m : Nat} (hm : m ≤ 6) (hg : g 0 = nI m) (ha : vp_in (g 1) 24) (ho : ∀ k, vp_in (od k) 24) (h1 : rW w R) (h2 : rG od g R) (h3 : R 119 = co) :
    rW (gwS m w od g co).1 (mwork m R) ∧ rG (gwS m w od g co).2.1 (gwS m w od g co).2.2.1 (mwork m R) ∧ mwork m R 119 = (gwS m w od g co).2.2.2 ∧ ∀ k, (24 ≤ k ∧ k < 48) ∨ (72 ≤ k ∧ k < 108) ∨ 119 < k → mwork m R k = R k := by
  obtain ⟨a1, a2, a3, a4, a5, a6⟩ := id h2
  have e9 : (R 109 = 0) ↔ g 0 = 0 := by rw [a2]
  unfold gwS mwork
  by_cases q0 : g 0 = 0
  · simp only [e9, q0, if_true]
    exact ⟨h1, h2, h3, fun _ _ => trivial⟩
  · have hp0 : 0 < m := Nat.pos_of_ne_zero fun e => q0 (by rw [hg, e]; rfl)
    have e113 : R 113 = od 0 := a6 m 0 hg hm hp0
    have ho1 : vp_in (R 113) 24 := by rw [e113]; exact ho 0
    have hto := vp_lt ho1
    have hgo : mw1 R 108 = goS od g 1 := (goS_eq ha (ho 0) a1 e113).symm
    have k1 : ∀ k, k ≠ 108 → mw1 R k = R k := fun k h => upd_ne _ _ h
    have k4 : ∀ k, k ≠ 108 → k ≠ 119 → k ≠ 110 → k ≠ 111 → mw4 R k = R k := fun k a b c d => mw4_keep a b c d
    have v108 : mw4 R 108 = goS od g 1 := by
      unfold mw4 mw3 mw2
      rw [upd_ne _ _ (by omega), upd_ne _ _ (by omega), upd_ne _ _ (by omega), hgo]
    have v119 : mw4 R 119 = co - 2 := by
      unfold mw4 mw3 mw2
      rw [upd_ne _ _ (by omega), upd_ne _ _ (by omega), pk_us, k1 _ (by omega), h3]
    have v110 : mw4 R 110 = g 2 + 1 := by
      unfold mw4 mw3
      rw [upd_ne _ _ (by omega), pk_us]
      unfold mw2
      rw [upd_ne _ _ (by omega), k1 _ (by omega), a3]
    have v111 : mw4 R 111 = g 3 + 1 := by
      unfold mw4
      rw [pk_us]
      unfold mw3 mw2
      rw [upd_ne _ _ (by omega), upd_ne _ _ (by omega), k1 _ (by omega), a4]
    have G2 : rG od (g2S od g) (mw4 R) := ⟨v108, by rw [k4 _ (by omega) (by omega) (by omega) (by omega)]; exact a2, v110, v111, by rw [k4 _ (by omega) (by omega) (by omega) (by omega)]; exact a5, fun m' k x y z => by rw [k4 _ (by omega) (by omega) (by omega) (by omega)]; exact a6 m' k x y z⟩
    have W4 : rW w (mw4 R) := h1.fr fun k hk => k4 _ (by omega) (by omega) (by omega) (by omega)
    simp only [e9, q0, if_false, hgo, e113]
    by_cases q1 : goS od g 1 = od 0
    · simp only [q1, if_true]
      have hs : vp_in (od 0) 24 := ho 0
      have edn : mw4 R (48 + (od 0).toNatClampNeg) = dnI w (od 0) := dn_rel W4 hs
      have hto' : (od 0).toNatClampNeg < 24 := vp_lt hs
      rw [edn]
      unfold iodS
      by_cases q2 : dnI w (od 0) = 0
      · simp only [q2, if_true]
        have W5 : rW (mendS w (od 0) 30) (mw5 R) := by
          have := mend_rel W4 hs q2
          unfold mw5
          rw [e113]
          exact this
        have G5 : rG od (g2S od g) (mw5 R) := G2.fr fun k hk => mw5_keep ho1 (by omega)
        have ew : mw5 R (od 0).toNatClampNeg = mendS w (od 0) 30 (od 0).toNatClampNeg := by
          obtain ⟨p, b1, b2, b3, -⟩ := W5 _ hto'
          rw [b3, b2]
        rw [ew]
        have k5 : ∀ k, (24 ≤ k ∧ k < 48) ∨ (72 ≤ k ∧ k < 108) ∨ 119 < k → mw5 R k = R k := fun k hk => by rw [mw5_keep ho1 (by omega), k4 _ (by omega) (by omega) (by omega) (by omega)]
        have c5 : mw5 R 119 = co - 2 := by rw [mw5_keep ho1 (by omega)]; exact v119
        by_cases q3 : 30 ≤ mendS w (od 0) 30 (od 0).toNatClampNeg
        · simp only [q3, if_true]
          exact ⟨W5, G5, c5, k5⟩
        · have n10 : ¬ (1 : Int32) = 0 := by decide
          simp only [q3, if_false, n10]
          exact ⟨W5.fr fun k hk => mrem_keep hp0 (by omega), rem_rel hm hp0 hg G5, by rw [mrem_keep hp0 (by omega)]; exact c5, fun k hk => by rw [mrem_keep hp0 (by omega)]; exact k5 k hk⟩
      · simp only [q2, if_false]
        have e2 : g2S od g 2 = g 2 + 1 := rfl
        have hiff : (2 ≤ g2S od g 2) ↔ ¬ mw4 R 110 < 2 := by rw [e2, v110]; exact Int32.not_lt.symm
        by_cases q3 : mw4 R 110 < 2
        · simp only [hiff, q3, not_true_eq_false, if_true, if_false]
          exact ⟨W4, G2, v119, fun k hk => k4 _ (by omega) (by omega) (by omega) (by omega)⟩
        · have n10 : ¬ (1 : Int32) = 0 := by decide
          simp only [hiff, q3, not_false_eq_true, if_true, if_false, n10]
          have W7 : rW (putS w (od 0)) (mw7 R) := by
            have := put_rel W4 hs
            unfold mw7 mw6
            rw [e113]
            exact this.fr fun k hk => upd_ne _ _ (by omega)
          have c7 : ∀ k, 72 ≤ k → k ≠ 112 → mw7 R k = mw4 R k := fun k a b => mw7_keep ho1 a b
          have G7 : rG od (upd (g2S od g) 4 (g2S od g 4 + 1)) (mw7 R) := by
            obtain ⟨b1, b2, b3, b4, b5, b6⟩ := G2
            refine ⟨by rw [c7 _ (by omega) (by omega)]; exact b1, by rw [c7 _ (by omega) (by omega)]; exact b2, by rw [c7 _ (by omega) (by omega)]; exact b3, by rw [c7 _ (by omega) (by omega)]; exact b4, ?_, fun m' k x y z => by rw [c7 _ (by omega) (by omega)]; exact b6 m' k x y z⟩
            rw [pk_us, ← b5]
            unfold mw7
            rw [pk_us]
            unfold mw6
            rw [upd_ne _ _ (by omega), upd_ne _ _ (by omega)]
          have k7 : ∀ k, (24 ≤ k ∧ k < 48) ∨ (72 ≤ k ∧ k < 108) ∨ 119 < k → mw7 R k = R k := fun k hk => by
            unfold mw7 mw6
            rw [upd_ne _ _ (by omega), upd_ne _ _ (by omega), upd_ne _ _ (by omega), k4 _ (by omega) (by omega) (by omega) (by omega)]
          exact ⟨W7.fr fun k hk => mrem_keep hp0 (by omega), rem_rel hm hp0 hg G7, by rw [mrem_keep hp0 (by omega), c7 _ (by omega) (by omega)]; exact v119, fun k hk => by rw [mrem_keep hp0 (by omega)]; exact k7 k hk⟩
    · simp only [q1, if_false]
      refine ⟨h1.fr fun k hk => k1 _ (by omega), ⟨hgo, by rw [k1 _ (by omega)]; exact a2, by rw [k1 _ (by omega)]; exact a3, by rw [k1 _ (by omega)]; exact a4, by rw [k1 _ (by omega)]; exact a5, fun m' k x y z => by rw [k1 _ (by omega)]; exact a6 m' k x y z⟩, by rw [k1 _ (by omega)]; exact h3, fun k hk => k1 _ (by omega)⟩
def Rel (n : Nat) (ab : Nat → Nat) (q : RS) (R : Nat → Int32) : Prop := rW q.1 R ∧ rF q.2.1 R ∧ rB n ab q.2.2.2.2.1 R ∧ rG q.2.2.1 q.2.2.2.1 R ∧ R 119 = q.2.2.2.2.2.1 ∧ R 120 = q.2.2.2.2.2.2
theorem hour_rel {cd sw : Nat → Int32} {fd fn : Int32} {ab : Nat → Nat} {n M : Nat} {q : RS} {R : Nat → Int32} (hn : n ≤ 6) (hab : ∀ i j, i < n → j < n → ab i = ab j → i = j) (hcd : ∀ k, k < 8 → ∃ c : Nat, c ≤ 3 ∧ cd k = nI c) (hsw : ∀ k, sw k = -1 ∨ vp_in (sw k) 24) (hok : OkQ M q) (h : Rel n ab q R) : Rel n ab (hourT cd sw fd fn ab n q) (mpass cd sw fd fn n R) := by
  obtain ⟨h1, h2, h3, h4, h5, h6⟩ := h
  obtain ⟨⟨⟨m, hm, hg⟩, ha, ho, hB, hh⟩, -⟩ := hok
  have f1 := frost_rel hcd hh h6 h2
  have kP1 : ∀ k, 48 ≤ k ∨ k < 24 → mP1 cd R k = R k := fun k hk => by
    unfold mP1
    rw [mfr_at, if_neg (by omega)]
  have w1 : rW q.1 (mP1 cd R) := h1.fr fun k hk => kP1 k (by omega)
  have hbird : mbird cd sw R = sw (ir q.2.2.2.2.2.2 12).toNatClampNeg := by unfold mbird; rw [kP1 _ (by omega), h6]
  have w2 : rW (swanS q.1 (sw (ir q.2.2.2.2.2.2 12).toNatClampNeg)) (mP2 cd sw R) := by
    have := swan_rel w1 (hsw (ir q.2.2.2.2.2.2 12).toNatClampNeg)
    unfold mP2
    rw [hbird]
    exact this
  have k2 : ∀ k, 72 ≤ k → mP2 cd sw R k = R k := fun k hk => P2_keep hsw hk
  have f2 : rF (frS cd q.2.2.2.2.2.2 q.2.1) (mP2 cd sw R) := f1.fr fun k hk => by
    unfold mP2
    split
    · rfl
    · rename_i z0
      split
      · exact wear_keepF (sw_vp (x := mbird cd sw R) (hsw _) z0) hk
      · rfl
  obtain ⟨u1, u2, u3, u4, u5⟩ := bus_rel (fd := fd) (fn := fn) (hr := q.2.2.2.2.2.2) hn hab n 0 _ _ q.2.2.2.2.1 q.2.2.2.2.2.1 (mP2 cd sw R) (by omega) hB w2 f2 (h3.fr hn fun k hk => k2 k (by omega)) (by rw [k2 _ (by omega)]; exact h5) (by rw [k2 _ (by omega)]; exact h6)
  have k3 : ∀ k, 108 ≤ k → k ≠ 119 → mbuL fd fn n 0 (mP2 cd sw R) k = R k := fun k x y => (u5 k x y).trans (k2 k (by omega))
  have g3 : rG q.2.2.1 q.2.2.2.1 (mbuL fd fn n 0 (mP2 cd sw R)) := h4.fr fun k hk => k3 k (by omega) (by omega)
  have ec : (q.2.2.2.1 0).toNatClampNeg = m := by rw [hg, nI_clamp (by omega)]
  have em : (mbuL fd fn n 0 (mP2 cd sw R) 109).toNatClampNeg = m := by rw [g3.2.1]; exact ec
  obtain ⟨v1, v2, v3, v4⟩ := work_rel hm hg ha ho u1 g3 u4
  have e120 : mwork m (mbuL fd fn n 0 (mP2 cd sw R)) 120 = q.2.2.2.2.2.2 := by rw [v4 _ (by omega), k3 _ (by omega) (by omega)]; exact h6
  unfold mpass hourT hourS
  rw [em]
  dsimp only
  rw [ec]
  refine ⟨v1.fr fun k hk => upd_ne _ _ (by omega), (u2.fr fun k hk => v4 k (by omega)).fr fun k hk => upd_ne _ _ (by omega), (u3.fr hn fun k hk => v4 k (by omega)).fr hn fun k hk => upd_ne _ _ (by omega), v2.fr fun k hk => upd_ne _ _ (by omega), by rw [upd_ne _ _ (by omega)]; exact v3, by rw [pk_us, e120]⟩
theorem hours_rel {cd sw : Nat → Int32} {fd fn : Int32} {ab : Nat → Nat} {n : Nat} (hn : n ≤ 6) (hab : ∀ i j, i < n → j < n → ab i = ab j → i = j) (hcd : ∀ k, k < 8 → ∃ c : Nat, c ≤ 3 ∧ cd k = nI c) (hsw : ∀ k, sw k = -1 ∨ vp_in (sw k) 24) : ∀ (d M : Nat) (q : RS) (R : Nat → Int32), M + d < 2 ^ 30 → OkQ M q → Rel n ab q R → Rel n ab (hrsL cd sw fd fn ab n d q) (mpaL cd sw fd fn n d R)
  | 0, _, _, _, _, _, h => h
  | d + 1, M, q, R, hM, hok, h => hours_rel hn hab hcd hsw d (M + 1) _ _ (by omega) (hok.hour (by omega)) (hour_rel hn hab hcd hsw hok h)
