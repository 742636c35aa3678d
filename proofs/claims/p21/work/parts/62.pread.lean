/-! the law's reads -/
theorem r_span0 (l : Launch) (D : va_G) (cyI cyO cyL : ClassId) {a : AX} {j : Nat} {g : SG} (hAd : Adr a) (hj : j < 512) (hJ : JE a j g) {s_ : Int32} (hs : vp_in s_ 24) : GI l yX5_span wsX5_span D cyI cyO cyL (.ref a.1 :: [.int s_, .int 0]) (WXs cyI cyO a g) (WXs cyI cyO a g) (zw g s_.toNatClampNeg) := by
  have h := s_span l D cyI cyO cyL hAd hj hJ (s_ := s_) (x_ := 0) hs (vp_in_nI (n := 0) (N := 5) (by decide) (by decide))
  unfold spanS at h
  rw [if_pos rfl] at h
  exact h
theorem r_span1 (l : Launch) (D : va_G) (cyI cyO cyL : ClassId) {a : AX} {j : Nat} {g : SG} (hAd : Adr a) (hj : j < 512) (hJ : JE a j g) {s_ : Int32} (hs : vp_in s_ 24) : GI l yX5_span wsX5_span D cyI cyO cyL (.ref a.1 :: [.int s_, .int 1]) (WXs cyI cyO a g) (WXs cyI cyO a g) (zf g s_.toNatClampNeg) := by
  have h := s_span l D cyI cyO cyL hAd hj hJ (s_ := s_) (x_ := 1) hs (vp_in_nI (n := 1) (N := 5) (by decide) (by decide))
  unfold spanS at h
  rw [if_neg (by decide), if_pos rfl] at h
  exact h
theorem r_span2 (l : Launch) (D : va_G) (cyI cyO cyL : ClassId) {a : AX} {j : Nat} {g : SG} (hAd : Adr a) (hj : j < 512) (hJ : JE a j g) {s_ : Int32} (hs : vp_in s_ 24) : GI l yX5_span wsX5_span D cyI cyO cyL (.ref a.1 :: [.int s_, .int 2]) (WXs cyI cyO a g) (WXs cyI cyO a g) (oneI (dnI (zw g) s_)) := by
  have h := s_span l D cyI cyO cyL hAd hj hJ (s_ := s_) (x_ := 2) hs (vp_in_nI (n := 2) (N := 5) (by decide) (by decide))
  unfold spanS at h
  rw [if_neg (by decide), if_neg (by decide), if_pos rfl] at h
  exact h
theorem r_span4 (l : Launch) (D : va_G) (cyI cyO cyL : ClassId) {a : AX} {j : Nat} {g : SG} (hAd : Adr a) (hj : j < 512) (hJ : JE a j g) {s_ : Int32} (hs : vp_in s_ 24) : GI l yX5_span wsX5_span D cyI cyO cyL (.ref a.1 :: [.int s_, .int 4]) (WXs cyI cyO a g) (WXs cyI cyO a g) (pofL (zo g) s_ (zg g 0).toNatClampNeg 0) := by
  have h := s_span l D cyI cyO cyL hAd hj hJ (s_ := s_) (x_ := 4) hs (vp_in_nI (n := 4) (N := 5) (by decide) (by decide))
  unfold spanS at h
  rw [if_neg (by decide), if_neg (by decide), if_neg (by decide), if_neg (by decide)] at h
  exact h
theorem r_gang2 (l : Launch) (D : va_G) (cyI cyO cyL : ClassId) {a : AX} {j : Nat} {g : SG} (hAd : Adr a) (hj : j < 512) (hJ : JE a j g) : GI l yX5_gang wsX5_gang D cyI cyO cyL (.ref a.1 :: [.int 2]) (WXs cyI cyO a g) (WXs cyI cyO a g) (zg g 0) := by
  have h := s_gang l D cyI cyO cyL hAd hj hJ (x_ := 2) (vp_in_nI (n := 2) (N := 7) (by decide) (by decide))
  unfold gangS at h
  rw [if_neg (by decide), if_neg (by decide), if_pos rfl] at h
  exact h
theorem r_gang3 (l : Launch) (D : va_G) (cyI cyO cyL : ClassId) {a : AX} {j : Nat} {g : SG} (hAd : Adr a) (hj : j < 512) (hJ : JE a j g) : GI l yX5_gang wsX5_gang D cyI cyO cyL (.ref a.1 :: [.int 3]) (WXs cyI cyO a g) (WXs cyI cyO a g) (zg g 2) := by
  have h := s_gang l D cyI cyO cyL hAd hj hJ (x_ := 3) (vp_in_nI (n := 3) (N := 7) (by decide) (by decide))
  unfold gangS at h
  rw [if_neg (by decide), if_neg (by decide), if_neg (by decide), if_pos rfl] at h
  exact h
theorem r_gang4 (l : Launch) (D : va_G) (cyI cyO cyL : ClassId) {a : AX} {j : Nat} {g : SG} (hAd : Adr a) (hj : j < 512) (hJ : JE a j g) : GI l yX5_gang wsX5_gang D cyI cyO cyL (.ref a.1 :: [.int 4]) (WXs cyI cyO a g) (WXs cyI cyO a g) (zg g 3) := by
  have h := s_gang l D cyI cyO cyL hAd hj hJ (x_ := 4) (vp_in_nI (n := 4) (N := 7) (by decide) (by decide))
  unfold gangS at h
  rw [if_neg (by decide), if_neg (by decide), if_neg (by decide), if_neg (by decide), if_pos rfl] at h
  exact h
theorem r_gang5 (l : Launch) (D : va_G) (cyI cyO cyL : ClassId) {a : AX} {j : Nat} {g : SG} (hAd : Adr a) (hj : j < 512) (hJ : JE a j g) : GI l yX5_gang wsX5_gang D cyI cyO cyL (.ref a.1 :: [.int 5]) (WXs cyI cyO a g) (WXs cyI cyO a g) (zg g 4) := by
  have h := s_gang l D cyI cyO cyL hAd hj hJ (x_ := 5) (vp_in_nI (n := 5) (N := 7) (by decide) (by decide))
  unfold gangS at h
  rw [if_neg (by decide), if_neg (by decide), if_neg (by decide), if_neg (by decide), if_neg (by decide), if_pos rfl] at h
  exact h
theorem r_count0 (l : Launch) (D : va_G) (cyI cyO cyL : ClassId) {a : AX} {j : Nat} {g : SG} (hAd : Adr a) (hj : j < 512) (hJ : JE a j g) : GI l yX5_count wsX5_count D cyI cyO cyL (.ref a.1 :: [.int 0]) (WXs cyI cyO a g) (WXs cyI cyO a g) (zh g) := by
  have h := s_count l D cyI cyO cyL hAd hj hJ (x_ := 0) (vp_in_nI (n := 0) (N := 9) (by decide) (by decide))
  unfold tallyS at h
  rw [if_pos rfl] at h
  exact h
theorem r_count2 (l : Launch) (D : va_G) (cyI cyO cyL : ClassId) {a : AX} {j : Nat} {g : SG} (hAd : Adr a) (hj : j < 512) (hJ : JE a j g) : GI l yX5_count wsX5_count D cyI cyO cyL (.ref a.1 :: [.int 2]) (WXs cyI cyO a g) (WXs cyI cyO a g) (zc g) := by
  have h := s_count l D cyI cyO cyL hAd hj hJ (x_ := 2) (vp_in_nI (n := 2) (N := 9) (by decide) (by decide))
  unfold tallyS at h
  rw [if_neg (by decide), if_neg (by decide), if_pos rfl] at h
  exact h
theorem r_count5 (l : Launch) (D : va_G) (cyI cyO cyL : ClassId) {a : AX} {j : Nat} {g : SG} (hAd : Adr a) (hj : j < 512) (hJ : JE a j g) : GI l yX5_count wsX5_count D cyI cyO cyL (.ref a.1 :: [.int 5]) (WXs cyI cyO a g) (WXs cyI cyO a g) (spdL (zw g) 24 0 0) := by
  have h := s_count l D cyI cyO cyL hAd hj hJ (x_ := 5) (vp_in_nI (n := 5) (N := 9) (by decide) (by decide))
  unfold tallyS at h
  rw [if_neg (by decide), if_neg (by decide), if_neg (by decide), if_neg (by decide), if_neg (by decide), if_pos rfl] at h
  exact h
theorem r_count6 (l : Launch) (D : va_G) (cyI cyO cyL : ClassId) {a : AX} {j : Nat} {g : SG} (hAd : Adr a) (hj : j < 512) (hJ : JE a j g) : GI l yX5_count wsX5_count D cyI cyO cyL (.ref a.1 :: [.int 6]) (WXs cyI cyO a g) (WXs cyI cyO a g) (sumL (zw g) 24 0 0) := by
  have h := s_count l D cyI cyO cyL hAd hj hJ (x_ := 6) (vp_in_nI (n := 6) (N := 9) (by decide) (by decide))
  unfold tallyS at h
  rw [if_neg (by decide), if_neg (by decide), if_neg (by decide), if_neg (by decide), if_neg (by decide), if_neg (by decide), if_pos rfl] at h
  exact h
theorem r_told0 (l : Launch) (D : va_G) (cyI cyO cyL : ClassId) {a : AX} {j : Nat} {g : SG} (hAd : Adr a) (hj : j < 512) (hJ : JE a j g) (h3 : zn g = 3) {b_ : Int32} (hb : vp_in b_ 3) : GI l yX5_told wsX5_told D cyI cyO cyL (.ref a.1 :: [.int b_, .int 0]) (WXs cyI cyO a g) (WXs cyI cyO a g) (zB g (zab a b_.toNatClampNeg) 0) := by
  have h := s_told l D cyI cyO cyL hAd hj hJ (b_ := b_) (x_ := 0) (by rw [h3]; exact hb) (vp_in_nI (n := 0) (N := 7) (by decide) (by decide))
  unfold toldS at h
  rw [if_pos rfl] at h
  exact h
theorem r_told3 (l : Launch) (D : va_G) (cyI cyO cyL : ClassId) {a : AX} {j : Nat} {g : SG} (hAd : Adr a) (hj : j < 512) (hJ : JE a j g) (h3 : zn g = 3) {b_ : Int32} (hb : vp_in b_ 3) : GI l yX5_told wsX5_told D cyI cyO cyL (.ref a.1 :: [.int b_, .int 3]) (WXs cyI cyO a g) (WXs cyI cyO a g) (zB g (zab a b_.toNatClampNeg) 3) := by
  have h := s_told l D cyI cyO cyL hAd hj hJ (b_ := b_) (x_ := 3) (by rw [h3]; exact hb) (vp_in_nI (n := 3) (N := 7) (by decide) (by decide))
  unfold toldS at h
  rw [if_neg (by decide), if_neg (by decide), if_neg (by decide), if_pos rfl] at h
  exact h
theorem r_told4 (l : Launch) (D : va_G) (cyI cyO cyL : ClassId) {a : AX} {j : Nat} {g : SG} (hAd : Adr a) (hj : j < 512) (hJ : JE a j g) (h3 : zn g = 3) {b_ : Int32} (hb : vp_in b_ 3) : GI l yX5_told wsX5_told D cyI cyO cyL (.ref a.1 :: [.int b_, .int 4]) (WXs cyI cyO a g) (WXs cyI cyO a g) (zB g (zab a b_.toNatClampNeg) 4) := by
  have h := s_told l D cyI cyO cyL hAd hj hJ (b_ := b_) (x_ := 4) (by rw [h3]; exact hb) (vp_in_nI (n := 4) (N := 7) (by decide) (by decide))
  unfold toldS at h
  rw [if_neg (by decide), if_neg (by decide), if_neg (by decide), if_neg (by decide), if_pos rfl] at h
  exact h
theorem r_told5 (l : Launch) (D : va_G) (cyI cyO cyL : ClassId) {a : AX} {j : Nat} {g : SG} (hAd : Adr a) (hj : j < 512) (hJ : JE a j g) (h3 : zn g = 3) {b_ : Int32} (hb : vp_in b_ 3) : GI l yX5_told wsX5_told D cyI cyO cyL (.ref a.1 :: [.int b_, .int 5]) (WXs cyI cyO a g) (WXs cyI cyO a g) (zB g (zab a b_.toNatClampNeg) 5) := by
  have h := s_told l D cyI cyO cyL hAd hj hJ (b_ := b_) (x_ := 5) (by rw [h3]; exact hb) (vp_in_nI (n := 5) (N := 7) (by decide) (by decide))
  unfold toldS at h
  rw [if_neg (by decide), if_neg (by decide), if_neg (by decide), if_neg (by decide), if_neg (by decide), if_pos rfl] at h
  exact h
theorem r_told6 (l : Launch) (D : va_G) (cyI cyO cyL : ClassId) {a : AX} {j : Nat} {g : SG} (hAd : Adr a) (hj : j < 512) (hJ : JE a j g) (h3 : zn g = 3) {b_ : Int32} (hb : vp_in b_ 3) : GI l yX5_told wsX5_told D cyI cyO cyL (.ref a.1 :: [.int b_, .int 6]) (WXs cyI cyO a g) (WXs cyI cyO a g) (spuL (zw g) (zB g (zab a b_.toNatClampNeg) 0) 24 0) := by
  have h := s_told l D cyI cyO cyL hAd hj hJ (b_ := b_) (x_ := 6) (by rw [h3]; exact hb) (vp_in_nI (n := 6) (N := 7) (by decide) (by decide))
  unfold toldS at h
  rw [if_neg (by decide), if_neg (by decide), if_neg (by decide), if_neg (by decide), if_neg (by decide), if_neg (by decide)] at h
  exact h
/-- what a look ahead leaves -/
def Same (g g2 : SG) : Prop := dgv g2 = dgv g ∧ (∀ h, sv h g2 = sv h g) ∧ zw g2 = zw g ∧ zn g2 = zn g
theorem Same.AH {g : SG} {B : Nat → Nat → Int32} {q1 : RS} {b1 : Int32} : Same g (AH g B q1 b1) := ⟨rfl, fun _ => rfl, rfl, rfl⟩
theorem Same.trans {g g2 g3 : SG} (h : Same g g2) (h2 : Same g2 g3) : Same g g3 := ⟨h2.1.trans h.1, fun z => (h2.2.1 z).trans (h.2.1 z), h2.2.2.1.trans h.2.2.1, h2.2.2.2.trans h.2.2.2⟩
theorem l_foresee (l : Launch) (D : va_G) (cyI cyO cyL : ClassId) {a : AX} {j : Nat} {g : SG} (hAd : Adr a) (hj : j < 512) (hJ : JE a j g) {h : Nat} (hh1 : 1 ≤ h) (hh2 : h ≤ 72) : ∃ g2 : SG, GI l yX5_foresee wsX5_foresee D cyI cyO cyL (.ref a.1 :: [.int (nI h), .int 6]) (WXs cyI cyO a g) (WXs cyI cyO a g2) (sv h g) ∧ Same g g2 ∧ JE a (j + 1) g2 := by
  obtain ⟨B, q1, b1, h1, h2⟩ := s_foresee l D cyI cyO cyL hAd hj hJ hh1 hh2
  exact ⟨_, h1, Same.AH, h2⟩
theorem l_falls (l : Launch) (D : va_G) (cyI cyO cyL : ClassId) {a : AX} {j : Nat} {g : SG} (hAd : Adr a) (hj : j < 512) (hJ : JE a j g) {s_ : Int32} (hs : vp_in s_ 24) : ∃ (g2 : SG) (r : Int32), GI l yX5_falls wsX5_falls D cyI cyO cyL (.ref a.1 :: [.int s_]) (WXs cyI cyO a g) (WXs cyI cyO a g2) r ∧ (r = 0 ↔ ¬ dnI (zw g) s_ = 0) ∧ ¬ 96 < r ∧ Same g g2 ∧ JE a (j + 1) g2 := by
  obtain ⟨B, q1, b1, r, h1, h2, h3, h4⟩ := s_falls l D cyI cyO cyL hAd hj hJ hs
  exact ⟨_, r, h1, h2, h3, Same.AH, h4⟩
theorem l_advise (l : Launch) (D : va_G) (cyI cyO cyL : ClassId) {a : AX} {j : Nat} {g : SG} (hAd : Adr a) (hj : j < 512) (hJ : JE a j g) {h : Nat} (hh1 : 1 ≤ h) (hh2 : h ≤ 48) : ∃ (g2 : SG) (r : Int32), GI l yX5_advise wsX5_advise D cyI cyO cyL (.ref a.1 :: [.int (nI h)]) (WXs cyI cyO a g) (WXs cyI cyO a g2) r ∧ r ≤ 23 ∧ Same g g2 ∧ JE a (j + 1) g2 := by
  obtain ⟨B, q1, b1, r, h1, h2, h3⟩ := s_advise l D cyI cyO cyL hAd hj hJ hh1 hh2
  exact ⟨_, r, h1, h2, Same.AH, h3⟩
/-! what holds of the answers -/
theorem w_q {a : AX} {j : Nat} {g : SG} (hJ : JE a j g) {s_ : Int32} (hs : vp_in s_ 24) : ∃ p : Nat, p ≤ 100 ∧ zw g s_.toNatClampNeg = nI p := by
  obtain ⟨p, h1, h2, -⟩ := hJ.1.2.2.2.2.1.1 s_.toNatClampNeg (vp_lt hs)
  exact ⟨p, h1, h2⟩
theorem f_q {a : AX} {j : Nat} {g : SG} (hJ : JE a j g) {s_ : Int32} (hs : vp_in s_ 24) : ∃ p : Nat, p ≤ 9 ∧ zf g s_.toNatClampNeg = nI p := by
  obtain ⟨p, h1, h2, -⟩ := hJ.1.2.2.2.2.1.2.1 s_.toNatClampNeg (vp_lt hs)
  exact ⟨p, h1, h2⟩
theorem nI_ge0 {p : Nat} (h : p < 2 ^ 31) : ¬ nI p < 0 := nI_pos h
theorem nI_leN {p N : Nat} (h : p ≤ N) (hN : N < 2 ^ 31) : ¬ nI N < nI p := Int32.not_lt.mpr (nI_le h hN)
theorem w_ge {a : AX} {j : Nat} {g : SG} (hJ : JE a j g) {s_ : Int32} (hs : vp_in s_ 24) : ¬ zw g s_.toNatClampNeg < 0 := by
  obtain ⟨p, h1, h2⟩ := w_q hJ hs
  rw [h2]
  exact nI_ge0 (by omega)
theorem w_le {a : AX} {j : Nat} {g : SG} (hJ : JE a j g) {s_ : Int32} (hs : vp_in s_ 24) : ¬ 100 < zw g s_.toNatClampNeg := by
  obtain ⟨p, h1, h2⟩ := w_q hJ hs
  rw [h2]
  exact nI_leN (N := 100) h1 (by decide)
theorem f_ge {a : AX} {j : Nat} {g : SG} (hJ : JE a j g) {s_ : Int32} (hs : vp_in s_ 24) : ¬ zf g s_.toNatClampNeg < 0 := by
  obtain ⟨p, h1, h2⟩ := f_q hJ hs
  rw [h2]
  exact nI_ge0 (by omega)
theorem f_le {a : AX} {j : Nat} {g : SG} (hJ : JE a j g) {s_ : Int32} (hs : vp_in s_ 24) : ¬ 9 < zf g s_.toNatClampNeg := by
  obtain ⟨p, h1, h2⟩ := f_q hJ hs
  rw [h2]
  exact nI_leN (N := 9) h1 (by decide)
theorem dn_1 {g : SG} {s_ : Int32} (h : zw g s_.toNatClampNeg = 100) : oneI (dnI (zw g) s_) = 1 := by
  unfold dnI
  rw [h]
  rfl
theorem dn_0 {a : AX} {j : Nat} {g : SG} (hJ : JE a j g) {s_ : Int32} (hs : vp_in s_ 24) (h : ¬ zw g s_.toNatClampNeg = 100) : oneI (dnI (zw g) s_) = 0 := by
  obtain ⟨p, h1, h2⟩ := w_q hJ hs
  have hp : p ≠ 100 := fun e => h (by rw [h2, e]; rfl)
  unfold dnI
  rw [h2, if_pos (show nI p < 100 from nI_lt (a := p) (b := 100) (by omega) (by decide))]
  rfl
theorem one_0 {x : Int32} (h : x = 0) : oneI x = 0 := by rw [h]; rfl
theorem one_1 {x : Int32} (h : ¬ x = 0) : oneI x = 1 := by unfold oneI; rw [if_neg h]
theorem spd_s (w : Nat → Int32) (d i : Nat) (x : Int32) : spdL w (d + 1) i x = spdL w d (i + 1) (x + oneI (dnI w (nI i))) := rfl
theorem spu_ge {w : Nat → Int32} {s_ : Int32} : ∀ (d i : Nat), ∃ k, i ≤ k ∧ k ≤ i + d ∧ spuL w s_ d i = nI k
  | 0, i => ⟨i, Nat.le_refl _, Nat.le_refl _, rfl⟩
  | d + 1, i => by
    unfold spuL
    split
    · obtain ⟨k, h1, h2, e⟩ := spu_ge (w := w) (s_ := s_) d (i + 1)
      exact ⟨k, by omega, by omega, e⟩
    · exact ⟨i, Nat.le_refl _, by omega, rfl⟩
theorem spu_q {w : Nat → Int32} {s_ : Int32} : spuL w s_ 24 0 = 0 ↔ ¬ dnI w (ir (s_ + 1) 24) = 0 := by
  have e : spuL w s_ 24 0 = if dnI w (ir (s_ + nI 0 + 1) 24) = 0 then spuL w s_ 23 1 else nI 0 := rfl
  rw [e, show s_ + nI 0 = s_ from Int32.add_zero s_]
  by_cases h : dnI w (ir (s_ + 1) 24) = 0
  · rw [if_pos h]
    obtain ⟨k, h1, h2, e⟩ := spu_ge (w := w) (s_ := s_) 23 1
    rw [e]
    refine ⟨fun h9 => ?_, fun h9 => absurd h h9⟩
    have := (nI_eq (a := k) (b := 0) (by omega) (by decide)).mp h9
    omega
  · rw [if_neg h]
    exact ⟨fun _ => h, fun _ => rfl⟩
theorem co_q {a : AX} {j : Nat} {g : SG} (hJ : JE a j g) : zc g = zB g (zab a (0 : Int32).toNatClampNeg) 4 + zB g (zab a (1 : Int32).toNatClampNeg) 4 + zB g (zab a (2 : Int32).toNatClampNeg) 4 - 2 * zg g 3 := by
  obtain ⟨H, x, b, c, h1, h2, h3, h4, h5, h6, h7, h8, h9, h10⟩ := hJ.2.2.2
  have e0 : (0 : Int32).toNatClampNeg = 0 := by decide
  have e1 : (1 : Int32).toNatClampNeg = 1 := by decide
  have e2 : (2 : Int32).toNatClampNeg = 2 := by decide
  rw [e0, e1, e2]
  exact h10
theorem up_q {a : AX} {j : Nat} {g : SG} (hj : j < 512) (hJ : JE a j g) : ¬ zg g 3 / 2 < zg g 4 ∧ ¬ zg g 3 < zg g 2 ∧ (zg g 0 = 0 → zg g 2 = 0) := by
  obtain ⟨H, x, b, c, h1, h2, h3, h4, h5, h6, h7, h8, h9, h10⟩ := hJ.2.2.2
  have h3 : zg g 2 = nI x := h3
  have h4 : zg g 3 = nI b := h4
  have h5 : zg g 4 = nI c := h5
  rw [h3, h4, h5]
  refine ⟨?_, nI_leN (by omega) (by omega), fun e => ?_⟩
  · rw [show nI b / 2 = nI (b / 2) from pk_div (a := b) (d := 2) (by omega) (by decide) (by decide)]
    exact nI_leN (by omega) (by omega)
  · rw [h8 e]
    rfl
theorem bus_q {a : AX} {j : Nat} {g : SG} (hj : j < 512) (hJ : JE a j g) {b_ : Int32} (hb : vp_in b_ 3) : ¬ 3 * zh g < zB g (zab a b_.toNatClampNeg) 3 ∧ ¬ zh g < zB g (zab a b_.toNatClampNeg) 5 := by
  obtain ⟨H, x, b, c, h1, h2, h3, h4, h5, h6, h7, h8, h9, h10⟩ := hJ.2.2.2
  obtain ⟨s, t, z1, z2, z3, z4⟩ := h9 b_.toNatClampNeg (vp_lt hb)
  have h2 : zh g = nI H := h2
  have z1 : zB g (zab a b_.toNatClampNeg) 3 = nI s := z1
  have z3 : zB g (zab a b_.toNatClampNeg) 5 = nI t := z3
  rw [h2, z1, z3, show (3 : Int32) * nI H = nI (3 * H) from pk_mul 3 H]
  exact ⟨nI_leN z2 (by omega), nI_leN z4 (by omega)⟩
theorem at_q {a : AX} {j : Nat} {g : SG} (hJ : JE a j g) (x : Nat) : vp_in (ir (zB g x 0 + 1) 24) 24 := nxt_in (hJ.1.2.2.2.1.1.2.2.2.1 x).1
theorem ge_no {k N : Nat} (h : k < N) (hN : N < 2 ^ 31) : ¬ nI N ≤ nI k := Int32.not_le.mpr (nI_lt h hN)
theorem ge_yes {k N : Nat} (h : N ≤ k) (hk : k < 2 ^ 31) : nI N ≤ nI k := nI_le h hk
theorem on_in {r : Int32} (h : vp_in r 24) : vp_in (ir (r + 0) 24) 24 := by
  obtain ⟨k, hk, rfl⟩ := vp_in_of h (by decide)
  rw [Int32.add_zero, ir24 (by omega)]
  exact vp_in_nI (Nat.mod_lt _ (by decide)) (by decide)
theorem on_sw {r : Int32} (h : r = -1 ∨ vp_in r 24) : ir (r + 0) 24 = -1 ∨ vp_in (ir (r + 0) 24) 24 := by
  rcases h with rfl | h
  · exact Or.inl (by decide)
  · exact Or.inr (on_in h)
theorem lg_self (x : Int64) : lg_cmp x x = 0 := by
  unfold lg_cmp
  rw [if_neg (Int64.lt_irrefl (a := x)), if_pos rfl]
