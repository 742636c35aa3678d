/-! class and reference: their numbers, side by side -/
def rW (w R : Nat → Int32) : Prop := ∀ k, k < 24 → ∃ p : Nat, p ≤ 100 ∧ w k = nI p ∧ R k = nI p ∧ R (48 + k) = if p < 100 then 0 else 1
def rF (f R : Nat → Int32) : Prop := ∀ k, k < 24 → ∃ p : Nat, p ≤ 9 ∧ f k = nI p ∧ R (24 + k) = nI p
def rB (n : Nat) (ab : Nat → Nat) (B : Nat → Nat → Int32) (R : Nat → Int32) : Prop := ∀ j i, j < n → i < 6 → R (72 + 6 * j + i) = B (ab j) i
def rG (od g R : Nat → Int32) : Prop := R 108 = g 1 ∧ R 109 = g 0 ∧ R 110 = g 2 ∧ R 111 = g 3 ∧ R 112 = g 4 ∧ ∀ m k, g 0 = nI m → m ≤ 6 → k < m → R (113 + k) = od k
theorem rW.fr {w R R' : Nat → Int32} (h : rW w R) (e : ∀ k, (k < 24 ∨ (48 ≤ k ∧ k < 72)) → R' k = R k) : rW w R' := fun k hk => by
  obtain ⟨p, h1, h2, h3, h4⟩ := h k hk
  exact ⟨p, h1, h2, by rw [e _ (by omega)]; exact h3, by rw [e _ (by omega)]; exact h4⟩
theorem rF.fr {f R R' : Nat → Int32} (h : rF f R) (e : ∀ k, (24 ≤ k ∧ k < 48) → R' k = R k) : rF f R' := fun k hk => by
  obtain ⟨p, h1, h2, h3⟩ := h k hk
  exact ⟨p, h1, h2, by rw [e _ (by omega)]; exact h3⟩
theorem rB.fr {n : Nat} {ab : Nat → Nat} {B : Nat → Nat → Int32} {R R' : Nat → Int32} (hn : n ≤ 6) (h : rB n ab B R) (e : ∀ k, (72 ≤ k ∧ k < 108) → R' k = R k) : rB n ab B R' := fun j i hj hi => by
  rw [e _ (by omega)]
  exact h j i hj hi
theorem rG.fr {od g R R' : Nat → Int32} (h : rG od g R) (e : ∀ k, (108 ≤ k ∧ k < 119) → R' k = R k) : rG od g R' := by
  obtain ⟨h1, h2, h3, h4, h5, h6⟩ := h
  exact ⟨by rw [e _ (by omega)]; exact h1, by rw [e _ (by omega)]; exact h2, by rw [e _ (by omega)]; exact h3, by rw [e _ (by omega)]; exact h4, by rw [e _ (by omega)]; exact h5, fun m k a b c => by rw [e _ (by omega)]; exact h6 m k a b c⟩
theorem nt_eq (h : Int32) : ntM h = ntI h := by
  unfold ntM ntI
  have a1 : ir h 24 < 6 ↔ ir h 24 ≤ 5 := by
    rw [Int32.lt_iff_toInt_lt, Int32.le_iff_toInt_le]
    have e1 : (6 : Int32).toInt = 6 := rfl
    have e2 : (5 : Int32).toInt = 5 := rfl
    omega
  have a2 : ir h 24 ≤ 19 ↔ ir h 24 < 20 := by
    rw [Int32.lt_iff_toInt_lt, Int32.le_iff_toInt_le]
    have e1 : (20 : Int32).toInt = 20 := rfl
    have e2 : (19 : Int32).toInt = 19 := rfl
    omega
  simp only [a1, a2]
theorem lt100 {p : Nat} (h : p < 2 ^ 31) : nI p < 100 ↔ p < 100 := nI_ltI (b := 100) h (by decide)
theorem dn_rel {w R : Nat → Int32} {s_ : Int32} (h : rW w R) (hs : vp_in s_ 24) : R (48 + s_.toNatClampNeg) = dnI w s_ := by
  obtain ⟨p, h1, h2, h3, h4⟩ := h _ (vp_lt hs)
  rw [h4, dnI, h2]
  simp only [lt100 (show p < 2 ^ 31 by omega)]
theorem mmin_nI {a b : Nat} (ha : a < 2 ^ 31) (hb : b < 2 ^ 31) : mmin (nI a) (nI b) = nI (min a b) := by
  unfold mmin
  by_cases h : b < a
  · rw [if_pos (nI_lt h ha), Nat.min_eq_right (by omega)]
  · rw [if_neg (nI_nlt (by omega) hb), Nat.min_eq_left (by omega)]
theorem wear_rel {w R : Nat → Int32} {s_ by_ : Int32} {b : Nat} (h : rW w R) (hs : vp_in s_ 24) (hb : by_ = nI b) (hb2 : b < 2 ^ 20) : rW (wearS w s_ by_) (mwear R s_ by_) := by
  intro k hk
  have hsl := vp_lt hs
  obtain ⟨p, h1, h2, h3, h4⟩ := h _ hsl
  have e1 : mmin 100 (w s_.toNatClampNeg + by_) = nI (min 100 (p + b)) := by
    rw [h2, hb, nI_add]
    exact mmin_nI (a := 100) (by decide) (by omega)
  have e2 : mmin 100 (R s_.toNatClampNeg + by_) = nI (min 100 (p + b)) := by rw [h3, ← h2]; exact e1
  have hc : (nI (min 100 (p + b)) = 100) ↔ min 100 (p + b) = 100 := nI_eq (b := 100) (by omega) (by decide)
  by_cases e : k = s_.toNatClampNeg
  · subst e
    refine ⟨min 100 (p + b), by omega, by rw [wearS, pk_us, e1], ?_, ?_⟩
    · unfold mwear
      split
      · rw [upd_ne _ _ (by omega), pk_us, e2]
      · rw [pk_us, e2]
    · unfold mwear
      rw [pk_us, e2]
      by_cases h9 : min 100 (p + b) = 100
      · rw [if_pos (hc.mpr h9), pk_us, if_neg (by omega)]
      · rw [if_neg (fun q => h9 (hc.mp q)), upd_ne _ _ (by omega), h4, if_pos (by omega), if_pos (by omega)]
  · obtain ⟨p', g1, g2, g3, g4⟩ := h k hk
    refine ⟨p', g1, by rw [wearS, upd_ne _ _ e]; exact g2, ?_, ?_⟩
    · unfold mwear
      split
      · rw [upd_ne _ _ (by omega), upd_ne _ _ e]; exact g3
      · rw [upd_ne _ _ e]; exact g3
    · unfold mwear
      split
      · rw [upd_ne _ _ (by omega), upd_ne _ _ (by omega)]; exact g4
      · rw [upd_ne _ _ (by omega)]; exact g4
theorem wear_keepF {R : Nat → Int32} {s_ by_ : Int32} {k : Nat} (hs : vp_in s_ 24) (hk : 24 ≤ k ∧ k < 48) : mwear R s_ by_ k = R k := by
  have h := vp_lt hs
  unfold mwear
  split
  · rw [upd_ne _ _ (by omega), upd_ne _ _ (by omega)]
  · rw [upd_ne _ _ (by omega)]
theorem swan_rel {w R : Nat → Int32} {s_ : Int32} (h : rW w R) (hs : s_ = -1 ∨ vp_in s_ 24) : rW (swanS w s_) (if s_ < 0 then R else if R (48 + s_.toNatClampNeg) = 0 then mwear R s_ 25 else R) := by
  rcases hs with rfl | hs
  · exact h
  · have h1 : ¬ s_ = -1 := fun e => vp_ge0 hs (by rw [e]; decide)
    rw [if_neg (vp_ge0 hs), swanS, if_neg h1, dn_rel h hs]
    split
    · exact wear_rel h hs (b := 25) rfl (by decide)
    · exact h
/-! a bus' hour -/
theorem half {p : Nat} (h : p ≤ 9) : (1 : Int32) + nI p / 2 = nI (1 + p / 2) := by
  have e : nI p / nI 2 = nI (p / 2) := pk_div (by omega) (by decide) (by decide)
  show nI 1 + nI p / nI 2 = _
  rw [e, nI_add]
theorem one_rel {n : Nat} {ab : Nat → Nat} {w f R : Nat → Int32} {B : Nat → Nat → Int32} {co fare : Int32} {j : Nat} (hn : n ≤ 6) (hj : j < n) (hab : ∀ i, i < n → ab i = ab j → i = j) (hB : OkB B) (h1 : rW w R) (h2 : rF f R) (h3 : rB n ab B R) (h4 : R 119 = co) :
    rW (w1S w f B (ab j)) (mr6 R (72 + 6 * j) fare) ∧ rF (f1S f B (ab j)) (mr6 R (72 + 6 * j) fare) ∧ rB n ab (B1S B (ab j) fare) (mr6 R (72 + 6 * j) fare) ∧ mr6 R (72 + 6 * j) fare 119 = co + fare := by
  have e0 : R (72 + 6 * j) = B (ab j) 0 := h3 j 0 hj (by decide)
  have hnx : mnx R (72 + 6 * j) = nxS B (ab j) := by unfold mnx nxS; rw [e0]
  have hin : vp_in (nxS B (ab j)) 24 := hB.nx (ab j)
  have hat : vp_in (R (72 + 6 * j)) 24 := by rw [e0]; exact (hB _).1
  have hlt := vp_lt hin
  have k4 : ∀ k, k ≠ 72 + 6 * j → k ≠ 72 + 6 * j + 3 → k ≠ 72 + 6 * j + 4 → k ≠ 119 → mr4 R (72 + 6 * j) fare k = R k := fun k a b c d => mr4_keep a b c d
  have e41 : mr4 R (72 + 6 * j) fare (72 + 6 * j + 1) = B (ab j) 1 := by rw [k4 _ (by omega) (by omega) (by omega) (by omega)]; exact h3 j 1 hj (by decide)
  have hsc : (mr4 R (72 + 6 * j) fare (72 + 6 * j + 1) = 1) ↔ ¬ B (ab j) 1 = 0 := by
    rw [e41]
    rcases (hB (ab j)).2.1 with q | q <;> rw [q] <;> decide
  obtain ⟨p, f1, f2, f3⟩ := h2 _ hlt
  have hby : mby R (72 + 6 * j) fare = if B (ab j) 1 = 0 then 1 + f (nxS B (ab j)).toNatClampNeg / 2 else 2 := by
    unfold mby
    rw [hnx, k4 (24 + (nxS B (ab j)).toNatClampNeg) (by omega) (by omega) (by omega) (by omega), f3, ← f2]
    by_cases q : B (ab j) 1 = 0
    · rw [if_pos q, if_neg (fun z => (hsc.mp z) q)]
    · rw [if_neg q, if_pos (hsc.mpr q)]
  have hbn : ∃ b : Nat, b < 2 ^ 20 ∧ mby R (72 + 6 * j) fare = nI b := by
    rw [hby]
    by_cases q : B (ab j) 1 = 0
    · exact ⟨1 + p / 2, by omega, by rw [if_pos q, f2]; exact half f1⟩
    · exact ⟨2, by omega, by rw [if_neg q]; rfl⟩
  obtain ⟨b, hb2, hb⟩ := hbn
  have w5 : rW w (mr5 R (72 + 6 * j) fare) := by
    refine h1.fr fun k hk => ?_
    unfold mr5
    rw [hnx]
    split
    · rw [upd_ne _ _ (by omega), k4 _ (by omega) (by omega) (by omega) (by omega)]
    · exact k4 _ (by omega) (by omega) (by omega) (by omega)
  have f5 : rF (f1S f B (ab j)) (mr5 R (72 + 6 * j) fare) := by
    intro k hk
    unfold mr5 f1S
    rw [hnx]
    by_cases q : B (ab j) 1 = 0
    · rw [if_pos q, if_neg (fun z => (hsc.mp z) q)]
      obtain ⟨p', a1, a2, a3⟩ := h2 k hk
      exact ⟨p', a1, a2, by rw [k4 _ (by omega) (by omega) (by omega) (by omega)]; exact a3⟩
    · rw [if_neg q, if_pos (hsc.mpr q)]
      by_cases ek : k = (nxS B (ab j)).toNatClampNeg
      · subst ek
        exact ⟨0, by omega, by rw [pk_us]; rfl, by rw [pk_us]; rfl⟩
      · obtain ⟨p', a1, a2, a3⟩ := h2 k hk
        exact ⟨p', a1, by rw [upd_ne _ _ ek]; exact a2, by rw [upd_ne _ _ (by omega), k4 _ (by omega) (by omega) (by omega) (by omega)]; exact a3⟩
  have k6 : ∀ k, 72 ≤ k → mr6 R (72 + 6 * j) fare k = mr4 R (72 + 6 * j) fare k := fun k hk => mr6_keep hat hk
  refine ⟨?_, ?_, ?_, ?_⟩
  · show rW (wearS w (nxS B (ab j)) _) (mwear (mr5 R (72 + 6 * j) fare) (mnx R (72 + 6 * j)) (mby R (72 + 6 * j) fare))
    rw [hnx, ← hby]
    exact wear_rel w5 hin hb hb2
  · refine f5.fr fun k hk => ?_
    unfold mr6
    rw [hnx]
    exact wear_keepF hin hk
  · intro i x hi hx
    rw [k6 _ (by omega)]
    by_cases ei : i = j
    · subst ei
      have g0 : mr4 R (72 + 6 * i) fare (72 + 6 * i) = nxS B (ab i) := by rw [mr4_t (by omega), hnx]
      have g3 : mr4 R (72 + 6 * i) fare (72 + 6 * i + 3) = B (ab i) 3 + 1 := by
        unfold mr4 mr3 mr2
        rw [upd_ne _ _ (by omega), upd_ne _ _ (by omega), pk_us]
        unfold mr1
        rw [upd_ne _ _ (by omega), h3 i 3 hj (by decide)]
      have g4 : mr4 R (72 + 6 * i) fare (72 + 6 * i + 4) = B (ab i) 4 + fare := by
        unfold mr4 mr3
        rw [upd_ne _ _ (by omega), pk_us]
        unfold mr2 mr1
        rw [upd_ne _ _ (by omega), upd_ne _ _ (by omega), h3 i 4 hj (by decide)]
      match x, hx with
      | 0, _ => rw [show 72 + 6 * i + 0 = 72 + 6 * i from rfl, g0]; simp [B1S, up2]
      | 1, _ => rw [e41]; simp [B1S, up2]
      | 2, _ => rw [k4 _ (by omega) (by omega) (by omega) (by omega), h3 i 2 hj (by decide)]; simp [B1S, up2]
      | 3, _ => rw [g3]; simp [B1S, up2]
      | 4, _ => rw [g4]; simp [B1S, up2]
      | 5, _ => rw [k4 _ (by omega) (by omega) (by omega) (by omega), h3 i 5 hj (by decide)]; simp [B1S, up2]
    · have hne : ¬ ab i = ab j := fun q => ei (hab i hi q)
      rw [k4 _ (by omega) (by omega) (by omega) (by omega), h3 i x hi hx]
      simp [B1S, up2, hne]
  · rw [k6 _ (by omega)]
    unfold mr4
    rw [pk_us]
    unfold mr3 mr2 mr1
    rw [upd_ne _ _ (by omega), upd_ne _ _ (by omega), upd_ne _ _ (by omega), h4]
theorem dn01 (w : Nat → Int32) (s_ : Int32) : dnI w s_ = 0 ∨ dnI w s_ = 1 := by
  unfold dnI
  split
  · exact Or.inl rfl
  · exact Or.inr rfl
theorem drv_rel {n : Nat} {ab : Nat → Nat} {fare : Int32} {j : Nat} (hn : n ≤ 6) (hj : j < n) (hab : ∀ i, i < n → ab i = ab j → i = j) : ∀ (d : Nat) (w f : Nat → Int32) (B : Nat → Nat → Int32) (co : Int32) (R : Nat → Int32), OkB B → rW w R → rF f R → rB n ab B R → R 119 = co →
    rW (drvL (ab j) fare d w f B co).1 (mruL (72 + 6 * j) fare d R) ∧ rF (drvL (ab j) fare d w f B co).2.1 (mruL (72 + 6 * j) fare d R) ∧ rB n ab (drvL (ab j) fare d w f B co).2.2.1 (mruL (72 + 6 * j) fare d R) ∧ mruL (72 + 6 * j) fare d R 119 = (drvL (ab j) fare d w f B co).2.2.2
  | 0, _, _, _, _, _, _, h1, h2, h3, h4 => ⟨h1, h2, h3, h4⟩
  | d + 1, w, f, B, co, R, hB, h1, h2, h3, h4 => by
    have e0 : R (72 + 6 * j) = B (ab j) 0 := h3 j 0 hj (by decide)
    have hnx : mnx R (72 + 6 * j) = nxS B (ab j) := by unfold mnx nxS; rw [e0]
    have hin : vp_in (nxS B (ab j)) 24 := hB.nx (ab j)
    obtain ⟨o1, o2, o3, o4⟩ := one_rel (fare := fare) hn hj hab hB h1 h2 h3 h4
    have n01 : ¬ (0 : Int32) = 1 := by decide
    have n10 : ¬ (1 : Int32) = 0 := by decide
    unfold drvL mruL
    rw [hnx, dn_rel h1 hin, dn_rel o1 hin]
    rcases dn01 w (nxS B (ab j)) with q | q
    · rcases dn01 (w1S w f B (ab j)) (nxS B (ab j)) with q2 | q2
      · simp only [q, q2, n01, n10, eq_self, if_true, if_false]
        exact drv_rel hn hj hab d _ _ _ _ _ (hB.b1 _ _) o1 o2 o3 o4
      · simp only [q, q2, n01, n10, eq_self, if_true, if_false]
        exact ⟨o1, o2, o3, o4⟩
    · simp only [q, n01, n10, eq_self, if_true, if_false]
      refine ⟨h1.fr fun k hk => upd_ne _ _ (by omega), h2.fr fun k hk => upd_ne _ _ (by omega), fun i x hi hx => ?_, by rw [upd_ne _ _ (by omega)]; exact h4⟩
      by_cases e : i = j ∧ x = 5
      · obtain ⟨rfl, rfl⟩ := e
        rw [pk_us, h3 i 5 hj (by decide)]
        simp [up2]
      · rw [upd_ne _ _ (by omega), h3 i x hi hx]
        by_cases ei : i = j
        · have : ¬ x = 5 := fun z => e ⟨ei, z⟩
          simp [up2, this]
        · have hne : ¬ ab i = ab j := fun q => ei (hab i hi q)
          simp [up2, hne]
theorem bus_rel {n : Nat} {ab : Nat → Nat} {fd fn hr : Int32} (hn : n ≤ 6) (hab : ∀ i j, i < n → j < n → ab i = ab j → i = j) : ∀ (d i : Nat) (w f : Nat → Int32) (B : Nat → Nat → Int32) (co : Int32) (R : Nat → Int32), i + d = n → OkB B → rW w R → rF f R → rB n ab B R → R 119 = co → R 120 = hr →
    rW (busL ab (fareS (ntI hr) fd fn) d i w f B co).1 (mbuL fd fn d i R) ∧ rF (busL ab (fareS (ntI hr) fd fn) d i w f B co).2.1 (mbuL fd fn d i R) ∧ rB n ab (busL ab (fareS (ntI hr) fd fn) d i w f B co).2.2.1 (mbuL fd fn d i R) ∧ mbuL fd fn d i R 119 = (busL ab (fareS (ntI hr) fd fn) d i w f B co).2.2.2 ∧ ∀ k, 108 ≤ k → k ≠ 119 → mbuL fd fn d i R k = R k
  | 0, _, _, _, _, _, _, _, _, h1, h2, h3, h4, _ => ⟨h1, h2, h3, h4, fun _ _ _ => rfl⟩
  | d + 1, i, w, f, B, co, R, hi, hB, h1, h2, h3, h4, h5 => by
    have hj : i < n := by omega
    have e2 : R (72 + 6 * i + 2) = B (ab i) 2 := h3 i 2 hj (by decide)
    have hf : mfar fd fn R = fareS (ntI hr) fd fn := by unfold mfar fareS; rw [h5, nt_eq]
    have hat : vp_in (R (72 + 6 * i)) 24 := by rw [show R (72 + 6 * i) = B (ab i) 0 from h3 i 0 hj (by decide)]; exact (hB _).1
    have n01 : ¬ (0 : Int32) = 1 := by decide
    have n10 : ¬ (1 : Int32) = 0 := by decide
    unfold busL mbuL
    rcases (hB (ab i)).2.2 with q | q
    · simp only [driveS, e2, hf, q, n01, n10, eq_self, if_true, if_false]
      exact bus_rel hn hab d (i + 1) w f B co R (by omega) hB h1 h2 h3 h4 h5
    · simp only [driveS, e2, hf, q, n01, n10, eq_self, if_true, if_false]
      obtain ⟨o1, o2, o3, o4⟩ := drv_rel (fare := fareS (ntI hr) fd fn) hn hj (fun z hz => hab z i hz hj) 3 w f B co R hB h1 h2 h3 h4
      have k8 : ∀ k, 108 ≤ k → k ≠ 119 → mruL (72 + 6 * i) (fareS (ntI hr) fd fn) 3 R k = R k := fun k a b => mru_keep (by omega) (by omega) (by omega) (by omega) b 3 R hat
      obtain ⟨u1, u2, u3, u4, u5⟩ := bus_rel (fd := fd) (fn := fn) (hr := hr) hn hab d (i + 1) _ _ _ _ (mruL (72 + 6 * i) (fareS (ntI hr) fd fn) 3 R) (by omega) (OkB.drvL 3 w f B co hB) o1 o2 o3 o4 (by rw [k8 _ (by omega) (by omega)]; exact h5)
      exact ⟨u1, u2, u3, u4, fun k a b => (u5 k a b).trans (k8 k a b)⟩
