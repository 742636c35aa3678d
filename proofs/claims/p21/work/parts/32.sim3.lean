/-! answers, side by side -/
theorem msum_rel {R F : Nat → Int32} {a : Nat} : ∀ (d i : Nat) (x : Int32), (∀ k, i ≤ k → k < i + d → R (a + k) = F k) → msum R a d i x = sumL F d i x
  | 0, _, _, _ => rfl
  | d + 1, i, x, h => by
    unfold msum sumL
    rw [h i (by omega) (by omega)]
    exact msum_rel d (i + 1) _ fun k h1 h2 => h k (by omega) (by omega)
theorem spd_rel {R w : Nat → Int32} (h : rW w R) : ∀ (d i : Nat) (x : Int32), i + d = 24 → msum R 48 d i x = spdL w d i x
  | 0, _, _, _ => rfl
  | d + 1, i, x, hi => by
    unfold msum spdL
    have e := dn_rel h (vp_in_nI (n := i) (N := 24) (by omega) (by omega))
    rw [nI_clamp (by omega)] at e
    rw [e]
    have e2 : oneI (dnI w (nI i)) = dnI w (nI i) := by
      rcases dn01 w (nI i) with q | q <;> rw [q] <;> rfl
    rw [e2]
    exact spd_rel h d (i + 1) _ (by omega)
theorem mob5_rel {n : Nat} {ab : Nat → Nat} {B : Nat → Nat → Int32} {R : Nat → Int32} (h : rB n ab B R) : ∀ (d i : Nat) (x : Int32), i + d = n → mob R 5 d i x = bsL B ab d i x
  | 0, _, _, _ => rfl
  | d + 1, i, x, hi => by
    unfold mob bsL
    rw [h i 5 (by omega) (by decide)]
    exact mob5_rel h d (i + 1) _ (by omega)
theorem mob2_rel {n : Nat} {ab : Nat → Nat} {B : Nat → Nat → Int32} {R : Nat → Int32} (hB : OkB B) (h : rB n ab B R) : ∀ (d i : Nat) (x : Int32), i + d = n → mob R 2 d i x = brL B ab d i x
  | 0, _, _, _ => rfl
  | d + 1, i, x, hi => by
    unfold mob brL
    rw [h i 2 (by omega) (by decide)]
    have e2 : oneI (B (ab i) 2) = B (ab i) 2 := by
      rcases (hB (ab i)).2.2 with q | q <;> rw [q] <;> rfl
    rw [e2]
    exact mob2_rel hB h d (i + 1) _ (by omega)
theorem sumw_rel {w R : Nat → Int32} (h : rW w R) : msum R 0 24 0 0 = sumL w 24 0 0 := msum_rel 24 0 0 fun k _ hk => by
  obtain ⟨p, -, h2, h3, -⟩ := h k (by omega)
  rw [Nat.zero_add, h3, h2]
theorem sumf_rel {f R : Nat → Int32} (h : rF f R) : msum R 24 24 0 0 = sumL f 24 0 0 := msum_rel 24 0 0 fun k _ hk => by
  obtain ⟨p, -, h2, h3⟩ := h k (by omega)
  rw [h3, h2]
theorem sum_bound {w R : Nat → Int32} (h : rW w R) : ∀ (d i a : Nat), i + d = 24 → a ≤ 100 * i → ∃ k : Nat, k ≤ 2400 ∧ sumL w d i (nI a) = nI k
  | 0, i, a, hi, ha => ⟨a, by omega, rfl⟩
  | d + 1, i, a, hi, ha => by
    unfold sumL
    obtain ⟨p, h1, h2, -, -⟩ := h i (by omega)
    rw [h2, nI_add]
    exact sum_bound h d (i + 1) (a + p) (by omega) (by omega)
theorem one1 : oneI 1 = 1 := rfl
theorem one0 : oneI 0 = 0 := rfl
/-- what is summed: count's 2, 5, 6, 7, 8 -/
theorem summed_rel {n : Nat} {ab : Nat → Nat} {q : RS} {R : Nat → Int32} {x bc : Int32} (h : Rel n ab q R) (hx : x = 2 ∨ x = 5 ∨ x = 6 ∨ x = 7 ∨ x = 8) : msummed R n x = tallyS x n ab q.1 q.2.1 q.2.2.2.2.1 bc q.2.2.2.2.2.2 q.2.2.2.2.2.1 := by
  obtain ⟨h1, h2, h3, h4, h5, h6⟩ := h
  rcases hx with rfl | rfl | rfl | rfl | rfl
  · exact h5
  · exact spd_rel h1 24 0 0 rfl
  · exact sumw_rel h1
  · exact sumf_rel h2
  · exact mob5_rel h3 n 0 0 (Nat.zero_add n)
theorem counted_rel {n : Nat} {ab : Nat → Nat} {q : RS} {R : Nat → Int32} {x bu bc : Int32} (hB : OkB q.2.2.2.2.1) (h : Rel n ab q R) (hbu : bu = bc) (hx : vp_in x 9) : mcounted R n bu x = tallyS x n ab q.1 q.2.1 q.2.2.2.2.1 bc q.2.2.2.2.2.2 q.2.2.2.2.2.1 := by
  obtain ⟨h1, h2, h3, h4, h5, h6⟩ := id h
  obtain ⟨j, hj, rfl⟩ := vp_in_of hx (by decide)
  match j, hj with
  | 0, _ => exact h6
  | 1, _ =>
    show (if ntM (R 120) = 0 then 0 else 1) = oneI (ntI q.2.2.2.2.2.2)
    rw [h6, nt_eq]; rfl
  | 2, _ => exact summed_rel (bc := bc) h (Or.inl rfl)
  | 3, _ => exact hbu
  | 4, _ => exact mob2_rel hB h3 n 0 0 (Nat.zero_add n)
  | 5, _ => exact summed_rel (bc := bc) h (Or.inr (Or.inl rfl))
  | 6, _ => exact summed_rel (bc := bc) h (Or.inr (Or.inr (Or.inl rfl)))
  | 7, _ => exact summed_rel (bc := bc) h (Or.inr (Or.inr (Or.inr (Or.inl rfl))))
  | 8, _ => exact summed_rel (bc := bc) h (Or.inr (Or.inr (Or.inr (Or.inr rfl))))
theorem free_rel {w R : Nat → Int32} {s_ : Int32} (h : rW w R) (hs : vp_in s_ 24) : ∀ (d i : Nat), i + d = 24 → mfree R s_ d (i + 1) = spuL w s_ d i
  | 0, i, hi => by
    obtain rfl : i = 24 := by omega
    rfl
  | d + 1, i, hi => by
    unfold mfree spuL
    have e1 : s_ + nI i + 1 = s_ + nI (i + 1) := by rw [Int32.add_assoc, nI_1]
    have hin : vp_in (ir (s_ + nI (i + 1)) 24) 24 := by rw [← e1]; exact spu_in hs (by omega)
    rw [e1, dn_rel h hin, nI_pred]
    have n01 : ¬ (0 : Int32) = 1 := by decide
    have n10 : ¬ (1 : Int32) = 0 := by decide
    rcases dn01 w (ir (s_ + nI (i + 1)) 24) with q | q
    · simp only [q, n01, eq_self, if_true, if_false]
      exact free_rel h hs d (i + 1) (by omega)
    · simp only [q, n10, eq_self, if_true, if_false]
theorem told_rel {n : Nat} {ab : Nat → Nat} {w R : Nat → Int32} {B : Nat → Nat → Int32} {b_ x : Int32} (hB : OkB B) (h1 : rW w R) (h3 : rB n ab B R) (hb : vp_in b_ n) (hx : vp_in x 7) : mbtold R b_ x = toldS x B (ab b_.toNatClampNeg) w := by
  have hl := vp_lt hb
  have e : ∀ i, i < 6 → R (72 + 6 * b_.toNatClampNeg + i) = B (ab b_.toNatClampNeg) i := fun i hi => h3 _ i hl hi
  have o1 : oneI (B (ab b_.toNatClampNeg) 1) = B (ab b_.toNatClampNeg) 1 := by
    rcases (hB (ab b_.toNatClampNeg)).2.1 with q | q <;> rw [q] <;> rfl
  have o2 : oneI (B (ab b_.toNatClampNeg) 2) = B (ab b_.toNatClampNeg) 2 := by
    rcases (hB (ab b_.toNatClampNeg)).2.2 with q | q <;> rw [q] <;> rfl
  obtain ⟨j, hj, rfl⟩ := vp_in_of hx (by decide)
  match j, hj with
  | 0, _ => exact e 0 (by decide)
  | 1, _ => exact (e 1 (by decide)).trans o1.symm
  | 2, _ => exact (e 2 (by decide)).trans o2.symm
  | 3, _ => exact e 3 (by decide)
  | 4, _ => exact e 4 (by decide)
  | 5, _ => exact e 5 (by decide)
  | 6, _ =>
    show mfree R (R (72 + 6 * b_.toNatClampNeg)) 24 1 = spuL w (B (ab b_.toNatClampNeg) 0) 24 0
    rw [show R (72 + 6 * b_.toNatClampNeg) = B (ab b_.toNatClampNeg) 0 from e 0 (by decide)]
    exact free_rel h1 (hB _).1 24 0 rfl
theorem bat_rel {n : Nat} {ab : Nat → Nat} {B : Nat → Nat → Int32} {R : Nat → Int32} {s_ : Int32} (h : rB n ab B R) : ∀ (d i : Nat) (x : Int32), i + d = n → mbat R s_ d i x = baL B ab s_ d i x
  | 0, _, _, _ => rfl
  | d + 1, i, x, hi => by
    unfold mbat baL
    rw [show R (72 + 6 * i) = B (ab i) 0 from h i 0 (by omega) (by decide), one1, one0]
    exact bat_rel h d (i + 1) _ (by omega)
theorem place_rel {od g R : Nat → Int32} {s_ : Int32} {m : Nat} (h : rG od g R) (hg : g 0 = nI m) (hm : m ≤ 6) : ∀ (d i : Nat), i + d = m → mplace R s_ d i = pofL od s_ d i
  | 0, _, _ => rfl
  | d + 1, i, hi => by
    unfold mplace pofL
    rw [h.2.2.2.2.2 m i hg hm (by omega), place_rel h hg hm d (i + 1) (by omega)]
theorem span_rel {n m : Nat} {ab : Nat → Nat} {q : RS} {R : Nat → Int32} {s_ x : Int32} (hm : m ≤ 6) (hg : q.2.2.2.1 0 = nI m) (h : Rel n ab q R) (hs : vp_in s_ 24) (hx : vp_in x 5) : mstold R n m s_ x = spanS s_ x n m ab q.1 q.2.1 q.2.2.1 q.2.2.2.2.1 := by
  obtain ⟨h1, h2, h3, h4, h5, h6⟩ := id h
  have hl := vp_lt hs
  obtain ⟨j, hj, rfl⟩ := vp_in_of hx (by decide)
  match j, hj with
  | 0, _ =>
    obtain ⟨p, -, a2, a3, -⟩ := h1 _ hl
    show R (24 * 0 + s_.toNatClampNeg) = q.1 s_.toNatClampNeg
    rw [Nat.mul_zero, Nat.zero_add, a3, a2]
  | 1, _ =>
    obtain ⟨p, -, a2, a3⟩ := h2 _ hl
    show R (24 * 1 + s_.toNatClampNeg) = q.2.1 s_.toNatClampNeg
    rw [Nat.mul_one, a3, a2]
  | 2, _ =>
    show R (24 * 2 + s_.toNatClampNeg) = oneI (dnI q.1 s_)
    rw [show 24 * 2 = 48 from rfl, dn_rel h1 hs]
    rcases dn01 q.1 s_ with z | z <;> rw [z] <;> rfl
  | 3, _ => exact bat_rel h3 n 0 0 (Nat.zero_add n)
  | 4, _ => exact place_rel h4 hg hm m 0 (Nat.zero_add m)
theorem gang_rel {m : Nat} {od g R : Nat → Int32} {x : Int32} (hm : m ≤ 6) (hg : g 0 = nI m) (h : rG od g R) (hx : vp_in x 7) : mgtold R x = gangS x od g := by
  obtain ⟨h1, h2, h3, h4, h5, h6⟩ := id h
  have ele : (g 0 ≤ 0) ↔ m = 0 := by
    rw [hg]
    exact (nI_leI (b := 0) (by omega) (by decide)).trans (by omega)
  have eeq : (g 0 = 0) ↔ m = 0 := by
    rw [hg]
    exact nI_eq (b := 0) (by omega) (by decide)
  obtain ⟨j, hj, rfl⟩ := vp_in_of hx (by decide)
  match j, hj with
  | 0, _ => exact h1
  | 1, _ =>
    show (if R 109 ≤ 0 then -1 else R 113) = if g 0 ≤ 0 then -1 else od 0
    rw [h2]
    by_cases z : m = 0
    · rw [if_pos (ele.mpr z), if_pos (ele.mpr z)]
    · rw [if_neg (fun y => z (ele.mp y)), if_neg (fun y => z (ele.mp y))]
      exact h6 m 0 hg hm (by omega)
  | 2, _ => exact h2
  | 3, _ => exact h3
  | 4, _ => exact h4
  | 5, _ => exact h5
  | 6, _ =>
    show (if R 109 ≤ 0 then -1 else mhrs R (R 113)) = hrsS od g
    unfold hrsS
    rw [h2]
    by_cases z : m = 0
    · rw [if_pos (ele.mpr z), if_pos (eeq.mpr z)]
    · rw [if_neg (fun y => z (ele.mp y)), if_neg (fun y => z (eeq.mp y))]
      have e113 : R 113 = od 0 := h6 m 0 hg hm (by omega)
      have e4 : ∀ y : Int32, y + 4 - 1 = y + 3 := fun y => by rw [Int32.sub_eq_add_neg, Int32.add_assoc]; rfl
      unfold mhrs
      rw [e113, h1, e4]
      rfl
/-! the checksum -/
theorem dg_cong {F G : Nat → Int32} : ∀ (d i : Nat) (a : Int64), (∀ k, i ≤ k → k < i + d → F k = G k) → dgL F d i a = dgL G d i a
  | 0, _, _, _ => rfl
  | d + 1, i, a, h => by
    unfold dgL
    rw [h i (by omega) (by omega)]
    exact dg_cong d (i + 1) _ fun k h1 h2 => h k (by omega) (by omega)
theorem dg_app {F : Nat → Int32} : ∀ (d e i : Nat) (a : Int64), dgL F (d + e) i a = dgL F e (i + d) (dgL F d i a)
  | 0, e, i, a => by rw [Nat.zero_add]; rfl
  | d + 1, e, i, a => by
    rw [show d + 1 + e = (d + e) + 1 by omega]
    show dgL F (d + e) (i + 1) (a * 31 + (F i).toInt64) = dgL F e (i + (d + 1)) (dgL F d (i + 1) (a * 31 + (F i).toInt64))
    rw [dg_app d e (i + 1), show i + 1 + d = i + (d + 1) by omega]
theorem dg_shift {F : Nat → Int32} : ∀ (d c i : Nat) (a : Int64), dgL F d (c + i) a = dgL (fun z => F (c + z)) d i a
  | 0, _, _, _ => rfl
  | d + 1, c, i, a => by
    unfold dgL
    exact dg_shift d c (i + 1) _
theorem dg_flat {F : Nat → Nat → Int32} {m : Nat} (hm : 0 < m) : ∀ (d i : Nat) (a : Int64), dg2 F m d i a = dgL (fun z => F (z / m) (z % m)) (m * d) (m * i) a
  | 0, _, _ => rfl
  | d + 1, i, a => by
    unfold dg2
    rw [dg_flat hm d (i + 1), show m * (d + 1) = m + m * d by rw [Nat.mul_add, Nat.mul_one, Nat.add_comm], dg_app, show m * (i + 1) = m * i + m by rw [Nat.mul_add, Nat.mul_one]]
    congr 1
    have e := dg_shift (F := fun z => F (z / m) (z % m)) m (m * i) 0 a
    rw [Nat.add_zero] at e
    rw [e]
    refine dg_cong m 0 a fun k _ hk => ?_
    have hk' : k < m := by omega
    show F i k = F ((m * i + k) / m) ((m * i + k) % m)
    rw [Nat.mul_add_div hm, Nat.div_eq_of_lt hk', Nat.add_zero, Nat.mul_add_mod, Nat.mod_eq_of_lt hk']
theorem digest_rel {n m : Nat} {ab : Nat → Nat} {q : RS} {R cd sw : Nat → Int32} {fd fn bu bc : Int32} (hn : n ≤ 6) (hm : m ≤ 6) (hg : q.2.2.2.1 0 = nI m) (hB : OkB q.2.2.2.2.1) (hbu : bu = bc) (h : Rel n ab q R) :
    dgL (fun z => mbtold R (nI (z / 7)) (nI (z % 7))) (7 * n) 0 (dgL (fun z => mstold R n m (nI (z / 5)) (nI (z % 5))) 120 0 (dgL (fun z => mgtold R (nI z)) 7 0 (dgT cd sw fd fn (dgL (fun z => mcounted R n bu (nI z)) 9 0 1301)))) =
    dg2 (fun y z => toldS (nI z) q.2.2.2.2.1 (ab (nI y).toNatClampNeg) q.1) 7 n 0 (dg2 (fun y z => spanS (nI y) (nI z) n m ab q.1 q.2.1 q.2.2.1 q.2.2.2.2.1) 5 24 0 (dgL (fun z => gangS (nI z) q.2.2.1 q.2.2.2.1) 7 0 (dgT cd sw fd fn (dgL (fun z => tallyS (nI z) n ab q.1 q.2.1 q.2.2.2.2.1 bc q.2.2.2.2.2.2 q.2.2.2.2.2.1) 9 0 1301)))) := by
  rw [dg_flat (by decide), dg_flat (by decide)]
  have e1 : dgL (fun z => mcounted R n bu (nI z)) 9 0 1301 = dgL (fun z => tallyS (nI z) n ab q.1 q.2.1 q.2.2.2.2.1 bc q.2.2.2.2.2.2 q.2.2.2.2.2.1) 9 0 1301 := dg_cong 9 0 _ fun k _ hk => counted_rel hB h hbu (vp_in_nI (by omega) (by decide))
  rw [e1]
  generalize dgT cd sw fd fn _ = a1
  have e2 : dgL (fun z => mgtold R (nI z)) 7 0 a1 = dgL (fun z => gangS (nI z) q.2.2.1 q.2.2.2.1) 7 0 a1 := dg_cong 7 0 _ fun k _ hk => gang_rel hm hg h.2.2.2.1 (vp_in_nI (by omega) (by decide))
  rw [e2]
  generalize dgL (fun z => gangS (nI z) q.2.2.1 q.2.2.2.1) 7 0 a1 = a2
  have e3 : dgL (fun z => mstold R n m (nI (z / 5)) (nI (z % 5))) 120 0 a2 = dgL (fun z => spanS (nI (z / 5)) (nI (z % 5)) n m ab q.1 q.2.1 q.2.2.1 q.2.2.2.2.1) 120 0 a2 := dg_cong 120 0 _ fun k _ hk => span_rel hm hg h (vp_in_nI (by omega) (by decide)) (vp_in_nI (by omega) (by decide))
  rw [e3]
  show dgL _ (7 * n) 0 (dgL _ 120 0 a2) = dgL _ (7 * n) (7 * 0) (dgL _ (5 * 24) (5 * 0) a2)
  show dgL _ (7 * n) 0 (dgL _ 120 0 a2) = dgL _ (7 * n) 0 (dgL _ 120 0 a2)
  exact dg_cong (7 * n) 0 _ fun k _ hk => told_rel hB h.1 h.2.2.1 (vp_in_nI (by omega) (by omega)) (vp_in_nI (by omega) (by decide))
/-! the ring ahead -/
theorem bcL_at {ab1 ab0 : Nat → Nat} {n : Nat} (hne : ∀ i j, i < n → j < n → ab1 i ≠ ab0 j) (hin : ∀ i j, i < n → j < n → ab1 i = ab1 j → i = j) : ∀ (d i : Nat) (B : Nat → Nat → Int32), i + d = n → (∀ j x, i ≤ j → j < n → x < 6 → bcL ab1 ab0 d i B (ab1 j) x = B (ab0 j) x) ∧ (∀ j x, j < n → bcL ab1 ab0 d i B (ab0 j) x = B (ab0 j) x) ∧ (∀ j x, j < i → j < n → bcL ab1 ab0 d i B (ab1 j) x = B (ab1 j) x)
  | 0, i, B, hi => ⟨fun j x h1 h2 h3 => by omega, fun _ _ _ => rfl, fun _ _ _ _ => rfl⟩
  | d + 1, i, B, hi => by
    obtain ⟨a1, a2, a3⟩ := bcL_at hne hin d (i + 1) (bcp B (ab1 i) (ab0 i)) (by omega)
    have c0 : ∀ j x, j < n → bcp B (ab1 i) (ab0 i) (ab0 j) x = B (ab0 j) x := fun j x hj => by
      have q : ¬ ab0 j = ab1 i := fun e => hne i j (by omega) hj e.symm
      simp [bcp, up2, q]
    have c1 : ∀ j x, j < n → j ≠ i → bcp B (ab1 i) (ab0 i) (ab1 j) x = B (ab1 j) x := fun j x hj hji => by
      have q : ¬ ab1 j = ab1 i := fun e => hji (hin j i hj (by omega) e)
      simp [bcp, up2, q]
    have c2 : ∀ x, x < 6 → bcp B (ab1 i) (ab0 i) (ab1 i) x = B (ab0 i) x := fun x hx => by
      match x, hx with
      | 0, _ => simp [bcp, up2]
      | 1, _ => simp [bcp, up2]
      | 2, _ => simp [bcp, up2]
      | 3, _ => simp [bcp, up2]
      | 4, _ => simp [bcp, up2]
      | 5, _ => simp [bcp, up2]
    unfold bcL
    refine ⟨fun j x h1 h2 h3 => ?_, fun j x hj => ?_, fun j x h1 h2 => ?_⟩
    · by_cases e : j = i
      · subst e
        rw [a3 j x (by omega) h2]
        exact c2 x h3
      · rw [a1 j x (by omega) h2 h3]
        exact c0 j x h2
    · rw [a2 j x hj]
      exact c0 j x hj
    · rw [a3 j x (by omega) h2]
      exact c1 j x h2 (by omega)
theorem cpy_rel {n : Nat} {ab0 ab1 : Nat → Nat} {w0 f0 od0 g0 w1 f1 od1 g1 : Nat → Int32} {B : Nat → Nat → Int32} {co0 hr0 : Int32} {rn ra : Nat → Int32} (hn : n ≤ 6) (hne : ∀ i j, i < n → j < n → ab1 i ≠ ab0 j) (hin : ∀ i j, i < n → j < n → ab1 i = ab1 j → i = j) (h : Rel n ab0 (w0, f0, od0, g0, B, co0, hr0) rn) : Rel n ab1 (cpR n ab0 ab1 w0 f0 od0 g0 B co0 hr0 w1 f1 od1 g1) (va_cpy rn ra 0 0 121) := by
  have e : ∀ k, k < 121 → va_cpy rn ra 0 0 121 k = rn k := fun k hk => by
    rw [pk_cpy_in (by omega) (by omega)]
    congr 1
    omega
  have e24 : ∀ (f g : Nat → Int32) k, k < 24 → va_cpy f g 0 0 24 k = f k := fun f g k hk => by
    rw [pk_cpy_in (by omega) (by omega)]
    congr 1
    omega
  have e6 : ∀ (f g : Nat → Int32) k, k < 6 → va_cpy f g 0 0 6 k = f k := fun f g k hk => by
    rw [pk_cpy_in (by omega) (by omega)]
    congr 1
    omega
  obtain ⟨h1, h2, h3, ⟨a1, a2, a3, a4, a5, a6⟩, h5, h6⟩ := h
  obtain ⟨b1, -, -⟩ := bcL_at hne hin n 0 B (Nat.zero_add n)
  refine ⟨fun k hk => ?_, fun k hk => ?_, fun j i hj hi => ?_, ⟨?_, ?_, ?_, ?_, ?_, fun m k x y z => ?_⟩, ?_, ?_⟩
  · obtain ⟨p, q1, q2, q3, q4⟩ := h1 k hk
    exact ⟨p, q1, (e24 w0 w1 k hk).trans q2, by rw [e _ (by omega)]; exact q3, by rw [e _ (by omega)]; exact q4⟩
  · obtain ⟨p, q1, q2, q3⟩ := h2 k hk
    exact ⟨p, q1, (e24 f0 f1 k hk).trans q2, by rw [e _ (by omega)]; exact q3⟩
  · rw [e _ (by omega), h3 j i hj hi]
    exact (b1 j i (Nat.zero_le j) hj hi).symm
  · rw [e _ (by omega)]; exact a1
  · rw [e _ (by omega)]; exact a2
  · rw [e _ (by omega)]; exact a3
  · rw [e _ (by omega)]; exact a4
  · rw [e _ (by omega)]; exact a5
  · rw [e _ (by omega)]
    exact (a6 m k x y z).trans (e6 od0 od1 k (by omega)).symm
  · rw [e _ (by omega)]; exact h5
  · rw [e _ (by omega)]; exact h6
theorem have_rel {n : Nat} {ab : Nat → Nat} {q : RS} {R : Nat → Int32} {s_ : Int32} (hn : n ≤ 6) (hs : s_ = -1 ∨ vp_in s_ 24) (h : Rel n ab q R) : Rel n ab (hvR q s_) (mhv R s_) := by
  have e : ∀ k, k ≠ 109 → k ≠ 113 → k ≠ 110 → mhv R s_ k = R k := fun k a b c => mhv_keep a b c
  have e109 : mhv R s_ 109 = if 0 ≤ s_ then 1 else 0 := by
    unfold mhv
    rw [upd_ne _ _ (by omega), upd_ne _ _ (by omega), pk_us]
  have e113 : mhv R s_ 113 = s_ := by
    unfold mhv
    rw [upd_ne _ _ (by omega), pk_us]
  have e110 : mhv R s_ 110 = 0 := by
    unfold mhv
    rw [pk_us]
  obtain ⟨h1, h2, h3, ⟨a1, a2, a3, a4, a5, a6⟩, h5, h6⟩ := h
  refine ⟨h1.fr fun k hk => e k (by omega) (by omega) (by omega), h2.fr fun k hk => e k (by omega) (by omega) (by omega), h3.fr hn fun k hk => e k (by omega) (by omega) (by omega), ?_, by rw [e _ (by omega) (by omega) (by omega)]; exact h5, by rw [e _ (by omega) (by omega) (by omega)]; exact h6⟩
  show rG (haveS q.2.2.1 q.2.2.2.1 s_).1 (haveS q.2.2.1 q.2.2.2.1 s_).2 (mhv R s_)
  by_cases z : s_ = -1
  · subst z
    rw [haveS, if_pos rfl]
    refine ⟨by rw [e _ (by omega) (by omega) (by omega)]; exact a1, by rw [e109]; rfl, e110, by rw [e _ (by omega) (by omega) (by omega)]; exact a4, by rw [e _ (by omega) (by omega) (by omega)]; exact a5, fun m k x y w => ?_⟩
    have x' : nI 0 = nI m := x
    have := (nI_eq (by omega) (by omega)).mp x'
    omega
  · have hv := hs.resolve_left z
    have h0 : 0 ≤ s_ := Int32.not_lt.mp (vp_ge0 hv)
    rw [haveS, if_neg z]
    refine ⟨by rw [e _ (by omega) (by omega) (by omega)]; exact a1, by rw [e109, if_pos h0]; rfl, e110, by rw [e _ (by omega) (by omega) (by omega)]; exact a4, by rw [e _ (by omega) (by omega) (by omega)]; exact a5, fun m k x y w => ?_⟩
    have x' : nI 1 = nI m := x
    have := (nI_eq (by omega) (by omega)).mp x'
    obtain rfl : k = 0 := by omega
    exact e113
