/-! hours of the class, looks ahead, answers -/
theorem vp_lti {x : Int32} {N : Nat} (h : vp_in x N) (hN : N < 2 ^ 31) : x < nI N := by
  obtain ⟨j, hj, rfl⟩ := vp_in_of h hN
  exact nI_lt hj hN
theorem vp_ge0 {x : Int32} {N : Nat} (h : vp_in x N) : ¬ x < 0 := fun q => h (Or.inl q)
theorem vp_of {x : Int32} {N : Nat} (h0 : ¬ x < 0) (h1 : x < nI N) (hN : N < 2 ^ 31) : vp_in x N := by
  rw [vp_in_iff]
  rw [Int32.lt_iff_toInt_lt] at h0 h1
  rw [nI_toInt hN] at h1
  have e : (0 : Int32).toInt = 0 := rfl
  rw [e] at h0
  omega
theorem tkL_ok : ∀ (d i : Nat) (od : Nat → Int32), (∀ k, vp_in (od k) 24) → ∀ k, vp_in (tkL d i od k) 24
  | 0, _, _, h => h
  | d + 1, i, od, h => by
    unfold tkL
    refine tkL_ok d (i + 1) _ fun k => ?_
    unfold upd
    split
    · exact h i
    · exact h k
theorem iod_g (w g : Nat → Int32) (s_ : Int32) {k : Nat} (hk : k < 4) : (iodS w g s_).2.2 k = g k := by
  unfold iodS
  split
  · rfl
  · split
    · show upd g 4 (g 4 + 1) k = g k
      rw [upd, if_neg (by omega)]
    · rfl
theorem g2_1 (od g : Nat → Int32) : g2S od g 1 = goS od g 1 := rfl
theorem g2_0 (od g : Nat → Int32) : g2S od g 0 = g 0 := rfl
theorem gw_ok {m : Nat} {w od g : Nat → Int32} {co : Int32} (hm : m ≤ 6) (hg : g 0 = nI m) (ha : vp_in (g 1) 24) (ho : ∀ k, vp_in (od k) 24) : (∃ m' : Nat, m' ≤ 6 ∧ (gwS m w od g co).2.2.1 0 = nI m') ∧ vp_in ((gwS m w od g co).2.2.1 1) 24 ∧ ∀ k, vp_in ((gwS m w od g co).2.1 k) 24 := by
  have h1 : vp_in (goS od g 1) 24 := go_in ha (ho 0)
  unfold gwS
  split
  · exact ⟨⟨m, hm, hg⟩, ha, ho⟩
  · rename_i h0
    have hm0 : m ≠ 0 := fun e => h0 (by rw [hg, e]; rfl)
    split
    · split
      · refine ⟨⟨m, hm, ?_⟩, ?_, ho⟩
        · show (iodS w (g2S od g) (goS od g 1)).2.2 0 = _
          rw [iod_g _ _ _ (by omega), g2_0, hg]
        · show vp_in ((iodS w (g2S od g) (goS od g 1)).2.2 1) 24
          rw [iod_g _ _ _ (by omega), g2_1]
          exact h1
      · refine ⟨⟨m - 1, by omega, ?_⟩, ?_, ?_⟩
        · show (if nI 0 = 0 then upd (upd (iodS w (g2S od g) (goS od g 1)).2.2 0 ((iodS w (g2S od g) (goS od g 1)).2.2 0 - 1)) 2 0 else upd (iodS w (g2S od g) (goS od g 1)).2.2 0 ((iodS w (g2S od g) (goS od g 1)).2.2 0 - 1)) 0 = _
          rw [if_pos (show nI 0 = 0 from rfl)]
          show (iodS w (g2S od g) (goS od g 1)).2.2 0 - 1 = _
          rw [iod_g _ _ _ (by omega), g2_0, hg]
          exact pk_sub (a := m) (b := 1) (by omega)
        · show vp_in ((if nI 0 = 0 then upd (upd (iodS w (g2S od g) (goS od g 1)).2.2 0 ((iodS w (g2S od g) (goS od g 1)).2.2 0 - 1)) 2 0 else upd (iodS w (g2S od g) (goS od g 1)).2.2 0 ((iodS w (g2S od g) (goS od g 1)).2.2 0 - 1)) 1) 24
          rw [if_pos (show nI 0 = 0 from rfl)]
          show vp_in ((iodS w (g2S od g) (goS od g 1)).2.2 1) 24
          rw [iod_g _ _ _ (by omega), g2_1]
          exact h1
        · exact tkL_ok _ _ _ ho
    · exact ⟨⟨m, hm, hg⟩, h1, ho⟩
theorem busL_ok {ab : Nat → Nat} {fare : Int32} : ∀ (d i : Nat) (w f : Nat → Int32) (B : Nat → Nat → Int32) (co : Int32), OkB B → OkB (busL ab fare d i w f B co).2.2.1
  | 0, _, _, _, _, _, h => h
  | d + 1, i, w, f, B, co, h => by
    unfold busL
    exact busL_ok d (i + 1) _ _ _ _ (h.drive _ _ _ _ _)
def hourT (cd sw : Nat → Int32) (fd fn : Int32) (ab : Nat → Nat) (n : Nat) (q : RS) : RS := hourS cd sw fd fn ab n q.1 q.2.1 q.2.2.1 q.2.2.2.1 q.2.2.2.2.1 q.2.2.2.2.2.1 q.2.2.2.2.2.2
def hrsL (cd sw : Nat → Int32) (fd fn : Int32) (ab : Nat → Nat) (n : Nat) : Nat → RS → RS
  | 0, q => q
  | d + 1, q => hrsL cd sw fd fn ab n d (hourT cd sw fd fn ab n q)
/-- what holds of a ring's numbers; at most M hours -/
def OkQ (M : Nat) (q : RS) : Prop := OkR q.2.2.1 q.2.2.2.1 q.2.2.2.2.1 q.2.2.2.2.2.2 ∧ ∃ h : Nat, h ≤ M ∧ q.2.2.2.2.2.2 = nI h
theorem OkQ.hour {cd sw : Nat → Int32} {fd fn : Int32} {ab : Nat → Nat} {n M : Nat} {q : RS} (hM : M + 1 < 2 ^ 30) (h : OkQ M q) : OkQ (M + 1) (hourT cd sw fd fn ab n q) := by
  obtain ⟨⟨⟨m, hm, hg⟩, ha, ho, hB, -⟩, x, hx, hr⟩ := h
  have hh : (hourT cd sw fd fn ab n q).2.2.2.2.2.2 = nI (x + 1) := by
    show q.2.2.2.2.2.2 + 1 = _
    rw [hr, nI_1]
  have hc : (q.2.2.2.1 0).toNatClampNeg = m := by rw [hg, nI_clamp (by omega)]
  have hgw := gw_ok (w := (busL ab (fareS (ntI q.2.2.2.2.2.2) fd fn) n 0 (swanS q.1 (sw (ir q.2.2.2.2.2.2 12).toNatClampNeg)) (frS cd q.2.2.2.2.2.2 q.2.1) q.2.2.2.2.1 q.2.2.2.2.2.1).1) (co := (busL ab (fareS (ntI q.2.2.2.2.2.2) fd fn) n 0 (swanS q.1 (sw (ir q.2.2.2.2.2.2 12).toNatClampNeg)) (frS cd q.2.2.2.2.2.2 q.2.1) q.2.2.2.2.1 q.2.2.2.2.2.1).2.2.2) hm hg ha ho
  rw [← hc] at hgw
  exact ⟨⟨hgw.1, hgw.2.1, hgw.2.2, busL_ok _ _ _ _ _ _ hB, x + 1, by omega, hh⟩, x + 1, by omega, hh⟩
theorem OkQ.mono {M M' : Nat} {q : RS} (hM : M ≤ M') (h : OkQ M q) : OkQ M' q := ⟨h.1, h.2.imp fun _ z => ⟨Nat.le_trans z.1 hM, z.2⟩⟩
theorem OkQ.hrs {cd sw : Nat → Int32} {fd fn : Int32} {ab : Nat → Nat} {n : Nat} : ∀ (d M : Nat) (q : RS), M + d < 2 ^ 30 → OkQ M q → OkQ (M + d) (hrsL cd sw fd fn ab n d q)
  | 0, _, _, _, h => h
  | d + 1, M, q, hM, h => by
    have h2 := OkQ.hrs (cd := cd) (sw := sw) (fd := fd) (fn := fn) (ab := ab) (n := n) d (M + 1) (hourT cd sw fd fn ab n q) (by omega) (h.hour (by omega))
    rw [show M + (d + 1) = M + 1 + d by omega]
    exact h2
def tallyS (x : Int32) (n : Nat) (ab : Nat → Nat) (w f : Nat → Int32) (B : Nat → Nat → Int32) (bc hr co : Int32) : Int32 :=
  if x = 0 then hr else if x = 1 then oneI (ntI hr) else if x = 2 then co else if x = 3 then bc else if x = 4 then brL B ab n 0 0 else if x = 5 then spdL w 24 0 0 else if x = 6 then sumL w 24 0 0 else if x = 7 then sumL f 24 0 0 else bsL B ab n 0 0
theorem sw8 (x : Int32) : x = 0 ∨ x = 1 ∨ x = 2 ∨ x = 3 ∨ x = 4 ∨ x = 5 ∨ x = 6 ∨ x = 7 ∨ (x.toInt < 0 ∨ 7 < x.toInt) := by
  by_cases h : x.toInt < 0 ∨ 7 < x.toInt
  · simp only [h, or_true]
  · have e : x = nI x.toInt.toNat := by
      obtain ⟨j, hj, rfl⟩ := vp_in_of (x := x) (n := 8) (vp_in_iff.mpr (by omega)) (by omega)
      rw [nI_toInt (by omega)]; rfl
    have h8 : x.toInt.toNat < 8 := by omega
    generalize x.toInt.toNat = j at e h8
    subst e
    match j, h8 with
    | 0, _ => exact Or.inl rfl
    | 1, _ => exact Or.inr (Or.inl rfl)
    | 2, _ => exact Or.inr (Or.inr (Or.inl rfl))
    | 3, _ => exact Or.inr (Or.inr (Or.inr (Or.inl rfl)))
    | 4, _ => exact Or.inr (Or.inr (Or.inr (Or.inr (Or.inl rfl))))
    | 5, _ => exact Or.inr (Or.inr (Or.inr (Or.inr (Or.inr (Or.inl rfl)))))
    | 6, _ => exact Or.inr (Or.inr (Or.inr (Or.inr (Or.inr (Or.inr (Or.inl rfl))))))
    | 7, _ => exact Or.inr (Or.inr (Or.inr (Or.inr (Or.inr (Or.inr (Or.inr (Or.inl rfl)))))))
/-- a switch over 0 .. N - 1 -/
theorem swN (x : Int32) (N : Nat) (hN : N < 2 ^ 31) : (∃ j : Nat, j < N ∧ x = nI j) ∨ (x.toInt < 0 ∨ (N : Int) - 1 < x.toInt) := by
  by_cases h : x.toInt < 0 ∨ (N : Int) - 1 < x.toInt
  · exact Or.inr h
  · exact Or.inl (vp_in_of (vp_in_iff.mpr (by omega)) hN)
theorem sw4 (x : Int32) : x = 0 ∨ x = 1 ∨ x = 2 ∨ x = 3 ∨ (x.toInt < 0 ∨ 3 < x.toInt) := by
  rcases swN x 4 (by omega) with ⟨j, hj, rfl⟩ | h
  · match j, hj with
    | 0, _ => exact Or.inl rfl
    | 1, _ => exact Or.inr (Or.inl rfl)
    | 2, _ => exact Or.inr (Or.inr (Or.inl rfl))
    | 3, _ => exact Or.inr (Or.inr (Or.inr (Or.inl rfl)))
  · exact Or.inr (Or.inr (Or.inr (Or.inr (by omega))))
theorem sw6 (x : Int32) : x = 0 ∨ x = 1 ∨ x = 2 ∨ x = 3 ∨ x = 4 ∨ x = 5 ∨ (x.toInt < 0 ∨ 5 < x.toInt) := by
  rcases swN x 6 (by omega) with ⟨j, hj, rfl⟩ | h
  · match j, hj with
    | 0, _ => exact Or.inl rfl
    | 1, _ => exact Or.inr (Or.inl rfl)
    | 2, _ => exact Or.inr (Or.inr (Or.inl rfl))
    | 3, _ => exact Or.inr (Or.inr (Or.inr (Or.inl rfl)))
    | 4, _ => exact Or.inr (Or.inr (Or.inr (Or.inr (Or.inl rfl))))
    | 5, _ => exact Or.inr (Or.inr (Or.inr (Or.inr (Or.inr (Or.inl rfl)))))
  · exact Or.inr (Or.inr (Or.inr (Or.inr (Or.inr (Or.inr (by omega))))))
theorem nt8 {x : Int32} (h : x.toInt < 0 ∨ 7 < x.toInt) : ¬ x = 0 ∧ ¬ x = 1 ∧ ¬ x = 2 ∧ ¬ x = 3 ∧ ¬ x = 4 ∧ ¬ x = 5 ∧ ¬ x = 6 ∧ ¬ x = 7 := by
  refine ⟨?_, ?_, ?_, ?_, ?_, ?_, ?_, ?_⟩ <;> (rintro rfl; revert h; decide)
theorem nt4 {x : Int32} (h : x.toInt < 0 ∨ 3 < x.toInt) : ¬ x = 0 ∧ ¬ x = 1 ∧ ¬ x = 2 ∧ ¬ x = 3 := by
  refine ⟨?_, ?_, ?_, ?_⟩ <;> (rintro rfl; revert h; decide)
theorem nt6 {x : Int32} (h : x.toInt < 0 ∨ 5 < x.toInt) : ¬ x = 0 ∧ ¬ x = 1 ∧ ¬ x = 2 ∧ ¬ x = 3 ∧ ¬ x = 4 ∧ ¬ x = 5 := by
  refine ⟨?_, ?_, ?_, ?_, ?_, ?_⟩ <;> (rintro rfl; revert h; decide)
