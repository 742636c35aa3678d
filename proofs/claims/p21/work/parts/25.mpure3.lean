/-! the reference's hours keep its rows in range; looks ahead; answers -/
theorem work_keep {m : Nat} {rw : Nat → Int32} {k : Nat} (hm : m ≤ 6) (hom : rw 109 = nI m) (ho : 0 < m → vp_in (rw 113) 24) (hk : (72 ≤ k ∧ k < 108) ∨ 119 < k) : mwork m rw k = rw k := by
  unfold mwork
  split
  · rfl
  · rename_i h0
    have hp0 : 0 < m := Nat.pos_of_ne_zero fun e9 => h0 (by rw [hom, e9]; rfl)
    have ho1 := ho hp0
    have h4 : mw4 rw k = rw k := mw4_keep (by omega) (by omega) (by omega) (by omega)
    split
    · split
      · split
        · rw [mw5_keep ho1 (by omega), h4]
        · rw [mrem_keep hp0 (by omega), mw5_keep ho1 (by omega), h4]
      · split
        · exact h4
        · rw [mrem_keep hp0 (by omega), mw7_keep ho1 (by omega) (by omega), h4]
    · unfold mw1
      rw [upd_ne _ _ (by omega)]
theorem work_ok {m : Nat} {rw : Nat → Int32} (hm : m ≤ 6) (hom : rw 109 = nI m) (ho : ∀ k, k < m → vp_in (rw (113 + k)) 24) : ∃ m' : Nat, m' ≤ 6 ∧ mwork m rw 109 = nI m' ∧ ∀ k, k < m' → vp_in (mwork m rw (113 + k)) 24 := by
  unfold mwork
  split
  · exact ⟨m, hm, hom, ho⟩
  · rename_i h0
    have hp0 : 0 < m := Nat.pos_of_ne_zero fun e9 => h0 (by rw [hom, e9]; rfl)
    have ho1 : vp_in (rw 113) 24 := ho 0 hp0
    have h4 : ∀ k, 112 ≤ k → k < 119 → mw4 rw k = rw k := fun k h1 h2 => mw4_keep (by omega) (by omega) (by omega) (by omega)
    have h49 : mw4 rw 109 = rw 109 := mw4_keep (by omega) (by omega) (by omega) (by omega)
    have h5 : ∀ k, 24 ≤ k → mw5 rw k = mw4 rw k := fun k h1 => mw5_keep ho1 h1
    have h7 : ∀ k, 72 ≤ k → k ≠ 112 → mw7 rw k = mw4 rw k := fun k h1 h2 => mw7_keep ho1 h1 h2
    have hrem : ∀ R : Nat → Int32, R 109 = nI m → (∀ k, k < m → R (113 + k) = rw (113 + k)) → ∃ m' : Nat, m' ≤ 6 ∧ mrem R 0 m 109 = nI m' ∧ ∀ k, k < m' → vp_in (mrem R 0 m (113 + k)) 24 := by
      intro R h1 h2
      refine ⟨m - 1, by omega, ?_, fun k hk => ?_⟩
      · rw [mrem_109 hp0, h1]
        exact pk_sub (a := m) (b := 1) (by omega)
      · rw [mrem_in (by omega) (by omega), show 113 + k + 1 = 113 + (k + 1) by omega, h2 _ (by omega)]
        exact ho _ (by omega)
    split
    · split
      · split
        · exact ⟨m, hm, by rw [h5 _ (by omega), h49, hom], fun k hk => by rw [h5 _ (by omega), h4 _ (by omega) (by omega)]; exact ho k hk⟩
        · exact hrem _ (by rw [h5 _ (by omega), h49, hom]) fun k hk => by rw [h5 _ (by omega), h4 _ (by omega) (by omega)]
      · split
        · exact ⟨m, hm, by rw [h49, hom], fun k hk => by rw [h4 _ (by omega) (by omega)]; exact ho k hk⟩
        · exact hrem _ (by rw [h7 _ (by omega) (by omega), h49, hom]) fun k hk => by rw [h7 _ (by omega) (by omega), h4 _ (by omega) (by omega)]
    · refine ⟨m, hm, ?_, fun k hk => ?_⟩
      · unfold mw1; rw [upd_ne _ _ (by omega)]; exact hom
      · unfold mw1; rw [upd_ne _ _ (by omega)]; exact ho k hk
theorem mbuL_ok {fd fn : Int32} : ∀ (d i : Nat) (rw : Nat → Int32), i + d ≤ 6 → (∀ j, j < 6 → vp_in (rw (72 + 6 * j)) 24) → (∀ j, j < 6 → vp_in (mbuL fd fn d i rw (72 + 6 * j)) 24) ∧ ∀ k, 108 ≤ k → k ≠ 119 → mbuL fd fn d i rw k = rw k
  | 0, _, _, _, h => ⟨h, fun _ _ _ => rfl⟩
  | d + 1, i, rw, hi, h => by
    unfold mbuL
    split
    · obtain ⟨h1, h2⟩ := mbuL_ok d (i + 1) (mruL (72 + 6 * i) (mfar fd fn rw) 3 rw) (by omega) (mru_ats (by omega) h)
      exact ⟨h1, fun k h8 h9 => (h2 k h8 h9).trans (mru_hi (by omega) h h8 h9)⟩
    · exact mbuL_ok d (i + 1) rw (by omega) h
def OkN (M : Nat) (rw : Nat → Int32) : Prop := OkM rw ∧ ∃ h : Nat, h ≤ M ∧ rw 120 = nI h
theorem OkN.pass {cd sw : Nat → Int32} {fd fn : Int32} {n M : Nat} {rw : Nat → Int32} (hn : n ≤ 6) (hsw : ∀ k, sw k = -1 ∨ vp_in (sw k) 24) (hM : M + 1 < 2 ^ 30) (h : OkN M rw) : OkN (M + 1) (mpass cd sw fd fn n rw) := by
  obtain ⟨⟨⟨m, hm, hom, ho⟩, hat, -⟩, x, hx, hr⟩ := h
  have k2 : ∀ k, 72 ≤ k → mP2 cd sw rw k = rw k := fun k hk => P2_keep hsw hk
  obtain ⟨h1, h2⟩ := mbuL_ok (fd := fd) (fn := fn) n 0 (mP2 cd sw rw) (by omega) (fun j hj => by rw [k2 _ (by omega)]; exact hat j hj)
  have k3 : ∀ k, 108 ≤ k → k ≠ 119 → mbuL fd fn n 0 (mP2 cd sw rw) k = rw k := fun k h8 h9 => (h2 k h8 h9).trans (k2 k (by omega))
  generalize hR : mbuL fd fn n 0 (mP2 cd sw rw) = R at h1 h2 k3
  have hm' : (R 109).toNatClampNeg = m := by rw [k3 _ (by omega) (by omega), hom, nI_clamp (by omega)]
  have e : mpass cd sw fd fn n rw = upd (mwork m R) 120 (mwork m R 120 + 1) := by unfold mpass; rw [hR, hm']
  have hRm : R 109 = nI m := (k3 _ (by omega) (by omega)).trans hom
  have hRo : ∀ k, k < m → vp_in (R (113 + k)) 24 := fun k hk => by rw [k3 _ (by omega) (by omega)]; exact ho k hk
  obtain ⟨m', g1, g2, g3⟩ := work_ok hm hRm hRo
  have h120 : mwork m R 120 = nI x := by rw [work_keep hm hRm (fun h9 => hRo 0 h9) (by omega), k3 _ (by omega) (by omega), hr]
  have hh : mpass cd sw fd fn n rw 120 = nI (x + 1) := by rw [e, pk_us, h120, nI_1]
  refine ⟨⟨⟨m', g1, ?_, fun k hk => ?_⟩, fun j hj => ?_, x + 1, by omega, hh⟩, x + 1, by omega, hh⟩
  · rw [e, upd_ne _ _ (by omega)]; exact g2
  · rw [e, upd_ne _ _ (by omega)]; exact g3 k hk
  · rw [e, upd_ne _ _ (by omega), work_keep hm hRm (fun h9 => hRo 0 h9) (by omega)]; exact h1 j hj
def mpaL (cd sw : Nat → Int32) (fd fn : Int32) (n : Nat) : Nat → (Nat → Int32) → (Nat → Int32)
  | 0, rw => rw
  | d + 1, rw => mpaL cd sw fd fn n d (mpass cd sw fd fn n rw)
theorem OkN.passes {cd sw : Nat → Int32} {fd fn : Int32} {n : Nat} (hn : n ≤ 6) (hsw : ∀ k, sw k = -1 ∨ vp_in (sw k) 24) : ∀ (d M : Nat) (rw : Nat → Int32), M + d < 2 ^ 30 → OkN M rw → OkN (M + d) (mpaL cd sw fd fn n d rw)
  | 0, _, _, _, h => h
  | d + 1, M, rw, hM, h => by
    have h2 := OkN.passes (cd := cd) (sw := sw) (fd := fd) (fn := fn) (n := n) hn hsw d (M + 1) (mpass cd sw fd fn n rw) (by omega) (h.pass hn hsw (by omega))
    rw [show M + (d + 1) = M + 1 + d by omega]
    exact h2
def mfree (rw : Nat → Int32) (s_ : Int32) : Nat → Nat → Int32
  | 0, _ => 24
  | d + 1, i => if rw (48 + (ir (s_ + nI i) 24).toNatClampNeg) = 1 then nI i - 1 else mfree rw s_ d (i + 1)
theorem fre_in {s_ : Int32} {i : Nat} (hs : vp_in s_ 24) (hi : i < 25) : vp_in (ir (s_ + nI i) 24) 24 := by
  obtain ⟨j, hj, rfl⟩ := vp_in_of hs (by omega)
  rw [nI_add, ir24 (by omega)]
  exact vp_in_nI (Nat.mod_lt _ (by omega)) (by omega)
def mbtold (rw : Nat → Int32) (b x : Int32) : Int32 := if x = 6 then mfree rw (rw (72 + 6 * b.toNatClampNeg)) 24 1 else rw (72 + 6 * b.toNatClampNeg + x.toNatClampNeg)
def mbat (rw : Nat → Int32) (s_ : Int32) : Nat → Nat → Int32 → Int32
  | 0, _, a => a
  | d + 1, i, a => mbat rw s_ d (i + 1) (a + if rw (72 + 6 * i) = s_ then 1 else 0)
def mplace (rw : Nat → Int32) (s_ : Int32) : Nat → Nat → Int32
  | 0, _ => -1
  | d + 1, i => if rw (113 + i) = s_ then nI i else mplace rw s_ d (i + 1)
def mstold (rw : Nat → Int32) (n m : Nat) (s_ x : Int32) : Int32 := if 3 ≤ x then (if x = 3 then mbat rw s_ n 0 0 else mplace rw s_ m 0) else rw (24 * x.toNatClampNeg + s_.toNatClampNeg)
def mhrs (rw : Nat → Int32) (s_ : Int32) : Int32 := (mmin (mup (rw 108) s_) (24 - mup (rw 108) s_) + 3) / 4
def mgtold (rw : Nat → Int32) (x : Int32) : Int32 :=
  if x = 0 then rw 108 else if x = 1 then (if rw 109 ≤ 0 then -1 else rw 113) else if x = 2 then rw 109 else if x = 6 then (if rw 109 ≤ 0 then -1 else mhrs rw (rw 113)) else if x = 3 then rw 110 else if x = 4 then rw 111 else rw 112
def msummed (rw : Nat → Int32) (n : Nat) (x : Int32) : Int32 :=
  if x = 2 then rw 119 else if x = 5 then msum rw 48 24 0 0 else if x = 6 then msum rw 0 24 0 0 else if x = 7 then msum rw 24 24 0 0 else mob rw 5 n 0 0
def mcounted (rw : Nat → Int32) (n : Nat) (bu x : Int32) : Int32 :=
  if x = 0 then rw 120 else if x = 1 then (if ntM (rw 120) = 0 then 0 else 1) else if x = 3 then bu else if x = 4 then mob rw 2 n 0 0 else msummed rw n x
theorem inBx {b x : Int32} (hb : vp_in b 6) (hx : vp_in x 7) (h6 : ¬ x = 6) : vp_in (72 + 6 * b + x) 121 := by
  obtain ⟨j, hj, rfl⟩ := vp_in_of hx (by decide)
  exact inB j hb (by have : j ≠ 6 := fun e => h6 (by rw [e]; rfl); omega)
theorem tnBx {b x : Int32} (hb : vp_in b 6) (hx : vp_in x 7) (h6 : ¬ x = 6) : (72 + 6 * b + x).toNatClampNeg = 72 + 6 * b.toNatClampNeg + x.toNatClampNeg := by
  obtain ⟨j, hj, rfl⟩ := vp_in_of hx (by decide)
  rw [nI_clamp (by omega)]
  exact tnB j hb (by have : j ≠ 6 := fun e => h6 (by rw [e]; rfl); omega)
theorem vp3 {x : Int32} (h0 : ¬ x < 0) (h3 : ¬ 3 ≤ x) : vp_in x 3 := vp_of h0 (Int32.not_le.mp h3) (by decide)
theorem in24x {s_ x : Int32} (hs : vp_in s_ 24) (h0 : ¬ x < 0) (h3 : ¬ 3 ≤ x) : vp_in (24 * x + s_) 121 := by
  obtain ⟨j, hj, rfl⟩ := vp_in_of (vp3 h0 h3) (by decide)
  obtain ⟨k, hk, rfl⟩ := vp_in_of hs (by decide)
  show vp_in (nI 24 * nI j + nI k) 121
  rw [pk_mul, nI_add]
  exact vp_in_nI (by omega) (by decide)
theorem tn24x {s_ x : Int32} (hs : vp_in s_ 24) (h0 : ¬ x < 0) (h3 : ¬ 3 ≤ x) : (24 * x + s_).toNatClampNeg = 24 * x.toNatClampNeg + s_.toNatClampNeg := by
  obtain ⟨j, hj, rfl⟩ := vp_in_of (vp3 h0 h3) (by decide)
  obtain ⟨k, hk, rfl⟩ := vp_in_of hs (by decide)
  show (nI 24 * nI j + nI k).toNatClampNeg = _
  rw [pk_mul, nI_add, nI_clamp (by omega), nI_clamp (by omega), nI_clamp (by omega)]
theorem sw7 (x : Int32) : x = 0 ∨ x = 1 ∨ x = 2 ∨ x = 3 ∨ x = 4 ∨ x = 5 ∨ x = 6 ∨ (x.toInt < 0 ∨ 6 < x.toInt) := by
  rcases swN x 7 (by omega) with ⟨j, hj, rfl⟩ | h
  · match j, hj with
    | 0, _ => exact Or.inl rfl
    | 1, _ => exact Or.inr (Or.inl rfl)
    | 2, _ => exact Or.inr (Or.inr (Or.inl rfl))
    | 3, _ => exact Or.inr (Or.inr (Or.inr (Or.inl rfl)))
    | 4, _ => exact Or.inr (Or.inr (Or.inr (Or.inr (Or.inl rfl))))
    | 5, _ => exact Or.inr (Or.inr (Or.inr (Or.inr (Or.inr (Or.inl rfl)))))
    | 6, _ => exact Or.inr (Or.inr (Or.inr (Or.inr (Or.inr (Or.inr (Or.inl rfl))))))
  · exact Or.inr (Or.inr (Or.inr (Or.inr (Or.inr (Or.inr (Or.inr (by omega)))))))
theorem sw27 (x : Int32) : x = 2 ∨ x = 3 ∨ x = 4 ∨ x = 5 ∨ x = 6 ∨ x = 7 ∨ (x.toInt < 2 ∨ 7 < x.toInt) := by
  rcases sw8 x with h | h | h | h | h | h | h | h | h
  · exact Or.inr (Or.inr (Or.inr (Or.inr (Or.inr (Or.inr (by rw [h]; decide))))))
  · exact Or.inr (Or.inr (Or.inr (Or.inr (Or.inr (Or.inr (by rw [h]; decide))))))
  · exact Or.inl h
  · exact Or.inr (Or.inl h)
  · exact Or.inr (Or.inr (Or.inl h))
  · exact Or.inr (Or.inr (Or.inr (Or.inl h)))
  · exact Or.inr (Or.inr (Or.inr (Or.inr (Or.inl h))))
  · exact Or.inr (Or.inr (Or.inr (Or.inr (Or.inr (Or.inl h)))))
  · exact Or.inr (Or.inr (Or.inr (Or.inr (Or.inr (Or.inr (by omega))))))
theorem nt27 {x : Int32} (h : x.toInt < 2 ∨ 7 < x.toInt) : ¬ x = 2 ∧ ¬ x = 3 ∧ ¬ x = 4 ∧ ¬ x = 5 ∧ ¬ x = 6 ∧ ¬ x = 7 := by
  refine ⟨?_, ?_, ?_, ?_, ?_, ?_⟩ <;> (rintro rfl; revert h; decide)
