/-! what the reference's steps leave as it was -/
theorem wear_keep {rw : Nat → Int32} {s_ by_ : Int32} {k : Nat} (hs : vp_in s_ 24) (hk : 72 ≤ k) : mwear rw s_ by_ k = rw k := by
  have h := vp_lt hs
  unfold mwear
  split
  · rw [upd_ne _ _ (by omega), upd_ne _ _ (by omega)]
  · rw [upd_ne _ _ (by omega)]
theorem mfr_keep {cd : Nat → Int32} {h : Int32} {k : Nat} : ∀ (d i : Nat) (rw : Nat → Int32), i + d ≤ k → mfrL cd h d i rw k = rw k
  | 0, _, _, _ => rfl
  | d + 1, i, rw, hk => by
    unfold mfrL
    rw [mfr_keep d (i + 1) _ (by omega), upd_ne _ _ (by omega)]
def mP1 (cd : Nat → Int32) (rw : Nat → Int32) : Nat → Int32 := mfrL cd (rw 120) 24 24 rw
def mbird (cd sw rw : Nat → Int32) : Int32 := sw (ir (mP1 cd rw 120) 12).toNatClampNeg
def mP2 (cd sw rw : Nat → Int32) : Nat → Int32 := if mbird cd sw rw < 0 then mP1 cd rw else if mP1 cd rw (48 + (mbird cd sw rw).toNatClampNeg) = 0 then mwear (mP1 cd rw) (mbird cd sw rw) 25 else mP1 cd rw
theorem P1_keep {cd rw : Nat → Int32} {k : Nat} (hk : 48 ≤ k) : mP1 cd rw k = rw k := mfr_keep 24 24 rw (by omega)
theorem sw_vp {x : Int32} (h : x = -1 ∨ vp_in x 24) (h0 : ¬ x < 0) : vp_in x 24 := h.resolve_left fun e => h0 (by rw [e]; decide)
theorem P2_keep {cd sw rw : Nat → Int32} {k : Nat} (hsw : ∀ k, sw k = -1 ∨ vp_in (sw k) 24) (hk : 72 ≤ k) : mP2 cd sw rw k = rw k := by
  unfold mP2
  split
  · exact P1_keep (by omega)
  · rename_i h0
    split
    · rw [wear_keep (sw_vp (x := mbird cd sw rw) (hsw _) h0) hk]
      exact P1_keep (by omega)
    · exact P1_keep (by omega)
theorem mnx_in {rw : Nat → Int32} {t : Nat} (h : vp_in (rw t) 24) : vp_in (mnx rw t) 24 := nxt_in h
theorem mr4_keep {rw : Nat → Int32} {t : Nat} {fare : Int32} {k : Nat} (h1 : k ≠ t) (h2 : k ≠ t + 3) (h3 : k ≠ t + 4) (h4 : k ≠ 119) : mr4 rw t fare k = rw k := by
  unfold mr4 mr3 mr2 mr1
  rw [upd_ne _ _ h4, upd_ne _ _ h3, upd_ne _ _ h2, upd_ne _ _ h1]
theorem mr4_t {rw : Nat → Int32} {t : Nat} {fare : Int32} (h : t ≠ 119) : mr4 rw t fare t = mnx rw t := by
  unfold mr4 mr3 mr2 mr1
  rw [upd_ne _ _ h, upd_ne _ _ (by omega), upd_ne _ _ (by omega), pk_us]
theorem mr5_keep {rw : Nat → Int32} {t : Nat} {fare : Int32} {k : Nat} (hat : vp_in (rw t) 24) (hk : 72 ≤ k) : mr5 rw t fare k = mr4 rw t fare k := by
  have h := vp_lt (mnx_in hat)
  unfold mr5
  split
  · rw [upd_ne _ _ (by omega)]
  · rfl
theorem mr6_keep {rw : Nat → Int32} {t : Nat} {fare : Int32} {k : Nat} (hat : vp_in (rw t) 24) (hk : 72 ≤ k) : mr6 rw t fare k = mr4 rw t fare k := by
  unfold mr6
  rw [wear_keep (mnx_in hat) hk, mr5_keep hat hk]
theorem mr6_t {rw : Nat → Int32} {t : Nat} {fare : Int32} (hat : vp_in (rw t) 24) (ht : 72 ≤ t) (ht2 : t ≠ 119) : vp_in (mr6 rw t fare t) 24 := by
  rw [mr6_keep hat ht, mr4_t ht2]
  exact mnx_in hat
theorem mru_keep {t : Nat} {fare : Int32} {k : Nat} (ht : 72 ≤ t) (ht2 : t + 6 ≤ 108) (hk : 72 ≤ k) (h1 : k < t ∨ t + 6 ≤ k) (h2 : k ≠ 119) : ∀ (d : Nat) (rw : Nat → Int32), vp_in (rw t) 24 → mruL t fare d rw k = rw k
  | 0, _, _ => rfl
  | d + 1, rw, hat => by
    have h6 : mr6 rw t fare k = rw k := by rw [mr6_keep hat hk, mr4_keep (by omega) (by omega) (by omega) h2]
    unfold mruL
    split
    · rw [upd_ne _ _ (by omega)]
    · split
      · exact h6
      · rw [mru_keep ht ht2 hk h1 h2 d _ (mr6_t hat ht (by omega)), h6]
theorem mru_t {t : Nat} {fare : Int32} (ht : 72 ≤ t) (ht2 : t + 6 ≤ 108) : ∀ (d : Nat) (rw : Nat → Int32), vp_in (rw t) 24 → vp_in (mruL t fare d rw t) 24
  | 0, _, h => h
  | d + 1, rw, hat => by
    unfold mruL
    split
    · rw [upd_ne _ _ (by omega)]
      exact hat
    · split
      · exact mr6_t hat ht (by omega)
      · exact mru_t ht ht2 d _ (mr6_t hat ht (by omega))
theorem mru_ats {fare : Int32} {i : Nat} {rw : Nat → Int32} (hi : i < 6) (hat : ∀ j, j < 6 → vp_in (rw (72 + 6 * j)) 24) : ∀ j, j < 6 → vp_in (mruL (72 + 6 * i) fare 3 rw (72 + 6 * j)) 24 := by
  intro j hj
  by_cases e : j = i
  · subst e
    exact mru_t (by omega) (by omega) 3 rw (hat j hj)
  · rw [mru_keep (by omega) (by omega) (by omega) (by omega) (by omega) 3 rw (hat i hi)]
    exact hat j hj
theorem mru_hi {fare : Int32} {i : Nat} {rw : Nat → Int32} (hi : i < 6) (hat : ∀ j, j < 6 → vp_in (rw (72 + 6 * j)) 24) {k : Nat} (hk : 108 ≤ k) (h2 : k ≠ 119) : mruL (72 + 6 * i) fare 3 rw k = rw k := mru_keep (by omega) (by omega) (by omega) (by omega) h2 3 rw (hat i hi)
def mbuL (fd fn : Int32) : Nat → Nat → (Nat → Int32) → (Nat → Int32)
  | 0, _, rw => rw
  | d + 1, i, rw => mbuL fd fn d (i + 1) (if rw (72 + 6 * i + 2) = 1 then mruL (72 + 6 * i) (mfar fd fn rw) 3 rw else rw)
theorem mw4_keep {rw : Nat → Int32} {k : Nat} (h1 : k ≠ 108) (h2 : k ≠ 119) (h3 : k ≠ 110) (h4 : k ≠ 111) : mw4 rw k = rw k := by
  unfold mw4 mw3 mw2 mw1
  rw [upd_ne _ _ h4, upd_ne _ _ h3, upd_ne _ _ h2, upd_ne _ _ h1]
theorem mw5_keep {rw : Nat → Int32} {k : Nat} (ho : vp_in (rw 113) 24) (hk : 24 ≤ k) : mw5 rw k = mw4 rw k := by
  have h := vp_lt ho
  unfold mw5
  rw [upd_ne _ _ (by omega)]
theorem mw7_keep {rw : Nat → Int32} {k : Nat} (ho : vp_in (rw 113) 24) (hk : 72 ≤ k) (h1 : k ≠ 112) : mw7 rw k = mw4 rw k := by
  have h := vp_lt ho
  unfold mw7 mw6
  rw [upd_ne _ _ h1, upd_ne _ _ (by omega), upd_ne _ _ (by omega)]
theorem mrm_keep {k : Nat} : ∀ (d i : Nat) (rw : Nat → Int32), (k < 113 + i ∨ 113 + i + d ≤ k) → mrmL d i rw k = rw k
  | 0, _, _, _ => rfl
  | d + 1, i, rw, h => by
    unfold mrmL
    rw [mrm_keep d (i + 1) _ (by omega), upd_ne _ _ (by omega)]
theorem mrm_in : ∀ (d i : Nat) (rw : Nat → Int32) (k : Nat), i ≤ k → k < i + d → mrmL d i rw (113 + k) = rw (113 + k + 1)
  | 0, _, _, _, h1, h2 => by omega
  | d + 1, i, rw, k, h1, h2 => by
    unfold mrmL
    by_cases e : k = i
    · subst e
      rw [mrm_keep d (k + 1) _ (by omega), pk_us]
    · rw [mrm_in d (i + 1) _ k (by omega) (by omega), upd_ne _ _ (by omega)]
theorem mrem_keep {rw : Nat → Int32} {p n k : Nat} (hp : p < n) (h : k < 109 ∨ (110 < k ∧ k < 113 + p) ∨ 113 + n ≤ k + 1) : mrem rw p n k = rw k := by
  unfold mrem
  split
  · rw [upd_ne _ _ (by omega), upd_ne _ _ (by omega), mrm_keep _ _ _ (by omega)]
  · rw [upd_ne _ _ (by omega), mrm_keep _ _ _ (by omega)]
theorem mrem_109 {rw : Nat → Int32} {p n : Nat} (hp : p < n) : mrem rw p n 109 = rw 109 - 1 := by
  unfold mrem
  split
  · rw [upd_ne _ _ (by omega), pk_us, mrm_keep _ _ _ (by omega)]
  · rw [pk_us, mrm_keep _ _ _ (by omega)]
theorem mrem_in {rw : Nat → Int32} {p n k : Nat} (h1 : p ≤ k) (h2 : k + 1 < n) : mrem rw p n (113 + k) = rw (113 + k + 1) := by
  unfold mrem
  split
  · rw [upd_ne _ _ (by omega), upd_ne _ _ (by omega), mrm_in _ _ _ _ (by omega) (by omega)]
  · rw [upd_ne _ _ (by omega), mrm_in _ _ _ _ (by omega) (by omega)]
/-- what must hold of a row, that its places are in range -/
def OkM (rw : Nat → Int32) : Prop := (∃ m : Nat, m ≤ 6 ∧ rw 109 = nI m ∧ ∀ k, k < m → vp_in (rw (113 + k)) 24) ∧ (∀ j, j < 6 → vp_in (rw (72 + 6 * j)) 24) ∧ ∃ h : Nat, h < 2 ^ 30 ∧ rw 120 = nI h
def mpass (cd sw : Nat → Int32) (fd fn : Int32) (n : Nat) (rw : Nat → Int32) : Nat → Int32 :=
  upd (mwork (mbuL fd fn n 0 (mP2 cd sw rw) 109).toNatClampNeg (mbuL fd fn n 0 (mP2 cd sw rw))) 120 (mwork (mbuL fd fn n 0 (mP2 cd sw rw) 109).toNatClampNeg (mbuL fd fn n 0 (mP2 cd sw rw)) 120 + 1)
