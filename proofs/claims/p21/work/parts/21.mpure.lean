/-! the reference: what each method does to its numbers; rw: a row of 121 -/
theorem vp_add {x : Int32} {n N : Nat} (c : Nat) (h : vp_in x n) (hN : c + n ≤ N) (hb : N < 2 ^ 31) : vp_in (nI c + x) N := by
  obtain ⟨j, hj, rfl⟩ := vp_in_of h (by omega)
  rw [nI_add]
  exact vp_in_nI (by omega) hb
theorem tn_add {x : Int32} {n : Nat} (c : Nat) (h : vp_in x n) (hb : c + n < 2 ^ 31) : (nI c + x).toNatClampNeg = c + x.toNatClampNeg := by
  obtain ⟨j, hj, rfl⟩ := vp_in_of h (by omega)
  rw [nI_add, nI_clamp (by omega), nI_clamp (by omega)]
theorem in48 {x : Int32} (h : vp_in x 24) : vp_in (48 + x) 121 := vp_add 48 h (by decide) (by decide)
theorem tn48 {x : Int32} (h : vp_in x 24) : (48 + x).toNatClampNeg = 48 + x.toNatClampNeg := tn_add 48 h (by decide)
theorem in24 {x : Int32} (h : vp_in x 24) : vp_in (24 + x) 121 := vp_add 24 h (by decide) (by decide)
theorem tn24 {x : Int32} (h : vp_in x 24) : (24 + x).toNatClampNeg = 24 + x.toNatClampNeg := tn_add 24 h (by decide)
theorem in0 {x : Int32} (h : vp_in x 24) : vp_in (0 + x) 121 := vp_add 0 h (by decide) (by decide)
theorem tn0 {x : Int32} (h : vp_in x 24) : (0 + x).toNatClampNeg = x.toNatClampNeg := (tn_add 0 h (by decide)).trans (Nat.zero_add _)
theorem inB {b : Int32} (k : Nat) (h : vp_in b 6) (hk : k < 6) : vp_in (72 + 6 * b + nI k) 121 := by
  obtain ⟨j, hj, rfl⟩ := vp_in_of h (by decide)
  show vp_in (nI 72 + nI 6 * nI j + nI k) 121
  rw [pk_mul, nI_add, nI_add]
  exact vp_in_nI (by omega) (by decide)
theorem tnB {b : Int32} (k : Nat) (h : vp_in b 6) (hk : k < 6) : (72 + 6 * b + nI k).toNatClampNeg = 72 + 6 * b.toNatClampNeg + k := by
  obtain ⟨j, hj, rfl⟩ := vp_in_of h (by decide)
  show (nI 72 + nI 6 * nI j + nI k).toNatClampNeg = _
  rw [pk_mul, nI_add, nI_add, nI_clamp (by omega), nI_clamp (by omega)]
theorem inB0 {b : Int32} (h : vp_in b 6) : vp_in (72 + 6 * b) 121 := by
  obtain ⟨j, hj, rfl⟩ := vp_in_of h (by decide)
  show vp_in (nI 72 + nI 6 * nI j) 121
  rw [pk_mul, nI_add]
  exact vp_in_nI (by omega) (by decide)
theorem tnB0 {b : Int32} (h : vp_in b 6) : (72 + 6 * b).toNatClampNeg = 72 + 6 * b.toNatClampNeg := by
  obtain ⟨j, hj, rfl⟩ := vp_in_of h (by decide)
  show (nI 72 + nI 6 * nI j).toNatClampNeg = _
  rw [pk_mul, nI_add, nI_clamp (by omega), nI_clamp (by omega)]
def inI (v lo hi : Int32) : Int32 := if v < lo then 0 else if hi < v then 0 else 1
theorem inI01 (v lo hi : Int32) : inI v lo hi = 0 ∨ inI v lo hi = 1 := by
  unfold inI
  split
  · exact Or.inl rfl
  · split
    · exact Or.inl rfl
    · exact Or.inr rfl
theorem inI_of {v lo hi : Int32} (h0 : ¬ v < lo) (h1 : ¬ hi < v) : inI v lo hi = 1 := by rw [inI, if_neg h0, if_neg h1]
theorem inI_ne {v lo hi : Int32} (h : ¬ inI v lo hi = 0) : ¬ v < lo ∧ ¬ hi < v := by
  unfold inI at h
  split at h
  · exact absurd rfl h
  · split at h
    · exact absurd rfl h
    · exact ⟨by assumption, by assumption⟩
theorem inI_vp {v : Int32} {N : Nat} (h : ¬ inI v 0 (nI N) = 0) (hN : N + 1 < 2 ^ 31) : vp_in v (N + 1) := by
  obtain ⟨h0, h1⟩ := inI_ne h
  rw [vp_in_iff]
  rw [Int32.lt_iff_toInt_lt] at h0 h1
  rw [nI_toInt (by omega)] at h1
  have e : (0 : Int32).toInt = 0 := rfl
  rw [e] at h0
  omega
theorem vp_inI {v : Int32} {N : Nat} (h : vp_in v (N + 1)) (hN : N + 1 < 2 ^ 31) : inI v 0 (nI N) = 1 := by
  refine inI_of (vp_ge0 h) ?_
  rw [vp_in_iff] at h
  rw [Int32.lt_iff_toInt_lt, nI_toInt (by omega)]
  omega
theorem vp_inI0 {v : Int32} {N : Nat} (h : ¬ vp_in v (N + 1)) (hN : N + 1 < 2 ^ 31) : inI v 0 (nI N) = 0 := (inI01 v 0 (nI N)).resolve_right fun e => h (inI_vp (by rw [e]; decide) hN)
def ntM (h : Int32) : Int32 := if ir h 24 < 6 then 1 else if ir h 24 ≤ 19 then 0 else 1
theorem ntM01 (h : Int32) : ntM h = 0 ∨ ntM h = 1 := by
  unfold ntM
  split
  · exact Or.inr rfl
  · split
    · exact Or.inl rfl
    · exact Or.inr rfl
def mwear (rw : Nat → Int32) (s_ by_ : Int32) : Nat → Int32 := if upd rw s_.toNatClampNeg (mmin 100 (rw s_.toNatClampNeg + by_)) s_.toNatClampNeg = 100 then upd (upd rw s_.toNatClampNeg (mmin 100 (rw s_.toNatClampNeg + by_))) (48 + s_.toNatClampNeg) 1 else upd rw s_.toNatClampNeg (mmin 100 (rw s_.toNatClampNeg + by_))
def mfrL (cd : Nat → Int32) (h : Int32) : Nat → Nat → (Nat → Int32) → (Nat → Int32)
  | 0, _, rw => rw
  | d + 1, i, rw => mfrL cd h d (i + 1) (upd rw i (if ntM h = 0 then mmax 0 (rw i - 2) else mmin 9 (rw i + cd (ir h 8).toNatClampNeg)))
def mrmL : Nat → Nat → (Nat → Int32) → (Nat → Int32)
  | 0, _, rw => rw
  | d + 1, i, rw => mrmL d (i + 1) (upd rw (113 + i) (rw (113 + i + 1)))
def mrem (rw : Nat → Int32) (p n : Nat) : Nat → Int32 := if nI p = 0 then upd (upd (mrmL (n - (p + 1)) p rw) 109 (mrmL (n - (p + 1)) p rw 109 - 1)) 110 0 else upd (mrmL (n - (p + 1)) p rw) 109 (mrmL (n - (p + 1)) p rw 109 - 1)
def mnx (rw : Nat → Int32) (t : Nat) : Int32 := ir (rw t + 1) 24
def mr1 (rw : Nat → Int32) (t : Nat) : Nat → Int32 := upd rw t (mnx rw t)
def mr2 (rw : Nat → Int32) (t : Nat) : Nat → Int32 := upd (mr1 rw t) (t + 3) (mr1 rw t (t + 3) + 1)
def mr3 (rw : Nat → Int32) (t : Nat) (fare : Int32) : Nat → Int32 := upd (mr2 rw t) (t + 4) (mr2 rw t (t + 4) + fare)
def mr4 (rw : Nat → Int32) (t : Nat) (fare : Int32) : Nat → Int32 := upd (mr3 rw t fare) 119 (mr3 rw t fare 119 + fare)
def mby (rw : Nat → Int32) (t : Nat) (fare : Int32) : Int32 := if mr4 rw t fare (t + 1) = 1 then 2 else 1 + mr4 rw t fare (24 + (mnx rw t).toNatClampNeg) / 2
def mr5 (rw : Nat → Int32) (t : Nat) (fare : Int32) : Nat → Int32 := if mr4 rw t fare (t + 1) = 1 then upd (mr4 rw t fare) (24 + (mnx rw t).toNatClampNeg) 0 else mr4 rw t fare
def mr6 (rw : Nat → Int32) (t : Nat) (fare : Int32) : Nat → Int32 := mwear (mr5 rw t fare) (mnx rw t) (mby rw t fare)
def mruL (t : Nat) (fare : Int32) : Nat → (Nat → Int32) → (Nat → Int32)
  | 0, rw => rw
  | d + 1, rw => if rw (48 + (mnx rw t).toNatClampNeg) = 1 then upd rw (t + 5) (rw (t + 5) + 1) else if mr6 rw t fare (48 + (mnx rw t).toNatClampNeg) = 1 then mr6 rw t fare else mruL t fare d (mr6 rw t fare)
def mfar (fd fn : Int32) (rw : Nat → Int32) : Int32 := if ntM (rw 120) = 0 then fd else fn
def mup (a b : Int32) : Int32 := ir (b - a + 24) 24
def mwb (rw : Nat → Int32) : Int32 := mmin 4 (mmin (mup (rw 108) (rw 113)) (24 - mup (rw 108) (rw 113)))
def mw1 (rw : Nat → Int32) : Nat → Int32 := upd rw 108 (ir (rw 108 + if 24 - mup (rw 108) (rw 113) < mup (rw 108) (rw 113) then 24 - mwb rw else mwb rw) 24)
def mw2 (rw : Nat → Int32) : Nat → Int32 := upd (mw1 rw) 119 (mw1 rw 119 - 2)
def mw3 (rw : Nat → Int32) : Nat → Int32 := upd (mw2 rw) 110 (mw2 rw 110 + 1)
def mw4 (rw : Nat → Int32) : Nat → Int32 := upd (mw3 rw) 111 (mw3 rw 111 + 1)
def mw5 (rw : Nat → Int32) : Nat → Int32 := upd (mw4 rw) (rw 113).toNatClampNeg (mmax 0 (mw4 rw (rw 113).toNatClampNeg - 30))
def mw6 (rw : Nat → Int32) : Nat → Int32 := upd (upd (mw4 rw) (48 + (rw 113).toNatClampNeg) 0) (rw 113).toNatClampNeg 50
def mw7 (rw : Nat → Int32) : Nat → Int32 := upd (mw6 rw) 112 (mw6 rw 112 + 1)
def mwork (n : Nat) (rw : Nat → Int32) : Nat → Int32 :=
  if rw 109 = 0 then rw else if mw1 rw 108 = rw 113 then (if mw4 rw (48 + (rw 113).toNatClampNeg) = 0 then (if 30 ≤ mw5 rw (rw 113).toNatClampNeg then mw5 rw else mrem (mw5 rw) 0 n) else if mw4 rw 110 < 2 then mw4 rw else mrem (mw7 rw) 0 n) else mw1 rw
def msum (rw : Nat → Int32) (a : Nat) : Nat → Nat → Int32 → Int32
  | 0, _, x => x
  | d + 1, i, x => msum rw a d (i + 1) (x + rw (a + i))
def mob (rw : Nat → Int32) (a : Nat) : Nat → Nat → Int32 → Int32
  | 0, _, x => x
  | d + 1, i, x => mob rw a d (i + 1) (x + rw (72 + 6 * i + a))
theorem upd_ne (f : Nat → Int32) {k j : Nat} (x : Int32) (h : j ≠ k) : upd f k x j = f j := pk_un h
