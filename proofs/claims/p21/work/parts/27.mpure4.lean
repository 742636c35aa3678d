/-! the reference's calls -/
theorem inI_b {b bu : Int32} {n : Nat} (hbu : bu = nI n) (hn : n ≤ 6) (h : ¬ inI b 0 (bu - 1) = 0) : vp_in b n := by
  obtain ⟨h0, h1⟩ := inI_ne h
  rw [hbu] at h1
  rw [Int32.lt_iff_toInt_lt] at h0 h1
  have e : (0 : Int32).toInt = 0 := rfl
  rw [e] at h0
  have e2 : (nI n - 1).toInt = (n : Int) - 1 := pk_sub_toInt (a := n) (b := 1) (by omega) (by omega)
  rw [e2] at h1
  rw [vp_in_iff]
  omega
theorem inI_b1 {b bu : Int32} {n : Nat} (hbu : bu = nI n) (hn : n ≤ 6) (h : vp_in b n) : inI b 0 (bu - 1) = 1 := by
  refine inI_of (vp_ge0 h) ?_
  rw [hbu, Int32.lt_iff_toInt_lt]
  have e2 : (nI n - 1).toInt = (n : Int) - 1 := pk_sub_toInt (a := n) (b := 1) (by omega) (by omega)
  rw [e2]
  have := vp_in_iff.mp h
  omega
theorem inI_b0 {b bu : Int32} {n : Nat} (hbu : bu = nI n) (hn : n ≤ 6) (h : ¬ vp_in b n) : inI b 0 (bu - 1) = 0 := (inI01 _ _ _).resolve_right fun e => h (inI_b hbu hn (by rw [e]; decide))
theorem vp_mono {x : Int32} {n N : Nat} (h : vp_in x n) (hN : n ≤ N) : vp_in x N := by
  rw [vp_in_iff] at h ⊢
  omega
theorem tnB1 {b : Int32} (h : vp_in b 6) : (72 + 6 * b + 1).toNatClampNeg = 72 + 6 * b.toNatClampNeg + 1 := tnB 1 h (by decide)
theorem tnB2 {b : Int32} (h : vp_in b 6) : (72 + 6 * b + 2).toNatClampNeg = 72 + 6 * b.toNatClampNeg + 2 := tnB 2 h (by decide)
theorem inI_h {h lo hi : Nat} (h1 : lo ≤ h) (h2 : h ≤ hi) (hb : hi < 2 ^ 31) : ¬ inI (nI h) (nI lo) (nI hi) = 0 := by
  rw [inI_of (nI_nlt h1 (by omega)) (nI_nlt h2 hb)]
  decide
def mCb (s_ : Int32) : Int32 := if inI s_ 0 23 = 0 then 1 else 2
def mSetC (cd : Nat → Int32) (h_ c_ : Int32) : Int32 × Int32 × (Nat → Int32) := if inI h_ 0 7 = 0 then (0, 1, cd) else if inI c_ 0 3 = 0 then (0, 2, cd) else (cd h_.toNatClampNeg, 0, upd cd h_.toNatClampNeg c_)
def mSetW (sw : Nat → Int32) (h_ s_ : Int32) : Int32 × Int32 × (Nat → Int32) := if inI h_ 0 11 = 0 then (0, 1, sw) else if inI s_ (-1) 23 = 0 then (0, 2, sw) else (sw h_.toNatClampNeg, 0, upd sw h_.toNatClampNeg s_)
def mSetF (fd fn i_ c_ : Int32) : Int32 × Int32 × Int32 × Int32 := if inI c_ 0 9 = 0 then (0, 1, fd, fn) else if i_ = 0 then (fd, 0, c_, fn) else (fn, 0, fd, c_)
def mBus (rn : Nat → Int32) (n : Nat) (bu s_ c_ : Int32) : Int32 × Int32 × Int32 × (Nat → Int32) := if inI s_ 0 23 = 0 then (0, 1, bu, rn) else if nI n = 6 then (0, 2, bu, rn) else (nI n, 0, nI (n + 1), upd (upd (upd rn (72 + 6 * n) s_) (72 + 6 * n + 1) (if c_ = 0 then 0 else 1)) (72 + 6 * n + 2) 1)
def mFit (rn : Nat → Int32) (bu a_ b_ : Int32) : Int32 × Int32 × (Nat → Int32) :=
  if inI a_ 0 (bu - 1) = 0 then (0, 1, rn) else if inI b_ 0 (bu - 1) = 0 then (0, 1, rn) else if rn (72 + 6 * a_.toNatClampNeg + 1) = 0 then (0, 2, rn) else if rn (72 + 6 * b_.toNatClampNeg + 1) = 1 then (0, 2, rn) else
  (upd (upd rn (72 + 6 * a_.toNatClampNeg + 1) 0) (72 + 6 * b_.toNatClampNeg + 1) 1 (72 + 6 * b_.toNatClampNeg), 0, upd (upd rn (72 + 6 * a_.toNatClampNeg + 1) 0) (72 + 6 * b_.toNatClampNeg + 1) 1)
def mPark (rn : Nat → Int32) (bu b_ : Int32) : Int32 × Int32 × (Nat → Int32) :=
  if inI b_ 0 (bu - 1) = 0 then (0, 1, rn) else (if upd rn (72 + 6 * b_.toNatClampNeg + 2) (1 - rn (72 + 6 * b_.toNatClampNeg + 2)) (72 + 6 * b_.toNatClampNeg + 2) = 1 then 1 else 0, 0, upd rn (72 + 6 * b_.toNatClampNeg + 2) (1 - rn (72 + 6 * b_.toNatClampNeg + 2)))
def mTold (rn : Nat → Int32) (bu b_ x_ : Int32) : Int32 × Int32 := if inI b_ 0 (bu - 1) = 0 then (0, 1) else if inI x_ 0 6 = 0 then (0, 1) else (mbtold rn b_ x_, 0)
def mSpan (rn : Nat → Int32) (n k_ : Nat) (s_ x_ : Int32) : Int32 × Int32 := if inI s_ 0 23 = 0 then (0, 1) else if inI x_ 0 4 = 0 then (0, 1) else (mstold rn n k_ s_ x_, 0)
def mOrder (rn : Nat → Int32) (k_ : Nat) (s_ : Int32) : Int32 × Int32 × (Nat → Int32) :=
  if inI s_ 0 23 = 0 then (0, 1, rn) else if nI k_ = 6 then (0, 2, rn) else if mplace rn s_ k_ 0 < 0 then (upd (upd rn (113 + k_) s_) 109 (nI (k_ + 1)) 109, 0, upd (upd rn (113 + k_) s_) 109 (nI (k_ + 1))) else (0, 2, rn)
def mGang (rn : Nat → Int32) (x_ : Int32) : Int32 × Int32 := if inI x_ 0 6 = 0 then (0, 1) else (mgtold rn x_, 0)
def mCount (rn : Nat → Int32) (n : Nat) (bu x_ : Int32) : Int32 × Int32 := if inI x_ 0 8 = 0 then (0, 1) else (mcounted rn n bu x_, 0)
theorem OkN_cpy {M : Nat} {rn ra : Nat → Int32} (h : OkN M rn) : OkN M (va_cpy rn ra 0 0 121) := by
  have e : ∀ k, k < 121 → va_cpy rn ra 0 0 121 k = rn k := fun k hk => by
    rw [pk_cpy_in (by omega) (by omega)]
    congr 1
    omega
  obtain ⟨⟨⟨m, hm, hom, ho⟩, hat, x, hx, hr⟩, y, hy, hr2⟩ := h
  exact ⟨⟨⟨m, hm, by rw [e _ (by omega)]; exact hom, fun k hk => by rw [e _ (by omega)]; exact ho k hk⟩, fun j hj => by rw [e _ (by omega)]; exact hat j hj, x, hx, by rw [e _ (by omega)]; exact hr⟩, y, hy, by rw [e _ (by omega)]; exact hr2⟩
def mhv (rw : Nat → Int32) (s_ : Int32) : Nat → Int32 := upd (upd (upd rw 109 (if 0 ≤ s_ then 1 else 0)) 113 s_) 110 0
theorem mhv_keep {rw : Nat → Int32} {s_ : Int32} {k : Nat} (h1 : k ≠ 109) (h2 : k ≠ 113) (h3 : k ≠ 110) : mhv rw s_ k = rw k := by
  unfold mhv
  rw [upd_ne _ _ h3, upd_ne _ _ h2, upd_ne _ _ h1]
theorem OkN_hv {M : Nat} {rw : Nat → Int32} {s_ : Int32} (h : OkN M rw) (hs : s_ = -1 ∨ vp_in s_ 24) : OkN M (mhv rw s_) := by
  have e : ∀ k, k ≠ 109 → k ≠ 113 → k ≠ 110 → mhv rw s_ k = rw k := fun k h1 h2 h3 => mhv_keep h1 h2 h3
  have e109 : mhv rw s_ 109 = if 0 ≤ s_ then 1 else 0 := by
    unfold mhv
    rw [upd_ne _ _ (by omega), upd_ne _ _ (by omega), pk_us]
  have e113 : mhv rw s_ 113 = s_ := by
    unfold mhv
    rw [upd_ne _ _ (by omega), pk_us]
  obtain ⟨⟨-, hat, x, hx, hr⟩, y, hy, hr2⟩ := h
  refine ⟨⟨?_, fun j hj => by rw [e _ (by omega) (by omega) (by omega)]; exact hat j hj, x, hx, by rw [e _ (by omega) (by omega) (by omega)]; exact hr⟩, y, hy, by rw [e _ (by omega) (by omega) (by omega)]; exact hr2⟩
  by_cases h0 : 0 ≤ s_
  case neg => exact ⟨0, by omega, by rw [e109, if_neg h0]; rfl, fun k hk => by omega⟩
  case pos =>
    refine ⟨1, by omega, by rw [e109, if_pos h0]; rfl, fun k hk => ?_⟩
    obtain rfl : k = 0 := by omega
    rw [show 113 + 0 = 113 from rfl, e113]
    exact sw_vp hs (Int32.not_lt.mpr h0)
def mcw (cd sw : Nat → Int32) (fd fn : Int32) (n h_ : Nat) (rn : Nat → Int32) (s_ : Int32) (ra : Nat → Int32) : Nat → Int32 := mpaL cd sw fd fn n h_ (mhv (va_cpy rn ra 0 0 121) s_)
def mfaL (cd sw : Nat → Int32) (fd fn : Int32) (n : Nat) (s_ : Int32) : Nat → Nat → (Nat → Int32) → Int32 × (Nat → Int32)
  | 0, _, ra => (-1, ra)
  | d + 1, i, ra => if ra (48 + s_.toNatClampNeg) = 1 then (nI i, ra) else mfaL cd sw fd fn n s_ d (i + 1) (mpass cd sw fd fn n ra)
def madL (CW : Int32 → (Nat → Int32) → (Nat → Int32)) : Nat → Nat → Int32 → Int32 → (Nat → Int32) → Int32 × (Nat → Int32)
  | 0, _, best, _, ra => (best, ra)
  | d + 1, i, best, most, ra => if most < CW (nI i) ra 119 then madL CW d (i + 1) (nI i) (CW (nI i) ra 119) (CW (nI i) ra) else madL CW d (i + 1) best most (CW (nI i) ra)
def mmn (rn : Nat → Int32) : UInt64 := FP.ddiv (FP.i2d (msum rn 0 24 0 0)) 4627448617123184640
