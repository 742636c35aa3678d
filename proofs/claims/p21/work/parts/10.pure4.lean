/-! the class' calls: its answers and its new numbers -/
theorem vp_lei {x : Int32} {N : Nat} (h : vp_in x (N + 1)) (hN : N + 1 < 2 ^ 31) : x ≤ nI N := by
  obtain ⟨j, hj, rfl⟩ := vp_in_of h hN
  exact nI_le (by omega) (by omega)
theorem m1_ne {n : Nat} (h : n < 2 ^ 31) : ¬ nI n = -1 := by
  intro e
  have h1 := congrArg Int32.toInt e
  rw [nI_toInt h] at h1
  have e2 : (-1 : Int32).toInt = -1 := rfl
  omega
theorem sw_ge {s_ : Int32} (h : s_ = -1 ∨ vp_in s_ 24) : ¬ s_ < -1 := by
  rcases h with rfl | h
  · decide
  · rw [vp_in_iff] at h
    rw [Int32.lt_iff_toInt_lt]
    have e2 : (-1 : Int32).toInt = -1 := rfl
    omega
theorem sw_lt {s_ : Int32} (h : s_ = -1 ∨ vp_in s_ 24) : s_ < 24 := by
  rcases h with rfl | h
  · decide
  · exact vp_lti (N := 24) h (by decide)
def setFS (i c fd fn : Int32) : Int32 × Int32 × Int32 := (fareS i fd fn, if i = 0 then c else fd, if i = 0 then fn else c)
def pkI (x : Int32) : Int32 := if x = 0 then 1 else 0
def pkS (B : Nat → Nat → Int32) (b : Nat) : Int32 × (Nat → Nat → Int32) := (pkI (B b 2), up2 B b 2 (pkI (B b 2)))
def toldS (x : Int32) (B : Nat → Nat → Int32) (b : Nat) (w : Nat → Int32) : Int32 := if x = 0 then B b 0 else if x = 1 then oneI (B b 1) else if x = 2 then oneI (B b 2) else if x = 3 then B b 3 else if x = 4 then B b 4 else if x = 5 then B b 5 else spuL w (B b 0) 24 0
def spanS (s_ x : Int32) (n m : Nat) (ab : Nat → Nat) (w f od : Nat → Int32) (B : Nat → Nat → Int32) : Int32 := if x = 0 then w s_.toNatClampNeg else if x = 1 then f s_.toNatClampNeg else if x = 2 then oneI (dnI w s_) else if x = 3 then baL B ab s_ n 0 0 else pofL od s_ m 0
def gangS (x : Int32) (od g : Nat → Int32) : Int32 := if x = 0 then g 1 else if x = 1 then (if g 0 ≤ 0 then -1 else od 0) else if x = 2 then g 0 else if x = 3 then g 2 else if x = 4 then g 3 else if x = 5 then g 4 else hrsS od g
/-- the ring ahead, as a copy of the ring now -/
abbrev cpR (n : Nat) (ab0 ab1 : Nat → Nat) (w0 f0 od0 g0 : Nat → Int32) (B : Nat → Nat → Int32) (co0 hr0 : Int32) (w1 f1 od1 g1 : Nat → Int32) : RS := (va_cpy w0 w1 0 0 24, va_cpy f0 f1 0 0 24, va_cpy od0 od1 0 0 6, gcp g1 g0, bcL ab1 ab0 n 0 B, co0, hr0)
theorem bcL_ok {ab ab2 : Nat → Nat} : ∀ (d i : Nat) (B : Nat → Nat → Int32), OkB B → OkB (bcL ab ab2 d i B)
  | 0, _, _, h => h
  | d + 1, i, B, h => bcL_ok (ab := ab) (ab2 := ab2) d (i + 1) _ (h.cp _ _)
theorem cpR_ok {M n : Nat} {ab0 ab1 : Nat → Nat} {w0 f0 od0 g0 : Nat → Int32} {B : Nat → Nat → Int32} {co0 hr0 : Int32} {w1 f1 od1 g1 : Nat → Int32} (h : OkQ M (w0, f0, od0, g0, B, co0, hr0)) (h1 : ∀ k, vp_in (od1 k) 24) : OkQ M (cpR n ab0 ab1 w0 f0 od0 g0 B co0 hr0 w1 f1 od1 g1) := by
  obtain ⟨⟨hg, ha, ho, hB, hh⟩, hx⟩ := h
  refine ⟨⟨hg, ha, fun k => ?_, bcL_ok n 0 B hB, hh⟩, hx⟩
  show vp_in (va_cpy od0 od1 0 0 6 k) 24
  unfold va_cpy
  split
  · exact ho _
  · exact h1 k
/-- only one order, or none -/
abbrev hvR (q : RS) (s_ : Int32) : RS := (q.1, q.2.1, (haveS q.2.2.1 q.2.2.2.1 s_).1, (haveS q.2.2.1 q.2.2.2.1 s_).2, q.2.2.2.2.1, q.2.2.2.2.2.1, q.2.2.2.2.2.2)
theorem hvR_ok {M : Nat} {q : RS} {s_ : Int32} (h : OkQ M q) (hs : s_ = -1 ∨ vp_in s_ 24) : OkQ M (hvR q s_) := by
  obtain ⟨⟨hg, ha, ho, hB, hh⟩, hx⟩ := h
  by_cases e : s_ = -1
  · refine ⟨⟨⟨0, by omega, ?_⟩, ?_, ?_, hB, hh⟩, hx⟩
    · show (haveS q.2.2.1 q.2.2.2.1 s_).2 0 = _
      rw [haveS, if_pos e]; rfl
    · show vp_in ((haveS q.2.2.1 q.2.2.2.1 s_).2 1) 24
      rw [haveS, if_pos e]; exact ha
    · show ∀ k, vp_in ((haveS q.2.2.1 q.2.2.2.1 s_).1 k) 24
      rw [haveS, if_pos e]; exact ho
  · refine ⟨⟨⟨1, by omega, ?_⟩, ?_, ?_, hB, hh⟩, hx⟩
    · show (haveS q.2.2.1 q.2.2.2.1 s_).2 0 = _
      rw [haveS, if_neg e]; rfl
    · show vp_in ((haveS q.2.2.1 q.2.2.2.1 s_).2 1) 24
      rw [haveS, if_neg e]; exact ha
    · show ∀ k, vp_in ((haveS q.2.2.1 q.2.2.2.1 s_).1 k) 24
      rw [haveS, if_neg e]
      intro k
      show vp_in (upd q.2.2.1 0 s_ k) 24
      unfold upd
      split
      · exact hs.resolve_left e
      · exact ho k
/-- the ring ahead behind h hours with the only order s_ -/
def cwR (cd sw : Nat → Int32) (fd fn : Int32) (n : Nat) (ab0 ab1 : Nat → Nat) (w0 f0 od0 g0 : Nat → Int32) (co0 hr0 : Int32) (s_ : Int32) (h : Nat) (q : RS) : RS := hrsL cd sw fd fn ab1 n h (hvR (cpR n ab0 ab1 w0 f0 od0 g0 q.2.2.2.2.1 co0 hr0 q.1 q.2.1 q.2.2.1 q.2.2.2.1) s_)
def fallsL (cd sw : Nat → Int32) (fd fn : Int32) (ab : Nat → Nat) (n : Nat) (s_ : Int32) : Nat → Nat → RS → Int32 × RS
  | 0, _, q => (-1, q)
  | d + 1, i, q => if dnI q.1 s_ = 0 then fallsL cd sw fd fn ab n s_ d (i + 1) (hrsL cd sw fd fn ab n 1 q) else (nI i, q)
def advL (CW : Int32 → RS → RS) : Nat → Nat → Int32 → Int32 → RS → Int32 × RS
  | 0, _, best, _, q => (best, q)
  | d + 1, i, best, most, q => if (CW (nI i) q).2.2.2.2.2.1 ≤ most then advL CW d (i + 1) best most (CW (nI i) q) else advL CW d (i + 1) (nI i) (CW (nI i) q).2.2.2.2.2.1 (CW (nI i) q)
def dgL (F : Nat → Int32) : Nat → Nat → Int64 → Int64
  | 0, _, a => a
  | d + 1, i, a => dgL F d (i + 1) (a * 31 + (F i).toInt64)
def dg2 (F : Nat → Nat → Int32) (m : Nat) : Nat → Nat → Int64 → Int64
  | 0, _, a => a
  | d + 1, i, a => dg2 F m d (i + 1) (dgL (F i) m 0 a)
def dgT (cd sw : Nat → Int32) (fd fn : Int32) (a : Int64) : Int64 := (dgL sw 12 0 (dgL cd 8 0 a) * 31 + fd.toInt64) * 31 + fn.toInt64
def mnS (w : Nat → Int32) : UInt64 := FP.ddiv (FP.i2d (sumL w 24 0 0)) 4627448617123184640
theorem mn_dec : ∀ k, k < 2401 → vf_n64 (FP.ddiv (FP.i2d (nI k)) 4627448617123184640) := by
  have h : ∀ k, k < 2401 → (FP.ddiv (FP.i2d (nI k)) 4627448617123184640) &&& 0x7fffffffffffffff ≤ 0x7ff0000000000000 := by decide +kernel
  exact h
theorem mn_ok {x : Int32} (h : ∃ k : Nat, k ≤ 2400 ∧ x = nI k) : vf_n64 (FP.ddiv (FP.i2d x) 4627448617123184640) := by
  obtain ⟨k, hk, rfl⟩ := h
  exact mn_dec k (by omega)
theorem okB1 {M M' : Nat} {w0 f0 od0 g0 : Nat → Int32} {B : Nat → Nat → Int32} {co0 hr0 : Int32} {q : RS} (h : OkQ M (w0, f0, od0, g0, B, co0, hr0)) (hq : OkQ M' q) : OkQ M (w0, f0, od0, g0, q.2.2.2.2.1, co0, hr0) := ⟨⟨h.1.1, h.1.2.1, h.1.2.2.1, hq.1.2.2.2.1, h.1.2.2.2.2⟩, h.2⟩
