/-! the worlds, and what each method of the class does to its numbers -/
abbrev cW (cyI : ClassId) (aW aw af : Nat) (w f : Nat → Int32) : va_W := [(aW, .inr (4, [.ref aw, .ref af])), (aw, .inl (cyI, 24, .inl w)), (af, .inl (cyI, 24, .inl f))]
abbrev cG (cyI : ClassId) (aG ao : Nat) (od g : Nat → Int32) : va_W := [(aG, .inr (1, [.ref ao, .int (g 0), .int (g 1), .int (g 2), .int (g 3), .int (g 4)])), (ao, .inl (cyI, 6, .inl od))]
abbrev cT (cyI : ClassId) (aT ac as_ : Nat) (cd sw : Nat → Int32) (fd fn : Int32) : va_W := [(aT, .inr (3, [.ref ac, .ref as_, .int fd, .int fn])), (ac, .inl (cyI, 8, .inl cd)), (as_, .inl (cyI, 12, .inl sw))]
abbrev cR (cyI cyO : ClassId) (aR aW aw af aG ao aB : Nat) (ab : Nat → Nat) (w f od g : Nat → Int32) (bc hr co : Int32) : va_W := [(aR, .inr (2, [.ref aW, .ref aG, .ref aB, .int bc, .int hr, .int co])), (aW, .inr (4, [.ref aw, .ref af])), (aw, .inl (cyI, 24, .inl w)), (af, .inl (cyI, 24, .inl f)), (aG, .inr (1, [.ref ao, .int (g 0), .int (g 1), .int (g 2), .int (g 3), .int (g 4)])), (ao, .inl (cyI, 6, .inl od)), (aB, .inl (cyO, 6, .inr (.inr (.inr (.inr (fun k => some (ab k)))))))]
abbrev cX (aX aT aN aA : Nat) : va_W := [(aX, .inr (5, [.ref aT, .ref aN, .ref aA]))]
abbrev cM (aM ac as_ an ah : Nat) (th bu fd fn : Int32) : va_W := [(aM, .inr (6, [.int th, .int bu, .int fd, .int fn, .ref ac, .ref as_, .ref an, .ref ah]))]
abbrev cA (cyI : ClassId) (a n : Nat) (f : Nat → Int32) : va_W := [(a, .inl (cyI, n, .inl f))]
abbrev mmin (x y : Int32) : Int32 := if y < x then y else x
abbrev mmax (x y : Int32) : Int32 := if x < y then y else x
abbrev ir (x y : Int32) : Int32 := x - x / y * y
theorem fit01 {v : Int32} (h : v = 0 ∨ v = 1) : fits .boolean (.int v) = true := by
  rcases h with rfl | rfl <;> rfl
theorem ir_nI {a N : Nat} (ha : a < 2 ^ 31) (h0 : 0 < N) (hN : N < 2 ^ 31) : ir (nI a) (nI N) = nI (a % N) := pk_rem ha h0 hN
theorem ir24 {a : Nat} (ha : a < 2 ^ 31) : ir (nI a) 24 = nI (a % 24) := ir_nI ha (by decide) (by decide)
theorem spu_in {s_ : Int32} {i : Nat} (hs : vp_in s_ 24) (hi : i < 24) : vp_in (ir (s_ + nI i + 1) 24) 24 := by
  obtain ⟨j, hj, rfl⟩ := vp_in_of hs (by omega)
  rw [nI_add, nI_1, ir24 (by omega)]
  exact vp_in_nI (Nat.mod_lt _ (by omega)) (by omega)
theorem nxt_in {x : Int32} (hs : vp_in x 24) : vp_in (ir (x + 1) 24) 24 := by
  obtain ⟨j, hj, rfl⟩ := vp_in_of hs (by omega)
  rw [nI_1, ir24 (by omega)]
  exact vp_in_nI (Nat.mod_lt _ (by omega)) (by omega)
def oneI (b : Int32) : Int32 := if b = 0 then 0 else 1
-- Wires
def dnI (w : Nat → Int32) (i : Int32) : Int32 := if w i.toNatClampNeg < 100 then 0 else 1
def wearS (w : Nat → Int32) (i by_ : Int32) : Nat → Int32 := upd w i.toNatClampNeg (mmin 100 (w i.toNatClampNeg + by_))
def mendS (w : Nat → Int32) (i by_ : Int32) : Nat → Int32 := upd w i.toNatClampNeg (mmax 0 (w i.toNatClampNeg - by_))
def putS (w : Nat → Int32) (i : Int32) : Nat → Int32 := upd w i.toNatClampNeg 50
def frzL (cold : Int32) : Nat → Nat → (Nat → Int32) → (Nat → Int32)
  | 0, _, f => f
  | d + 1, i, f => frzL cold d (i + 1) (upd f i (mmin 9 (f i + cold)))
def thwL : Nat → Nat → (Nat → Int32) → (Nat → Int32)
  | 0, _, f => f
  | d + 1, i, f => thwL d (i + 1) (upd f i (mmax 0 (f i - 2)))
def sumL (f : Nat → Int32) : Nat → Nat → Int32 → Int32
  | 0, _, a => a
  | d + 1, i, a => sumL f d (i + 1) (a + f i)
def spdL (w : Nat → Int32) : Nat → Nat → Int32 → Int32
  | 0, _, a => a
  | d + 1, i, a => spdL w d (i + 1) (a + oneI (dnI w (nI i)))
def spuL (w : Nat → Int32) (s : Int32) : Nat → Nat → Int32
  | 0, i => nI i
  | d + 1, i => if dnI w (ir (s + nI i + 1) 24) = 0 then spuL w s d (i + 1) else nI i
-- Gang: g 0 orders, 1 at, 2 works at the first, 3 works in all, 4 put up in all
def pofL (od : Nat → Int32) (x : Int32) : Nat → Nat → Int32
  | 0, _ => -1
  | d + 1, i => if od i = x then nI i else pofL od x d (i + 1)
def tkL : Nat → Nat → (Nat → Int32) → (Nat → Int32)
  | 0, _, od => od
  | d + 1, i, od => tkL d (i + 1) (upd od (i - 1) (od i))
def takeS (od g : Nat → Int32) (p n : Nat) : (Nat → Int32) × (Nat → Int32) := (tkL (n - (p + 1)) (p + 1) od, if nI p = 0 then upd (upd g 0 (g 0 - 1)) 2 0 else upd g 0 (g 0 - 1))
def haveS (od g : Nat → Int32) (x : Int32) : (Nat → Int32) × (Nat → Int32) := if x = -1 then (od, upd (upd g 0 0) 2 0) else (upd od 0 x, upd (upd (upd g 0 0) 2 0) 0 1)
def upS (od g : Nat → Int32) : Int32 := ir (od 0 - g 1 + 24) 24
def hrsS (od g : Nat → Int32) : Int32 := if g 0 = 0 then -1 else (mmin (upS od g) (24 - upS od g) + 4 - 1) / 4
def wayS (od g : Nat → Int32) : Int32 := if 24 - upS od g < upS od g then -(mmin (24 - upS od g) 4) else mmin (upS od g) 4
def goS (od g : Nat → Int32) : Nat → Int32 := upd g 1 (ir (g 1 + wayS od g + 24) 24)
def gcp (g g2 : Nat → Int32) : Nat → Int32 := upd (upd (upd (upd (upd g 0 (g2 0)) 1 (g2 1)) 2 (g2 2)) 3 (g2 3)) 4 (g2 4)
-- Bus: 0 at, 1 scraper, 2 runs, 3 spans, 4 fares, 5 stuck
def comeS (B : Nat → Nat → Int32) (b : Nat) (s_ c_ : Int32) : Nat → Nat → Int32 := up2 (up2 (up2 B b 0 s_) b 1 c_) b 2 1
def bcp (B : Nat → Nat → Int32) (b b2 : Nat) : Nat → Nat → Int32 := up2 (up2 (up2 (up2 (up2 (up2 B b 0 (B b2 0)) b 1 (B b2 1)) b 2 (B b2 2)) b 3 (B b2 3)) b 4 (B b2 4)) b 5 (B b2 5)
def fareS (i fd fn : Int32) : Int32 := if i = 0 then fd else fn
def ntI (h : Int32) : Int32 := if ir h 24 ≤ 5 then 1 else if ir h 24 < 20 then 0 else 1
