/-! the worlds, and what each method of the class does to its numbers -/
abbrev cW (cyI : ClassId) (aW aw af : Nat) (w f : Nat → Int32) : va_W := [(aW, .inr (4, [.ref aw, .ref af])), (aw, .inl (cyI, 24, .inl w)), (af, .inl (cyI, 24, .inl f))]
abbrev cG (cyI : ClassId) (aG ao : Nat) (od g : Nat → Int32) : va_W := [(aG, .inr (1, [.ref ao, .int (g 0), .int (g 1), .int (g 2), .int (g 3), .int (g 4)])), (ao, .inl (cyI, 6, .inl od))]
abbrev cT (cyI : ClassId) (aT ac as_ : Nat) (cd sw : Nat → Int32) (fd fn : Int32) : va_W := [(aT, .inr (3, [.ref ac, .ref as_, .int fd, .int fn])), (ac, .inl (cyI, 8, .inl cd)), (as_, .inl (cyI, 12, .inl sw))]
abbrev cR (cyI cyO : ClassId) (aR aW aw af aG ao aB : Nat) (ab : Nat → Nat) (w f od g : Nat → Int32) (bc hr co : Int32) : va_W := [(aR, .inr (2, [.ref aW, .ref aG, .ref aB, .int bc, .int hr, .int co])), (aW, .inr (4, [.ref aw, .ref af])), (aw, .inl (cyI, 24, .inl w)), (af, .inl (cyI, 24, .inl f)), (aG, .inr (1, [.ref ao, .int (g 0), .int (g 1), .int (g 2), .int (g 3), .int (g 4)])), (ao, .inl (cyI, 6, .inl od)), (aB, .inl (cyO, 6, .inr (.inr (.inr (.inr (fun k => some (ab k)))))))]
abbrev cX (aX aT aN aA : Nat) : va_W := [(aX, .inr (5, [.ref aT, .ref aN, .ref aA]))]
abbrev cM (aM ac as_ an ah : Nat) (th bu fd fn : Int32) : va_W := [(aM, .inr (6, [.int th, .int bu, .int fd, .int fn, .ref ac, .ref as_, .ref an, .ref ah]))]
abbrev cA (cyI : ClassId) (a n : Nat) (f : Nat → Int32) : va_W := [(a, .inl (cyI, n, .inl f))]
abbrev mmin (x y : Int32) : Int32 := if y < x then y else x
abbrev mmax (x y : Int32) : Int32 := if x < y then y else x
abbrev ir (x y : Int32) : Int32 := x - x / y * y
theorem fit01 {v : Int32} (h : v = 0 ∨ v = 1) : fits .boolean (.int v) = true := by
  rcases h with rfl | rfl <;> rfl
theorem ir_nI {a N : Nat} (ha : a < 2 ^ 31) (h0 : 0 < N) (hN : N < 2 ^ 31) : ir (nI a) (nI N) = nI (a % N) := pk_rem ha h0 hN
theorem ir24 {a : Nat} (ha : a < 2 ^ 31) : ir (nI a) 24 = nI (a % 24) := ir_nI ha (by decide) (by decide)
theorem spu_in {s_ : Int32} {i : Nat} (hs : vp_in s_ 24) (hi : i < 24) : vp_in (ir (s_ + nI i + 1) 24) 24 := by
  obtain ⟨j, hj, rfl⟩ := vp_in_of hs (by omega)
  rw [nI_add, nI_1, ir24 (by omega)]
  exact vp_in_nI (Nat.mod_lt _ (by omega)) (by omega)
theorem nxt_in {x : Int32} (hs : vp_in x 24) : vp_in (ir (x + 1) 24) 24 := by
  obtain ⟨j, hj, rfl⟩ := vp_in_of hs (by omega)
  rw [nI_1, ir24 (by omega)]
  exact vp_in_nI (Nat.mod_lt _ (by omega)) (by omega)
def oneI (b : Int32) : Int32 := if b = 0 then 0 else 1
-- Wires
def dnI (w : Nat → Int32) (i : Int32) : Int32 := if w i.toNatClampNeg < 100 then 0 else 1
def wearS (w : Nat → Int32) (i by_ : Int32) : Nat → Int32 := upd w i.toNatClampNeg (mmin 100 (w i.toNatClampNeg + by_))
def mendS (w : Nat → Int32) (i by_ : Int32) : Nat → Int32 := upd w i.toNatClampNeg (mmax 0 (w i.toNatClampNeg - by_))
def putS (w : Nat → Int32) (i : Int32) : Nat → Int32 := upd w i.toNatClampNeg 50
def frzL (cold : Int32) : Nat → Nat → (Nat → Int32) → (Nat → Int32)
  | 0, _, f => f
  | d + 1, i, f => frzL cold d (i + 1) (upd f i (mmin 9 (f i + cold)))
def thwL : Nat → Nat → (Nat → Int32) → (Nat → Int32)
  | 0, _, f => f
  | d + 1, i, f => thwL d (i + 1) (upd f i (mmax 0 (f i - 2)))
def sumL (f : Nat → Int32) : Nat → Nat → Int32 → Int32
  | 0, _, a => a
  | d + 1, i, a => sumL f d (i + 1) (a + f i)
def spdL (w : Nat → Int32) : Nat → Nat → Int32 → Int32
  | 0, _, a => a
  | d + 1, i, a => spdL w d (i + 1) (a + oneI (dnI w (nI i)))
def spuL (w : Nat → Int32) (s : Int32) : Nat → Nat → Int32
  | 0, i => nI i
  | d + 1, i => if dnI w (ir (s + nI i + 1) 24) = 0 then spuL w s d (i + 1) else nI i
-- Gang: g 0 orders, 1 at, 2 works at the first, 3 works in all, 4 put up in all
def pofL (od : Nat → Int32) (x : Int32) : Nat → Nat → Int32
  | 0, _ => -1
  | d + 1, i => if od i = x then nI i else pofL od x d (i + 1)
def tkL : Nat → Nat → (Nat → Int32) → (Nat → Int32)
  | 0, _, od => od
  | d + 1, i, od => tkL d (i + 1) (upd od (i - 1) (od i))
def takeS (od g : Nat → Int32) (p n : Nat) : (Nat → Int32) × (Nat → Int32) := (tkL (n - (p + 1)) (p + 1) od, if nI p = 0 then upd (upd g 0 (g 0 - 1)) 2 0 else upd g 0 (g 0 - 1))
def haveS (od g : Nat → Int32) (x : Int32) : (Nat → Int32) × (Nat → Int32) := if x = -1 then (od, upd (upd g 0 0) 2 0) else (upd od 0 x, upd (upd (upd g 0 0) 2 0) 0 1)
def upS (od g : Nat → Int32) : Int32 := ir (od 0 - g 1 + 24) 24
def hrsS (od g : Nat → Int32) : Int32 := if g 0 = 0 then -1 else (mmin (upS od g) (24 - upS od g) + 4 - 1) / 4
def wayS (od g : Nat → Int32) : Int32 := if 24 - upS od g < upS od g then -(mmin (24 - upS od g) 4) else mmin (upS od g) 4
def goS (od g : Nat → Int32) : Nat → Int32 := upd g 1 (ir (g 1 + wayS od g + 24) 24)
def gcp (g g2 : Nat → Int32) : Nat → Int32 := upd (upd (upd (upd (upd g 0 (g2 0)) 1 (g2 1)) 2 (g2 2)) 3 (g2 3)) 4 (g2 4)
-- Bus: 0 at, 1 scraper, 2 runs, 3 spans, 4 fares, 5 stuck
def comeS (B : Nat → Nat → Int32) (b : Nat) (s_ c_ : Int32) : Nat → Nat → Int32 := up2 (up2 (up2 B b 0 s_) b 1 c_) b 2 1
def bcp (B : Nat → Nat → Int32) (b b2 : Nat) : Nat → Nat → Int32 := up2 (up2 (up2 (up2 (up2 (up2 B b 0 (B b2 0)) b 1 (B b2 1)) b 2 (B b2 2)) b 3 (B b2 3)) b 4 (B b2 4)) b 5 (B b2 5)
def fareS (i fd fn : Int32) : Int32 := if i = 0 then fd else fn
def ntI (h : Int32) : Int32 := if ir h 24 ≤ 5 then 1 else if ir h 24 < 20 then 0 else 1
-- Ring
def swanS (w : Nat → Int32) (s_ : Int32) : Nat → Int32 := if s_ = -1 then w else if dnI w s_ = 0 then wearS w s_ 25 else w
abbrev Q4 : Type := (Nat → Int32) × (Nat → Int32) × (Nat → Nat → Int32) × Int32
def nxS (B : Nat → Nat → Int32) (b : Nat) : Int32 := ir (B b 0 + 1) 24
def B1S (B : Nat → Nat → Int32) (b : Nat) (fare : Int32) : Nat → Nat → Int32 := up2 (up2 (up2 B b 0 (nxS B b)) b 3 (B b 3 + 1)) b 4 (B b 4 + fare)
def f1S (f : Nat → Int32) (B : Nat → Nat → Int32) (b : Nat) : Nat → Int32 := if B b 1 = 0 then f else upd f (nxS B b).toNatClampNeg 0
def w1S (w f : Nat → Int32) (B : Nat → Nat → Int32) (b : Nat) : Nat → Int32 := wearS w (nxS B b) (if B b 1 = 0 then 1 + f (nxS B b).toNatClampNeg / 2 else 2)
def drvL (b : Nat) (fare : Int32) : Nat → (Nat → Int32) → (Nat → Int32) → (Nat → Nat → Int32) → Int32 → Q4
  | 0, w, f, B, co => (w, f, B, co)
  | d + 1, w, f, B, co => if dnI w (nxS B b) = 0 then (if dnI (w1S w f B b) (nxS B b) = 0 then drvL b fare d (w1S w f B b) (f1S f B b) (B1S B b fare) (co + fare) else (w1S w f B b, f1S f B b, B1S B b fare, co + fare)) else (w, f, up2 B b 5 (B b 5 + 1), co)
def driveS (b : Nat) (fare : Int32) (w f : Nat → Int32) (B : Nat → Nat → Int32) (co : Int32) : Q4 := if B b 2 = 0 then (w, f, B, co) else drvL b fare 3 w f B co
def busL (ab : Nat → Nat) (fare : Int32) : Nat → Nat → (Nat → Int32) → (Nat → Int32) → (Nat → Nat → Int32) → Int32 → Q4
  | 0, _, w, f, B, co => (w, f, B, co)
  | d + 1, i, w, f, B, co => busL ab fare d (i + 1) (driveS (ab i) fare w f B co).1 (driveS (ab i) fare w f B co).2.1 (driveS (ab i) fare w f B co).2.2.1 (driveS (ab i) fare w f B co).2.2.2
def iodS (w g : Nat → Int32) (s_ : Int32) : Int32 × (Nat → Int32) × (Nat → Int32) :=
  if dnI w s_ = 0 then (if 30 ≤ mendS w s_ 30 s_.toNatClampNeg then 0 else 1, mendS w s_ 30, g) else if 2 ≤ g 2 then (1, putS w s_, upd g 4 (g 4 + 1)) else (0, w, g)
def g2S (od g : Nat → Int32) : Nat → Int32 := upd (upd (goS od g) 2 (goS od g 2 + 1)) 3 (goS od g 3 + 1)
/-- w, od, g, co behind the gang's work -/
def gwS (n : Nat) (w od g : Nat → Int32) (co : Int32) : (Nat → Int32) × (Nat → Int32) × (Nat → Int32) × Int32 :=
  if g 0 = 0 then (w, od, g, co) else if goS od g 1 = od 0 then
    (if (iodS w (g2S od g) (goS od g 1)).1 = 0 then ((iodS w (g2S od g) (goS od g 1)).2.1, od, (iodS w (g2S od g) (goS od g 1)).2.2, co - 2)
     else ((iodS w (g2S od g) (goS od g 1)).2.1, (takeS od (iodS w (g2S od g) (goS od g 1)).2.2 0 n).1, (takeS od (iodS w (g2S od g) (goS od g 1)).2.2 0 n).2, co - 2))
  else (w, od, goS od g, co)
theorem iod_g0 (w g : Nat → Int32) (s_ : Int32) : (iodS w g s_).2.2 0 = g 0 := by
  unfold iodS
  split
  · rfl
  · split <;> rfl
def baL (B : Nat → Nat → Int32) (ab : Nat → Nat) (x : Int32) : Nat → Nat → Int32 → Int32
  | 0, _, a => a
  | d + 1, i, a => baL B ab x d (i + 1) (a + if B (ab i) 0 = x then oneI 1 else oneI 0)
def brL (B : Nat → Nat → Int32) (ab : Nat → Nat) : Nat → Nat → Int32 → Int32
  | 0, _, a => a
  | d + 1, i, a => brL B ab d (i + 1) (a + oneI (B (ab i) 2))
def bsL (B : Nat → Nat → Int32) (ab : Nat → Nat) : Nat → Nat → Int32 → Int32
  | 0, _, a => a
  | d + 1, i, a => bsL B ab d (i + 1) (a + B (ab i) 5)
def OkB (B : Nat → Nat → Int32) : Prop := ∀ a, vp_in (B a 0) 24 ∧ (B a 1 = 0 ∨ B a 1 = 1) ∧ (B a 2 = 0 ∨ B a 2 = 1)
theorem OkB.up {B : Nat → Nat → Int32} (h : OkB B) {b k : Nat} {v : Int32} (hk : 3 ≤ k) : OkB (up2 B b k v) := by
  intro a
  have h0 : ¬ (0 = k ∧ a = b) := fun q => by omega
  have h1 : ¬ (1 = k ∧ a = b) := fun q => by omega
  have h2 : ¬ (2 = k ∧ a = b) := fun q => by omega
  simpa only [up2, if_neg h0, if_neg h1, if_neg h2] using h a
theorem OkB.up0 {B : Nat → Nat → Int32} (h : OkB B) {b : Nat} {v : Int32} (hv : vp_in v 24) : OkB (up2 B b 0 v) := by
  intro a
  refine ⟨?_, by simpa [up2] using (h a).2⟩
  unfold up2
  split
  · exact hv
  · exact (h a).1
theorem OkB.up1 {B : Nat → Nat → Int32} (h : OkB B) {b : Nat} {v : Int32} (hv : v = 0 ∨ v = 1) : OkB (up2 B b 1 v) := by
  intro a
  refine ⟨by simpa [up2] using (h a).1, ?_, by simpa [up2] using (h a).2.2⟩
  unfold up2
  split
  · exact hv
  · exact (h a).2.1
theorem OkB.up2_ {B : Nat → Nat → Int32} (h : OkB B) {b : Nat} {v : Int32} (hv : v = 0 ∨ v = 1) : OkB (up2 B b 2 v) := by
  intro a
  refine ⟨by simpa [up2] using (h a).1, by simpa [up2] using (h a).2.1, ?_⟩
  unfold up2
  split
  · exact hv
  · exact (h a).2.2
theorem OkB.nx {B : Nat → Nat → Int32} (h : OkB B) (b : Nat) : vp_in (nxS B b) 24 := nxt_in (h b).1
theorem OkB.b1 {B : Nat → Nat → Int32} (h : OkB B) (b : Nat) (fare : Int32) : OkB (B1S B b fare) := ((h.up0 (h.nx b)).up (by omega)).up (by omega)
theorem OkB.drvL {b : Nat} {fare : Int32} : ∀ (d : Nat) (w f : Nat → Int32) (B : Nat → Nat → Int32) (co : Int32), OkB B → OkB (drvL b fare d w f B co).2.2.1
  | 0, _, _, _, _, h => h
  | d + 1, w, f, B, co, h => by
    unfold _root_.Jvm.Pilot.@@N@@.drvL
    split
    · split
      · exact OkB.drvL d _ _ _ _ (h.b1 b fare)
      · exact h.b1 b fare
    · exact h.up (by omega)
theorem OkB.drive {B : Nat → Nat → Int32} (h : OkB B) (b : Nat) (fare : Int32) (w f : Nat → Int32) (co : Int32) : OkB (driveS b fare w f B co).2.2.1 := by
  unfold driveS
  split
  · exact h
  · exact OkB.drvL 3 w f B co h
theorem OkB.cp {B : Nat → Nat → Int32} (h : OkB B) (b b2 : Nat) : OkB (bcp B b b2) := by
  refine OkB.up (OkB.up (OkB.up (OkB.up2_ (OkB.up1 (OkB.up0 h ?_) ?_) ?_) ?_) ?_) ?_
  all_goals first | exact (h b2).1 | exact (h b2).2.1 | exact (h b2).2.2 | omega
def bcL (ab ab2 : Nat → Nat) : Nat → Nat → (Nat → Nat → Int32) → (Nat → Nat → Int32)
  | 0, _, B => B
  | d + 1, i, B => bcL ab ab2 d (i + 1) (bcp B (ab i) (ab2 i))
theorem go_dec : ∀ a, a < 24 → ∀ b, b < 24 → (0 ≤ (ir (nI a + (if 24 - ir (nI b - nI a + 24) 24 < ir (nI b - nI a + 24) 24 then -(mmin (24 - ir (nI b - nI a + 24) 24) 4) else mmin (ir (nI b - nI a + 24) 24) 4) + 24) 24).toInt ∧ (ir (nI a + (if 24 - ir (nI b - nI a + 24) 24 < ir (nI b - nI a + 24) 24 then -(mmin (24 - ir (nI b - nI a + 24) 24) 4) else mmin (ir (nI b - nI a + 24) 24) 4) + 24) 24).toInt < 24) := by decide +kernel
theorem go_in {od g : Nat → Int32} (h1 : vp_in (g 1) 24) (h0 : vp_in (od 0) 24) : vp_in (goS od g 1) 24 := by
  obtain ⟨a, ha, ea⟩ := vp_in_of h1 (by omega)
  obtain ⟨b, hb, eb⟩ := vp_in_of h0 (by omega)
  show vp_in (ir (g 1 + wayS od g + 24) 24) 24
  unfold wayS upS
  rw [ea, eb]
  exact vp_in_iff.mpr (go_dec a ha b hb)
