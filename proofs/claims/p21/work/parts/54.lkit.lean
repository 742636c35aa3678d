/-! the law: calls of the class -/
/-- contracts in some room that the law has -/
def GI (l : Launch) (y : MethodName) (wy : List Cond) (D : va_G) (cyI cyO cyL : ClassId) (As : List Value) (W W' : va_W) (r : Int32) : Prop := ∃ rm : Room, rm.cells = 0 ∧ rm.slots = 0 ∧ rm.frames ≤ 7 ∧ rm.locals ≤ 150 ∧ cI l y wy rm D cyI cyO cyL As W W' r
def GL (l : Launch) (y : MethodName) (wy : List Cond) (D : va_G) (cyI cyO cyL : ClassId) (As : List Value) (W W' : va_W) (r : Int64) : Prop := ∃ rm : Room, rm.cells = 0 ∧ rm.slots = 0 ∧ rm.frames ≤ 7 ∧ rm.locals ≤ 150 ∧ cL l y wy rm D cyI cyO cyL As W W' r
section MYL
variable {p : Program} {l : Launch} {e : Env} {R : Room} {s : State} {m : MethodId} {args : Array Value} {below : List Frame} {meth : Method} {c : Code} {H : Heap} {locs : List Loc} {cells slots : Nat} {Q : State → Prop}
variable {cc : ByteArray} {pc : Nat} {ls : Array Slot} {rest st0 : List Value} {D : va_G} {A : Nat → Prop} {a : Nat} {ws ws1 : va_W} {H0 : Heap} {cyI cyO cyL : ClassId} {ar : Array Value}
theorem ret_iJ {W1 W2 : va_W} {r : Int32} {mc ms : Nat} (hr : va_Run p l e R s m args below meth c H locs cells slots mc ms (F0 m pc ls st0) rest (va_Qi (fun (x : Int32) (_ : Unit) => x = r) (fun _ t => va_P D vwCl W2 t.heap) (va_A W1 H.size) ar) (va_A W1 H.size)) (hS : va_S A H0 H locs) (hF : ∀ q, va_A W1 H.size q → A q) (hj : ∀ H1 : Heap, (∀ q : Nat, q < H.size → ¬ va_A W1 H.size q → H1[q]? = H[q]?) → va_P D vwCl W2 H1 → va_P D vwCl ws1 H1 ∧ va_D A ws1)
    (kk : ∀ (H1 : Heap) (locs1 : List Loc), va_P D vwCl ws1 H1 → va_D A ws1 → va_S A H0 H1 locs1 → W p l e R s m args below meth c H1 locs1 (cells + mc) (slots + ms) Q (F0 m (pc + 3) ls (.int r :: rest))) : W p l e R s m args below meth c H locs cells slots Q (F0 m pc ls st0) := by
  refine va_calli hr hS (fun q _ h => hF q h) hF (fun r' u t H1 locs ht hvm hw1 hB hz1 hk1 hS => ?_)
  rw [ht] at hB
  subst hw1
  obtain ⟨a1, a2⟩ := hj H1 hk1 hB
  exact kk H1 locs a1 a2 hS
theorem ret_lJ {W1 W2 : va_W} {r : Int64} {mc ms : Nat} (hr : va_Run p l e R s m args below meth c H locs cells slots mc ms (F0 m pc ls st0) rest (va_Ql (fun (x : Int64) (_ : Unit) => x = r) (fun _ t => va_P D vwCl W2 t.heap) (va_A W1 H.size) ar) (va_A W1 H.size)) (hS : va_S A H0 H locs) (hF : ∀ q, va_A W1 H.size q → A q) (hj : ∀ H1 : Heap, (∀ q : Nat, q < H.size → ¬ va_A W1 H.size q → H1[q]? = H[q]?) → va_P D vwCl W2 H1 → va_P D vwCl ws1 H1 ∧ va_D A ws1)
    (kk : ∀ (H1 : Heap) (locs1 : List Loc), va_P D vwCl ws1 H1 → va_D A ws1 → va_S A H0 H1 locs1 → W p l e R s m args below meth c H1 locs1 (cells + mc) (slots + ms) Q (F0 m (pc + 3) ls (.long r :: rest))) : W p l e R s m args below meth c H locs cells slots Q (F0 m pc ls st0) := by
  refine va_calll hr hS (fun q _ h => hF q h) hF (fun r' u t H1 locs ht hvm hw1 hB hz1 hk1 hS => ?_)
  rw [ht] at hB
  subst hw1
  obtain ⟨a1, a2⟩ := hj H1 hk1 hB
  exact kk H1 locs a1 a2 hS
end MYL

abbrev AX : Type := Nat × (Nat → Nat) × Nat × (Nat → Nat) × Nat × (Nat → Nat)
/-- tables (colds, swans, fares), buses, the ring, the ring ahead and its count, thrown, the reference's rows -/
abbrev SG : Type := (Nat → Int32) × (Nat → Int32) × Int32 × Int32 × Nat × RS × RS × Int32 × Int32 × (Nat → Int32) × (Nat → Int32)
def WXs (cyI cyO : ClassId) (a : AX) (g : SG) : va_W := (cX a.1 (a.2.1 0) a.2.2.1 a.2.2.2.2.1 ++ cT cyI (a.2.1 0) (a.2.1 1) (a.2.1 2) g.1 g.2.1 g.2.2.1 g.2.2.2.1 ++ cR cyI cyO a.2.2.1 (a.2.2.2.1 0) (a.2.2.2.1 1) (a.2.2.2.1 2) (a.2.2.2.1 3) (a.2.2.2.1 4) (a.2.2.2.1 5) (fun k => a.2.2.2.1 (6 + k)) g.2.2.2.2.2.1.1 g.2.2.2.2.2.1.2.1 g.2.2.2.2.2.1.2.2.1 g.2.2.2.2.2.1.2.2.2.1 (nI g.2.2.2.2.1) g.2.2.2.2.2.1.2.2.2.2.2.2 g.2.2.2.2.2.1.2.2.2.2.2.1 ++ cR cyI cyO a.2.2.2.2.1 (a.2.2.2.2.2 0) (a.2.2.2.2.2 1) (a.2.2.2.2.2 2) (a.2.2.2.2.2 3) (a.2.2.2.2.2 4) (a.2.2.2.2.2 5) (fun k => a.2.2.2.2.2 (6 + k)) g.2.2.2.2.2.2.1.1 g.2.2.2.2.2.2.1.2.1 g.2.2.2.2.2.2.1.2.2.1 g.2.2.2.2.2.2.1.2.2.2.1 g.2.2.2.2.2.2.2.1 g.2.2.2.2.2.2.1.2.2.2.2.2.2 g.2.2.2.2.2.2.1.2.2.2.2.2.1) ++ pB (LB6 (fun k => a.2.2.2.1 (6 + k)) ++ LB6 (fun k => a.2.2.2.2.2 (6 + k))) g.2.2.2.2.2.1.2.2.2.2.1
theorem WXs_fst {cyI cyO : ClassId} {a : AX} (g g' : SG) : (WXs cyI cyO a g').map (fun q => q.1) = (WXs cyI cyO a g).map (fun q => q.1) := rfl
theorem WXs_recv {cyI cyO : ClassId} (a : AX) (g : SG) : (WXs cyI cyO a g)[0]? = some (a.1, .inr (5, [.ref (a.2.1 0), .ref a.2.2.1, .ref a.2.2.2.2.1])) := rfl
section MK
variable {l : Launch} {y : MethodName} {wy : List Cond} {rm : Room} {D : va_G} {cyI cyO cyL : ClassId} {As : List Value} {W W' : va_W}
theorem gi_mk {r : Int32} (h : cI l y wy rm D cyI cyO cyL As W W' r) (h1 : rm.cells = 0) (h2 : rm.slots = 0) (h3 : rm.frames ≤ 7) (h4 : rm.locals ≤ 150) : GI l y wy D cyI cyO cyL As W W' r := ⟨rm, h1, h2, h3, h4, h⟩
theorem gl_mk {r : Int64} (h : cL l y wy rm D cyI cyO cyL As W W' r) (h1 : rm.cells = 0) (h2 : rm.slots = 0) (h3 : rm.frames ≤ 7) (h4 : rm.locals ≤ 150) : GL l y wy D cyI cyO cyL As W W' r := ⟨rm, h1, h2, h3, h4, h⟩
end MK
/-- the buses' addresses -/
def Adr (a : AX) : Prop := (∀ i j, i < 6 → j < 6 → a.2.2.2.1 (6 + i) = a.2.2.2.1 (6 + j) → i = j) ∧ (∀ i j, i < 6 → j < 6 → a.2.2.2.2.2 (6 + i) = a.2.2.2.2.2 (6 + j) → i = j) ∧ ∀ i j, i < 6 → j < 6 → a.2.2.2.2.2 (6 + i) ≠ a.2.2.2.1 (6 + j)
def InvE (ab : Nat → Nat) (j : Nat) (cd sw : Nat → Int32) (n : Nat) (q : RS) (od1 rn : Nat → Int32) : Prop :=
  n ≤ 6 ∧ (∀ k, k < 8 → ∃ c : Nat, c ≤ 3 ∧ cd k = nI c) ∧ (∀ k, sw k = -1 ∨ vp_in (sw k) 24) ∧ OkQ (72 * j) q ∧ Rel n ab q rn ∧ (∀ k, vp_in (od1 k) 24) ∧ ∀ i x, n ≤ i → i < 6 → x < 6 → rn (72 + 6 * i + x) = 0 ∧ q.2.2.2.2.1 (ab i) x = 0
def Inv (a : AX) (j : Nat) (g : SG) : Prop := InvE (fun k => a.2.2.2.1 (6 + k)) j g.1 g.2.1 g.2.2.2.2.1 g.2.2.2.2.2.1 g.2.2.2.2.2.2.1.2.2.1 g.2.2.2.2.2.2.2.2.2.1
theorem InvE.mono {ab : Nat → Nat} {j : Nat} {cd sw : Nat → Int32} {n : Nat} {q : RS} {od1 rn : Nat → Int32} (h : InvE ab j cd sw n q od1 rn) : InvE ab (j + 1) cd sw n q od1 rn :=
  ⟨h.1, h.2.1, h.2.2.1, h.2.2.2.1.mono (by omega), h.2.2.2.2⟩
/-- the reference's row is in order where the class' ring is -/
theorem OkN_of {n M : Nat} {ab : Nat → Nat} {q : RS} {R : Nat → Int32} (hq : OkQ M q) (h : Rel n ab q R) (hz : ∀ i x, n ≤ i → i < 6 → x < 6 → R (72 + 6 * i + x) = 0 ∧ q.2.2.2.2.1 (ab i) x = 0) : OkN M R := by
  obtain ⟨⟨⟨m, hm, hg⟩, ha, ho, hB, h30⟩, hM⟩ := hq
  obtain ⟨r1, r2, r3, r4, r5, r6⟩ := h
  refine ⟨⟨⟨m, hm, r4.2.1.trans hg, fun k hk => ?_⟩, fun i hi => ?_, ?_⟩, ?_⟩
  · rw [r4.2.2.2.2.2 m k hg hm hk]
    exact ho k
  · by_cases hn : i < n
    · have e : R (72 + 6 * i) = q.2.2.2.2.1 (ab i) 0 := r3 i 0 hn (by decide)
      rw [e]
      exact (hB _).1
    · have e : R (72 + 6 * i) = 0 := (hz i 0 (by omega) hi (by decide)).1
      rw [e]
      exact vp_in_nI (n := 0) (N := 24) (by decide) (by decide)
  · rw [r6]
    exact h30
  · rw [r6]
    exact hM
theorem vp_ex {x : Int32} {N : Nat} (h : vp_in x N) (hN : N < 2 ^ 31) : ∃ k, k < N ∧ x = nI k := by
  have h1 := vp_in_iff.mp h
  refine ⟨x.toNatClampNeg, vp_lt h, ?_⟩
  apply Int32.toInt_inj.mp
  rw [nI_toInt (by have := vp_lt h; omega)]
  have e : x.toNatClampNeg = x.toInt.toNat := rfl
  rw [e]
  omega
theorem hrs_ex {x : Int32} {N : Nat} (h0 : ¬ x < 1) (h1 : x ≤ nI N) (hN : N + 1 < 2 ^ 31) : ∃ h, 1 ≤ h ∧ h ≤ N ∧ x = nI h := by
  rw [Int32.lt_iff_toInt_lt] at h0
  have e1 : (1 : Int32).toInt = 1 := rfl
  have h2 := h1
  rw [Int32.le_iff_toInt_le, nI_toInt (by omega)] at h2
  obtain ⟨k, hk, rfl⟩ := vp_ex (x := x) (N := N + 1) (vp_in_iff.mpr ⟨by omega, by omega⟩) (by omega)
  rw [nI_toInt (by omega)] at h0 h2
  exact ⟨k, by omega, by omega, rfl⟩
theorem LBin0 {a b : Nat → Nat} : ∀ k, k < 6 → a k ∈ LB6 a ++ LB6 b := fun k hk => List.mem_append_left _ (by
  match k, hk with
  | 0, _ => simp
  | 1, _ => simp
  | 2, _ => simp
  | 3, _ => simp
  | 4, _ => simp
  | 5, _ => simp)
theorem LBin1 {a b : Nat → Nat} : ∀ k, k < 6 → b k ∈ LB6 a ++ LB6 b := fun k hk => List.mem_append_right _ (by
  match k, hk with
  | 0, _ => simp
  | 1, _ => simp
  | 2, _ => simp
  | 3, _ => simp
  | 4, _ => simp
  | 5, _ => simp)
/-- a look ahead leaves the ring -/
theorem ahead_inv {ab0 ab1 : Nat → Nat} {j n : Nat} {cd sw : Nat → Int32} {w0 f0 od0 g0 : Nat → Int32} {B : Nat → Nat → Int32} {co0 hr0 : Int32} {od1 rn : Nat → Int32} (hne : ∀ i k, i < 6 → k < 6 → ab1 i ≠ ab0 k) (hI : InvE ab0 j cd sw n (w0, f0, od0, g0, B, co0, hr0) od1 rn) {M : Nat} {Q : RS} (hQ : OkQ M Q) (hk : ∀ a, (∀ i, i < n → a ≠ ab1 i) → Q.2.2.2.2.1 a = B a) : InvE ab0 (j + 1) cd sw n (w0, f0, od0, g0, Q.2.2.2.2.1, co0, hr0) Q.2.2.1 rn := by
  obtain ⟨hn, hcd, hsw, hok, hrel, ho1, hz⟩ := hI
  have hk0 : ∀ i, i < 6 → Q.2.2.2.2.1 (ab0 i) = B (ab0 i) := fun i hi => hk _ fun z hz e => hne z i (by omega) hi e.symm
  obtain ⟨⟨o1, o2, o3, o4, o5⟩, o6⟩ := hok.mono (show 72 * j ≤ 72 * (j + 1) by omega)
  obtain ⟨r1, r2, r3, r4, r5, r6⟩ := hrel
  refine ⟨hn, hcd, hsw, ⟨⟨o1, o2, o3, hQ.1.2.2.2.1, o5⟩, o6⟩, ⟨r1, r2, fun i x hi hx => ?_, r4, r5, r6⟩, hQ.1.2.2.1, fun i x h1 h2 h3 => ⟨(hz i x h1 h2 h3).1, ?_⟩⟩
  · show rn (72 + 6 * i + x) = Q.2.2.2.2.1 (ab0 i) x
    rw [hk0 i (by omega)]
    exact r3 i x hi hx
  · show Q.2.2.2.2.1 (ab0 i) x = 0
    rw [hk0 i h2]
    exact (hz i x h1 h2 h3).2
