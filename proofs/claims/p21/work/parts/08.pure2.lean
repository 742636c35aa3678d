/-! an hour of the class -/
def OkR (od g : Nat → Int32) (B : Nat → Nat → Int32) (hr : Int32) : Prop := (∃ m : Nat, m ≤ 6 ∧ g 0 = nI m) ∧ vp_in (g 1) 24 ∧ (∀ k, vp_in (od k) 24) ∧ OkB B ∧ ∃ h : Nat, h < 2 ^ 30 ∧ hr = nI h
/-- an hour that has not wrapped around -/
abbrev OkH (h : Int32) : Prop := ∃ n : Nat, n < 2 ^ 30 ∧ h = nI n
theorem fmod_h {h : Int32} {k : Nat} (hh : OkH h) (hk : k < 2 ^ 30) : 0 ≤ h ^^^ Int32.ofNat k := by
  obtain ⟨n, hn, rfl⟩ := hh
  rw [Int32.le_iff_toInt_le]
  have e : (nI n ^^^ Int32.ofNat k : Int32).toInt = ((BitVec.ofNat 32 n) ^^^ (BitVec.ofNat 32 k)).toInt := rfl
  rw [e]
  have hm : (BitVec.ofNat 32 n ^^^ BitVec.ofNat 32 k).msb = false := by
    rw [BitVec.msb_xor]
    have h1 : (BitVec.ofNat 32 n).msb = false := by
      rw [BitVec.msb_eq_decide]; simp; omega
    have h2 : (BitVec.ofNat 32 k).msb = false := by
      rw [BitVec.msb_eq_decide]; simp; omega
    rw [h1, h2]; rfl
  rw [BitVec.toInt_eq_toNat_of_msb hm]
  exact Int.natCast_nonneg _
theorem fmod_h24 {h : Int32} (hh : OkH h) : 0 ≤ h ^^^ 24 := fmod_h (k := 24) hh (by decide)
theorem fmod_h8 {h : Int32} (hh : OkH h) : 0 ≤ h ^^^ 8 := fmod_h (k := 8) hh (by decide)
theorem fmod_h12 {h : Int32} (hh : OkH h) : 0 ≤ h ^^^ 12 := fmod_h (k := 12) hh (by decide)
theorem ir_in8 {hr : Int32} (h : ∃ n : Nat, n < 2 ^ 30 ∧ hr = nI n) : vp_in (ir hr 8) 8 := by
  obtain ⟨n, hn, rfl⟩ := h
  rw [show ir (nI n) 8 = nI (n % 8) from ir_nI (by omega) (by decide) (by decide)]
  exact vp_in_nI (Nat.mod_lt _ (by omega)) (by omega)
theorem ir_in12 {hr : Int32} (h : ∃ n : Nat, n < 2 ^ 30 ∧ hr = nI n) : vp_in (ir hr 12) 12 := by
  obtain ⟨n, hn, rfl⟩ := h
  rw [show ir (nI n) 12 = nI (n % 12) from ir_nI (by omega) (by decide) (by decide)]
  exact vp_in_nI (Nat.mod_lt _ (by omega)) (by omega)
/-- w, f, od, g, B, co, hr -/
abbrev RS : Type := (Nat → Int32) × (Nat → Int32) × (Nat → Int32) × (Nat → Int32) × (Nat → Nat → Int32) × Int32 × Int32
def frS (cd : Nat → Int32) (hr : Int32) (f : Nat → Int32) : Nat → Int32 := if ntI hr = 0 then thwL 24 0 f else frzL (cd (ir hr 8).toNatClampNeg) 24 0 f
def hourS (cd sw : Nat → Int32) (fd fn : Int32) (ab : Nat → Nat) (n : Nat) (w f od g : Nat → Int32) (B : Nat → Nat → Int32) (co hr : Int32) : RS :=
  let q := busL ab (fareS (ntI hr) fd fn) n 0 (swanS w (sw (ir hr 12).toNatClampNeg)) (frS cd hr f) B co
  let z := gwS (g 0).toNatClampNeg q.1 od g q.2.2.2
  (z.1, q.2.1, z.2.1, z.2.2.1, q.2.2.1, z.2.2.2, hr + 1)
