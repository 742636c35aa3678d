/-! looks ahead leave the buses now; calls that change the ring, side by side -/
theorem drv_keepB {b a : Nat} {fare : Int32} (h : a ≠ b) : ∀ (d : Nat) (w f : Nat → Int32) (B : Nat → Nat → Int32) (co : Int32), (drvL b fare d w f B co).2.2.1 a = B a
  | 0, _, _, _, _ => rfl
  | d + 1, w, f, B, co => by
    have e : ∀ k v (B' : Nat → Nat → Int32), up2 B' b k v a = B' a := fun k v B' => by
      funext x
      simp [up2, h]
    unfold drvL
    split
    · split
      · rw [drv_keepB h d]
        unfold B1S
        rw [e, e, e]
      · show B1S B b fare a = B a
        unfold B1S
        rw [e, e, e]
    · exact e _ _ _
theorem bus_keepB {ab : Nat → Nat} {n a : Nat} {fare : Int32} (h : ∀ j, j < n → a ≠ ab j) : ∀ (d i : Nat) (w f : Nat → Int32) (B : Nat → Nat → Int32) (co : Int32), i + d = n → (busL ab fare d i w f B co).2.2.1 a = B a
  | 0, _, _, _, _, _, _ => rfl
  | d + 1, i, w, f, B, co, hi => by
    unfold busL
    rw [bus_keepB h d (i + 1) _ _ _ _ (by omega)]
    unfold driveS
    split
    · rfl
    · exact drv_keepB (h i (by omega)) 3 w f B co
theorem hrs_keepB {cd sw : Nat → Int32} {fd fn : Int32} {ab : Nat → Nat} {n a : Nat} (h : ∀ j, j < n → a ≠ ab j) : ∀ (d : Nat) (q : RS), (hrsL cd sw fd fn ab n d q).2.2.2.2.1 a = q.2.2.2.2.1 a
  | 0, _ => rfl
  | d + 1, q => by
    unfold hrsL
    rw [hrs_keepB h d]
    exact bus_keepB h n 0 _ _ _ _ (Nat.zero_add n)
theorem bc_keepB {ab1 ab0 : Nat → Nat} {n a : Nat} (h : ∀ j, j < n → a ≠ ab1 j) : ∀ (d i : Nat) (B : Nat → Nat → Int32), i + d = n → bcL ab1 ab0 d i B a = B a
  | 0, _, _, _ => rfl
  | d + 1, i, B, hi => by
    unfold bcL
    rw [bc_keepB h d (i + 1) _ (by omega)]
    have q := h i (by omega)
    funext x
    simp [bcp, up2, q]
section SIM4
variable {cd sw : Nat → Int32} {fd fn : Int32} {ab0 ab1 : Nat → Nat} {n : Nat} {w0 f0 od0 g0 : Nat → Int32} {co0 hr0 : Int32} {rn : Nat → Int32}
theorem cw_rel (hn : n ≤ 6) (hne : ∀ i j, i < n → j < n → ab1 i ≠ ab0 j) (hin : ∀ i j, i < n → j < n → ab1 i = ab1 j → i = j) (hcd : ∀ k, k < 8 → ∃ c : Nat, c ≤ 3 ∧ cd k = nI c) (hsw : ∀ k, sw k = -1 ∨ vp_in (sw k) 24) {M h_ : Nat} {s_ : Int32} {q : RS} {ra : Nat → Int32} (hM : M + h_ < 2 ^ 30) (hs : s_ = -1 ∨ vp_in s_ 24) (hok : OkQ M (w0, f0, od0, g0, q.2.2.2.2.1, co0, hr0)) (ho1 : ∀ k, vp_in (q.2.2.1 k) 24) (h : Rel n ab0 (w0, f0, od0, g0, q.2.2.2.2.1, co0, hr0) rn) :
    Rel n ab1 (cwR cd sw fd fn n ab0 ab1 w0 f0 od0 g0 co0 hr0 s_ h_ q) (mcw cd sw fd fn n h_ rn s_ ra) ∧ OkQ (M + h_) (cwR cd sw fd fn n ab0 ab1 w0 f0 od0 g0 co0 hr0 s_ h_ q) ∧ ∀ a, (∀ j, j < n → a ≠ ab1 j) → (cwR cd sw fd fn n ab0 ab1 w0 f0 od0 g0 co0 hr0 s_ h_ q).2.2.2.2.1 a = q.2.2.2.2.1 a := by
  have c1 := cpy_rel (w1 := q.1) (f1 := q.2.1) (od1 := q.2.2.1) (g1 := q.2.2.2.1) (ra := ra) hn hne hin h
  have c2 := cpR_ok (n := n) (ab0 := ab0) (ab1 := ab1) (w1 := q.1) (f1 := q.2.1) (g1 := q.2.2.2.1) hok ho1
  have d1 := have_rel hn hs c1
  have d2 := hvR_ok c2 hs
  refine ⟨hours_rel hn hin hcd hsw h_ M _ _ hM d2 d1, OkQ.hrs h_ M _ hM d2, fun a ha => ?_⟩
  unfold cwR
  rw [hrs_keepB ha h_]
  exact bc_keepB ha n 0 _ (Nat.zero_add n)
theorem adv_rel (hn : n ≤ 6) (hne : ∀ i j, i < n → j < n → ab1 i ≠ ab0 j) (hin : ∀ i j, i < n → j < n → ab1 i = ab1 j → i = j) (hcd : ∀ k, k < 8 → ∃ c : Nat, c ≤ 3 ∧ cd k = nI c) (hsw : ∀ k, sw k = -1 ∨ vp_in (sw k) 24) {M h_ : Nat} {B : Nat → Nat → Int32} (hM : M + h_ < 2 ^ 30) (hok : OkQ M (w0, f0, od0, g0, B, co0, hr0)) (h : Rel n ab0 (w0, f0, od0, g0, B, co0, hr0) rn) :
    ∀ (d i : Nat) (best most : Int32) (q : RS) (ra : Nat → Int32), i + d = 24 → (∀ a, (∀ j, j < n → a ≠ ab1 j) → q.2.2.2.2.1 a = B a) → OkQ (M + h_) q →
    (advL (fun z => cwR cd sw fd fn n ab0 ab1 w0 f0 od0 g0 co0 hr0 z h_) d i best most q).1 = (madL (fun z => mcw cd sw fd fn n h_ rn z) d i best most ra).1 ∧ (∀ a, (∀ j, j < n → a ≠ ab1 j) → (advL (fun z => cwR cd sw fd fn n ab0 ab1 w0 f0 od0 g0 co0 hr0 z h_) d i best most q).2.2.2.2.2.1 a = B a) ∧ OkQ (M + h_) (advL (fun z => cwR cd sw fd fn n ab0 ab1 w0 f0 od0 g0 co0 hr0 z h_) d i best most q).2
  | 0, _, _, _, _, _, _, hB, hq => ⟨rfl, hB, hq⟩
  | d + 1, i, best, most, q, ra, hi, hB, hq => by
    have hk0 : ∀ j, j < n → q.2.2.2.2.1 (ab0 j) = B (ab0 j) := fun j hj => hB _ fun z hz e => hne z j hz hj e.symm
    have hrel : Rel n ab0 (w0, f0, od0, g0, q.2.2.2.2.1, co0, hr0) rn := ⟨h.1, h.2.1, fun j x hj hx => (h.2.2.1 j x hj hx).trans (congrFun (hk0 j hj) x).symm, h.2.2.2.1, h.2.2.2.2.1, h.2.2.2.2.2⟩
    obtain ⟨c1, c2, c3⟩ := cw_rel (fd := fd) (fn := fn) (s_ := nI i) (ra := ra) hn hne hin hcd hsw hM (Or.inr (vp_in_nI (show i < 24 by omega) (by decide))) (okB1 hok hq) hq.1.2.2.1 hrel
    have hB' : ∀ a, (∀ j, j < n → a ≠ ab1 j) → (cwR cd sw fd fn n ab0 ab1 w0 f0 od0 g0 co0 hr0 (nI i) h_ q).2.2.2.2.1 a = B a := fun a ha => (c3 a ha).trans (hB a ha)
    have e := c1.2.2.2.2.1
    unfold advL madL
    rw [e]
    by_cases z : (cwR cd sw fd fn n ab0 ab1 w0 f0 od0 g0 co0 hr0 (nI i) h_ q).2.2.2.2.2.1 ≤ most
    · rw [if_pos z, if_neg (Int32.not_lt.mpr z)]
      exact adv_rel hn hne hin hcd hsw hM hok h d (i + 1) best most _ _ (by omega) hB' c2
    · rw [if_neg z, if_pos (Int32.not_le.mp z)]
      exact adv_rel hn hne hin hcd hsw hM hok h d (i + 1) _ _ _ _ (by omega) hB' c2
theorem falls_rel (hn : n ≤ 6) (hin : ∀ i j, i < n → j < n → ab1 i = ab1 j → i = j) (hcd : ∀ k, k < 8 → ∃ c : Nat, c ≤ 3 ∧ cd k = nI c) (hsw : ∀ k, sw k = -1 ∨ vp_in (sw k) 24) {s_ : Int32} (hs : vp_in s_ 24) :
    ∀ (d i M : Nat) (q : RS) (ra : Nat → Int32), M + d < 2 ^ 30 → OkQ M q → Rel n ab1 q ra →
    (fallsL cd sw fd fn ab1 n s_ d i q).1 = (mfaL cd sw fd fn n s_ d i ra).1 ∧ (∀ a, (∀ j, j < n → a ≠ ab1 j) → (fallsL cd sw fd fn ab1 n s_ d i q).2.2.2.2.2.1 a = q.2.2.2.2.1 a) ∧ OkQ (M + d) (fallsL cd sw fd fn ab1 n s_ d i q).2
  | 0, _, _, _, _, _, hq, _ => ⟨rfl, fun _ _ => rfl, hq⟩
  | d + 1, i, M, q, ra, hM, hq, h => by
    have n01 : ¬ (0 : Int32) = 1 := by decide
    have n10 : ¬ (1 : Int32) = 0 := by decide
    unfold fallsL mfaL
    rw [dn_rel h.1 hs]
    rcases dn01 q.1 s_ with z | z
    · simp only [z, n01, eq_self, if_true, if_false]
      obtain ⟨a1, a2, a3⟩ := falls_rel hn hin hcd hsw hs d (i + 1) (M + 1) (hrsL cd sw fd fn ab1 n 1 q) (mpass cd sw fd fn n ra) (by omega) (OkQ.hrs 1 M q (by omega) hq) (hours_rel hn hin hcd hsw 1 M q ra (by omega) hq h)
      refine ⟨a1, fun a ha => (a2 a ha).trans (hrs_keepB ha 1 q), ?_⟩
      rw [show M + (d + 1) = M + 1 + d by omega]
      exact a3
    · simp only [z, n10, eq_self, if_true, if_false]
      exact ⟨trivial, fun _ _ => trivial, hq.mono (by omega)⟩
end SIM4
/-! the reference's hours leave the places of buses that haven't come -/
theorem mbu_keep {fd fn : Int32} {n k : Nat} (hn : n ≤ 6) (hk : 72 + 6 * n ≤ k) (hk2 : k < 108) : ∀ (d i : Nat) (R : Nat → Int32), i + d = n → (∀ j, j < 6 → vp_in (R (72 + 6 * j)) 24) → mbuL fd fn d i R k = R k
  | 0, _, _, _, _ => rfl
  | d + 1, i, R, hi, h => by
    unfold mbuL
    split
    · rw [mbu_keep hn hk hk2 d (i + 1) _ (by omega) (mru_ats (by omega) h)]
      exact mru_keep (by omega) (by omega) (by omega) (by omega) (by omega) 3 R (h i (by omega))
    · exact mbu_keep hn hk hk2 d (i + 1) R (by omega) h
theorem mpass_keep {cd sw : Nat → Int32} {fd fn : Int32} {n k M : Nat} {R : Nat → Int32} (hn : n ≤ 6) (hsw : ∀ k, sw k = -1 ∨ vp_in (sw k) 24) (hk : 72 + 6 * n ≤ k) (hk2 : k < 108) (h : OkN M R) : mpass cd sw fd fn n R k = R k := by
  obtain ⟨⟨⟨m, hm, hom, ho⟩, hat, -⟩, -⟩ := h
  have k2 : ∀ k, 72 ≤ k → mP2 cd sw R k = R k := fun k hk => P2_keep hsw hk
  have hat2 : ∀ j, j < 6 → vp_in (mP2 cd sw R (72 + 6 * j)) 24 := fun j hj => by rw [k2 _ (by omega)]; exact hat j hj
  obtain ⟨-, h2⟩ := mbuL_ok (fd := fd) (fn := fn) n 0 (mP2 cd sw R) (by omega) hat2
  have k3 : ∀ k, 108 ≤ k → k ≠ 119 → mbuL fd fn n 0 (mP2 cd sw R) k = R k := fun k h8 h9 => (h2 k h8 h9).trans (k2 k (by omega))
  have hm' : (mbuL fd fn n 0 (mP2 cd sw R) 109).toNatClampNeg = m := by rw [k3 _ (by omega) (by omega), hom, nI_clamp (by omega)]
  unfold mpass
  rw [hm', upd_ne _ _ (by omega), work_keep hm ((k3 _ (by omega) (by omega)).trans hom) (fun h9 => by rw [k3 _ (by omega) (by omega)]; exact ho 0 h9) (by omega), mbu_keep hn hk hk2 n 0 _ (Nat.zero_add n) hat2, k2 _ (by omega)]
theorem mpa_keep {cd sw : Nat → Int32} {fd fn : Int32} {n k : Nat} (hn : n ≤ 6) (hsw : ∀ k, sw k = -1 ∨ vp_in (sw k) 24) (hk : 72 + 6 * n ≤ k) (hk2 : k < 108) : ∀ (d M : Nat) (R : Nat → Int32), M + d < 2 ^ 30 → OkN M R → mpaL cd sw fd fn n d R k = R k
  | 0, _, _, _, _ => rfl
  | d + 1, M, R, hM, h => by
    unfold mpaL
    rw [mpa_keep hn hsw hk hk2 d (M + 1) _ (by omega) (h.pass hn hsw (by omega))]
    exact mpass_keep hn hsw hk hk2 h
/-! a new bus, a scraper moved, a bus parked, orders -/
theorem bus_new_rel {n : Nat} {ab : Nat → Nat} {q : RS} {R : Nat → Int32} {s_ c_ : Int32} (hn : n < 6) (hab : ∀ i j, i < 6 → j < 6 → ab i = ab j → i = j) (hc : c_ = 0 ∨ c_ = 1) (hz : ∀ j i, n ≤ j → j < 6 → i < 6 → R (72 + 6 * j + i) = 0 ∧ q.2.2.2.2.1 (ab j) i = 0) (h : Rel n ab q R) :
    Rel (n + 1) ab (q.1, q.2.1, q.2.2.1, q.2.2.2.1, comeS q.2.2.2.2.1 (ab n) s_ c_, q.2.2.2.2.2.1, q.2.2.2.2.2.2) (upd (upd (upd R (72 + 6 * n) s_) (72 + 6 * n + 1) (if c_ = 0 then 0 else 1)) (72 + 6 * n + 2) 1) ∧
    ∀ j i, n + 1 ≤ j → j < 6 → i < 6 → upd (upd (upd R (72 + 6 * n) s_) (72 + 6 * n + 1) (if c_ = 0 then 0 else 1)) (72 + 6 * n + 2) 1 (72 + 6 * j + i) = 0 ∧ comeS q.2.2.2.2.1 (ab n) s_ c_ (ab j) i = 0 := by
  have ec : (if c_ = 0 then (0 : Int32) else 1) = c_ := by rcases hc with rfl | rfl <;> decide
  rw [ec]
  have e : ∀ k, k ≠ 72 + 6 * n → k ≠ 72 + 6 * n + 1 → k ≠ 72 + 6 * n + 2 → upd (upd (upd R (72 + 6 * n) s_) (72 + 6 * n + 1) c_) (72 + 6 * n + 2) 1 k = R k := fun k a b c => by
    rw [upd_ne _ _ c, upd_ne _ _ b, upd_ne _ _ a]
  obtain ⟨h1, h2, h3, h4, h5, h6⟩ := h
  have ne : ∀ j, j < 6 → j ≠ n → ∀ i, comeS q.2.2.2.2.1 (ab n) s_ c_ (ab j) i = q.2.2.2.2.1 (ab j) i := fun j hj hjn i => by
    have z : ¬ ab j = ab n := fun y => hjn (hab j n hj hn y)
    simp [comeS, up2, z]
  refine ⟨⟨h1.fr fun k hk => e k (by omega) (by omega) (by omega), h2.fr fun k hk => e k (by omega) (by omega) (by omega), fun j i hj hi => ?_, h4.fr fun k hk => e k (by omega) (by omega) (by omega), by rw [e _ (by omega) (by omega) (by omega)]; exact h5, by rw [e _ (by omega) (by omega) (by omega)]; exact h6⟩, fun j i hj hj6 hi => ?_⟩
  · by_cases ej : j = n
    · subst ej
      match i, hi with
      | 0, _ =>
        rw [show 72 + 6 * j + 0 = 72 + 6 * j from rfl, upd_ne _ _ (by omega), upd_ne _ _ (by omega), pk_us]
        simp [comeS, up2]
      | 1, _ =>
        rw [upd_ne _ _ (by omega), pk_us]
        simp [comeS, up2]
      | 2, _ =>
        rw [pk_us]
        simp [comeS, up2]
      | 3, _ =>
        rw [e _ (by omega) (by omega) (by omega), (hz j 3 (by omega) (by omega) (by decide)).1]
        simp [comeS, up2, (hz j 3 (by omega) (by omega) (by decide)).2]
      | 4, _ =>
        rw [e _ (by omega) (by omega) (by omega), (hz j 4 (by omega) (by omega) (by decide)).1]
        simp [comeS, up2, (hz j 4 (by omega) (by omega) (by decide)).2]
      | 5, _ =>
        rw [e _ (by omega) (by omega) (by omega), (hz j 5 (by omega) (by omega) (by decide)).1]
        simp [comeS, up2, (hz j 5 (by omega) (by omega) (by decide)).2]
    · rw [e _ (by omega) (by omega) (by omega), h3 j i (by omega) hi]
      exact (ne j (by omega) ej i).symm
  · exact ⟨by rw [e _ (by omega) (by omega) (by omega)]; exact (hz j i (by omega) hj6 hi).1, (ne j hj6 (by omega) i).trans (hz j i (by omega) hj6 hi).2⟩
theorem put_busrel {n : Nat} {ab : Nat → Nat} {q : RS} {R : Nat → Int32} {a x : Nat} {v : Int32} (hn : n ≤ 6) (ha : a < n) (hx : x < 6) (hab : ∀ i j, i < 6 → j < 6 → ab i = ab j → i = j) (h : Rel n ab q R) : Rel n ab (q.1, q.2.1, q.2.2.1, q.2.2.2.1, up2 q.2.2.2.2.1 (ab a) x v, q.2.2.2.2.2.1, q.2.2.2.2.2.2) (upd R (72 + 6 * a + x) v) := by
  have e : ∀ k, k ≠ 72 + 6 * a + x → upd R (72 + 6 * a + x) v k = R k := fun k z => upd_ne _ _ z
  obtain ⟨h1, h2, h3, h4, h5, h6⟩ := h
  refine ⟨h1.fr fun k hk => e k (by omega), h2.fr fun k hk => e k (by omega), fun j i hj hi => ?_, h4.fr fun k hk => e k (by omega), by rw [e _ (by omega)]; exact h5, by rw [e _ (by omega)]; exact h6⟩
  by_cases z : j = a ∧ i = x
  · obtain ⟨rfl, rfl⟩ := z
    rw [pk_us]
    simp [up2]
  · rw [e _ (by omega), h3 j i hj hi]
    by_cases y : i = x
    · have hja : ¬ ab j = ab a := fun w => z ⟨hab j a (by omega) (by omega) w, y⟩
      simp [up2, hja]
    · simp [up2, y]
theorem order_rel {n m : Nat} {ab : Nat → Nat} {q : RS} {R : Nat → Int32} {s_ : Int32} (hn : n ≤ 6) (hm : m < 6) (hg : q.2.2.2.1 0 = nI m) (h : Rel n ab q R) : Rel n ab (q.1, q.2.1, upd q.2.2.1 m s_, upd q.2.2.2.1 0 (nI (m + 1)), q.2.2.2.2.1, q.2.2.2.2.2.1, q.2.2.2.2.2.2) (upd (upd R (113 + m) s_) 109 (nI (m + 1))) := by
  have e : ∀ k, k ≠ 113 + m → k ≠ 109 → upd (upd R (113 + m) s_) 109 (nI (m + 1)) k = R k := fun k a b => by rw [upd_ne _ _ b, upd_ne _ _ a]
  obtain ⟨h1, h2, h3, ⟨a1, a2, a3, a4, a5, a6⟩, h5, h6⟩ := h
  refine ⟨h1.fr fun k hk => e k (by omega) (by omega), h2.fr fun k hk => e k (by omega) (by omega), h3.fr hn fun k hk => e k (by omega) (by omega), ⟨by rw [e _ (by omega) (by omega)]; exact a1, by rw [pk_us]; rfl, by rw [e _ (by omega) (by omega)]; exact a3, by rw [e _ (by omega) (by omega)]; exact a4, by rw [e _ (by omega) (by omega)]; exact a5, fun m' k x y z => ?_⟩, by rw [e _ (by omega) (by omega)]; exact h5, by rw [e _ (by omega) (by omega)]; exact h6⟩
  have x' : nI (m + 1) = nI m' := x
  have hmm : m + 1 = m' := (nI_eq (by omega) (by omega)).mp x'
  show upd (upd R (113 + m) s_) 109 (nI (m + 1)) (113 + k) = upd q.2.2.1 m s_ k
  by_cases w : k = m
  · subst w
    rw [upd_ne _ _ (by omega), pk_us, pk_us]
  · rw [e _ (by omega) (by omega), upd_ne _ _ w]
    exact a6 m k hg (by omega) (by omega)
theorem cancel_rel {n m p : Nat} {ab : Nat → Nat} {q : RS} {R : Nat → Int32} (hn : n ≤ 6) (hm : m ≤ 6) (hp : p < m) (hg : q.2.2.2.1 0 = nI m) (h : Rel n ab q R) : Rel n ab (q.1, q.2.1, (takeS q.2.2.1 q.2.2.2.1 p m).1, (takeS q.2.2.1 q.2.2.2.1 p m).2, q.2.2.2.2.1, q.2.2.2.2.2.1, q.2.2.2.2.2.2) (mrem R p m) := by
  obtain ⟨h1, h2, h3, h4, h5, h6⟩ := h
  exact ⟨h1.fr fun k hk => mrem_keep hp (by omega), h2.fr fun k hk => mrem_keep hp (by omega), h3.fr hn fun k hk => mrem_keep hp (by omega), rem_rel hm hp hg h4, by rw [mrem_keep hp (by omega)]; exact h5, by rw [mrem_keep hp (by omega)]; exact h6⟩
/-- where a span's order is: at a place, or nowhere -/
theorem pof_cases {od : Nat → Int32} {x : Int32} : ∀ (d i : Nat), pofL od x d i = -1 ∨ ∃ p, i ≤ p ∧ p < i + d ∧ pofL od x d i = nI p
  | 0, _ => Or.inl rfl
  | d + 1, i => by
    unfold pofL
    split
    · exact Or.inr ⟨i, by omega, by omega, rfl⟩
    · rcases pof_cases d (i + 1) with h | ⟨p, h1, h2, h3⟩
      · exact Or.inl h
      · exact Or.inr ⟨p, by omega, by omega, h3⟩
