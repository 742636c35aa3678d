set_option maxHeartbeats 4000000 in
set_option maxRecDepth 100000 in
theorem c_X6_run (l : Launch) (D : va_G) (cyI cyO cyL : ClassId) (aM : Nat) (ac : Nat) (as_ : Nat) (an : Nat) (ah : Nat) (ar : Nat) (th : Int32) (bu : Int32) (fd : Int32) (fn : Int32) (cd : Nat → Int32) (sw : Nat → Int32) (rw : Nat → Int32) (t_ : Nat) (hat : vp_in (rw t_) 24) (ht1 : 72 ≤ t_) (ht2 : t_ + 6 ≤ 108) : cV l yX6_run wsX6_run ({ frames := 2, cells := 0, slots := 0, locals := 37 }) D cyI cyO cyL [.ref aM, .ref ar, .int (nI t_)] (cM aM ac as_ an ah th bu fd fn ++ cA cyI ac 8 cd ++ cA cyI as_ 12 sw ++ cA cyI ar 121 rw) (cM aM ac as_ an ah th bu fd fn ++ cA cyI ac 8 cd ++ cA cyI as_ 12 sw ++ cA cyI ar 121 (mruL t_ (mfar fd fn rw) 3 rw)) := by
  intro sz
  refine Met.ofW (cc := cX6_run) (maxL := 7) (ret := none) (by decide) rfl ?_
  intro p e s m args below meth c s₁ B9 hml hv
  obtain ⟨rfl, hsz, hP, hKK, hD0⟩ := hv
  have hx := B9.exec
  have hb := B9.bytes
  have hrt := B9.returns
  have hts := atoms_spec (ws := wsX6_run) B9.pre
  have hown : s.vm.findClass RX6 = some m.cls := findClass_of_methodNamed B9.named
  have hlocks := B9.notSynchronized
  have nw := fun {w : Cond} (h : w ∈ nw_all) => NW.use (args := ([.ref aM, .ref ar, .int (nI t_)] : List Value).toArray) hKK.2 h
  have iX6 : ∀ w ∈ wsX60, w ∈ wsX6_run := fun _ h => List.mem_cons_of_mem _ (List.mem_append_right _ h)
  subst hsz
  have hD := hD0.self (sz := s.heap.size)
  generalize hAe : va_A (cM aM ac as_ an ah th bu fd fn ++ cA cyI ac 8 cd ++ cA cyI as_ 12 sw ++ cA cyI ar 121 rw) s.heap.size = A at hD ⊢
  have hA : ∀ q : Nat, s.heap.size ≤ q → A q := fun q h => by rw [← hAe]; exact Or.inr h
  have hS : va_S A s.heap s.heap [] := va_S.rf
  have hl := lv_entry ([.ref aM, .ref ar, .int (nI t_)]) (n := 7) (Nat.le_of_ble_eq_true rfl)
  rw [lg_entry_eq]
  generalize (lg_sl ([.ref aM, .ref ar, .int (nI t_)]) ++ List.replicate (7 - (lg_sl ([.ref aM, .ref ar, .int (nI t_)])).length) Slot.unset).toArray = ls at hl ⊢
  have hl : lv_has ls 7 [(0, .ref aM), (1, .ref ar), (2, .int (nI t_))] := hl
  refine lv_aload_n hx hb dX6_run_0 rfl (lv_at hl 1 rfl) ?_
  refine lv_bipush (v := 120) hx hb dX6_run_1 (by decide) ?_
  refine va_iald hx hb hKK.1 hP 3 0 rfl rfl (hin := (vp_in_nI (n := 120) (by decide) (by decide))) dX6_run_3 ?_
  refine lv_tope (y := rw 120) rfl ?_
  have hPc := hP.sub (ws' := ([] : va_W)) [] rfl
  have hDc := hD.sub (ws' := ([] : va_W)) [] (by decide) rfl
  refine ret_i (W1 := ([] : va_W)) (W2 := ([] : va_W)) (ws1 := (cM aM ac as_ an ah th bu fd fn ++ cA cyI ac 8 cd ++ cA cyI as_ 12 sw ++ cA cyI ar 121 rw)) (r := ntM (rw 120)) (run_S (n := 1) (As := [.int (rw 120)]) (rest := []) ⟨hx, hb, hml, hown, hts⟩ (c_X6_isNight l D cyI cyO cyL (rw 120) _) ggX6_run_X6_isNight rfl rfl rfl (hts (.methodLink RX6 95 yX6_isNight) (List.mem_of_getElem? (i := 3) rfl)) (hts (.initialized RX6) (List.mem_of_getElem? (i := 5) rfl)) (hts (.static yX6_isNight) (List.mem_of_getElem? (i := 4) rfl)) (by decide +kernel) ⟨Nat.le_of_ble_eq_true rfl, Nat.le_of_ble_eq_true rfl⟩ hKK hPc hDc rfl hl.1 rfl (Nat.le_of_ble_eq_true rfl) dX6_run_4 ⟨Nat.zero_le _, Nat.zero_le _⟩) hP hD hS hA [] rfl rfl [(false, 0), (false, 1), (false, 2), (false, 3)] (by decide +kernel) rfl (fun H locs hP hD hS => ?_)
  refine wjoin (σ := (Int32)) (tgt := 21) (st1 := fun x9 => [.int x9]) (fun x9 H9 L9 s9 => (x9 = mfar fd fn rw) ∧ (va_P D vwCl (cM aM ac as_ an ah th bu fd fn ++ cA cyI ac 8 cd ++ cA cyI as_ 12 sw ++ cA cyI ar 121 rw) H9) ∧ (va_D A (cM aM ac as_ an ah th bu fd fn ++ cA cyI ac 8 cd ++ cA cyI as_ 12 sw ++ cA cyI ar 121 rw)) ∧ (va_S A s.heap H9 L9) ∧ (lv_has s9 7 [(0, .ref aM), (1, .ref ar), (2, .int (nI t_))])) (fun KJ => ?_) (fun x9 H locs ls g9 => ?_)
  · skip
    refine lv_if_eq (tgt := 17) hx hb dX6_run_7 (by decide) (fun h_1 => ?_) (fun h_1 => ?_)
    · skip
      refine lv_aload_n hx hb dX6_run_17 rfl (lv_at hl 0 rfl) ?_
      refine va_get (D := D) (ci := 6) (v := .int fd) (C := RX6) (T := TX6) (N := 8) hx hb hts iX6 hown hKK.1 hP 0 rfl rfl 2 (by decide) (hts (.fieldLink RX6 13 "TrolleyGangModel" "fareByDay" "I") (List.mem_of_getElem? (i := 2) rfl)) (fun _ h9 => h9) rfl dX6_run_18 ?_
      exact KJ fd _ _ _ ⟨(by unfold mfar; first | exact (if_pos h_1).symm | exact (if_neg h_1).symm), hP, hD, hS, lv_sub hl [0, 1, 2] rfl⟩
    · skip
      refine lv_aload_n hx hb dX6_run_10 rfl (lv_at hl 0 rfl) ?_
      refine va_get (D := D) (ci := 6) (v := .int fn) (C := RX6) (T := TX6) (N := 8) hx hb hts iX6 hown hKK.1 hP 0 rfl rfl 3 (by decide) (hts (.fieldLink RX6 16 "TrolleyGangModel" "fareByNight" "I") (List.mem_of_getElem? (i := 1) rfl)) (fun _ h9 => h9) rfl dX6_run_11 ?_
      refine lv_goto (tgt := 21) hx hb dX6_run_14 (by decide) ?_
      exact KJ fn _ _ _ ⟨(by unfold mfar; first | exact (if_pos h_1).symm | exact (if_neg h_1).symm), hP, hD, hS, lv_sub hl [0, 1, 2] rfl⟩
  · skip
    obtain ⟨fr, rfl⟩ : ∃ z, z = x9 := ⟨_, rfl⟩
    obtain ⟨hfr, hP, hD, hS, hl⟩ := g9
    have hfr : fr = mfar fd fn rw := hfr
    have hP : va_P D vwCl (cM aM ac as_ an ah th bu fd fn ++ cA cyI ac 8 cd ++ cA cyI as_ 12 sw ++ cA cyI ar 121 rw) H := hP
    have hD : va_D A (cM aM ac as_ an ah th bu fd fn ++ cA cyI ac 8 cd ++ cA cyI as_ 12 sw ++ cA cyI ar 121 rw) := hD
    have hl : lv_has ls 7 [(0, .ref aM), (1, .ref ar), (2, .int (nI t_))] := hl
    show W _ _ _ _ _ _ _ _ _ _ _ _ _ _ _ (F0 m 21 ls [.int fr])
    refine lv_istore_n (lv' := [(3, .int fr), (0, .ref aM), (1, .ref ar), (2, .int (nI t_))]) hx hb dX6_run_21 rfl hl (by decide) rfl (fun ls hl => ?_)
    refine lv_iconst (v := 0) hx hb dX6_run_22 (by decide) ?_
    refine lv_istore (lv' := [(4, .int 0), (3, .int fr), (0, .ref aM), (1, .ref ar), (2, .int (nI t_))]) hx hb dX6_run_23 hl (by decide) rfl (fun ls hl => ?_)
    refine wloop (σ := (Nat) × (Nat → Int32)) (fun d9 x9 H9 L9 s9 => ((x9.1) + d9 = 3) ∧ (mruL t_ fr 3 rw = mruL t_ fr d9 (x9.2)) ∧ (vp_in ((x9.2) t_) 24) ∧ (va_P D vwCl (cM aM ac as_ an ah th bu fd fn ++ cA cyI ac 8 cd ++ cA cyI as_ 12 sw ++ cA cyI ar 121 (x9.2)) H9) ∧ (va_D A (cM aM ac as_ an ah th bu fd fn ++ cA cyI ac 8 cd ++ cA cyI as_ 12 sw ++ cA cyI ar 121 (x9.2))) ∧ (va_S A s.heap H9 L9) ∧ (lv_has s9 7 [(4, .int (nI (x9.1))), (3, .int fr), (0, .ref aM), (1, .ref ar), (2, .int (nI t_))])) (fun d9 x9 H locs ls g9 ih => ?_) 3 (0, rw) _ _ _ ⟨(by omega), rfl, hat, hP, hD, hS, lv_sub hl [0, 1, 2, 3, 4] rfl⟩
    obtain ⟨i, rw1⟩ := x9
    obtain ⟨hid, hsp, hat, hP, hD, hS, hl⟩ := g9
    obtain ⟨d, rfl⟩ : ∃ z, z = d9 := ⟨_, rfl⟩
    have hid : i + d = 3 := hid
    have hsp : mruL t_ fr 3 rw = mruL t_ fr d rw1 := hsp
    have hat : vp_in (rw1 t_) 24 := hat
    have hP : va_P D vwCl (cM aM ac as_ an ah th bu fd fn ++ cA cyI ac 8 cd ++ cA cyI as_ 12 sw ++ cA cyI ar 121 rw1) H := hP
    have hD : va_D A (cM aM ac as_ an ah th bu fd fn ++ cA cyI ac 8 cd ++ cA cyI as_ 12 sw ++ cA cyI ar 121 rw1) := hD
    have hl : lv_has ls 7 [(4, .int (nI i)), (3, .int fr), (0, .ref aM), (1, .ref ar), (2, .int (nI t_))] := hl
    refine lv_iload hx hb dX6_run_25 (lv_at hl 0 rfl) ?_
    refine lv_iconst (v := 3) hx hb dX6_run_27 (by decide) ?_
    refine lv_icmp_ge (tgt := 162) hx hb dX6_run_28 (by decide) (fun h_2 => ?_) (fun h_2 => ?_)
    · skip
      obtain rfl : d = 0 := by have h9 := (nI_leI (a := 3) (b := i) (by omega) (by omega)).mp h_2; omega
      have e9 : mruL t_ (mfar fd fn rw) 3 rw = rw1 := (by rw [← hfr, hsp]; rfl)
      exact end_v hx hb hrt hlocks (by rw [e9]; exact hP) hS dX6_run_162
    · skip
      have hlt : i < 3 := by have h9 := mt (nI_leI (a := 3) (b := i) (by omega) (by omega)).mpr h_2; omega
      obtain ⟨d, rfl⟩ : ∃ k, d = k + 1 := ⟨d - 1, by omega⟩
      refine lv_aload_n hx hb dX6_run_31 rfl (lv_at hl 3 rfl) ?_
      refine lv_iload_n hx hb dX6_run_32 rfl (lv_at hl 4 rfl) ?_
      refine va_iald hx hb hKK.1 hP 3 0 rfl rfl (hin := (vp_in_nI (show t_ < 121 by omega) (by omega))) dX6_run_33 ?_
      refine lv_tope (y := rw1 t_) (by rw [nI_clamp (by omega)]) ?_
      refine lv_iconst (v := 1) hx hb dX6_run_34 (by decide) ?_
      refine lv_iadd hx hb dX6_run_35 ?_
      refine lv_bipush (v := 24) hx hb dX6_run_36 (by decide) ?_
      refine lv_irem hx hb dX6_run_38 (by decide) ?_
      refine lv_tope (y := ir ((rw1 t_) + 1) 24) rfl ?_
      refine lv_tope (y := mnx rw1 t_) rfl ?_
      refine lv_istore (lv' := [(5, .int (mnx rw1 t_)), (4, .int (nI i)), (3, .int fr), (0, .ref aM), (1, .ref ar), (2, .int (nI t_))]) hx hb dX6_run_39 hl (by decide) rfl (fun ls hl => ?_)
      refine lv_aload_n hx hb dX6_run_41 rfl (lv_at hl 4 rfl) ?_
      refine lv_bipush (v := 48) hx hb dX6_run_42 (by decide) ?_
      refine lv_iload hx hb dX6_run_44 (lv_at hl 0 rfl) ?_
      refine lv_iadd hx hb dX6_run_46 ?_
      refine va_iald hx hb hKK.1 hP 3 0 rfl rfl (hin := (in48 (mnx_in hat))) dX6_run_47 ?_
      refine lv_tope (y := rw1 (48 + (mnx rw1 t_).toNatClampNeg)) (by rw [tn48 (mnx_in hat)]) ?_
      refine lv_iconst (v := 1) hx hb dX6_run_48 (by decide) ?_
      refine lv_icmp_ne (tgt := 62) hx hb dX6_run_49 (by decide) (fun h_3 => ?_) (fun h_3 => ?_)
      · skip
        refine lv_aload_n hx hb dX6_run_62 rfl (lv_at hl 4 rfl) ?_
        refine lv_iload_n hx hb dX6_run_63 rfl (lv_at hl 5 rfl) ?_
        refine lv_iload hx hb dX6_run_64 (lv_at hl 0 rfl) ?_
        refine va_iast hx hb hKK.1 hP hD hS 3 0 rfl rfl (hin := (vp_in_nI (show t_ < 121 by omega) (by omega))) dX6_run_66 (fun H locs hP hD hS => ?_)
        rw [nI_clamp (by omega)] at hP hD
        have hP : va_P D vwCl (cM aM ac as_ an ah th bu fd fn ++ cA cyI ac 8 cd ++ cA cyI as_ 12 sw ++ cA cyI ar 121 (upd rw1 t_ (mnx rw1 t_))) H := hP
        have hD : va_D A (cM aM ac as_ an ah th bu fd fn ++ cA cyI ac 8 cd ++ cA cyI as_ 12 sw ++ cA cyI ar 121 (upd rw1 t_ (mnx rw1 t_))) := hD
        refine lv_aload_n hx hb dX6_run_67 rfl (lv_at hl 4 rfl) ?_
        refine lv_iload_n hx hb dX6_run_68 rfl (lv_at hl 5 rfl) ?_
        refine lv_iconst (v := 3) hx hb dX6_run_69 (by decide) ?_
        refine lv_iadd hx hb dX6_run_70 ?_
        refine lv_tope (y := nI (t_ + 3)) (nI_add t_ 3) ?_
        refine lv_dup2_11 hx hb dX6_run_71 rfl rfl ?_
        refine va_iald hx hb hKK.1 hP 3 0 rfl rfl (hin := (vp_in_nI (show (t_ + 3) < 121 by omega) (by omega))) dX6_run_72 ?_
        refine lv_tope (y := (upd rw1 t_ (mnx rw1 t_)) (t_ + 3)) (by rw [nI_clamp (by omega)]) ?_
        refine lv_iconst (v := 1) hx hb dX6_run_73 (by decide) ?_
        refine lv_iadd hx hb dX6_run_74 ?_
        refine va_iast hx hb hKK.1 hP hD hS 3 0 rfl rfl (hin := (vp_in_nI (show (t_ + 3) < 121 by omega) (by omega))) dX6_run_75 (fun H locs hP hD hS => ?_)
        rw [nI_clamp (by omega)] at hP hD
        have hP : va_P D vwCl (cM aM ac as_ an ah th bu fd fn ++ cA cyI ac 8 cd ++ cA cyI as_ 12 sw ++ cA cyI ar 121 (upd (upd rw1 t_ (mnx rw1 t_)) (t_ + 3) (((upd rw1 t_ (mnx rw1 t_)) (t_ + 3)) + 1))) H := hP
        have hD : va_D A (cM aM ac as_ an ah th bu fd fn ++ cA cyI ac 8 cd ++ cA cyI as_ 12 sw ++ cA cyI ar 121 (upd (upd rw1 t_ (mnx rw1 t_)) (t_ + 3) (((upd rw1 t_ (mnx rw1 t_)) (t_ + 3)) + 1))) := hD
        refine lv_aload_n hx hb dX6_run_76 rfl (lv_at hl 4 rfl) ?_
        refine lv_iload_n hx hb dX6_run_77 rfl (lv_at hl 5 rfl) ?_
        refine lv_iconst (v := 4) hx hb dX6_run_78 (by decide) ?_
        refine lv_iadd hx hb dX6_run_79 ?_
        refine lv_tope (y := nI (t_ + 4)) (nI_add t_ 4) ?_
        refine lv_dup2_11 hx hb dX6_run_80 rfl rfl ?_
        refine va_iald hx hb hKK.1 hP 3 0 rfl rfl (hin := (vp_in_nI (show (t_ + 4) < 121 by omega) (by omega))) dX6_run_81 ?_
        refine lv_tope (y := (upd (upd rw1 t_ (mnx rw1 t_)) (t_ + 3) (((upd rw1 t_ (mnx rw1 t_)) (t_ + 3)) + 1)) (t_ + 4)) (by rw [nI_clamp (by omega)]) ?_
        refine lv_iload_n hx hb dX6_run_82 rfl (lv_at hl 2 rfl) ?_
        refine lv_iadd hx hb dX6_run_83 ?_
        refine va_iast hx hb hKK.1 hP hD hS 3 0 rfl rfl (hin := (vp_in_nI (show (t_ + 4) < 121 by omega) (by omega))) dX6_run_84 (fun H locs hP hD hS => ?_)
        rw [nI_clamp (by omega)] at hP hD
        have hP : va_P D vwCl (cM aM ac as_ an ah th bu fd fn ++ cA cyI ac 8 cd ++ cA cyI as_ 12 sw ++ cA cyI ar 121 (upd (upd (upd rw1 t_ (mnx rw1 t_)) (t_ + 3) (((upd rw1 t_ (mnx rw1 t_)) (t_ + 3)) + 1)) (t_ + 4) (((upd (upd rw1 t_ (mnx rw1 t_)) (t_ + 3) (((upd rw1 t_ (mnx rw1 t_)) (t_ + 3)) + 1)) (t_ + 4)) + fr))) H := hP
        have hD : va_D A (cM aM ac as_ an ah th bu fd fn ++ cA cyI ac 8 cd ++ cA cyI as_ 12 sw ++ cA cyI ar 121 (upd (upd (upd rw1 t_ (mnx rw1 t_)) (t_ + 3) (((upd rw1 t_ (mnx rw1 t_)) (t_ + 3)) + 1)) (t_ + 4) (((upd (upd rw1 t_ (mnx rw1 t_)) (t_ + 3) (((upd rw1 t_ (mnx rw1 t_)) (t_ + 3)) + 1)) (t_ + 4)) + fr))) := hD
        refine lv_aload_n hx hb dX6_run_85 rfl (lv_at hl 4 rfl) ?_
        refine lv_bipush (v := 119) hx hb dX6_run_86 (by decide) ?_
        refine lv_dup2_11 hx hb dX6_run_88 rfl rfl ?_
        refine va_iald hx hb hKK.1 hP 3 0 rfl rfl (hin := (vp_in_nI (n := 119) (by decide) (by decide))) dX6_run_89 ?_
        refine lv_tope (y := (upd (upd (upd rw1 t_ (mnx rw1 t_)) (t_ + 3) (((upd rw1 t_ (mnx rw1 t_)) (t_ + 3)) + 1)) (t_ + 4) (((upd (upd rw1 t_ (mnx rw1 t_)) (t_ + 3) (((upd rw1 t_ (mnx rw1 t_)) (t_ + 3)) + 1)) (t_ + 4)) + fr)) 119) rfl ?_
        refine lv_iload_n hx hb dX6_run_90 rfl (lv_at hl 2 rfl) ?_
        refine lv_iadd hx hb dX6_run_91 ?_
        refine va_iast hx hb hKK.1 hP hD hS 3 0 rfl rfl (hin := (vp_in_nI (n := 119) (by decide) (by decide))) dX6_run_92 (fun H locs hP hD hS => ?_)
        have hP : va_P D vwCl (cM aM ac as_ an ah th bu fd fn ++ cA cyI ac 8 cd ++ cA cyI as_ 12 sw ++ cA cyI ar 121 (upd (upd (upd (upd rw1 t_ (mnx rw1 t_)) (t_ + 3) (((upd rw1 t_ (mnx rw1 t_)) (t_ + 3)) + 1)) (t_ + 4) (((upd (upd rw1 t_ (mnx rw1 t_)) (t_ + 3) (((upd rw1 t_ (mnx rw1 t_)) (t_ + 3)) + 1)) (t_ + 4)) + fr)) 119 (((upd (upd (upd rw1 t_ (mnx rw1 t_)) (t_ + 3) (((upd rw1 t_ (mnx rw1 t_)) (t_ + 3)) + 1)) (t_ + 4) (((upd (upd rw1 t_ (mnx rw1 t_)) (t_ + 3) (((upd rw1 t_ (mnx rw1 t_)) (t_ + 3)) + 1)) (t_ + 4)) + fr)) 119) + fr))) H := hP
        have hD : va_D A (cM aM ac as_ an ah th bu fd fn ++ cA cyI ac 8 cd ++ cA cyI as_ 12 sw ++ cA cyI ar 121 (upd (upd (upd (upd rw1 t_ (mnx rw1 t_)) (t_ + 3) (((upd rw1 t_ (mnx rw1 t_)) (t_ + 3)) + 1)) (t_ + 4) (((upd (upd rw1 t_ (mnx rw1 t_)) (t_ + 3) (((upd rw1 t_ (mnx rw1 t_)) (t_ + 3)) + 1)) (t_ + 4)) + fr)) 119 (((upd (upd (upd rw1 t_ (mnx rw1 t_)) (t_ + 3) (((upd rw1 t_ (mnx rw1 t_)) (t_ + 3)) + 1)) (t_ + 4) (((upd (upd rw1 t_ (mnx rw1 t_)) (t_ + 3) (((upd rw1 t_ (mnx rw1 t_)) (t_ + 3)) + 1)) (t_ + 4)) + fr)) 119) + fr))) := hD
        have e6_4 : upd (upd (upd (upd rw1 t_ (mnx rw1 t_)) (t_ + 3) (((upd rw1 t_ (mnx rw1 t_)) (t_ + 3)) + 1)) (t_ + 4) (((upd (upd rw1 t_ (mnx rw1 t_)) (t_ + 3) (((upd rw1 t_ (mnx rw1 t_)) (t_ + 3)) + 1)) (t_ + 4)) + fr)) 119 (((upd (upd (upd rw1 t_ (mnx rw1 t_)) (t_ + 3) (((upd rw1 t_ (mnx rw1 t_)) (t_ + 3)) + 1)) (t_ + 4) (((upd (upd rw1 t_ (mnx rw1 t_)) (t_ + 3) (((upd rw1 t_ (mnx rw1 t_)) (t_ + 3)) + 1)) (t_ + 4)) + fr)) 119) + fr) = mr4 rw1 t_ fr := rfl
        rw [e6_4] at hP hD
        have hP : va_P D vwCl (cM aM ac as_ an ah th bu fd fn ++ cA cyI ac 8 cd ++ cA cyI as_ 12 sw ++ cA cyI ar 121 (mr4 rw1 t_ fr)) H := hP
        have hD : va_D A (cM aM ac as_ an ah th bu fd fn ++ cA cyI ac 8 cd ++ cA cyI as_ 12 sw ++ cA cyI ar 121 (mr4 rw1 t_ fr)) := hD
        refine lv_aload_n hx hb dX6_run_93 rfl (lv_at hl 4 rfl) ?_
        refine lv_iload_n hx hb dX6_run_94 rfl (lv_at hl 5 rfl) ?_
        refine lv_iconst (v := 1) hx hb dX6_run_95 (by decide) ?_
        refine lv_iadd hx hb dX6_run_96 ?_
        refine lv_tope (y := nI (t_ + 1)) (nI_add t_ 1) ?_
        refine va_iald hx hb hKK.1 hP 3 0 rfl rfl (hin := (vp_in_nI (show (t_ + 1) < 121 by omega) (by omega))) dX6_run_97 ?_
        refine lv_tope (y := (mr4 rw1 t_ fr) (t_ + 1)) (by rw [nI_clamp (by omega)]) ?_
        refine lv_iconst (v := 1) hx hb dX6_run_98 (by decide) ?_
        refine lv_icmp_ne (tgt := 106) hx hb dX6_run_99 (by decide) (fun h_5 => ?_) (fun h_5 => ?_)
        · skip
          refine lv_iconst (v := 1) hx hb dX6_run_106 (by decide) ?_
          refine lv_aload_n hx hb dX6_run_107 rfl (lv_at hl 4 rfl) ?_
          refine lv_bipush (v := 24) hx hb dX6_run_108 (by decide) ?_
          refine lv_iload hx hb dX6_run_110 (lv_at hl 0 rfl) ?_
          refine lv_iadd hx hb dX6_run_112 ?_
          refine va_iald hx hb hKK.1 hP 3 0 rfl rfl (hin := (in24 (mnx_in hat))) dX6_run_113 ?_
          refine lv_tope (y := (mr4 rw1 t_ fr) (24 + (mnx rw1 t_).toNatClampNeg)) (by rw [tn24 (mnx_in hat)]) ?_
          refine lv_iconst (v := 2) hx hb dX6_run_114 (by decide) ?_
          refine lv_idiv hx hb dX6_run_115 (by decide) ?_
          refine lv_iadd hx hb dX6_run_116 ?_
          refine lv_istore (lv' := [(6, .int (1 + (((mr4 rw1 t_ fr) (24 + (mnx rw1 t_).toNatClampNeg)) / 2))), (5, .int (mnx rw1 t_)), (4, .int (nI i)), (3, .int fr), (0, .ref aM), (1, .ref ar), (2, .int (nI t_))]) hx hb dX6_run_117 hl (by decide) rfl (fun ls hl => ?_)
          refine lv_aload_n hx hb dX6_run_119 rfl (lv_at hl 5 rfl) ?_
          refine lv_iload_n hx hb dX6_run_120 rfl (lv_at hl 6 rfl) ?_
          refine lv_iconst (v := 1) hx hb dX6_run_121 (by decide) ?_
          refine lv_iadd hx hb dX6_run_122 ?_
          refine lv_tope (y := nI (t_ + 1)) (nI_add t_ 1) ?_
          refine va_iald hx hb hKK.1 hP 3 0 rfl rfl (hin := (vp_in_nI (show (t_ + 1) < 121 by omega) (by omega))) dX6_run_123 ?_
          refine lv_tope (y := (mr4 rw1 t_ fr) (t_ + 1)) (by rw [nI_clamp (by omega)]) ?_
          refine lv_iconst (v := 1) hx hb dX6_run_124 (by decide) ?_
          refine lv_icmp_ne (tgt := 136) hx hb dX6_run_125 (by decide) (fun _ => ?_) (fun h9 => absurd h9 h_5)
          refine lv_aload_n hx hb dX6_run_136 rfl (lv_at hl 5 rfl) ?_
          refine lv_iload hx hb dX6_run_137 (lv_at hl 1 rfl) ?_
          refine lv_iload hx hb dX6_run_139 (lv_at hl 0 rfl) ?_
          have hPc := hP.sub (ws' := (cA cyI ar 121 (mr4 rw1 t_ fr))) [3] rfl
          have hDc := hD.sub (ws' := (cA cyI ar 121 (mr4 rw1 t_ fr))) [3] (by decide) rfl
          refine ret_v (W1 := (cA cyI ar 121 (mr4 rw1 t_ fr))) (W2 := (cA cyI ar 121 (mwear (mr4 rw1 t_ fr) (mnx rw1 t_) (1 + (((mr4 rw1 t_ fr) (24 + (mnx rw1 t_).toNatClampNeg)) / 2))))) (ws1 := (cM aM ac as_ an ah th bu fd fn ++ cA cyI ac 8 cd ++ cA cyI as_ 12 sw ++ cA cyI ar 121 (mwear (mr4 rw1 t_ fr) (mnx rw1 t_) (1 + (((mr4 rw1 t_ fr) (24 + (mnx rw1 t_).toNatClampNeg)) / 2))))) (run_S (n := 3) (As := [.ref ar, .int (mnx rw1 t_), .int (1 + (((mr4 rw1 t_ fr) (24 + (mnx rw1 t_).toNatClampNeg)) / 2))]) (rest := []) ⟨hx, hb, hml, hown, hts⟩ (c_X6_wear l D cyI cyO cyL ar (mr4 rw1 t_ fr) (mnx rw1 t_) (1 + (((mr4 rw1 t_ fr) (24 + (mnx rw1 t_).toNatClampNeg)) / 2)) (mnx_in hat) _) ggX6_run_X6_wear rfl rfl rfl (hts (.methodLink RX6 107 yX6_wear) (List.mem_of_getElem? (i := 7) rfl)) (hts (.initialized RX6) (List.mem_of_getElem? (i := 5) rfl)) (hts (.static yX6_wear) (List.mem_of_getElem? (i := 8) rfl)) (by decide +kernel) ⟨Nat.le_of_ble_eq_true rfl, Nat.le_of_ble_eq_true rfl⟩ hKK hPc hDc rfl hl.1 rfl (Nat.le_of_ble_eq_true rfl) dX6_run_141 ⟨Nat.zero_le _, Nat.zero_le _⟩) hP hD hS hA [3] rfl rfl [(false, 0), (false, 1), (false, 2), (true, 0)] (by decide +kernel) rfl (fun H locs hP hD hS => ?_)
          have e6_6 : mwear (mr4 rw1 t_ fr) (mnx rw1 t_) (1 + (((mr4 rw1 t_ fr) (24 + (mnx rw1 t_).toNatClampNeg)) / 2)) = mr6 rw1 t_ fr := (by simp only [mr6, mr5, mby, h_5, if_true, if_false])
          rw [e6_6] at hP hD
          have hP : va_P D vwCl (cM aM ac as_ an ah th bu fd fn ++ cA cyI ac 8 cd ++ cA cyI as_ 12 sw ++ cA cyI ar 121 (mr6 rw1 t_ fr)) H := hP
          have hD : va_D A (cM aM ac as_ an ah th bu fd fn ++ cA cyI ac 8 cd ++ cA cyI as_ 12 sw ++ cA cyI ar 121 (mr6 rw1 t_ fr)) := hD
          refine lv_aload_n hx hb dX6_run_144 rfl (lv_at hl 5 rfl) ?_
          refine lv_bipush (v := 48) hx hb dX6_run_145 (by decide) ?_
          refine lv_iload hx hb dX6_run_147 (lv_at hl 1 rfl) ?_
          refine lv_iadd hx hb dX6_run_149 ?_
          refine va_iald hx hb hKK.1 hP 3 0 rfl rfl (hin := (in48 (mnx_in hat))) dX6_run_150 ?_
          refine lv_tope (y := (mr6 rw1 t_ fr) (48 + (mnx rw1 t_).toNatClampNeg)) (by rw [tn48 (mnx_in hat)]) ?_
          refine lv_iconst (v := 1) hx hb dX6_run_151 (by decide) ?_
          refine lv_icmp_ne (tgt := 156) hx hb dX6_run_152 (by decide) (fun h_7 => ?_) (fun h_7 => ?_)
          · skip
            refine lv_iinc (v := nI (i + 1)) (lv' := [(4, .int (nI (i + 1))), (6, .int (1 + (((mr4 rw1 t_ fr) (24 + (mnx rw1 t_).toNatClampNeg)) / 2))), (5, .int (mnx rw1 t_)), (3, .int fr), (0, .ref aM), (1, .ref ar), (2, .int (nI t_))]) hx hb dX6_run_156 hl (k := 2) rfl (nI_1 i) (by decide) rfl (fun ls hl => ?_)
            refine lv_goto (tgt := 25) hx hb dX6_run_159 (by decide) ?_
            exact ih d ((i + 1), (mr6 rw1 t_ fr)) _ _ _ (by omega) ⟨(by omega), (hsp.trans (by first | with_reducible rfl | (simp only [mruL, h_2, h_3, h_5, h_7, if_true, if_false, reduceIte, not_true_eq_false, not_false_eq_true]; done) | (simp [mruL, h_2, h_3, h_5, h_7]; done))), (mr6_t hat ht1 (by omega)), hP, hD, hS, lv_sub hl [0, 3, 4, 5, 6] rfl⟩
          · skip
            have e9 : mruL t_ (mfar fd fn rw) 3 rw = mr6 rw1 t_ fr := (by rw [← hfr, hsp]; exact (by first | with_reducible rfl | (simp only [mruL, h_2, h_3, h_5, h_7, if_true, if_false, reduceIte, not_true_eq_false, not_false_eq_true]; done) | (simp [mruL, h_2, h_3, h_5, h_7]; done)))
            exact end_v hx hb hrt hlocks (by rw [e9]; exact hP) hS dX6_run_155
        · skip
          refine lv_iconst (v := 2) hx hb dX6_run_102 (by decide) ?_
          refine lv_goto (tgt := 117) hx hb dX6_run_103 (by decide) ?_
          refine lv_istore (lv' := [(6, .int 2), (5, .int (mnx rw1 t_)), (4, .int (nI i)), (3, .int fr), (0, .ref aM), (1, .ref ar), (2, .int (nI t_))]) hx hb dX6_run_117 hl (by decide) rfl (fun ls hl => ?_)
          refine lv_aload_n hx hb dX6_run_119 rfl (lv_at hl 5 rfl) ?_
          refine lv_iload_n hx hb dX6_run_120 rfl (lv_at hl 6 rfl) ?_
          refine lv_iconst (v := 1) hx hb dX6_run_121 (by decide) ?_
          refine lv_iadd hx hb dX6_run_122 ?_
          refine lv_tope (y := nI (t_ + 1)) (nI_add t_ 1) ?_
          refine va_iald hx hb hKK.1 hP 3 0 rfl rfl (hin := (vp_in_nI (show (t_ + 1) < 121 by omega) (by omega))) dX6_run_123 ?_
          refine lv_tope (y := (mr4 rw1 t_ fr) (t_ + 1)) (by rw [nI_clamp (by omega)]) ?_
          refine lv_iconst (v := 1) hx hb dX6_run_124 (by decide) ?_
          refine lv_icmp_ne (tgt := 136) hx hb dX6_run_125 (by decide) (fun h9 => absurd h_5 h9) (fun _ => ?_)
          refine lv_aload_n hx hb dX6_run_128 rfl (lv_at hl 5 rfl) ?_
          refine lv_bipush (v := 24) hx hb dX6_run_129 (by decide) ?_
          refine lv_iload hx hb dX6_run_131 (lv_at hl 1 rfl) ?_
          refine lv_iadd hx hb dX6_run_133 ?_
          refine lv_iconst (v := 0) hx hb dX6_run_134 (by decide) ?_
          refine va_iast hx hb hKK.1 hP hD hS 3 0 rfl rfl (hin := (in24 (mnx_in hat))) dX6_run_135 (fun H locs hP hD hS => ?_)
          rw [tn24 (mnx_in hat)] at hP hD
          have hP : va_P D vwCl (cM aM ac as_ an ah th bu fd fn ++ cA cyI ac 8 cd ++ cA cyI as_ 12 sw ++ cA cyI ar 121 (upd (mr4 rw1 t_ fr) (24 + (mnx rw1 t_).toNatClampNeg) 0)) H := hP
          have hD : va_D A (cM aM ac as_ an ah th bu fd fn ++ cA cyI ac 8 cd ++ cA cyI as_ 12 sw ++ cA cyI ar 121 (upd (mr4 rw1 t_ fr) (24 + (mnx rw1 t_).toNatClampNeg) 0)) := hD
          refine lv_aload_n hx hb dX6_run_136 rfl (lv_at hl 5 rfl) ?_
          refine lv_iload hx hb dX6_run_137 (lv_at hl 1 rfl) ?_
          refine lv_iload hx hb dX6_run_139 (lv_at hl 0 rfl) ?_
          have hPc := hP.sub (ws' := (cA cyI ar 121 (upd (mr4 rw1 t_ fr) (24 + (mnx rw1 t_).toNatClampNeg) 0))) [3] rfl
          have hDc := hD.sub (ws' := (cA cyI ar 121 (upd (mr4 rw1 t_ fr) (24 + (mnx rw1 t_).toNatClampNeg) 0))) [3] (by decide) rfl
          refine ret_v (W1 := (cA cyI ar 121 (upd (mr4 rw1 t_ fr) (24 + (mnx rw1 t_).toNatClampNeg) 0))) (W2 := (cA cyI ar 121 (mwear (upd (mr4 rw1 t_ fr) (24 + (mnx rw1 t_).toNatClampNeg) 0) (mnx rw1 t_) 2))) (ws1 := (cM aM ac as_ an ah th bu fd fn ++ cA cyI ac 8 cd ++ cA cyI as_ 12 sw ++ cA cyI ar 121 (mwear (upd (mr4 rw1 t_ fr) (24 + (mnx rw1 t_).toNatClampNeg) 0) (mnx rw1 t_) 2))) (run_S (n := 3) (As := [.ref ar, .int (mnx rw1 t_), .int 2]) (rest := []) ⟨hx, hb, hml, hown, hts⟩ (c_X6_wear l D cyI cyO cyL ar (upd (mr4 rw1 t_ fr) (24 + (mnx rw1 t_).toNatClampNeg) 0) (mnx rw1 t_) 2 (mnx_in hat) _) ggX6_run_X6_wear rfl rfl rfl (hts (.methodLink RX6 107 yX6_wear) (List.mem_of_getElem? (i := 7) rfl)) (hts (.initialized RX6) (List.mem_of_getElem? (i := 5) rfl)) (hts (.static yX6_wear) (List.mem_of_getElem? (i := 8) rfl)) (by decide +kernel) ⟨Nat.le_of_ble_eq_true rfl, Nat.le_of_ble_eq_true rfl⟩ hKK hPc hDc rfl hl.1 rfl (Nat.le_of_ble_eq_true rfl) dX6_run_141 ⟨Nat.zero_le _, Nat.zero_le _⟩) hP hD hS hA [3] rfl rfl [(false, 0), (false, 1), (false, 2), (true, 0)] (by decide +kernel) rfl (fun H locs hP hD hS => ?_)
          have e6_8 : mwear (upd (mr4 rw1 t_ fr) (24 + (mnx rw1 t_).toNatClampNeg) 0) (mnx rw1 t_) 2 = mr6 rw1 t_ fr := (by simp only [mr6, mr5, mby, h_5, if_true, if_false])
          rw [e6_8] at hP hD
          have hP : va_P D vwCl (cM aM ac as_ an ah th bu fd fn ++ cA cyI ac 8 cd ++ cA cyI as_ 12 sw ++ cA cyI ar 121 (mr6 rw1 t_ fr)) H := hP
          have hD : va_D A (cM aM ac as_ an ah th bu fd fn ++ cA cyI ac 8 cd ++ cA cyI as_ 12 sw ++ cA cyI ar 121 (mr6 rw1 t_ fr)) := hD
          refine lv_aload_n hx hb dX6_run_144 rfl (lv_at hl 5 rfl) ?_
          refine lv_bipush (v := 48) hx hb dX6_run_145 (by decide) ?_
          refine lv_iload hx hb dX6_run_147 (lv_at hl 1 rfl) ?_
          refine lv_iadd hx hb dX6_run_149 ?_
          refine va_iald hx hb hKK.1 hP 3 0 rfl rfl (hin := (in48 (mnx_in hat))) dX6_run_150 ?_
          refine lv_tope (y := (mr6 rw1 t_ fr) (48 + (mnx rw1 t_).toNatClampNeg)) (by rw [tn48 (mnx_in hat)]) ?_
          refine lv_iconst (v := 1) hx hb dX6_run_151 (by decide) ?_
          refine lv_icmp_ne (tgt := 156) hx hb dX6_run_152 (by decide) (fun h_9 => ?_) (fun h_9 => ?_)
          · skip
            refine lv_iinc (v := nI (i + 1)) (lv' := [(4, .int (nI (i + 1))), (6, .int 2), (5, .int (mnx rw1 t_)), (3, .int fr), (0, .ref aM), (1, .ref ar), (2, .int (nI t_))]) hx hb dX6_run_156 hl (k := 2) rfl (nI_1 i) (by decide) rfl (fun ls hl => ?_)
            refine lv_goto (tgt := 25) hx hb dX6_run_159 (by decide) ?_
            exact ih d ((i + 1), (mr6 rw1 t_ fr)) _ _ _ (by omega) ⟨(by omega), (hsp.trans (by first | with_reducible rfl | (simp only [mruL, h_2, h_3, h_5, h_9, if_true, if_false, reduceIte, not_true_eq_false, not_false_eq_true]; done) | (simp [mruL, h_2, h_3, h_5, h_9]; done))), (mr6_t hat ht1 (by omega)), hP, hD, hS, lv_sub hl [0, 3, 4, 5, 6] rfl⟩
          · skip
            have e9 : mruL t_ (mfar fd fn rw) 3 rw = mr6 rw1 t_ fr := (by rw [← hfr, hsp]; exact (by first | with_reducible rfl | (simp only [mruL, h_2, h_3, h_5, h_9, if_true, if_false, reduceIte, not_true_eq_false, not_false_eq_true]; done) | (simp [mruL, h_2, h_3, h_5, h_9]; done)))
            exact end_v hx hb hrt hlocks (by rw [e9]; exact hP) hS dX6_run_155
      · skip
        refine lv_aload_n hx hb dX6_run_52 rfl (lv_at hl 4 rfl) ?_
        refine lv_iload_n hx hb dX6_run_53 rfl (lv_at hl 5 rfl) ?_
        refine lv_iconst (v := 5) hx hb dX6_run_54 (by decide) ?_
        refine lv_iadd hx hb dX6_run_55 ?_
        refine lv_tope (y := nI (t_ + 5)) (nI_add t_ 5) ?_
        refine lv_dup2_11 hx hb dX6_run_56 rfl rfl ?_
        refine va_iald hx hb hKK.1 hP 3 0 rfl rfl (hin := (vp_in_nI (show (t_ + 5) < 121 by omega) (by omega))) dX6_run_57 ?_
        refine lv_tope (y := rw1 (t_ + 5)) (by rw [nI_clamp (by omega)]) ?_
        refine lv_iconst (v := 1) hx hb dX6_run_58 (by decide) ?_
        refine lv_iadd hx hb dX6_run_59 ?_
        refine va_iast hx hb hKK.1 hP hD hS 3 0 rfl rfl (hin := (vp_in_nI (show (t_ + 5) < 121 by omega) (by omega))) dX6_run_60 (fun H locs hP hD hS => ?_)
        rw [nI_clamp (by omega)] at hP hD
        have hP : va_P D vwCl (cM aM ac as_ an ah th bu fd fn ++ cA cyI ac 8 cd ++ cA cyI as_ 12 sw ++ cA cyI ar 121 (upd rw1 (t_ + 5) ((rw1 (t_ + 5)) + 1))) H := hP
        have hD : va_D A (cM aM ac as_ an ah th bu fd fn ++ cA cyI ac 8 cd ++ cA cyI as_ 12 sw ++ cA cyI ar 121 (upd rw1 (t_ + 5) ((rw1 (t_ + 5)) + 1))) := hD
        have e9 : mruL t_ (mfar fd fn rw) 3 rw = upd rw1 (t_ + 5) ((rw1 (t_ + 5)) + 1) := (by rw [← hfr, hsp]; exact (by first | with_reducible rfl | (simp only [mruL, h_2, h_3, if_true, if_false, reduceIte, not_true_eq_false, not_false_eq_true]; done) | (simp [mruL, h_2, h_3]; done)))
        exact end_v hx hb hrt hlocks (by rw [e9]; exact hP) hS dX6_run_61
set_option maxHeartbeats 4000000 in
set_option maxRecDepth 100000 in
theorem c_X6_work (l : Launch) (D : va_G) (cyI cyO cyL : ClassId) (ar : Nat) (rw : Nat → Int32) (n : Nat) (hn : n ≤ 6) (hoc : rw 109 = nI n) (ho : 0 < n → vp_in (rw 113) 24) : cV l yX6_work wsX6_work ({ frames := 1, cells := 0, slots := 0, locals := 22 }) D cyI cyO cyL [.ref ar] (cA cyI ar 121 rw) (cA cyI ar 121 (mwork n rw)) := by
  intro sz
  refine Met.ofW (cc := cX6_work) (maxL := 4) (ret := none) (by decide) rfl ?_
  intro p e s m args below meth c s₁ B9 hml hv
  obtain ⟨rfl, hsz, hP, hKK, hD0⟩ := hv
  have hx := B9.exec
  have hb := B9.bytes
  have hrt := B9.returns
  have hts := atoms_spec (ws := wsX6_work) B9.pre
  have hown : s.vm.findClass RX6 = some m.cls := findClass_of_methodNamed B9.named
  have hlocks := B9.notSynchronized
  have nw := fun {w : Cond} (h : w ∈ nw_all) => NW.use (args := ([.ref ar] : List Value).toArray) hKK.2 h
  subst hsz
  have hD := hD0.self (sz := s.heap.size)
  generalize hAe : va_A (cA cyI ar 121 rw) s.heap.size = A at hD ⊢
  have hA : ∀ q : Nat, s.heap.size ≤ q → A q := fun q h => by rw [← hAe]; exact Or.inr h
  have hS : va_S A s.heap s.heap [] := va_S.rf
  have hl := lv_entry ([.ref ar]) (n := 4) (Nat.le_of_ble_eq_true rfl)
  rw [lg_entry_eq]
  generalize (lg_sl ([.ref ar]) ++ List.replicate (4 - (lg_sl ([.ref ar])).length) Slot.unset).toArray = ls at hl ⊢
  have hl : lv_has ls 4 [(0, .ref ar)] := hl
  refine lv_aload_n hx hb dX6_work_0 rfl (lv_at hl 0 rfl) ?_
  refine lv_bipush (v := 109) hx hb dX6_work_1 (by decide) ?_
  refine va_iald hx hb hKK.1 hP 0 0 rfl rfl (hin := (vp_in_nI (n := 109) (by decide) (by decide))) dX6_work_3 ?_
  refine lv_tope (y := rw 109) rfl ?_
  refine lv_if_ne (tgt := 8) hx hb dX6_work_4 (by decide) (fun h_1 => ?_) (fun h_1 => ?_)
  · skip
    have hp0 : 0 < n := Nat.pos_of_ne_zero fun e9 => h_1 (by rw [hoc, e9]; rfl)
    have ho1 := ho hp0
    refine lv_aload_n hx hb dX6_work_8 rfl (lv_at hl 0 rfl) ?_
    refine lv_bipush (v := 113) hx hb dX6_work_9 (by decide) ?_
    refine va_iald hx hb hKK.1 hP 0 0 rfl rfl (hin := (vp_in_nI (n := 113) (by decide) (by decide))) dX6_work_11 ?_
    refine lv_tope (y := rw 113) rfl ?_
    refine lv_istore_n (lv' := [(1, .int (rw 113)), (0, .ref ar)]) hx hb dX6_work_12 rfl hl (by decide) rfl (fun ls hl => ?_)
    refine lv_aload_n hx hb dX6_work_13 rfl (lv_at hl 1 rfl) ?_
    refine lv_bipush (v := 108) hx hb dX6_work_14 (by decide) ?_
    refine va_iald hx hb hKK.1 hP 0 0 rfl rfl (hin := (vp_in_nI (n := 108) (by decide) (by decide))) dX6_work_16 ?_
    refine lv_tope (y := rw 108) rfl ?_
    refine lv_iload_n hx hb dX6_work_17 rfl (lv_at hl 0 rfl) ?_
    have hPc := hP.sub (ws' := ([] : va_W)) [] rfl
    have hDc := hD.sub (ws' := ([] : va_W)) [] (by decide) rfl
    refine ret_i (W1 := ([] : va_W)) (W2 := ([] : va_W)) (ws1 := (cA cyI ar 121 rw)) (r := mup (rw 108) (rw 113)) (run_S (n := 2) (As := [.int (rw 108), .int (rw 113)]) (rest := []) ⟨hx, hb, hml, hown, hts⟩ (c_X6_upwards l D cyI cyO cyL (rw 108) (rw 113) _) ggX6_work_X6_upwards rfl rfl rfl (hts (.methodLink RX6 74 yX6_upwards) (List.mem_of_getElem? (i := 8) rfl)) (hts (.initialized RX6) (List.mem_of_getElem? (i := 10) rfl)) (hts (.static yX6_upwards) (List.mem_of_getElem? (i := 9) rfl)) (by decide +kernel) ⟨Nat.le_of_ble_eq_true rfl, Nat.le_of_ble_eq_true rfl⟩ hKK hPc hDc rfl hl.1 rfl (Nat.le_of_ble_eq_true rfl) dX6_work_18 ⟨Nat.zero_le _, Nat.zero_le _⟩) hP hD hS hA [] rfl rfl [(false, 0)] (by decide +kernel) rfl (fun H locs hP hD hS => ?_)
    refine lv_istore_n (lv' := [(2, .int (mup (rw 108) (rw 113))), (1, .int (rw 113)), (0, .ref ar)]) hx hb dX6_work_21 rfl hl (by decide) rfl (fun ls hl => ?_)
    refine lv_iconst (v := 4) hx hb dX6_work_22 (by decide) ?_
    refine lv_iload_n hx hb dX6_work_23 rfl (lv_at hl 0 rfl) ?_
    refine lv_bipush (v := 24) hx hb dX6_work_24 (by decide) ?_
    refine lv_iload_n hx hb dX6_work_26 rfl (lv_at hl 0 rfl) ?_
    refine lv_isub hx hb dX6_work_27 ?_
    refine va_mmin hx hb (by rw [hml]; exact hl.1.symm) hown (hts (.methodLink RX6 77 Lib.Math.min.name) (List.mem_of_getElem? (i := 1) rfl)) (hts (.static Lib.Math.min.name) (List.mem_of_getElem? (i := 2) rfl)) (hts (.initialized "java/lang/Math") (List.mem_of_getElem? (i := 3) rfl)) (hts (.code Lib.Math.min.name Lib.Math.min.code 2 (some .int)) (List.mem_of_getElem? (i := 4) rfl)) (Nat.le_of_ble_eq_true rfl) (Nat.le_of_ble_eq_true rfl) (Nat.zero_le _) (Nat.zero_le _) dX6_work_28 ?_
    refine lv_tope (y := mmin (mup (rw 108) (rw 113)) (24 - (mup (rw 108) (rw 113)))) rfl ?_
    refine va_mmin hx hb (by rw [hml]; exact hl.1.symm) hown (hts (.methodLink RX6 77 Lib.Math.min.name) (List.mem_of_getElem? (i := 1) rfl)) (hts (.static Lib.Math.min.name) (List.mem_of_getElem? (i := 2) rfl)) (hts (.initialized "java/lang/Math") (List.mem_of_getElem? (i := 3) rfl)) (hts (.code Lib.Math.min.name Lib.Math.min.code 2 (some .int)) (List.mem_of_getElem? (i := 4) rfl)) (Nat.le_of_ble_eq_true rfl) (Nat.le_of_ble_eq_true rfl) (Nat.zero_le _) (Nat.zero_le _) dX6_work_31 ?_
    refine lv_tope (y := mmin 4 (mmin (mup (rw 108) (rw 113)) (24 - (mup (rw 108) (rw 113))))) rfl ?_
    refine lv_tope (y := mwb rw) rfl ?_
    refine lv_istore_n (lv' := [(3, .int (mwb rw)), (2, .int (mup (rw 108) (rw 113))), (1, .int (rw 113)), (0, .ref ar)]) hx hb dX6_work_34 rfl hl (by decide) rfl (fun ls hl => ?_)
    refine lv_aload_n hx hb dX6_work_35 rfl (lv_at hl 3 rfl) ?_
    refine lv_bipush (v := 108) hx hb dX6_work_36 (by decide) ?_
    refine lv_aload_n hx hb dX6_work_38 rfl (lv_at hl 3 rfl) ?_
    refine lv_bipush (v := 108) hx hb dX6_work_39 (by decide) ?_
    refine va_iald hx hb hKK.1 hP 0 0 rfl rfl (hin := (vp_in_nI (n := 108) (by decide) (by decide))) dX6_work_41 ?_
    refine lv_tope (y := rw 108) rfl ?_
    refine lv_iload_n hx hb dX6_work_42 rfl (lv_at hl 1 rfl) ?_
    refine lv_bipush (v := 24) hx hb dX6_work_43 (by decide) ?_
    refine lv_iload_n hx hb dX6_work_45 rfl (lv_at hl 1 rfl) ?_
    refine lv_isub hx hb dX6_work_46 ?_
    refine wjoin (σ := (Int32)) (tgt := 58) (st1 := fun x9 => [.int x9, .int (rw 108), .int 108, .ref ar]) (fun x9 H9 L9 s9 => (x9 = if 24 - mup (rw 108) (rw 113) < mup (rw 108) (rw 113) then 24 - mwb rw else mwb rw) ∧ (va_P D vwCl (cA cyI ar 121 rw) H9) ∧ (va_D A (cA cyI ar 121 rw)) ∧ (va_S A s.heap H9 L9) ∧ (lv_has s9 4 [(3, .int (mwb rw)), (2, .int (mup (rw 108) (rw 113))), (1, .int (rw 113)), (0, .ref ar)])) (fun KJ => ?_) (fun x9 H locs ls g9 => ?_)
    · skip
      refine lv_icmp_gt (tgt := 54) hx hb dX6_work_47 (by decide) (fun h_2 => ?_) (fun h_2 => ?_)
      · skip
        refine lv_bipush (v := 24) hx hb dX6_work_54 (by decide) ?_
        refine lv_iload_n hx hb dX6_work_56 rfl (lv_at hl 0 rfl) ?_
        refine lv_isub hx hb dX6_work_57 ?_
        exact KJ (24 - (mwb rw)) _ _ _ ⟨(by first | exact (if_pos h_2).symm | exact (if_neg h_2).symm), hP, hD, hS, lv_sub hl [0, 1, 2, 3] rfl⟩
      · skip
        refine lv_iload_n hx hb dX6_work_50 rfl (lv_at hl 0 rfl) ?_
        refine lv_goto (tgt := 58) hx hb dX6_work_51 (by decide) ?_
        exact KJ (mwb rw) _ _ _ ⟨(by first | exact (if_pos h_2).symm | exact (if_neg h_2).symm), hP, hD, hS, lv_sub hl [0, 1, 2, 3] rfl⟩
    · skip
      obtain ⟨wy, rfl⟩ : ∃ z, z = x9 := ⟨_, rfl⟩
      obtain ⟨hwy, hP, hD, hS, hl⟩ := g9
      have hwy : wy = if 24 - mup (rw 108) (rw 113) < mup (rw 108) (rw 113) then 24 - mwb rw else mwb rw := hwy
      have hP : va_P D vwCl (cA cyI ar 121 rw) H := hP
      have hD : va_D A (cA cyI ar 121 rw) := hD
      have hl : lv_has ls 4 [(3, .int (mwb rw)), (2, .int (mup (rw 108) (rw 113))), (1, .int (rw 113)), (0, .ref ar)] := hl
      show W _ _ _ _ _ _ _ _ _ _ _ _ _ _ _ (F0 m 58 ls [.int wy, .int (rw 108), .int 108, .ref ar])
      refine lv_iadd hx hb dX6_work_58 ?_
      refine lv_bipush (v := 24) hx hb dX6_work_59 (by decide) ?_
      refine lv_irem hx hb dX6_work_61 (by decide) ?_
      refine lv_tope (y := ir ((rw 108) + wy) 24) rfl ?_
      refine va_iast hx hb hKK.1 hP hD hS 0 0 rfl rfl (hin := (vp_in_nI (n := 108) (by decide) (by decide))) dX6_work_62 (fun H locs hP hD hS => ?_)
      have hP : va_P D vwCl (cA cyI ar 121 (upd rw 108 (ir ((rw 108) + wy) 24))) H := hP
      have hD : va_D A (cA cyI ar 121 (upd rw 108 (ir ((rw 108) + wy) 24))) := hD
      have e6_3 : upd rw 108 (ir ((rw 108) + wy) 24) = mw1 rw := (by rw [hwy]; rfl)
      rw [e6_3] at hP hD
      have hP : va_P D vwCl (cA cyI ar 121 (mw1 rw)) H := hP
      have hD : va_D A (cA cyI ar 121 (mw1 rw)) := hD
      refine lv_aload_n hx hb dX6_work_63 rfl (lv_at hl 3 rfl) ?_
      refine lv_bipush (v := 108) hx hb dX6_work_64 (by decide) ?_
      refine va_iald hx hb hKK.1 hP 0 0 rfl rfl (hin := (vp_in_nI (n := 108) (by decide) (by decide))) dX6_work_66 ?_
      refine lv_tope (y := (mw1 rw) 108) rfl ?_
      refine lv_iload_n hx hb dX6_work_67 rfl (lv_at hl 2 rfl) ?_
      refine lv_icmp_eq (tgt := 72) hx hb dX6_work_68 (by decide) (fun h_4 => ?_) (fun h_4 => ?_)
      · skip
        refine lv_aload_n hx hb dX6_work_72 rfl (lv_at hl 3 rfl) ?_
        refine lv_bipush (v := 119) hx hb dX6_work_73 (by decide) ?_
        refine lv_dup2_11 hx hb dX6_work_75 rfl rfl ?_
        refine va_iald hx hb hKK.1 hP 0 0 rfl rfl (hin := (vp_in_nI (n := 119) (by decide) (by decide))) dX6_work_76 ?_
        refine lv_tope (y := (mw1 rw) 119) rfl ?_
        refine lv_iconst (v := 2) hx hb dX6_work_77 (by decide) ?_
        refine lv_isub hx hb dX6_work_78 ?_
        refine va_iast hx hb hKK.1 hP hD hS 0 0 rfl rfl (hin := (vp_in_nI (n := 119) (by decide) (by decide))) dX6_work_79 (fun H locs hP hD hS => ?_)
        have hP : va_P D vwCl (cA cyI ar 121 (upd (mw1 rw) 119 (((mw1 rw) 119) - 2))) H := hP
        have hD : va_D A (cA cyI ar 121 (upd (mw1 rw) 119 (((mw1 rw) 119) - 2))) := hD
        have e6_5 : upd (mw1 rw) 119 (((mw1 rw) 119) - 2) = mw2 rw := rfl
        rw [e6_5] at hP hD
        have hP : va_P D vwCl (cA cyI ar 121 (mw2 rw)) H := hP
        have hD : va_D A (cA cyI ar 121 (mw2 rw)) := hD
        refine lv_aload_n hx hb dX6_work_80 rfl (lv_at hl 3 rfl) ?_
        refine lv_bipush (v := 110) hx hb dX6_work_81 (by decide) ?_
        refine lv_dup2_11 hx hb dX6_work_83 rfl rfl ?_
        refine va_iald hx hb hKK.1 hP 0 0 rfl rfl (hin := (vp_in_nI (n := 110) (by decide) (by decide))) dX6_work_84 ?_
        refine lv_tope (y := (mw2 rw) 110) rfl ?_
        refine lv_iconst (v := 1) hx hb dX6_work_85 (by decide) ?_
        refine lv_iadd hx hb dX6_work_86 ?_
        refine va_iast hx hb hKK.1 hP hD hS 0 0 rfl rfl (hin := (vp_in_nI (n := 110) (by decide) (by decide))) dX6_work_87 (fun H locs hP hD hS => ?_)
        have hP : va_P D vwCl (cA cyI ar 121 (upd (mw2 rw) 110 (((mw2 rw) 110) + 1))) H := hP
        have hD : va_D A (cA cyI ar 121 (upd (mw2 rw) 110 (((mw2 rw) 110) + 1))) := hD
        have e6_6 : upd (mw2 rw) 110 (((mw2 rw) 110) + 1) = mw3 rw := rfl
        rw [e6_6] at hP hD
        have hP : va_P D vwCl (cA cyI ar 121 (mw3 rw)) H := hP
        have hD : va_D A (cA cyI ar 121 (mw3 rw)) := hD
        refine lv_aload_n hx hb dX6_work_88 rfl (lv_at hl 3 rfl) ?_
        refine lv_bipush (v := 111) hx hb dX6_work_89 (by decide) ?_
        refine lv_dup2_11 hx hb dX6_work_91 rfl rfl ?_
        refine va_iald hx hb hKK.1 hP 0 0 rfl rfl (hin := (vp_in_nI (n := 111) (by decide) (by decide))) dX6_work_92 ?_
        refine lv_tope (y := (mw3 rw) 111) rfl ?_
        refine lv_iconst (v := 1) hx hb dX6_work_93 (by decide) ?_
        refine lv_iadd hx hb dX6_work_94 ?_
        refine va_iast hx hb hKK.1 hP hD hS 0 0 rfl rfl (hin := (vp_in_nI (n := 111) (by decide) (by decide))) dX6_work_95 (fun H locs hP hD hS => ?_)
        have hP : va_P D vwCl (cA cyI ar 121 (upd (mw3 rw) 111 (((mw3 rw) 111) + 1))) H := hP
        have hD : va_D A (cA cyI ar 121 (upd (mw3 rw) 111 (((mw3 rw) 111) + 1))) := hD
        have e6_7 : upd (mw3 rw) 111 (((mw3 rw) 111) + 1) = mw4 rw := rfl
        rw [e6_7] at hP hD
        have hP : va_P D vwCl (cA cyI ar 121 (mw4 rw)) H := hP
        have hD : va_D A (cA cyI ar 121 (mw4 rw)) := hD
        refine lv_aload_n hx hb dX6_work_96 rfl (lv_at hl 3 rfl) ?_
        refine lv_bipush (v := 48) hx hb dX6_work_97 (by decide) ?_
        refine lv_iload_n hx hb dX6_work_99 rfl (lv_at hl 2 rfl) ?_
        refine lv_iadd hx hb dX6_work_100 ?_
        refine va_iald hx hb hKK.1 hP 0 0 rfl rfl (hin := (in48 ho1)) dX6_work_101 ?_
        refine lv_tope (y := (mw4 rw) (48 + (rw 113).toNatClampNeg)) (by rw [tn48 ho1]) ?_
        refine lv_if_ne (tgt := 140) hx hb dX6_work_102 (by decide) (fun h_8 => ?_) (fun h_8 => ?_)
        · skip
          refine lv_aload_n hx hb dX6_work_140 rfl (lv_at hl 3 rfl) ?_
          refine lv_bipush (v := 110) hx hb dX6_work_141 (by decide) ?_
          refine va_iald hx hb hKK.1 hP 0 0 rfl rfl (hin := (vp_in_nI (n := 110) (by decide) (by decide))) dX6_work_143 ?_
          refine lv_tope (y := (mw4 rw) 110) rfl ?_
          refine lv_iconst (v := 2) hx hb dX6_work_144 (by decide) ?_
          refine lv_icmp_lt (tgt := 175) hx hb dX6_work_145 (by decide) (fun h_9 => ?_) (fun h_9 => ?_)
          · skip
            have e9 : mwork n rw = mw4 rw := (by first | with_reducible rfl | (simp only [mwork, h_1, h_4, h_8, h_9, if_true, if_false, reduceIte, not_true_eq_false, not_false_eq_true]; done) | (simp [mwork, h_1, h_4, h_8, h_9]; done))
            exact end_v hx hb hrt hlocks (by rw [e9]; exact hP) hS dX6_work_175
          · skip
            refine lv_aload_n hx hb dX6_work_148 rfl (lv_at hl 3 rfl) ?_
            refine lv_bipush (v := 48) hx hb dX6_work_149 (by decide) ?_
            refine lv_iload_n hx hb dX6_work_151 rfl (lv_at hl 2 rfl) ?_
            refine lv_iadd hx hb dX6_work_152 ?_
            refine lv_iconst (v := 0) hx hb dX6_work_153 (by decide) ?_
            refine va_iast hx hb hKK.1 hP hD hS 0 0 rfl rfl (hin := (in48 ho1)) dX6_work_154 (fun H locs hP hD hS => ?_)
            rw [tn48 ho1] at hP hD
            have hP : va_P D vwCl (cA cyI ar 121 (upd (mw4 rw) (48 + (rw 113).toNatClampNeg) 0)) H := hP
            have hD : va_D A (cA cyI ar 121 (upd (mw4 rw) (48 + (rw 113).toNatClampNeg) 0)) := hD
            refine lv_aload_n hx hb dX6_work_155 rfl (lv_at hl 3 rfl) ?_
            refine lv_iconst (v := 0) hx hb dX6_work_156 (by decide) ?_
            refine lv_iload_n hx hb dX6_work_157 rfl (lv_at hl 2 rfl) ?_
            refine lv_iadd hx hb dX6_work_158 ?_
            refine lv_bipush (v := 50) hx hb dX6_work_159 (by decide) ?_
            refine va_iast hx hb hKK.1 hP hD hS 0 0 rfl rfl (hin := (in0 ho1)) dX6_work_161 (fun H locs hP hD hS => ?_)
            rw [tn0 ho1] at hP hD
            have hP : va_P D vwCl (cA cyI ar 121 (upd (upd (mw4 rw) (48 + (rw 113).toNatClampNeg) 0) ((rw 113).toNatClampNeg) 50)) H := hP
            have hD : va_D A (cA cyI ar 121 (upd (upd (mw4 rw) (48 + (rw 113).toNatClampNeg) 0) ((rw 113).toNatClampNeg) 50)) := hD
            have e6_10 : upd (upd (mw4 rw) (48 + (rw 113).toNatClampNeg) 0) ((rw 113).toNatClampNeg) 50 = mw6 rw := rfl
            rw [e6_10] at hP hD
            have hP : va_P D vwCl (cA cyI ar 121 (mw6 rw)) H := hP
            have hD : va_D A (cA cyI ar 121 (mw6 rw)) := hD
            refine lv_aload_n hx hb dX6_work_162 rfl (lv_at hl 3 rfl) ?_
            refine lv_bipush (v := 112) hx hb dX6_work_163 (by decide) ?_
            refine lv_dup2_11 hx hb dX6_work_165 rfl rfl ?_
            refine va_iald hx hb hKK.1 hP 0 0 rfl rfl (hin := (vp_in_nI (n := 112) (by decide) (by decide))) dX6_work_166 ?_
            refine lv_tope (y := (mw6 rw) 112) rfl ?_
            refine lv_iconst (v := 1) hx hb dX6_work_167 (by decide) ?_
            refine lv_iadd hx hb dX6_work_168 ?_
            refine va_iast hx hb hKK.1 hP hD hS 0 0 rfl rfl (hin := (vp_in_nI (n := 112) (by decide) (by decide))) dX6_work_169 (fun H locs hP hD hS => ?_)
            have hP : va_P D vwCl (cA cyI ar 121 (upd (mw6 rw) 112 (((mw6 rw) 112) + 1))) H := hP
            have hD : va_D A (cA cyI ar 121 (upd (mw6 rw) 112 (((mw6 rw) 112) + 1))) := hD
            have e6_11 : upd (mw6 rw) 112 (((mw6 rw) 112) + 1) = mw7 rw := rfl
            rw [e6_11] at hP hD
            have hP : va_P D vwCl (cA cyI ar 121 (mw7 rw)) H := hP
            have hD : va_D A (cA cyI ar 121 (mw7 rw)) := hD
            refine lv_aload_n hx hb dX6_work_170 rfl (lv_at hl 3 rfl) ?_
            refine lv_iconst (v := 0) hx hb dX6_work_171 (by decide) ?_
            have hPc := hP.sub (ws' := (cA cyI ar 121 (mw7 rw))) [0] rfl
            have hDc := hD.sub (ws' := (cA cyI ar 121 (mw7 rw))) [0] (by decide) rfl
            refine ret_v (W1 := (cA cyI ar 121 (mw7 rw))) (W2 := (cA cyI ar 121 (mrem (mw7 rw) 0 n))) (ws1 := (cA cyI ar 121 (mrem (mw7 rw) 0 n))) (run_S (n := 2) (As := [.ref ar, .int 0]) (rest := []) ⟨hx, hb, hml, hown, hts⟩ (c_X6_remove l D cyI cyO cyL ar (mw7 rw) n 0 hn (by rw [mw7_keep ho1 (by omega) (by omega), mw4_keep (by omega) (by omega) (by omega) (by omega)]; exact hoc) hp0 _) ggX6_work_X6_remove rfl rfl rfl (hts (.methodLink RX6 70 yX6_remove) (List.mem_of_getElem? (i := 12) rfl)) (hts (.initialized RX6) (List.mem_of_getElem? (i := 10) rfl)) (hts (.static yX6_remove) (List.mem_of_getElem? (i := 13) rfl)) (by decide +kernel) ⟨Nat.le_of_ble_eq_true rfl, Nat.le_of_ble_eq_true rfl⟩ hKK hPc hDc rfl hl.1 rfl (Nat.le_of_ble_eq_true rfl) dX6_work_172 ⟨Nat.zero_le _, Nat.zero_le _⟩) hP hD hS hA [0] rfl rfl [(true, 0)] (by decide +kernel) rfl (fun H locs hP hD hS => ?_)
            have e9 : mwork n rw = mrem (mw7 rw) 0 n := (by first | with_reducible rfl | (simp only [mwork, h_1, h_4, h_8, h_9, if_true, if_false, reduceIte, not_true_eq_false, not_false_eq_true]; done) | (simp [mwork, h_1, h_4, h_8, h_9]; done))
            exact end_v hx hb hrt hlocks (by rw [e9]; exact hP) hS dX6_work_175
        · skip
          refine lv_aload_n hx hb dX6_work_105 rfl (lv_at hl 3 rfl) ?_
          refine lv_iconst (v := 0) hx hb dX6_work_106 (by decide) ?_
          refine lv_iload_n hx hb dX6_work_107 rfl (lv_at hl 2 rfl) ?_
          refine lv_iadd hx hb dX6_work_108 ?_
          refine lv_iconst (v := 0) hx hb dX6_work_109 (by decide) ?_
          refine lv_aload_n hx hb dX6_work_110 rfl (lv_at hl 3 rfl) ?_
          refine lv_iconst (v := 0) hx hb dX6_work_111 (by decide) ?_
          refine lv_iload_n hx hb dX6_work_112 rfl (lv_at hl 2 rfl) ?_
          refine lv_iadd hx hb dX6_work_113 ?_
          refine va_iald hx hb hKK.1 hP 0 0 rfl rfl (hin := (in0 ho1)) dX6_work_114 ?_
          refine lv_tope (y := (mw4 rw) ((rw 113).toNatClampNeg)) (by rw [tn0 ho1]) ?_
          refine lv_bipush (v := 30) hx hb dX6_work_115 (by decide) ?_
          refine lv_isub hx hb dX6_work_117 ?_
          refine va_mmax hx hb (by rw [hml]; exact hl.1.symm) hown (hts (.methodLink RX6 104 Lib.Math.max.name) (List.mem_of_getElem? (i := 5) rfl)) (hts (.static Lib.Math.max.name) (List.mem_of_getElem? (i := 6) rfl)) (hts (.initialized "java/lang/Math") (List.mem_of_getElem? (i := 3) rfl)) (hts (.code Lib.Math.max.name Lib.Math.max.code 2 (some .int)) (List.mem_of_getElem? (i := 7) rfl)) (Nat.le_of_ble_eq_true rfl) (Nat.le_of_ble_eq_true rfl) (Nat.zero_le _) (Nat.zero_le _) dX6_work_118 ?_
          refine lv_tope (y := mmax 0 (((mw4 rw) ((rw 113).toNatClampNeg)) - 30)) rfl ?_
          refine va_iast hx hb hKK.1 hP hD hS 0 0 rfl rfl (hin := (in0 ho1)) dX6_work_121 (fun H locs hP hD hS => ?_)
          rw [tn0 ho1] at hP hD
          have hP : va_P D vwCl (cA cyI ar 121 (upd (mw4 rw) ((rw 113).toNatClampNeg) (mmax 0 (((mw4 rw) ((rw 113).toNatClampNeg)) - 30)))) H := hP
          have hD : va_D A (cA cyI ar 121 (upd (mw4 rw) ((rw 113).toNatClampNeg) (mmax 0 (((mw4 rw) ((rw 113).toNatClampNeg)) - 30)))) := hD
          have e6_12 : upd (mw4 rw) ((rw 113).toNatClampNeg) (mmax 0 (((mw4 rw) ((rw 113).toNatClampNeg)) - 30)) = mw5 rw := rfl
          rw [e6_12] at hP hD
          have hP : va_P D vwCl (cA cyI ar 121 (mw5 rw)) H := hP
          have hD : va_D A (cA cyI ar 121 (mw5 rw)) := hD
          refine lv_aload_n hx hb dX6_work_122 rfl (lv_at hl 3 rfl) ?_
          refine lv_iconst (v := 0) hx hb dX6_work_123 (by decide) ?_
          refine lv_iload_n hx hb dX6_work_124 rfl (lv_at hl 2 rfl) ?_
          refine lv_iadd hx hb dX6_work_125 ?_
          refine va_iald hx hb hKK.1 hP 0 0 rfl rfl (hin := (in0 ho1)) dX6_work_126 ?_
          refine lv_tope (y := (mw5 rw) ((rw 113).toNatClampNeg)) (by rw [tn0 ho1]) ?_
          refine lv_bipush (v := 30) hx hb dX6_work_127 (by decide) ?_
          refine lv_icmp_ge (tgt := 175) hx hb dX6_work_129 (by decide) (fun h_13 => ?_) (fun h_13 => ?_)
          · skip
            have e9 : mwork n rw = mw5 rw := (by first | with_reducible rfl | (simp only [mwork, h_1, h_4, h_8, h_13, if_true, if_false, reduceIte, not_true_eq_false, not_false_eq_true]; done) | (simp [mwork, h_1, h_4, h_8, h_13]; done))
            exact end_v hx hb hrt hlocks (by rw [e9]; exact hP) hS dX6_work_175
          · skip
            refine lv_aload_n hx hb dX6_work_132 rfl (lv_at hl 3 rfl) ?_
            refine lv_iconst (v := 0) hx hb dX6_work_133 (by decide) ?_
            have hPc := hP.sub (ws' := (cA cyI ar 121 (mw5 rw))) [0] rfl
            have hDc := hD.sub (ws' := (cA cyI ar 121 (mw5 rw))) [0] (by decide) rfl
            refine ret_v (W1 := (cA cyI ar 121 (mw5 rw))) (W2 := (cA cyI ar 121 (mrem (mw5 rw) 0 n))) (ws1 := (cA cyI ar 121 (mrem (mw5 rw) 0 n))) (run_S (n := 2) (As := [.ref ar, .int 0]) (rest := []) ⟨hx, hb, hml, hown, hts⟩ (c_X6_remove l D cyI cyO cyL ar (mw5 rw) n 0 hn (by rw [mw5_keep ho1 (by omega), mw4_keep (by omega) (by omega) (by omega) (by omega)]; exact hoc) hp0 _) ggX6_work_X6_remove rfl rfl rfl (hts (.methodLink RX6 70 yX6_remove) (List.mem_of_getElem? (i := 12) rfl)) (hts (.initialized RX6) (List.mem_of_getElem? (i := 10) rfl)) (hts (.static yX6_remove) (List.mem_of_getElem? (i := 13) rfl)) (by decide +kernel) ⟨Nat.le_of_ble_eq_true rfl, Nat.le_of_ble_eq_true rfl⟩ hKK hPc hDc rfl hl.1 rfl (Nat.le_of_ble_eq_true rfl) dX6_work_134 ⟨Nat.zero_le _, Nat.zero_le _⟩) hP hD hS hA [0] rfl rfl [(true, 0)] (by decide +kernel) rfl (fun H locs hP hD hS => ?_)
            refine lv_goto (tgt := 175) hx hb dX6_work_137 (by decide) ?_
            have e9 : mwork n rw = mrem (mw5 rw) 0 n := (by first | with_reducible rfl | (simp only [mwork, h_1, h_4, h_8, h_13, if_true, if_false, reduceIte, not_true_eq_false, not_false_eq_true]; done) | (simp [mwork, h_1, h_4, h_8, h_13]; done))
            exact end_v hx hb hrt hlocks (by rw [e9]; exact hP) hS dX6_work_175
      · skip
        have e9 : mwork n rw = mw1 rw := (by first | with_reducible rfl | (simp only [mwork, h_1, h_4, if_true, if_false, reduceIte, not_true_eq_false, not_false_eq_true]; done) | (simp [mwork, h_1, h_4]; done))
        exact end_v hx hb hrt hlocks (by rw [e9]; exact hP) hS dX6_work_71
  · skip
    have e9 : mwork n rw = rw := (by first | with_reducible rfl | (simp only [mwork, h_1, if_true, if_false, reduceIte, not_true_eq_false, not_false_eq_true]; done) | (simp [mwork, h_1]; done))
    exact end_v hx hb hrt hlocks (by rw [e9]; exact hP) hS dX6_work_7
set_option maxHeartbeats 4000000 in
set_option maxRecDepth 100000 in
theorem c_X6_pass (l : Launch) (D : va_G) (cyI cyO cyL : ClassId) (aM : Nat) (ac : Nat) (as_ : Nat) (an : Nat) (ah : Nat) (ar : Nat) (th : Int32) (bu : Int32) (fd : Int32) (fn : Int32) (cd : Nat → Int32) (sw : Nat → Int32) (rw : Nat → Int32) (n : Nat) (hn : n ≤ 6) (hbu : bu = nI n) (hok : OkM rw) (hsw : ∀ k, sw k = -1 ∨ vp_in (sw k) 24) : cV l yX6_pass wsX6_pass ({ frames := 3, cells := 0, slots := 0, locals := 63 }) D cyI cyO cyL [.ref aM, .ref ar] (cM aM ac as_ an ah th bu fd fn ++ cA cyI ac 8 cd ++ cA cyI as_ 12 sw ++ cA cyI ar 121 rw) (cM aM ac as_ an ah th bu fd fn ++ cA cyI ac 8 cd ++ cA cyI as_ 12 sw ++ cA cyI ar 121 (mpass cd sw fd fn n rw)) := by
  intro sz
  refine Met.ofW (cc := cX6_pass) (maxL := 4) (ret := none) (by decide) rfl ?_
  intro p e s m args below meth c s₁ B9 hml hv
  obtain ⟨rfl, hsz, hP, hKK, hD0⟩ := hv
  have hx := B9.exec
  have hb := B9.bytes
  have hrt := B9.returns
  have hts := atoms_spec (ws := wsX6_pass) B9.pre
  have hown : s.vm.findClass RX6 = some m.cls := findClass_of_methodNamed B9.named
  have hlocks := B9.notSynchronized
  have nw := fun {w : Cond} (h : w ∈ nw_all) => NW.use (args := ([.ref aM, .ref ar] : List Value).toArray) hKK.2 h
  have iX6 : ∀ w ∈ wsX60, w ∈ wsX6_pass := fun _ h => List.mem_cons_of_mem _ (List.mem_append_right _ h)
  subst hsz
  have hD := hD0.self (sz := s.heap.size)
  generalize hAe : va_A (cM aM ac as_ an ah th bu fd fn ++ cA cyI ac 8 cd ++ cA cyI as_ 12 sw ++ cA cyI ar 121 rw) s.heap.size = A at hD ⊢
  have hA : ∀ q : Nat, s.heap.size ≤ q → A q := fun q h => by rw [← hAe]; exact Or.inr h
  have hS : va_S A s.heap s.heap [] := va_S.rf
  have hl := lv_entry ([.ref aM, .ref ar]) (n := 4) (Nat.le_of_ble_eq_true rfl)
  rw [lg_entry_eq]
  generalize (lg_sl ([.ref aM, .ref ar]) ++ List.replicate (4 - (lg_sl ([.ref aM, .ref ar])).length) Slot.unset).toArray = ls at hl ⊢
  have hl : lv_has ls 4 [(0, .ref aM), (1, .ref ar)] := hl
  obtain ⟨m, hm, hom, hok3⟩ := hok.1
  refine lv_aload_n hx hb dX6_pass_0 rfl (lv_at hl 0 rfl) ?_
  refine lv_aload_n hx hb dX6_pass_1 rfl (lv_at hl 1 rfl) ?_
  have hPc := hP.sub (ws' := (cM aM ac as_ an ah th bu fd fn ++ cA cyI ac 8 cd ++ cA cyI as_ 12 sw ++ cA cyI ar 121 rw)) [0, 1, 2, 3] rfl
  have hDc := hD.sub (ws' := (cM aM ac as_ an ah th bu fd fn ++ cA cyI ac 8 cd ++ cA cyI as_ 12 sw ++ cA cyI ar 121 rw)) [0, 1, 2, 3] (by decide) rfl
  refine ret_v (W1 := (cM aM ac as_ an ah th bu fd fn ++ cA cyI ac 8 cd ++ cA cyI as_ 12 sw ++ cA cyI ar 121 rw)) (W2 := (cM aM ac as_ an ah th bu fd fn ++ cA cyI ac 8 cd ++ cA cyI as_ 12 sw ++ cA cyI ar 121 (mfrL cd (rw 120) 24 24 rw))) (ws1 := (cM aM ac as_ an ah th bu fd fn ++ cA cyI ac 8 cd ++ cA cyI as_ 12 sw ++ cA cyI ar 121 (mfrL cd (rw 120) 24 24 rw))) (run_V (q := (RX6, TX6, 8)) (n := 1) (As := [.ref ar]) (rest := []) ⟨hx, hb, hml, hown, hts⟩ (c_X6_freeze l D cyI cyO cyL aM ac as_ an ah ar th bu fd fn cd sw rw hok.2.2 _) ggX6_pass_X6_freeze rfl rfl rfl (hts (.methodLink RX6 111 yX6_freeze) (List.mem_of_getElem? (i := 3) rfl)) (hts (.initialized RX6) (List.mem_of_getElem? (i := 6) rfl)) (hts (.instanceMethod yX6_freeze) (List.mem_of_getElem? (i := 4) rfl)) (hts (.selects RX6 yX6_freeze yX6_freeze) (List.mem_of_getElem? (i := 5) rfl)) (by decide +kernel) ⟨Nat.le_of_ble_eq_true rfl, Nat.le_of_ble_eq_true rfl⟩ hKK hPc hDc (ci := 6) (q0 := 0) rfl rfl rfl hl.1 rfl (Nat.le_of_ble_eq_true rfl) dX6_pass_2 ⟨Nat.zero_le _, Nat.zero_le _⟩) hP hD hS hA [0, 1, 2, 3] rfl rfl [(true, 0), (true, 1), (true, 2), (true, 3)] (by decide +kernel) rfl (fun H locs hP hD hS => ?_)
  have e6_1 : mfrL cd (rw 120) 24 24 rw = mP1 cd rw := rfl
  rw [e6_1] at hP hD
  have hP : va_P D vwCl (cM aM ac as_ an ah th bu fd fn ++ cA cyI ac 8 cd ++ cA cyI as_ 12 sw ++ cA cyI ar 121 (mP1 cd rw)) H := hP
  have hD : va_D A (cM aM ac as_ an ah th bu fd fn ++ cA cyI ac 8 cd ++ cA cyI as_ 12 sw ++ cA cyI ar 121 (mP1 cd rw)) := hD
  refine lv_aload_n hx hb dX6_pass_5 rfl (lv_at hl 0 rfl) ?_
  refine va_get (D := D) (ci := 6) (v := .ref as_) (C := RX6) (T := TX6) (N := 8) hx hb hts iX6 hown hKK.1 hP 0 rfl rfl 5 (by decide) (hts (.fieldLink RX6 23 "TrolleyGangModel" "swan" "[I") (List.mem_of_getElem? (i := 1) rfl)) (fun _ h9 => h9) rfl dX6_pass_6 ?_
  refine lv_aload_n hx hb dX6_pass_9 rfl (lv_at hl 1 rfl) ?_
  refine lv_bipush (v := 120) hx hb dX6_pass_10 (by decide) ?_
  refine va_iald hx hb hKK.1 hP 3 0 rfl rfl (hin := (vp_in_nI (n := 120) (by decide) (by decide))) dX6_pass_12 ?_
  refine lv_tope (y := (mP1 cd rw) 120) rfl ?_
  refine lv_bipush (v := 12) hx hb dX6_pass_13 (by decide) ?_
  refine lv_irem hx hb dX6_pass_15 (by decide) ?_
  refine lv_tope (y := ir ((mP1 cd rw) 120) 12) rfl ?_
  refine va_iald hx hb hKK.1 hP 2 0 rfl rfl (hin := (ir_in12 (by rw [P1_keep (by omega)]; exact hok.2.2))) dX6_pass_16 ?_
  refine lv_tope (y := mbird cd sw rw) rfl ?_
  refine lv_istore_n (lv' := [(2, .int (mbird cd sw rw)), (0, .ref aM), (1, .ref ar)]) hx hb dX6_pass_17 rfl hl (by decide) rfl (fun ls hl => ?_)
  refine lv_iload_n hx hb dX6_pass_18 rfl (lv_at hl 0 rfl) ?_
  refine wjoin (σ := (Nat → Int32)) (tgt := 38) (st1 := fun x9 => []) (fun x9 H9 L9 s9 => (x9 = mP2 cd sw rw) ∧ (va_P D vwCl (cM aM ac as_ an ah th bu fd fn ++ cA cyI ac 8 cd ++ cA cyI as_ 12 sw ++ cA cyI ar 121 x9) H9) ∧ (va_D A (cM aM ac as_ an ah th bu fd fn ++ cA cyI ac 8 cd ++ cA cyI as_ 12 sw ++ cA cyI ar 121 x9)) ∧ (va_S A s.heap H9 L9) ∧ (lv_has s9 4 [(0, .ref aM), (1, .ref ar)])) (fun KJ => ?_) (fun x9 H locs ls g9 => ?_)
  · skip
    refine lv_if_lt (tgt := 38) hx hb dX6_pass_19 (by decide) (fun h_2 => ?_) (fun h_2 => ?_)
    · skip
      exact KJ (mP1 cd rw) _ _ _ ⟨(by simp only [mP2, h_2, if_true, if_false]), hP, hD, hS, lv_sub hl [1, 2] rfl⟩
    · skip
      have hbd := sw_vp (x := mbird cd sw rw) (hsw _) h_2
      refine lv_aload_n hx hb dX6_pass_22 rfl (lv_at hl 2 rfl) ?_
      refine lv_bipush (v := 48) hx hb dX6_pass_23 (by decide) ?_
      refine lv_iload_n hx hb dX6_pass_25 rfl (lv_at hl 0 rfl) ?_
      refine lv_iadd hx hb dX6_pass_26 ?_
      refine va_iald hx hb hKK.1 hP 3 0 rfl rfl (hin := (in48 hbd)) dX6_pass_27 ?_
      refine lv_tope (y := (mP1 cd rw) (48 + (mbird cd sw rw).toNatClampNeg)) (by rw [tn48 hbd]) ?_
      refine lv_if_ne (tgt := 38) hx hb dX6_pass_28 (by decide) (fun h_3 => ?_) (fun h_3 => ?_)
      · skip
        exact KJ (mP1 cd rw) _ _ _ ⟨(by simp only [mP2, h_2, h_3, if_true, if_false]), hP, hD, hS, lv_sub hl [1, 2] rfl⟩
      · skip
        refine lv_aload_n hx hb dX6_pass_31 rfl (lv_at hl 2 rfl) ?_
        refine lv_iload_n hx hb dX6_pass_32 rfl (lv_at hl 0 rfl) ?_
        refine lv_bipush (v := 25) hx hb dX6_pass_33 (by decide) ?_
        have hPc := hP.sub (ws' := (cA cyI ar 121 (mP1 cd rw))) [3] rfl
        have hDc := hD.sub (ws' := (cA cyI ar 121 (mP1 cd rw))) [3] (by decide) rfl
        refine ret_v (W1 := (cA cyI ar 121 (mP1 cd rw))) (W2 := (cA cyI ar 121 (mwear (mP1 cd rw) (mbird cd sw rw) 25))) (ws1 := (cM aM ac as_ an ah th bu fd fn ++ cA cyI ac 8 cd ++ cA cyI as_ 12 sw ++ cA cyI ar 121 (mwear (mP1 cd rw) (mbird cd sw rw) 25))) (run_S (n := 3) (As := [.ref ar, .int (mbird cd sw rw), .int 25]) (rest := []) ⟨hx, hb, hml, hown, hts⟩ (c_X6_wear l D cyI cyO cyL ar (mP1 cd rw) (mbird cd sw rw) 25 hbd _) ggX6_pass_X6_wear rfl rfl rfl (hts (.methodLink RX6 107 yX6_wear) (List.mem_of_getElem? (i := 19) rfl)) (hts (.initialized RX6) (List.mem_of_getElem? (i := 6) rfl)) (hts (.static yX6_wear) (List.mem_of_getElem? (i := 20) rfl)) (by decide +kernel) ⟨Nat.le_of_ble_eq_true rfl, Nat.le_of_ble_eq_true rfl⟩ hKK hPc hDc rfl hl.1 rfl (Nat.le_of_ble_eq_true rfl) dX6_pass_35 ⟨Nat.zero_le _, Nat.zero_le _⟩) hP hD hS hA [3] rfl rfl [(false, 0), (false, 1), (false, 2), (true, 0)] (by decide +kernel) rfl (fun H locs hP hD hS => ?_)
        exact KJ (mwear (mP1 cd rw) (mbird cd sw rw) 25) _ _ _ ⟨(by simp only [mP2, h_2, h_3, if_true, if_false]), hP, hD, hS, lv_sub hl [1, 2] rfl⟩
  · skip
    obtain ⟨rw2, rfl⟩ : ∃ z, z = x9 := ⟨_, rfl⟩
    obtain ⟨hP2, hP, hD, hS, hl⟩ := g9
    have hP2 : rw2 = mP2 cd sw rw := hP2
    have hP : va_P D vwCl (cM aM ac as_ an ah th bu fd fn ++ cA cyI ac 8 cd ++ cA cyI as_ 12 sw ++ cA cyI ar 121 rw2) H := hP
    have hD : va_D A (cM aM ac as_ an ah th bu fd fn ++ cA cyI ac 8 cd ++ cA cyI as_ 12 sw ++ cA cyI ar 121 rw2) := hD
    have hl : lv_has ls 4 [(0, .ref aM), (1, .ref ar)] := hl
    have hk2 : ∀ k, 72 ≤ k → rw2 k = rw k := fun k h9 => by rw [hP2]; exact P2_keep hsw h9
    have hat2 : ∀ j, j < 6 → vp_in (rw2 (72 + 6 * j)) 24 := fun j hj => by rw [hk2 _ (by omega)]; exact hok.2.1 j hj
    refine lv_iconst (v := 0) hx hb dX6_pass_38 (by decide) ?_
    refine lv_istore_n (lv' := [(3, .int 0), (0, .ref aM), (1, .ref ar)]) hx hb dX6_pass_39 rfl hl (by decide) rfl (fun ls hl => ?_)
    refine wloop (σ := (Nat) × (Nat → Int32)) (fun d9 x9 H9 L9 s9 => ((x9.1) + d9 = n) ∧ (mbuL fd fn n 0 rw2 = mbuL fd fn d9 (x9.1) (x9.2)) ∧ (∀ j, j < 6 → vp_in ((x9.2) (72 + 6 * j)) 24) ∧ (∀ k, 108 ≤ k → k ≠ 119 → (x9.2) k = rw2 k) ∧ (va_P D vwCl (cM aM ac as_ an ah th bu fd fn ++ cA cyI ac 8 cd ++ cA cyI as_ 12 sw ++ cA cyI ar 121 (x9.2)) H9) ∧ (va_D A (cM aM ac as_ an ah th bu fd fn ++ cA cyI ac 8 cd ++ cA cyI as_ 12 sw ++ cA cyI ar 121 (x9.2))) ∧ (va_S A s.heap H9 L9) ∧ (lv_has s9 4 [(3, .int (nI (x9.1))), (0, .ref aM), (1, .ref ar)])) (fun d9 x9 H locs ls g9 ih => ?_) n (0, rw2) _ _ _ ⟨(by omega), rfl, hat2, (fun _ _ _ => rfl), hP, hD, hS, lv_sub hl [0, 1, 2] rfl⟩
    obtain ⟨i, rw1⟩ := x9
    obtain ⟨hid, hsp, hat, hk, hP, hD, hS, hl⟩ := g9
    obtain ⟨d, rfl⟩ : ∃ z, z = d9 := ⟨_, rfl⟩
    have hid : i + d = n := hid
    have hsp : mbuL fd fn n 0 rw2 = mbuL fd fn d i rw1 := hsp
    have hat : ∀ j, j < 6 → vp_in (rw1 (72 + 6 * j)) 24 := hat
    have hk : ∀ k, 108 ≤ k → k ≠ 119 → rw1 k = rw2 k := hk
    have hP : va_P D vwCl (cM aM ac as_ an ah th bu fd fn ++ cA cyI ac 8 cd ++ cA cyI as_ 12 sw ++ cA cyI ar 121 rw1) H := hP
    have hD : va_D A (cM aM ac as_ an ah th bu fd fn ++ cA cyI ac 8 cd ++ cA cyI as_ 12 sw ++ cA cyI ar 121 rw1) := hD
    have hl : lv_has ls 4 [(3, .int (nI i)), (0, .ref aM), (1, .ref ar)] := hl
    refine lv_iload_n hx hb dX6_pass_40 rfl (lv_at hl 0 rfl) ?_
    refine lv_aload_n hx hb dX6_pass_41 rfl (lv_at hl 1 rfl) ?_
    refine va_get (D := D) (ci := 6) (v := .int bu) (C := RX6) (T := TX6) (N := 8) hx hb hts iX6 hown hKK.1 hP 0 rfl rfl 1 (by decide) (hts (.fieldLink RX6 36 "TrolleyGangModel" "buses" "I") (List.mem_of_getElem? (i := 2) rfl)) (fun _ h9 => h9) rfl dX6_pass_42 ?_
    refine lv_tope (y := nI n) hbu ?_
    refine lv_icmp_ge (tgt := 81) hx hb dX6_pass_45 (by decide) (fun h_4 => ?_) (fun h_4 => ?_)
    · skip
      obtain rfl : d = 0 := by have h9 := (nI_leI (a := n) (b := i) (by omega) (by omega)).mp h_4; omega
      have hiN : i = n := by omega
      have hsp : mbuL fd fn n 0 rw2 = rw1 := hsp
      refine lv_aload_n hx hb dX6_pass_81 rfl (lv_at hl 2 rfl) ?_
      have hPc := hP.sub (ws' := (cA cyI ar 121 rw1)) [3] rfl
      have hDc := hD.sub (ws' := (cA cyI ar 121 rw1)) [3] (by decide) rfl
      refine ret_v (W1 := (cA cyI ar 121 rw1)) (W2 := (cA cyI ar 121 (mwork m rw1))) (ws1 := (cM aM ac as_ an ah th bu fd fn ++ cA cyI ac 8 cd ++ cA cyI as_ 12 sw ++ cA cyI ar 121 (mwork m rw1))) (run_S (n := 1) (As := [.ref ar]) (rest := []) ⟨hx, hb, hml, hown, hts⟩ (c_X6_work l D cyI cyO cyL ar rw1 m hm ((hk 109 (by omega) (by omega)).trans ((hk2 109 (by omega)).trans hom)) (fun h9 => by rw [hk 113 (by omega) (by omega), hk2 113 (by omega)]; exact hok3 0 h9) _) ggX6_pass_X6_work rfl rfl rfl (hts (.methodLink RX6 118 yX6_work) (List.mem_of_getElem? (i := 28) rfl)) (hts (.initialized RX6) (List.mem_of_getElem? (i := 6) rfl)) (hts (.static yX6_work) (List.mem_of_getElem? (i := 29) rfl)) (by decide +kernel) ⟨Nat.le_of_ble_eq_true rfl, Nat.le_of_ble_eq_true rfl⟩ hKK hPc hDc rfl hl.1 rfl (Nat.le_of_ble_eq_true rfl) dX6_pass_82 ⟨Nat.zero_le _, Nat.zero_le _⟩) hP hD hS hA [3] rfl rfl [(false, 0), (false, 1), (false, 2), (true, 0)] (by decide +kernel) rfl (fun H locs hP hD hS => ?_)
      refine lv_aload_n hx hb dX6_pass_85 rfl (lv_at hl 2 rfl) ?_
      refine lv_bipush (v := 120) hx hb dX6_pass_86 (by decide) ?_
      refine lv_dup2_11 hx hb dX6_pass_88 rfl rfl ?_
      refine va_iald hx hb hKK.1 hP 3 0 rfl rfl (hin := (vp_in_nI (n := 120) (by decide) (by decide))) dX6_pass_89 ?_
      refine lv_tope (y := (mwork m rw1) 120) rfl ?_
      refine lv_iconst (v := 1) hx hb dX6_pass_90 (by decide) ?_
      refine lv_iadd hx hb dX6_pass_91 ?_
      refine va_iast hx hb hKK.1 hP hD hS 3 0 rfl rfl (hin := (vp_in_nI (n := 120) (by decide) (by decide))) dX6_pass_92 (fun H locs hP hD hS => ?_)
      have hP : va_P D vwCl (cM aM ac as_ an ah th bu fd fn ++ cA cyI ac 8 cd ++ cA cyI as_ 12 sw ++ cA cyI ar 121 (upd (mwork m rw1) 120 (((mwork m rw1) 120) + 1))) H := hP
      have hD : va_D A (cM aM ac as_ an ah th bu fd fn ++ cA cyI ac 8 cd ++ cA cyI as_ 12 sw ++ cA cyI ar 121 (upd (mwork m rw1) 120 (((mwork m rw1) 120) + 1))) := hD
      have e9 : mpass cd sw fd fn n rw = upd (mwork m rw1) 120 (((mwork m rw1) 120) + 1) := (by unfold mpass; rw [← hP2, hsp]; rw [show (rw1 109).toNatClampNeg = m from by rw [hk 109 (by omega) (by omega), hk2 109 (by omega), hom, nI_clamp (by omega)]])
      exact end_v hx hb hrt hlocks (by rw [e9]; exact hP) hS dX6_pass_93
    · skip
      have hlt : i < n := by have h9 := mt (nI_leI (a := n) (b := i) (by omega) (by omega)).mpr h_4; omega
      obtain ⟨d, rfl⟩ : ∃ k, d = k + 1 := ⟨d - 1, by omega⟩
      refine lv_aload_n hx hb dX6_pass_48 rfl (lv_at hl 2 rfl) ?_
      refine lv_bipush (v := 72) hx hb dX6_pass_49 (by decide) ?_
      refine lv_bipush (v := 6) hx hb dX6_pass_51 (by decide) ?_
      refine lv_iload_n hx hb dX6_pass_53 rfl (lv_at hl 0 rfl) ?_
      refine lv_imul hx hb dX6_pass_54 ?_
      refine lv_tope (y := nI (6 * i)) (pk_mul 6 i) ?_
      refine lv_iadd hx hb dX6_pass_55 ?_
      refine lv_tope (y := nI (72 + (6 * i))) (nI_add 72 (6 * i)) ?_
      refine lv_iconst (v := 2) hx hb dX6_pass_56 (by decide) ?_
      refine lv_iadd hx hb dX6_pass_57 ?_
      refine lv_tope (y := nI ((72 + (6 * i)) + 2)) (nI_add (72 + (6 * i)) 2) ?_
      refine va_iald hx hb hKK.1 hP 3 0 rfl rfl (hin := (vp_in_nI (show ((72 + (6 * i)) + 2) < 121 by omega) (by omega))) dX6_pass_58 ?_
      refine lv_tope (y := rw1 ((72 + (6 * i)) + 2)) (by rw [nI_clamp (by omega)]) ?_
      refine lv_iconst (v := 1) hx hb dX6_pass_59 (by decide) ?_
      refine lv_icmp_ne (tgt := 75) hx hb dX6_pass_60 (by decide) (fun h_5 => ?_) (fun h_5 => ?_)
      · skip
        refine lv_iinc (v := nI (i + 1)) (lv' := [(3, .int (nI (i + 1))), (0, .ref aM), (1, .ref ar)]) hx hb dX6_pass_75 hl (k := 0) rfl (nI_1 i) (by decide) rfl (fun ls hl => ?_)
        refine lv_goto (tgt := 40) hx hb dX6_pass_78 (by decide) ?_
        exact ih d ((i + 1), rw1) _ _ _ (by omega) ⟨(by omega), (hsp.trans (by first | with_reducible rfl | (simp only [mbuL, h_4, h_5, if_true, if_false, reduceIte, not_true_eq_false, not_false_eq_true]; done) | (simp [mbuL, h_4, h_5]; done))), (by first | exact hat | exact mru_ats (by omega) hat), (by first | exact hk | exact fun k h8 h9 => (mru_hi (by omega) hat h8 h9).trans (hk k h8 h9)), hP, hD, hS, lv_sub hl [0, 1, 2] rfl⟩
      · skip
        refine lv_aload_n hx hb dX6_pass_63 rfl (lv_at hl 1 rfl) ?_
        refine lv_aload_n hx hb dX6_pass_64 rfl (lv_at hl 2 rfl) ?_
        refine lv_bipush (v := 72) hx hb dX6_pass_65 (by decide) ?_
        refine lv_bipush (v := 6) hx hb dX6_pass_67 (by decide) ?_
        refine lv_iload_n hx hb dX6_pass_69 rfl (lv_at hl 0 rfl) ?_
        refine lv_imul hx hb dX6_pass_70 ?_
        refine lv_tope (y := nI (6 * i)) (pk_mul 6 i) ?_
        refine lv_iadd hx hb dX6_pass_71 ?_
        refine lv_tope (y := nI (72 + (6 * i))) (nI_add 72 (6 * i)) ?_
        have hPc := hP.sub (ws' := (cM aM ac as_ an ah th bu fd fn ++ cA cyI ac 8 cd ++ cA cyI as_ 12 sw ++ cA cyI ar 121 rw1)) [0, 1, 2, 3] rfl
        have hDc := hD.sub (ws' := (cM aM ac as_ an ah th bu fd fn ++ cA cyI ac 8 cd ++ cA cyI as_ 12 sw ++ cA cyI ar 121 rw1)) [0, 1, 2, 3] (by decide) rfl
        refine ret_v (W1 := (cM aM ac as_ an ah th bu fd fn ++ cA cyI ac 8 cd ++ cA cyI as_ 12 sw ++ cA cyI ar 121 rw1)) (W2 := (cM aM ac as_ an ah th bu fd fn ++ cA cyI ac 8 cd ++ cA cyI as_ 12 sw ++ cA cyI ar 121 (mruL (72 + (6 * i)) (mfar fd fn rw1) 3 rw1))) (ws1 := (cM aM ac as_ an ah th bu fd fn ++ cA cyI ac 8 cd ++ cA cyI as_ 12 sw ++ cA cyI ar 121 (mruL (72 + (6 * i)) (mfar fd fn rw1) 3 rw1))) (run_V (q := (RX6, TX6, 8)) (n := 2) (As := [.ref ar, .int (nI (72 + (6 * i)))]) (rest := []) ⟨hx, hb, hml, hown, hts⟩ (c_X6_run l D cyI cyO cyL aM ac as_ an ah ar th bu fd fn cd sw rw1 (72 + (6 * i)) (hat i (by omega)) (by omega) (by omega) _) ggX6_pass_X6_run rfl rfl rfl (hts (.methodLink RX6 115 yX6_run) (List.mem_of_getElem? (i := 22) rfl)) (hts (.initialized RX6) (List.mem_of_getElem? (i := 6) rfl)) (hts (.instanceMethod yX6_run) (List.mem_of_getElem? (i := 23) rfl)) (hts (.selects RX6 yX6_run yX6_run) (List.mem_of_getElem? (i := 24) rfl)) (by decide +kernel) ⟨Nat.le_of_ble_eq_true rfl, Nat.le_of_ble_eq_true rfl⟩ hKK hPc hDc (ci := 6) (q0 := 0) rfl rfl rfl hl.1 rfl (Nat.le_of_ble_eq_true rfl) dX6_pass_72 ⟨Nat.zero_le _, Nat.zero_le _⟩) hP hD hS hA [0, 1, 2, 3] rfl rfl [(true, 0), (true, 1), (true, 2), (true, 3)] (by decide +kernel) rfl (fun H locs hP hD hS => ?_)
        refine lv_iinc (v := nI (i + 1)) (lv' := [(3, .int (nI (i + 1))), (0, .ref aM), (1, .ref ar)]) hx hb dX6_pass_75 hl (k := 0) rfl (nI_1 i) (by decide) rfl (fun ls hl => ?_)
        refine lv_goto (tgt := 40) hx hb dX6_pass_78 (by decide) ?_
        exact ih d ((i + 1), (mruL (72 + (6 * i)) (mfar fd fn rw1) 3 rw1)) _ _ _ (by omega) ⟨(by omega), (hsp.trans (by first | with_reducible rfl | (simp only [mbuL, h_4, h_5, if_true, if_false, reduceIte, not_true_eq_false, not_false_eq_true]; done) | (simp [mbuL, h_4, h_5]; done))), (by first | exact hat | exact mru_ats (by omega) hat), (by first | exact hk | exact fun k h8 h9 => (mru_hi (by omega) hat h8 h9).trans (hk k h8 h9)), hP, hD, hS, lv_sub hl [0, 1, 2] rfl⟩
