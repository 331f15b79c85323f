/-! ===== DrumMaps: bits, meetings, chances, years ===== -/
set_option maxRecDepth 100000 in
theorem f_which_loop {σ : List mC} {S : Sx} {B : Int}  (hS : SxOk B S)  : ∀ (n d : Nat) (I : mI), (lD (sL S)).toNat - d < n → d ≤ (lD (sL S)).toNat → CS σ I S → mRun mZt mX8_which 4 [some (mr 0), some (mi (bts (fun d => toldB (sF S) (sH S) ((d : Nat) : Int)) d)), some (mi (d : Int))] [] (σ, I) (Out σ I S (bts (fun d => toldB (sF S) (sH S) ((d : Nat) : Int)) (lD (sL S)).toNat)) := by
  intro n
  induction n with
  | zero => intro d I h; omega
  | succ n ih =>
    intro d I hn hd0 hC
    obtain ⟨q, hq1, hq2, hU, hq4⟩ := hC.2.2.1
    have hI := hC.1
    have hD := hC.2.1
    have hL := hS.1
    have hT := hC.2.2.2.1
    have hLR := hC.2.2.2.2.1
    have hF := hC.2.2.2.2.2.1
    have hpr := lp_rng hL
    have hqe := lq_eq hL
    have hwr := hL.2.1
    have hdr := hL.2.2.1
    have hnt := hL.2.2.2.1
    have hwF := hS.2.1.1
    have hhF := hS.2.1.2.1
    have hH8 := hS.2.2.2.2.2.2.1
    have hU8 := hS.2.2.1
    have hK2 := hS.2.2.2.2.1
    have hLn := hS.2.2.2.2.2.2.2.2
    refine mRun.go (q_iload_n dX8_which_4 rfl rfl) ?_
    refine mRun.go (q_aload_n dX8_which_5 rfl rfl) ?_
    refine mRun.go (q_getR dX8_which_6 fo_X8_26 hD.1 rfl) ?_
    refine mRun.go (q_getE (x := lD (sL S)) dX8_which_9 fo_X8_225 (dm_l hD).1 rfl hLR.2.2.1) ?_
    refine r_icmp_ge (tgt := 35) dX8_which_12 (by decide) (by omega) (by omega) (fun c12 => ?_) (fun c12 => ?_)
    · refine mRun.go (q_iload_n dX8_which_35 rfl rfl) ?_
      refine r_iret dX8_which_36 rfl ?_
      have hde : d = (lD (sL S)).toNat := by omega
      subst hde
      exact out_q hC hS hI frq_rf
    · refine mRun.go (q_aload_n dX8_which_15 rfl rfl) ?_
      refine mRun.go (q_iload_n dX8_which_16 rfl rfl) ?_
      refine mRun.go (q_callVi (r := 0) [mi (d : Int)] [] dX8_which_17 co_X8_249 ⟨Nat.le_of_ble_eq_true rfl, Nat.le_of_ble_eq_true rfl⟩ gw_671 gs_18 rfl hD.1 rfl rfl rfl (Nat.le_of_ble_eq_true rfl) (k_told (H := sH S) hI hD hL hLR hF hwF hC.2.2.2.2.2.2.2.2.1 hC.2.2.2.2.2.2.2.2.2.1 hH8 hS.2.2.2.2.2.2.2.1 (by omega))) ?_
      refine r_if_eq (tgt := 29) dX8_which_20 (by decide) (by split <;> omega) (fun c20 => ?_) (fun c20 => ?_)
      · have h20 := ite00 c20
        refine mRun.go (q_iinc (ls' := [some (mr 0), some (mi (bts (fun d => toldB (sF S) (sH S) ((d : Nat) : Int)) d)), some (mi ((d : Int) + 1))]) dX8_which_29 rfl (Nat.le_of_ble_eq_true rfl) rfl) ?_
        refine mRun.go (q_goto (tgt := 4) dX8_which_32 (by decide)) ?_
        have e1 : ((d : Int) + 1) = ((d + 1 : Nat) : Int) := by omega
        have ec : ¬ (fun d => toldB (sF S) (sH S) ((d : Nat) : Int)) d = true := ite00 c20
        have e2 : bts (fun d => toldB (sF S) (sH S) ((d : Nat) : Int)) (d + 1) = bts (fun d => toldB (sF S) (sH S) ((d : Nat) : Int)) d := by simp only [bts]; rw [if_neg ec]
        have h := ih (d + 1) I (by omega) (by omega) hC
        rw [e2] at h
        rw [e1]
        exact mRun.im h (fun v h => out_tr frq_rf)
      · have h20 := ite01 c20
        refine mRun.go (q_iload_n dX8_which_23 rfl rfl) ?_
        refine mRun.go (q_iconst dX8_which_24) ?_
        refine mRun.go (q_iload_n dX8_which_25 rfl rfl) ?_
        refine mRun.go (q_ishl dX8_which_26) ?_
        refine mRun.go (q_ior dX8_which_27) ?_
        refine mRun.go (q_istore_n (ls' := [some (mr 0), some (mi (mor (bts (fun d => toldB (sF S) (sH S) ((d : Nat) : Int)) d) (mshl 1 (d : Int)))), some (mi (d : Int))]) dX8_which_28 rfl (Nat.le_of_ble_eq_true rfl) rfl) ?_
        refine mRun.go (q_iinc (ls' := [some (mr 0), some (mi (mor (bts (fun d => toldB (sF S) (sH S) ((d : Nat) : Int)) d) (mshl 1 (d : Int)))), some (mi ((d : Int) + 1))]) dX8_which_29 rfl (Nat.le_of_ble_eq_true rfl) rfl) ?_
        refine mRun.go (q_goto (tgt := 4) dX8_which_32 (by decide)) ?_
        have e1 : ((d : Int) + 1) = ((d + 1 : Nat) : Int) := by omega
        have ec : (fun d => toldB (sF S) (sH S) ((d : Nat) : Int)) d = true := ite01 c20
        have e2 : bts (fun d => toldB (sF S) (sH S) ((d : Nat) : Int)) (d + 1) = mor (bts (fun d => toldB (sF S) (sH S) ((d : Nat) : Int)) d) (mshl 1 (d : Int)) := by simp only [bts]; rw [if_pos ec]
        have h := ih (d + 1) I (by omega) (by omega) hC
        rw [e2] at h
        rw [e1]
        exact mRun.im h (fun v h => out_tr frq_rf)

set_option maxRecDepth 100000 in
theorem f_which {σ : List mC} {I : mI} {S : Sx} {B : Int} (hC : CS σ I S) (hS : SxOk B S)  : mMt mX8_which [mr 0] (σ, I) (Out σ I S (a_which S)) := by
  refine mMt.of pl_8 (Nat.le_of_ble_eq_true rfl) ?_
  show mRun mZt mX8_which 0 [some (mr 0), none, none] [] (σ, I) _
  obtain ⟨q, hq1, hq2, hU, hq4⟩ := hC.2.2.1
  have hI := hC.1
  have hD := hC.2.1
  have hL := hS.1
  have hT := hC.2.2.2.1
  have hLR := hC.2.2.2.2.1
  have hF := hC.2.2.2.2.2.1
  have hpr := lp_rng hL
  have hqe := lq_eq hL
  have hwr := hL.2.1
  have hdr := hL.2.2.1
  have hnt := hL.2.2.2.1
  have hwF := hS.2.1.1
  have hhF := hS.2.1.2.1
  have hH8 := hS.2.2.2.2.2.2.1
  have hU8 := hS.2.2.1
  have hK2 := hS.2.2.2.2.1
  have hLn := hS.2.2.2.2.2.2.2.2
  refine mRun.go (q_iconst dX8_which_0) ?_
  refine mRun.go (q_istore_n (ls' := [some (mr 0), some (mi 0), none]) dX8_which_1 rfl (Nat.le_of_ble_eq_true rfl) rfl) ?_
  refine mRun.go (q_iconst dX8_which_2) ?_
  refine mRun.go (q_istore_n (ls' := [some (mr 0), some (mi 0), some (mi 0)]) dX8_which_3 rfl (Nat.le_of_ble_eq_true rfl) rfl) ?_
  exact f_which_loop hS ((lD (sL S)).toNat + 1) 0 I (by omega) (by omega) hC

set_option maxRecDepth 100000 in
theorem f_right_loop {σ : List mC} {S : Sx} {B : Int} {x y : Int} (hS : SxOk B S) (hx : isP S x) (hy : isP S y) (htr : -4 ≤ trS S x y ∧ trS S x y ≤ 1000000) : ∀ (n d : Nat) (I : mI) (o : Option mV), (lD (sL S)).toNat - d < n → d ≤ (lD (sL S)).toNat → CS σ I S → mRun mZt mX8_right 67 [some (mr 0), some (mi x), some (mi y), some (mi (trS S x y)), some (mi (bts (rgB S x y) d)), some (mi (d : Int)), o] [] (σ, I) (Out σ I S (bts (rgB S x y) (lD (sL S)).toNat)) := by
  intro n
  induction n with
  | zero => intro d I o h; omega
  | succ n ih =>
    intro d I o hn hd0 hC
    obtain ⟨q, hq1, hq2, hU, hq4⟩ := hC.2.2.1
    have hI := hC.1
    have hD := hC.2.1
    have hL := hS.1
    have hT := hC.2.2.2.1
    have hLR := hC.2.2.2.2.1
    have hF := hC.2.2.2.2.2.1
    have hpr := lp_rng hL
    have hqe := lq_eq hL
    have hwr := hL.2.1
    have hdr := hL.2.2.1
    have hnt := hL.2.2.2.1
    have hwF := hS.2.1.1
    have hhF := hS.2.1.2.1
    have hH8 := hS.2.2.2.2.2.2.1
    have hU8 := hS.2.2.1
    have hK2 := hS.2.2.2.2.1
    have hLn := hS.2.2.2.2.2.2.2.2
    have hx : 0 ≤ x ∧ x < lP (sL S) := hx
    have hy : 0 ≤ y ∧ y < lP (sL S) := hy
    refine mRun.go (q_iload dX8_right_67 rfl) ?_
    refine mRun.go (q_aload_n dX8_right_69 rfl rfl) ?_
    refine mRun.go (q_getR dX8_right_70 fo_X8_26 hD.1 rfl) ?_
    refine mRun.go (q_getE (x := lD (sL S)) dX8_right_73 fo_X8_225 (dm_l hD).1 rfl hLR.2.2.1) ?_
    refine r_icmp_ge (tgt := 117) dX8_right_76 (by decide) (by omega) (by omega) (fun c76 => ?_) (fun c76 => ?_)
    · refine mRun.go (q_iload dX8_right_117 rfl) ?_
      refine r_iret dX8_right_119 rfl ?_
      have hde : d = (lD (sL S)).toNat := by omega
      subst hde
      exact out_q hC hS hI frq_rf
    · refine mRun.go (q_aload_n dX8_right_79 rfl rfl) ?_
      refine mRun.go (q_iload dX8_right_80 rfl) ?_
      refine mRun.go (q_iload_n dX8_right_82 rfl rfl) ?_
      refine mRun.go (q_iload_n dX8_right_83 rfl rfl) ?_
      obtain ⟨v0, h0, hc0, rfl, K, rfl, hK, hfK⟩ := k_hoursLed (x := x) (y := y) (d := (d : Int)) hI hD hL hLR hF hwF hx hy (by omega)
      have hfQ : FrQ I K := fun r a => hfK r (by omega) (by omega)
      have har := @anS_rng S 1 (ledT x y (d : Int))
      refine mRun.go (q_callVi (r := 0) [mi (d : Int), mi x, mi y] [] dX8_right_84 co_X8_220 ⟨Nat.le_of_ble_eq_true rfl, Nat.le_of_ble_eq_true rfl⟩ gw_625 gs_16 rfl hD.1 rfl rfl rfl (Nat.le_of_ble_eq_true rfl) hc0) ?_
      refine mRun.go (q_istore (ls' := [some (mr 0), some (mi x), some (mi y), some (mi (trS S x y)), some (mi (bts (rgB S x y) d)), some (mi (d : Int)), some (mi (anS S 1 (ledT x y (d : Int))))]) dX8_right_87 (Nat.le_of_ble_eq_true rfl) rfl) ?_
      refine mRun.go (q_iload dX8_right_89 rfl) ?_
      refine mRun.go (q_bipush dX8_right_91 (by decide)) ?_
      refine r_icmp_eq (tgt := 111) dX8_right_93 (by decide) (by omega) (by omega) (fun c93 => ?_) (fun c93 => ?_)
      · refine mRun.go (q_iinc (ls' := [some (mr 0), some (mi x), some (mi y), some (mi (trS S x y)), some (mi (bts (rgB S x y) d)), some (mi ((d : Int) + 1)), some (mi (anS S 1 (ledT x y (d : Int))))]) dX8_right_111 rfl (Nat.le_of_ble_eq_true rfl) rfl) ?_
        refine mRun.go (q_goto (tgt := 67) dX8_right_114 (by decide)) ?_
        have e1 : ((d : Int) + 1) = ((d + 1 : Nat) : Int) := by omega
        have ec : ¬ (rgB S x y) d = true := (fun q => by have q := of_decide_eq_true q; omega)
        have e2 : bts (rgB S x y) (d + 1) = bts (rgB S x y) d := by simp only [bts]; rw [if_neg ec]
        have h := ih (d + 1) K (some (mi (anS S 1 (ledT x y (d : Int))))) (by omega) (by omega) (cs_q hC hS hK hfQ)
        rw [e2] at h
        rw [e1]
        exact mRun.im h (fun v h => out_tr hfQ)
      · refine mRun.go (q_iload dX8_right_96 rfl) ?_
        refine mRun.go (q_iload_n dX8_right_98 rfl rfl) ?_
        refine r_icmp_gt (tgt := 111) dX8_right_99 (by decide) (by omega) (by omega) (fun c99 => ?_) (fun c99 => ?_)
        · refine mRun.go (q_iinc (ls' := [some (mr 0), some (mi x), some (mi y), some (mi (trS S x y)), some (mi (bts (rgB S x y) d)), some (mi ((d : Int) + 1)), some (mi (anS S 1 (ledT x y (d : Int))))]) dX8_right_111 rfl (Nat.le_of_ble_eq_true rfl) rfl) ?_
          refine mRun.go (q_goto (tgt := 67) dX8_right_114 (by decide)) ?_
          have e1 : ((d : Int) + 1) = ((d + 1 : Nat) : Int) := by omega
          have ec : ¬ (rgB S x y) d = true := (fun q => by have q := of_decide_eq_true q; omega)
          have e2 : bts (rgB S x y) (d + 1) = bts (rgB S x y) d := by simp only [bts]; rw [if_neg ec]
          have h := ih (d + 1) K (some (mi (anS S 1 (ledT x y (d : Int))))) (by omega) (by omega) (cs_q hC hS hK hfQ)
          rw [e2] at h
          rw [e1]
          exact mRun.im h (fun v h => out_tr hfQ)
        · refine mRun.go (q_iload dX8_right_102 rfl) ?_
          refine mRun.go (q_iconst dX8_right_104) ?_
          refine mRun.go (q_iload dX8_right_105 rfl) ?_
          refine mRun.go (q_ishl dX8_right_107) ?_
          refine mRun.go (q_ior dX8_right_108) ?_
          refine mRun.go (q_istore (ls' := [some (mr 0), some (mi x), some (mi y), some (mi (trS S x y)), some (mi (mor (bts (rgB S x y) d) (mshl 1 (d : Int)))), some (mi (d : Int)), some (mi (anS S 1 (ledT x y (d : Int))))]) dX8_right_109 (Nat.le_of_ble_eq_true rfl) rfl) ?_
          refine mRun.go (q_iinc (ls' := [some (mr 0), some (mi x), some (mi y), some (mi (trS S x y)), some (mi (mor (bts (rgB S x y) d) (mshl 1 (d : Int)))), some (mi ((d : Int) + 1)), some (mi (anS S 1 (ledT x y (d : Int))))]) dX8_right_111 rfl (Nat.le_of_ble_eq_true rfl) rfl) ?_
          refine mRun.go (q_goto (tgt := 67) dX8_right_114 (by decide)) ?_
          have e1 : ((d : Int) + 1) = ((d + 1 : Nat) : Int) := by omega
          have ec : (rgB S x y) d = true := decide_eq_true ⟨c93, by omega⟩
          have e2 : bts (rgB S x y) (d + 1) = mor (bts (rgB S x y) d) (mshl 1 (d : Int)) := by simp only [bts]; rw [if_pos ec]
          have h := ih (d + 1) K (some (mi (anS S 1 (ledT x y (d : Int))))) (by omega) (by omega) (cs_q hC hS hK hfQ)
          rw [e2] at h
          rw [e1]
          exact mRun.im h (fun v h => out_tr hfQ)

set_option maxRecDepth 100000 in
theorem f_right {σ : List mC} {I : mI} {S : Sx} {B : Int} {x y : Int} (hC : CS σ I S) (hS : SxOk B S) (hx : -2147483648 ≤ x ∧ x < 2147483648) (hy : -2147483648 ≤ y ∧ y < 2147483648) : mMt mX8_right [mr 0, mi x, mi y] (σ, I) (Out σ I S (a_right S x y)) := by
  refine mMt.of pl_8 (Nat.le_of_ble_eq_true rfl) ?_
  show mRun mZt mX8_right 0 [some (mr 0), some (mi x), some (mi y), none, none, none, none] [] (σ, I) _
  obtain ⟨q, hq1, hq2, hU, hq4⟩ := hC.2.2.1
  have hI := hC.1
  have hD := hC.2.1
  have hL := hS.1
  have hT := hC.2.2.2.1
  have hLR := hC.2.2.2.2.1
  have hF := hC.2.2.2.2.2.1
  have hpr := lp_rng hL
  have hqe := lq_eq hL
  have hwr := hL.2.1
  have hdr := hL.2.2.1
  have hnt := hL.2.2.2.1
  have hwF := hS.2.1.1
  have hhF := hS.2.1.2.1
  have hH8 := hS.2.2.2.2.2.2.1
  have hU8 := hS.2.2.1
  have hK2 := hS.2.2.2.2.1
  have hLn := hS.2.2.2.2.2.2.2.2
  refine mRun.go (q_aload_n dX8_right_0 rfl rfl) ?_
  refine mRun.go (q_getR dX8_right_1 fo_X8_26 hD.1 rfl) ?_
  refine mRun.go (q_iload_n dX8_right_4 rfl rfl) ?_
  have hh5 := @k_hasPlace σ I 21 x (dm_l hD) hI hx
  rw [hLR.1] at hh5
  refine mRun.go (q_callVi (r := 21) [mi x] [] dX8_right_5 co_X8_116 ⟨Nat.le_of_ble_eq_true rfl, Nat.le_of_ble_eq_true rfl⟩ gw_335 gw_336 rfl (dm_l hD).1 rfl rfl rfl (Nat.le_of_ble_eq_true rfl) hh5) ?_
  refine r_if_eq (tgt := 22) dX8_right_8 (by decide) (by split <;> omega) (fun c8 => ?_) (fun c8 => ?_)
  · have h8 := ite00 c8
    refine mRun.go (q_iconst dX8_right_22) ?_
    refine r_iret dX8_right_23 rfl ?_
    have e0 : a_right S x y = (-1) := by simp only [a_right, isP]; first | (rw [if_neg (by omega)]; done) | (rw [if_pos (by omega), if_pos (by omega)]; done)
    rw [e0]
    exact out_q hC hS hI frq_rf
  · have h8 := ite01 c8
    refine mRun.go (q_aload_n dX8_right_11 rfl rfl) ?_
    refine mRun.go (q_getR dX8_right_12 fo_X8_26 hD.1 rfl) ?_
    refine mRun.go (q_iload_n dX8_right_15 rfl rfl) ?_
    have hh16 := @k_hasPlace σ I 21 y (dm_l hD) hI hy
    rw [hLR.1] at hh16
    refine mRun.go (q_callVi (r := 21) [mi y] [] dX8_right_16 co_X8_116 ⟨Nat.le_of_ble_eq_true rfl, Nat.le_of_ble_eq_true rfl⟩ gw_335 gw_336 rfl (dm_l hD).1 rfl rfl rfl (Nat.le_of_ble_eq_true rfl) hh16) ?_
    refine r_if_ne (tgt := 24) dX8_right_19 (by decide) (by split <;> omega) (fun c19 => ?_) (fun c19 => ?_)
    · have h19 := ite01 c19
      refine mRun.go (q_aload_n dX8_right_24 rfl rfl) ?_
      refine mRun.go (q_getR dX8_right_25 fo_X8_75 hD.1 rfl) ?_
      refine mRun.go (q_aload_n dX8_right_28 rfl rfl) ?_
      refine mRun.go (q_getR dX8_right_29 fo_X8_26 hD.1 rfl) ?_
      refine mRun.go (q_aload_n dX8_right_32 rfl rfl) ?_
      refine mRun.go (q_getR dX8_right_33 fo_X8_33 hD.1 rfl) ?_
      refine mRun.go (q_getE (x := fW (sF S)) dX8_right_36 fo_X8_136 (dm_n hD).1 rfl hF.1) ?_
      refine mRun.go (q_iload_n dX8_right_39 rfl rfl) ?_
      obtain ⟨v0, h0, hc0, rfl, K, rfl, hK, hfK, hkn⟩ := k_lrnT (w := 134) (wet := fW (sF S)) (g := y) hI (dm_y hD) (dm_l hD) hL hLR (by omega) (by omega) (by decide)
      have hfQ : FrQ I K := fun r a => hfK r (by omega) (by omega)
      refine mRun.go (q_callVv (r := 134) [mr 21, mi (fW (sF S)), mi y] [] dX8_right_40 co_X8_185 ⟨Nat.le_of_ble_eq_true rfl, Nat.le_of_ble_eq_true rfl⟩ gw_539 gw_540 rfl (dm_y hD).1 rfl rfl rfl (Nat.le_of_ble_eq_true rfl) hc0) ?_
      refine mRun.go (q_aload_n dX8_right_43 rfl rfl) ?_
      refine mRun.go (q_getR dX8_right_44 fo_X8_75 hD.1 rfl) ?_
      refine mRun.go (q_iload_n dX8_right_47 rfl rfl) ?_
      have htr : -4 ≤ trS S x y ∧ trS S x y ≤ 1000000 := by
        unfold trS fin
        have hb := (dst_bell (g := y.toNat) (wfg_t (w := fW (sF S)) hL)).1 x.toNat (by omega)
        have hb2 : 0 ≤ awT (sL S) (fW (sF S)) y x.toNat ∧ awT (sL S) (fW (sF S)) y x.toNat ≤ 1000000 := hb
        split <;> omega
      refine mRun.go (q_callVi (r := 134) [mi x] [] dX8_right_48 co_X8_178 ⟨Nat.le_of_ble_eq_true rfl, Nat.le_of_ble_eq_true rfl⟩ gw_527 gw_528 rfl (dm_y hD).1 rfl rfl rfl (Nat.le_of_ble_eq_true rfl) (k_hrF (dm_y hD) hK hkn (lq_rng hL).2 (by omega))) ?_
      refine mRun.go (q_istore_n (ls' := [some (mr 0), some (mi x), some (mi y), some (mi (trS S x y)), none, none, none]) dX8_right_51 rfl (Nat.le_of_ble_eq_true rfl) rfl) ?_
      refine mRun.go (q_iconst dX8_right_52) ?_
      refine mRun.go (q_istore (ls' := [some (mr 0), some (mi x), some (mi y), some (mi (trS S x y)), some (mi 0), none, none]) dX8_right_53 (Nat.le_of_ble_eq_true rfl) rfl) ?_
      refine mRun.go (q_iload_n dX8_right_55 rfl rfl) ?_
      refine mRun.go (q_bipush dX8_right_56 (by decide)) ?_
      refine r_icmp_ne (tgt := 64) dX8_right_58 (by decide) (by omega) (by omega) (fun c58 => ?_) (fun c58 => ?_)
      · refine mRun.go (q_iconst dX8_right_64) ?_
        refine mRun.go (q_istore (ls' := [some (mr 0), some (mi x), some (mi y), some (mi (trS S x y)), some (mi 0), some (mi 0), none]) dX8_right_65 (Nat.le_of_ble_eq_true rfl) rfl) ?_
        have e0 : a_right S x y = bts (rgB S x y) (lD (sL S)).toNat := by simp only [a_right, isP]; rw [if_pos (by omega), if_neg (by omega)]
        rw [e0]
        exact mRun.im (f_right_loop hS (by omega) (by omega) htr ((lD (sL S)).toNat + 1) 0 K none (by omega) (by omega) (cs_q hC hS hK hfQ)) (fun v h => out_tr hfQ)
      · refine mRun.go (q_iload dX8_right_61 rfl) ?_
        refine r_iret dX8_right_63 rfl ?_
        have e0 : a_right S x y = 0 := by simp only [a_right, isP]; first | (rw [if_neg (by omega)]; done) | (rw [if_pos (by omega), if_pos (by omega)]; done)
        rw [e0]
        exact out_q hC hS hK hfQ
    · have h19 := ite00 (Classical.not_not.mp c19)
      refine mRun.go (q_iconst dX8_right_22) ?_
      refine r_iret dX8_right_23 rfl ?_
      have e0 : a_right S x y = (-1) := by simp only [a_right, isP]; first | (rw [if_neg (by omega)]; done) | (rw [if_pos (by omega), if_pos (by omega)]; done)
      rw [e0]
      exact out_q hC hS hI frq_rf

set_option maxRecDepth 100000 in
theorem f_seen_loop {σ : List mC} {S : Sx} {B : Int} {t x : Int} {N : Nat} (hS : SxOk B S) (ht : isT S t) (hx : isP S x) (hN : N ≤ 30) : ∀ (n d : Nat) (I : mI), (lD (sL S)).toNat - d < n → d ≤ (lD (sL S)).toNat → CS σ I S → mRun mZt mX8_seen 40 [some (mr 0), some (mi t), some (mi x), some (mi (N : Int)), some (mi (bts (snB S (tvS S t) x N) d)), some (mi (d : Int))] [] (σ, I) (Out σ I S (bts (snB S (tvS S t) x N) (lD (sL S)).toNat)) := by
  intro n
  induction n with
  | zero => intro d I h; omega
  | succ n ih =>
    intro d I hn hd0 hC
    obtain ⟨q, hq1, hq2, hU, hq4⟩ := hC.2.2.1
    have hI := hC.1
    have hD := hC.2.1
    have hL := hS.1
    have hT := hC.2.2.2.1
    have hLR := hC.2.2.2.2.1
    have hF := hC.2.2.2.2.2.1
    have hpr := lp_rng hL
    have hqe := lq_eq hL
    have hwr := hL.2.1
    have hdr := hL.2.2.1
    have hnt := hL.2.2.2.1
    have hwF := hS.2.1.1
    have hhF := hS.2.1.2.1
    have hH8 := hS.2.2.2.2.2.2.1
    have hU8 := hS.2.2.1
    have hK2 := hS.2.2.2.2.1
    have hLn := hS.2.2.2.2.2.2.2.2
    have ht : 0 ≤ t ∧ t < lTv (sL S) := ht
    have hx : 0 ≤ x ∧ x < lP (sL S) := hx
    have hto := hF.2.2.2 t.toNat (by omega)
    refine mRun.go (q_iload dX8_seen_40 rfl) ?_
    refine mRun.go (q_aload_n dX8_seen_42 rfl rfl) ?_
    refine mRun.go (q_getR dX8_seen_43 fo_X8_26 hD.1 rfl) ?_
    refine mRun.go (q_getE (x := lD (sL S)) dX8_seen_46 fo_X8_225 (dm_l hD).1 rfl hLR.2.2.1) ?_
    refine r_icmp_ge (tgt := 86) dX8_seen_49 (by decide) (by omega) (by omega) (fun c49 => ?_) (fun c49 => ?_)
    · refine mRun.go (q_iload dX8_seen_86 rfl) ?_
      refine r_iret dX8_seen_88 rfl ?_
      have hde : d = (lD (sL S)).toNat := by omega
      subst hde
      exact out_q hC hS hI frq_rf
    · refine mRun.go (q_aload_n dX8_seen_52 rfl rfl) ?_
      refine mRun.go (q_aload_n dX8_seen_53 rfl rfl) ?_
      refine mRun.go (q_getR dX8_seen_54 fo_X8_33 hD.1 rfl) ?_
      refine mRun.go (q_iload_n dX8_seen_57 rfl rfl) ?_
      refine mRun.go (q_callVi (r := 28) [mi t] [mr 0] dX8_seen_58 co_X8_149 ⟨Nat.le_of_ble_eq_true rfl, Nat.le_of_ble_eq_true rfl⟩ gw_348 gw_349 rfl (dm_n hD).1 rfl rfl rfl (Nat.le_of_ble_eq_true rfl) (k_who (dm_n hD) (by omega))) ?_
      refine mRun.go (q_iload dX8_seen_61 rfl) ?_
      refine mRun.go (q_iload_n dX8_seen_63 rfl rfl) ?_
      obtain ⟨v0, h0, hc0, rfl, K, rfl, hK, hfK⟩ := k_placeBehind (r := 28 + 4 + t.toNat) (d := (d : Int)) (N := N) hI hD hL hLR hF hwF ((dm_n hD).2.2.2 t.toNat (by omega)) (by omega) hto.2 (by omega) (by omega)
      have htv : nrmT (tget I (28 + 4 + t.toNat)) = tvS S t := hto.1
      rw [htv] at hc0
      have hfQ : FrQ I K := fun r a => hfK r (by omega) (by omega)
      have hir : 0 ≤ (iter (sfx (sL S) (fT (sF S)) (fW (sF S)) (d : Int) (tvS S t).2.1) N (sdr (tvS S t) (d : Int))).1 ∧ (iter (sfx (sL S) (fT (sF S)) (fW (sF S)) (d : Int) (tvS S t).2.1) N (sdr (tvS S t) (d : Int))).1 < lP (sL S) := by
        have h1 := (iter_ok (f := sfc (sL S) (fT (sF S)) (fW (sF S)) (d : Int) (tvS S t).2.1) (g := sfx (sL S) (fT (sF S)) (fW (sF S)) (d : Int) (tvS S t).2.1) (fun t ht => sfc_nrm ht) (fun t ht => sfc_ok hL ht) N _ (sdrc_ok (d := (d : Int)) hto.2 (by omega)))
        rw [sdr_nrm, htv] at h1
        have h2 := h1.1.1
        have h3 : (nrmT (iter (sfc (sL S) (fT (sF S)) (fW (sF S)) (d : Int) (tvS S t).2.1) N (sdr (tget I (28 + 4 + t.toNat)) (d : Int)))).1 = (iter (sfc (sL S) (fT (sF S)) (fW (sF S)) (d : Int) (tvS S t).2.1) N (sdr (tget I (28 + 4 + t.toNat)) (d : Int))).1 := rfl
        rw [← h1.2, h3]
        exact h2
      refine mRun.go (q_callVi (r := 0) [mr (28 + 4 + t.toNat), mi (d : Int), mi (N : Int)] [] dX8_seen_64 co_X8_252 ⟨Nat.le_of_ble_eq_true rfl, Nat.le_of_ble_eq_true rfl⟩ gw_679 gs_19 rfl hD.1 rfl rfl rfl (Nat.le_of_ble_eq_true rfl) hc0) ?_
      refine mRun.go (q_iload_n dX8_seen_67 rfl rfl) ?_
      refine r_icmp_ne (tgt := 80) dX8_seen_68 (by decide) (by omega) (by omega) (fun c68 => ?_) (fun c68 => ?_)
      · refine mRun.go (q_iinc (ls' := [some (mr 0), some (mi t), some (mi x), some (mi (N : Int)), some (mi (bts (snB S (tvS S t) x N) d)), some (mi ((d : Int) + 1))]) dX8_seen_80 rfl (Nat.le_of_ble_eq_true rfl) rfl) ?_
        refine mRun.go (q_goto (tgt := 40) dX8_seen_83 (by decide)) ?_
        have e1 : ((d : Int) + 1) = ((d + 1 : Nat) : Int) := by omega
        have ec : ¬ (snB S (tvS S t) x N) d = true := (fun q => c68 (of_decide_eq_true q))
        have e2 : bts (snB S (tvS S t) x N) (d + 1) = bts (snB S (tvS S t) x N) d := by simp only [bts]; rw [if_neg ec]
        have h := ih (d + 1) K (by omega) (by omega) (cs_q hC hS hK hfQ)
        rw [e2] at h
        rw [e1]
        exact mRun.im h (fun v h => out_tr hfQ)
      · refine mRun.go (q_iload dX8_seen_71 rfl) ?_
        refine mRun.go (q_iconst dX8_seen_73) ?_
        refine mRun.go (q_iload dX8_seen_74 rfl) ?_
        refine mRun.go (q_ishl dX8_seen_76) ?_
        refine mRun.go (q_ior dX8_seen_77) ?_
        refine mRun.go (q_istore (ls' := [some (mr 0), some (mi t), some (mi x), some (mi (N : Int)), some (mi (mor (bts (snB S (tvS S t) x N) d) (mshl 1 (d : Int)))), some (mi (d : Int))]) dX8_seen_78 (Nat.le_of_ble_eq_true rfl) rfl) ?_
        refine mRun.go (q_iinc (ls' := [some (mr 0), some (mi t), some (mi x), some (mi (N : Int)), some (mi (mor (bts (snB S (tvS S t) x N) d) (mshl 1 (d : Int)))), some (mi ((d : Int) + 1))]) dX8_seen_80 rfl (Nat.le_of_ble_eq_true rfl) rfl) ?_
        refine mRun.go (q_goto (tgt := 40) dX8_seen_83 (by decide)) ?_
        have e1 : ((d : Int) + 1) = ((d + 1 : Nat) : Int) := by omega
        have ec : (snB S (tvS S t) x N) d = true := decide_eq_true (Classical.not_not.mp c68)
        have e2 : bts (snB S (tvS S t) x N) (d + 1) = mor (bts (snB S (tvS S t) x N) d) (mshl 1 (d : Int)) := by simp only [bts]; rw [if_pos ec]
        have h := ih (d + 1) K (by omega) (by omega) (cs_q hC hS hK hfQ)
        rw [e2] at h
        rw [e1]
        exact mRun.im h (fun v h => out_tr hfQ)

set_option maxRecDepth 100000 in
theorem f_seen {σ : List mC} {I : mI} {S : Sx} {B : Int} {t x m : Int} (hC : CS σ I S) (hS : SxOk B S) (ht : -2147483648 ≤ t ∧ t < 2147483648) (hx : -2147483648 ≤ x ∧ x < 2147483648) (hm : -2147483648 ≤ m ∧ m < 2147483648) : mMt mX8_seen [mr 0, mi t, mi x, mi m] (σ, I) (Out σ I S (a_seen S t x m)) := by
  refine mMt.of pl_8 (Nat.le_of_ble_eq_true rfl) ?_
  show mRun mZt mX8_seen 0 [some (mr 0), some (mi t), some (mi x), some (mi m), none, none] [] (σ, I) _
  obtain ⟨q, hq1, hq2, hU, hq4⟩ := hC.2.2.1
  have hI := hC.1
  have hD := hC.2.1
  have hL := hS.1
  have hT := hC.2.2.2.1
  have hLR := hC.2.2.2.2.1
  have hF := hC.2.2.2.2.2.1
  have hpr := lp_rng hL
  have hqe := lq_eq hL
  have hwr := hL.2.1
  have hdr := hL.2.2.1
  have hnt := hL.2.2.2.1
  have hwF := hS.2.1.1
  have hhF := hS.2.1.2.1
  have hH8 := hS.2.2.2.2.2.2.1
  have hU8 := hS.2.2.1
  have hK2 := hS.2.2.2.2.1
  have hLn := hS.2.2.2.2.2.2.2.2
  refine mRun.go (q_aload_n dX8_seen_0 rfl rfl) ?_
  refine mRun.go (q_getR dX8_seen_1 fo_X8_26 hD.1 rfl) ?_
  refine mRun.go (q_iload_n dX8_seen_4 rfl rfl) ?_
  have hh5 := @k_hasTrv σ I 21 t (dm_l hD) hI ht
  rw [hLR.2.2.2.1] at hh5
  refine mRun.go (q_callVi (r := 21) [mi t] [] dX8_seen_5 co_X8_146 ⟨Nat.le_of_ble_eq_true rfl, Nat.le_of_ble_eq_true rfl⟩ gw_489 gw_490 rfl (dm_l hD).1 rfl rfl rfl (Nat.le_of_ble_eq_true rfl) hh5) ?_
  refine r_if_eq (tgt := 32) dX8_seen_8 (by decide) (by split <;> omega) (fun c8 => ?_) (fun c8 => ?_)
  · have h8 := ite00 c8
    refine mRun.go (q_iconst dX8_seen_32) ?_
    refine r_iret dX8_seen_33 rfl ?_
    have e0 : a_seen S t x m = (-1) := by simp only [a_seen, isD, isP, isT]; rw [if_neg (by omega)]
    rw [e0]
    exact out_q hC hS hI frq_rf
  · have h8 := ite01 c8
    refine mRun.go (q_aload_n dX8_seen_11 rfl rfl) ?_
    refine mRun.go (q_getR dX8_seen_12 fo_X8_26 hD.1 rfl) ?_
    refine mRun.go (q_iload_n dX8_seen_15 rfl rfl) ?_
    have hh16 := @k_hasPlace σ I 21 x (dm_l hD) hI hx
    rw [hLR.1] at hh16
    refine mRun.go (q_callVi (r := 21) [mi x] [] dX8_seen_16 co_X8_116 ⟨Nat.le_of_ble_eq_true rfl, Nat.le_of_ble_eq_true rfl⟩ gw_335 gw_336 rfl (dm_l hD).1 rfl rfl rfl (Nat.le_of_ble_eq_true rfl) hh16) ?_
    refine r_if_eq (tgt := 32) dX8_seen_19 (by decide) (by split <;> omega) (fun c19 => ?_) (fun c19 => ?_)
    · have h19 := ite00 c19
      refine mRun.go (q_iconst dX8_seen_32) ?_
      refine r_iret dX8_seen_33 rfl ?_
      have e0 : a_seen S t x m = (-1) := by simp only [a_seen, isD, isP, isT]; rw [if_neg (by omega)]
      rw [e0]
      exact out_q hC hS hI frq_rf
    · have h19 := ite01 c19
      refine mRun.go (q_iload_n dX8_seen_22 rfl rfl) ?_
      refine mRun.go (q_iconst dX8_seen_23) ?_
      refine mRun.go (q_bipush dX8_seen_24 (by decide)) ?_
      refine mRun.go (q_callSi [mi m, mi 0, mi 30] [] dX8_seen_26 co_X8_105 ⟨Nat.le_of_ble_eq_true rfl, Nat.le_of_ble_eq_true rfl⟩ gw_308 rfl rfl (Nat.le_of_ble_eq_true rfl) (k_within hm (by omega) (by omega))) ?_
      refine r_if_ne (tgt := 34) dX8_seen_29 (by decide) (by split <;> omega) (fun c29 => ?_) (fun c29 => ?_)
      · have h29 := ite01 c29
        refine mRun.go (q_iconst dX8_seen_34) ?_
        refine mRun.go (q_istore (ls' := [some (mr 0), some (mi t), some (mi x), some (mi m), some (mi 0), none]) dX8_seen_35 (Nat.le_of_ble_eq_true rfl) rfl) ?_
        refine mRun.go (q_iconst dX8_seen_37) ?_
        refine mRun.go (q_istore (ls' := [some (mr 0), some (mi t), some (mi x), some (mi m), some (mi 0), some (mi 0)]) dX8_seen_38 (Nat.le_of_ble_eq_true rfl) rfl) ?_
        have e0 : a_seen S t x m = bts (snB S (tvS S t) x m.toNat) (lD (sL S)).toNat := by simp only [a_seen, isP, isT]; rw [if_pos (by omega)]
        rw [e0]
        have h := f_seen_loop (t := t) (x := x) (N := m.toNat) hS (by omega) (by omega) (by omega) ((lD (sL S)).toNat + 1) 0 I (by omega) (by omega) hC
        rw [show ((m.toNat : Nat) : Int) = m by omega] at h
        exact h
      · have h29 := ite00 (Classical.not_not.mp c29)
        refine mRun.go (q_iconst dX8_seen_32) ?_
        refine r_iret dX8_seen_33 rfl ?_
        have e0 : a_seen S t x m = (-1) := by simp only [a_seen, isD, isP, isT]; rw [if_neg (by omega)]
        rw [e0]
        exact out_q hC hS hI frq_rf

set_option maxRecDepth 100000 in
theorem f_meet_loop {σ : List mC} {I : mI} {S : Sx} {B t u d g d2 g2 A : Int} (hC : CS σ I S) (hS : SxOk B S) : ∀ (n m : Nat) (K : mI) (a b : Tv), 61 - m < n → m ≤ 61 → Nrm K → (∀ r, r ≠ 132 → r ≠ 133 → (r < 134 ∨ 143 < r) → K r = I r) → Knows K 134 (lQ (sL S)) (nbL (sL S)) (ent (sL S) (fT (sF S)) (fW (sF S)) d) g.toNat → Knows K 139 (lQ (sL S)) (nbL (sL S)) (ent (sL S) (fT (sF S)) (fW (sF S)) d2) g2.toNat → tget K 132 = a → tget K 133 = b → TvOk (lP (sL S)) (lD (sL S)) a → TvOk (lP (sL S)) (lD (sL S)) b → mtT (sfc (sL S) (fT (sF S)) (fW (sF S)) d g) (sfc (sL S) (fT (sF S)) (fW (sF S)) d2 g2) (61 - m) m a b = A → mRun mZt mX8_meet 119 [some (mr 0), some (mi t), some (mi u), some (mi (m : Int))] [] (σ, K) (Out σ I S A) := by
  intro n
  induction n with
  | zero => intro m K a b h; omega
  | succ n ih =>
    intro m K a b hn hm hK hfr hk1 hk2 ha hb hoa hob hA
    obtain ⟨q, hq1, hq2, hU, hq4⟩ := hC.2.2.1
    have hI := hC.1
    have hD := hC.2.1
    have hL := hS.1
    have hT := hC.2.2.2.1
    have hLR := hC.2.2.2.2.1
    have hF := hC.2.2.2.2.2.1
    have hpr := lp_rng hL
    have hqe := lq_eq hL
    have hwr := hL.2.1
    have hdr := hL.2.2.1
    have hnt := hL.2.2.2.1
    have hwF := hS.2.1.1
    have hhF := hS.2.1.2.1
    have hH8 := hS.2.2.2.2.2.2.1
    have hU8 := hS.2.2.1
    have hK2 := hS.2.2.2.2.1
    have hLn := hS.2.2.2.2.2.2.2.2
    have hLRK : LRC K (sL S) := hLR.fr (fun r x y => hfr r (by omega) (by omega) (by omega))
    refine mRun.go (q_iload_n dX8_meet_119 rfl rfl) ?_
    refine mRun.go (q_bipush dX8_meet_120 (by decide)) ?_
    refine r_icmp_gt (tgt := 185) dX8_meet_122 (by decide) (by omega) (by omega) (fun c122 => ?_) (fun c122 => ?_)
    · refine mRun.go (q_bipush dX8_meet_185 (by decide)) ?_
      refine r_iret dX8_meet_187 rfl ?_
      have e2 : mtT (sfc (sL S) (fT (sF S)) (fW (sF S)) d g) (sfc (sL S) (fT (sF S)) (fW (sF S)) d2 g2) (61 - m) m a b = -4 := by rw [show 61 - m = 0 by omega]; rfl
      rw [← hA, e2]
      exact out_q hC hS hK (fun r q => hfr r (by omega) (by omega) (by omega))
    · refine mRun.go (q_aload_n dX8_meet_125 rfl rfl) ?_
      refine mRun.go (q_getR dX8_meet_126 fo_X8_65 hD.1 rfl) ?_
      refine mRun.go (q_aload_n dX8_meet_129 rfl rfl) ?_
      refine mRun.go (q_getR dX8_meet_130 fo_X8_69 hD.1 rfl) ?_
      refine mRun.go (q_callVi (r := 132) [mr 133] [] dX8_meet_133 co_X8_234 ⟨Nat.le_of_ble_eq_true rfl, Nat.le_of_ble_eq_true rfl⟩ gw_645 gw_646 rfl (dm_w hD) rfl rfl rfl (Nat.le_of_ble_eq_true rfl) (k_isWith (dm_w hD) (dm_o hD) hK)) ?_
      refine r_if_eq (tgt := 141) dX8_meet_136 (by decide) (by split <;> omega) (fun c136 => ?_) (fun c136 => ?_)
      · have h136 := ite00 c136
        refine mRun.go (q_aload_n dX8_meet_141 rfl rfl) ?_
        refine mRun.go (q_aload_n dX8_meet_142 rfl rfl) ?_
        refine mRun.go (q_getR dX8_meet_143 fo_X8_65 hD.1 rfl) ?_
        refine mRun.go (q_aload_n dX8_meet_146 rfl rfl) ?_
        refine mRun.go (q_getR dX8_meet_147 fo_X8_75 hD.1 rfl) ?_
        refine mRun.go (q_aload_n dX8_meet_150 rfl rfl) ?_
        refine mRun.go (q_getR dX8_meet_151 fo_X8_33 hD.1 rfl) ?_
        refine mRun.go (q_getE (x := fW (sF S)) dX8_meet_154 fo_X8_136 (dm_n hD).1 rfl (by first | (rw [hfr 28 (by decide) (by decide) (by omega)]; exact hF.1) | (refine (tset_ne (by decide)).trans ?_; rw [hfr 28 (by decide) (by decide) (by omega)]; exact hF.1))) ?_
        refine mRun.go (q_callVv (r := 0) [mr 132, mr 134, mi (fW (sF S))] [] dX8_meet_157 co_X8_238 ⟨Nat.le_of_ble_eq_true rfl, Nat.le_of_ble_eq_true rfl⟩ gw_569 gs_13 rfl hD.1 rfl rfl rfl (Nat.le_of_ble_eq_true rfl) (k_walkHour (e := ent (sL S) (fT (sF S)) (fW (sF S)) d) (g := (g).toNat) hK hD hL hLRK (dm_w hD) (dm_y hD) (by omega) (wfg_e hL) (fun _ => hk1) (by rw [ha]; exact hoa))) ?_
        refine mRun.go (q_aload_n dX8_meet_160 rfl rfl) ?_
        refine mRun.go (q_aload_n dX8_meet_161 rfl rfl) ?_
        refine mRun.go (q_getR dX8_meet_162 fo_X8_69 hD.1 rfl) ?_
        refine mRun.go (q_aload_n dX8_meet_165 rfl rfl) ?_
        refine mRun.go (q_getR dX8_meet_166 fo_X8_79 hD.1 rfl) ?_
        refine mRun.go (q_aload_n dX8_meet_169 rfl rfl) ?_
        refine mRun.go (q_getR dX8_meet_170 fo_X8_33 hD.1 rfl) ?_
        refine mRun.go (q_getE (x := fW (sF S)) dX8_meet_173 fo_X8_136 (dm_n hD).1 rfl (by first | (rw [hfr 28 (by decide) (by decide) (by omega)]; exact hF.1) | (refine (tset_ne (by decide)).trans ?_; rw [hfr 28 (by decide) (by decide) (by omega)]; exact hF.1))) ?_
        have hN1 : Nrm (tset K 132 (sfc (sL S) (fT (sF S)) (fW (sF S)) d g (tget K 132))) := nrm_trv (P := lP (sL S)) (nd := lD (sL S)) hK (by omega) (by omega) (by rw [ha]; exact sfc_ok hL hoa)
        have hb1 : tget (tset K 132 (sfc (sL S) (fT (sF S)) (fW (sF S)) d g (tget K 132))) 133 = b := by rw [tget_tset_ne (by decide)]; exact hb
        refine mRun.go (q_callVv (r := 0) [mr 133, mr 139, mi (fW (sF S))] [] dX8_meet_176 co_X8_238 ⟨Nat.le_of_ble_eq_true rfl, Nat.le_of_ble_eq_true rfl⟩ gw_569 gs_13 rfl hD.1 rfl rfl rfl (Nat.le_of_ble_eq_true rfl) (k_walkHour (e := ent (sL S) (fT (sF S)) (fW (sF S)) d2) (g := (g2).toNat) hN1 hD hL (lrc_tset hLRK (by decide)) (dm_o hD) (dm_z hD) (by omega) (wfg_e hL) (fun _ => (knows_tset hk2 (by decide) (by decide))) (by rw [hb1]; exact hob))) ?_
        refine mRun.go (q_iinc (ls' := [some (mr 0), some (mi t), some (mi u), some (mi ((m : Int) + 1))]) dX8_meet_179 rfl (Nat.le_of_ble_eq_true rfl) rfl) ?_
        refine mRun.go (q_goto (tgt := 119) dX8_meet_182 (by decide)) ?_
        have e1 : ((m : Int) + 1) = ((m + 1 : Nat) : Int) := by omega
        rw [e1]
        have e2 : mtT (sfc (sL S) (fT (sF S)) (fW (sF S)) d g) (sfc (sL S) (fT (sF S)) (fW (sF S)) d2 g2) (61 - m) m a b = mtT (sfc (sL S) (fT (sF S)) (fW (sF S)) d g) (sfc (sL S) (fT (sF S)) (fW (sF S)) d2 g2) (61 - (m + 1)) ((m + 1 : Nat) : Int) (sfc (sL S) (fT (sF S)) (fW (sF S)) d g a) (sfc (sL S) (fT (sF S)) (fW (sF S)) d2 g2 b) := by
          rw [show 61 - m = (61 - (m + 1)) + 1 by omega]
          simp only [mtT]
          rw [if_neg (fun q => h136 (by rw [← ha, ← hb] at q; exact q)), ← e1]
        rw [hb1, ha]
        refine ih (m + 1) _ (sfc (sL S) (fT (sF S)) (fW (sF S)) d g a) (sfc (sL S) (fT (sF S)) (fW (sF S)) d2 g2 b) (by omega) (by omega) (nrm_trv (by rw [ha] at hN1; exact hN1) (by omega) (by omega) (sfc_ok hL hob)) (fun r x y z => by rw [← hfr r x y z]; funext k; rw [tset_ne y, tset_ne x]) (knows_tset (knows_tset hk1 (by decide) (by decide)) (by decide) (by decide)) (knows_tset (knows_tset hk2 (by decide) (by decide)) (by decide) (by decide)) (by rw [tget_tset_ne (by decide)]; exact tget_tset) tget_tset (sfc_ok hL hoa) (sfc_ok hL hob) (e2.symm.trans hA)
      · have h136 := ite01 c136
        refine mRun.go (q_iload_n dX8_meet_139 rfl rfl) ?_
        refine r_iret dX8_meet_140 rfl ?_
        have e2 : mtT (sfc (sL S) (fT (sF S)) (fW (sF S)) d g) (sfc (sL S) (fT (sF S)) (fW (sF S)) d2 g2) (61 - m) m a b = (m : Int) := by
          rw [show 61 - m = (61 - (m + 1)) + 1 by omega]
          simp only [mtT]
          rw [if_pos (by rw [← ha, ← hb]; exact h136)]
        rw [← hA, e2]
        exact out_q hC hS hK (fun r q => hfr r (by omega) (by omega) (by omega))

set_option maxRecDepth 100000 in
theorem f_meet {σ : List mC} {I : mI} {S : Sx} {B : Int} {t u : Int} (hC : CS σ I S) (hS : SxOk B S) (ht : -2147483648 ≤ t ∧ t < 2147483648) (hu : -2147483648 ≤ u ∧ u < 2147483648) : mMt mX8_meet [mr 0, mi t, mi u] (σ, I) (Out σ I S (a_meet S t u)) := by
  refine mMt.of pl_8 (Nat.le_of_ble_eq_true rfl) ?_
  show mRun mZt mX8_meet 0 [some (mr 0), some (mi t), some (mi u), none] [] (σ, I) _
  obtain ⟨q, hq1, hq2, hU, hq4⟩ := hC.2.2.1
  have hI := hC.1
  have hD := hC.2.1
  have hL := hS.1
  have hT := hC.2.2.2.1
  have hLR := hC.2.2.2.2.1
  have hF := hC.2.2.2.2.2.1
  have hpr := lp_rng hL
  have hqe := lq_eq hL
  have hwr := hL.2.1
  have hdr := hL.2.2.1
  have hnt := hL.2.2.2.1
  have hwF := hS.2.1.1
  have hhF := hS.2.1.2.1
  have hH8 := hS.2.2.2.2.2.2.1
  have hU8 := hS.2.2.1
  have hK2 := hS.2.2.2.2.1
  have hLn := hS.2.2.2.2.2.2.2.2
  refine mRun.go (q_aload_n dX8_meet_0 rfl rfl) ?_
  refine mRun.go (q_getR dX8_meet_1 fo_X8_26 hD.1 rfl) ?_
  refine mRun.go (q_iload_n dX8_meet_4 rfl rfl) ?_
  have hh5 := @k_hasTrv σ I 21 t (dm_l hD) hI ht
  rw [hLR.2.2.2.1] at hh5
  refine mRun.go (q_callVi (r := 21) [mi t] [] dX8_meet_5 co_X8_146 ⟨Nat.le_of_ble_eq_true rfl, Nat.le_of_ble_eq_true rfl⟩ gw_489 gw_490 rfl (dm_l hD).1 rfl rfl rfl (Nat.le_of_ble_eq_true rfl) hh5) ?_
  refine r_if_eq (tgt := 27) dX8_meet_8 (by decide) (by split <;> omega) (fun c8 => ?_) (fun c8 => ?_)
  · have h8 := ite00 c8
    refine mRun.go (q_iconst dX8_meet_27) ?_
    refine r_iret dX8_meet_28 rfl ?_
    have e0 : a_meet S t u = (-1) := by simp only [a_meet, isD, isP, isT]; rw [if_neg (by omega)]
    rw [e0]
    exact out_q hC hS hI frq_rf
  · have h8 := ite01 c8
    refine mRun.go (q_aload_n dX8_meet_11 rfl rfl) ?_
    refine mRun.go (q_getR dX8_meet_12 fo_X8_26 hD.1 rfl) ?_
    refine mRun.go (q_iload_n dX8_meet_15 rfl rfl) ?_
    have hh16 := @k_hasTrv σ I 21 u (dm_l hD) hI hu
    rw [hLR.2.2.2.1] at hh16
    refine mRun.go (q_callVi (r := 21) [mi u] [] dX8_meet_16 co_X8_146 ⟨Nat.le_of_ble_eq_true rfl, Nat.le_of_ble_eq_true rfl⟩ gw_489 gw_490 rfl (dm_l hD).1 rfl rfl rfl (Nat.le_of_ble_eq_true rfl) hh16) ?_
    refine r_if_eq (tgt := 27) dX8_meet_19 (by decide) (by split <;> omega) (fun c19 => ?_) (fun c19 => ?_)
    · have h19 := ite00 c19
      refine mRun.go (q_iconst dX8_meet_27) ?_
      refine r_iret dX8_meet_28 rfl ?_
      have e0 : a_meet S t u = (-1) := by simp only [a_meet, isD, isP, isT]; rw [if_neg (by omega)]
      rw [e0]
      exact out_q hC hS hI frq_rf
    · have h19 := ite01 c19
      refine mRun.go (q_iload_n dX8_meet_22 rfl rfl) ?_
      refine mRun.go (q_iload_n dX8_meet_23 rfl rfl) ?_
      refine r_icmp_ne (tgt := 29) dX8_meet_24 (by decide) ht hu (fun c24 => ?_) (fun c24 => ?_)
      · refine mRun.go (q_aload_n dX8_meet_29 rfl rfl) ?_
        refine mRun.go (q_getR dX8_meet_30 fo_X8_65 hD.1 rfl) ?_
        refine mRun.go (q_aload_n dX8_meet_33 rfl rfl) ?_
        refine mRun.go (q_getR dX8_meet_34 fo_X8_33 hD.1 rfl) ?_
        refine mRun.go (q_iload_n dX8_meet_37 rfl rfl) ?_
        refine mRun.go (q_callVi (r := 28) [mi t] [mr 132] dX8_meet_38 co_X8_149 ⟨Nat.le_of_ble_eq_true rfl, Nat.le_of_ble_eq_true rfl⟩ gw_348 gw_349 rfl (dm_n hD).1 rfl rfl rfl (Nat.le_of_ble_eq_true rfl) (k_who (dm_n hD) (by omega))) ?_
        have hto := hF.2.2.2 t.toNat (by omega)
        have huo := hF.2.2.2 u.toNat (by omega)
        have hN1 := nrm_trv (r := 132) hI (by omega) (by omega) hto.2
        have hN2 := nrm_trv (r := 133) hN1 (by omega) (by omega) huo.2
        refine mRun.go (q_callVv (r := 132) [mr (28 + 4 + t.toNat)] [] dX8_meet_41 co_X8_212 ⟨Nat.le_of_ble_eq_true rfl, Nat.le_of_ble_eq_true rfl⟩ gw_392 gw_393 rfl (dm_w hD) rfl rfl rfl (Nat.le_of_ble_eq_true rfl) (k_tcopy (dm_w hD) ((dm_n hD).2.2.2 t.toNat (by omega)) (by omega) hI)) ?_
        refine mRun.go (q_aload_n dX8_meet_44 rfl rfl) ?_
        refine mRun.go (q_getR dX8_meet_45 fo_X8_69 hD.1 rfl) ?_
        refine mRun.go (q_aload_n dX8_meet_48 rfl rfl) ?_
        refine mRun.go (q_getR dX8_meet_49 fo_X8_33 hD.1 rfl) ?_
        refine mRun.go (q_iload_n dX8_meet_52 rfl rfl) ?_
        refine mRun.go (q_callVi (r := 28) [mi u] [mr 133] dX8_meet_53 co_X8_149 ⟨Nat.le_of_ble_eq_true rfl, Nat.le_of_ble_eq_true rfl⟩ gw_348 gw_349 rfl (dm_n hD).1 rfl rfl rfl (Nat.le_of_ble_eq_true rfl) (k_who (dm_n hD) (by omega))) ?_
        refine mRun.go (q_callVv (r := 133) [mr (28 + 4 + u.toNat)] [] dX8_meet_56 co_X8_212 ⟨Nat.le_of_ble_eq_true rfl, Nat.le_of_ble_eq_true rfl⟩ gw_392 gw_393 rfl (dm_o hD) rfl rfl rfl (Nat.le_of_ble_eq_true rfl) (k_tcopyE (dm_o hD) ((dm_n hD).2.2.2 u.toNat (by omega)) (by omega) hN1 (tget_tset_ne (by omega)))) ?_
        refine mRun.go (q_aload_n dX8_meet_59 rfl rfl) ?_
        refine mRun.go (q_getR dX8_meet_60 fo_X8_75 hD.1 rfl) ?_
        refine mRun.go (q_aload_n dX8_meet_63 rfl rfl) ?_
        refine mRun.go (q_getR dX8_meet_64 fo_X8_26 hD.1 rfl) ?_
        refine mRun.go (q_aload_n dX8_meet_67 rfl rfl) ?_
        refine mRun.go (q_getR dX8_meet_68 fo_X8_33 hD.1 rfl) ?_
        refine mRun.go (q_aload_n dX8_meet_71 rfl rfl) ?_
        refine mRun.go (q_getR dX8_meet_72 fo_X8_65 hD.1 rfl) ?_
        refine mRun.go (q_getE (x := (tvS S t).2.2.1) dX8_meet_75 fo_X8_159 (dm_w hD) rfl (by show _ = (fV (sF S) t.toNat).2.2.1; rw [← hto.1]; simp [tset, tget, nrmT])) ?_
        refine mRun.go (q_aload_n dX8_meet_78 rfl rfl) ?_
        refine mRun.go (q_getR dX8_meet_79 fo_X8_65 hD.1 rfl) ?_
        refine mRun.go (q_getE (x := (tvS S t).2.1) dX8_meet_82 fo_X8_156 (dm_w hD) rfl (by show _ = (fV (sF S) t.toNat).2.1; rw [← hto.1]; simp [tset, tget, nrmT])) ?_
        have htm := hS.2.1.2.2.2 t.toNat (by omega)
        have hum := hS.2.1.2.2.2 u.toNat (by omega)
        have hfA : ∀ r, r ≠ 132 → r ≠ 133 → (tset (tset I 132 (tget I (28 + 4 + t.toNat))) 133 (tget I (28 + 4 + u.toNat))) r = I r := fun r a b => by funext k; rw [tset_ne b, tset_ne a]
        have hF2 : FRC (tset (tset I 132 (tget I (28 + 4 + t.toNat))) 133 (tget I (28 + 4 + u.toNat))) 28 (sL S) (sF S) := hF.fr hL (fun r a b => hfA r (by omega) (by omega)) (hfA 23 (by decide) (by decide))
        obtain ⟨v0, h0, hc0, rfl, K, rfl, hK, hfK, hkn⟩ := k_lrn (w := 134) (d := (tvS S t).2.2.1) (g := (tvS S t).2.1) hN2 (dm_y hD) (dm_l hD) (dm_n hD) hL (hLR.fr (fun r a b => hfA r (by omega) (by omega))) hF2 htm.2.2.1 htm.2.1 (by decide) (by omega)
        refine mRun.go (q_callVv (r := 134) [mr 21, mr 28, mi ((tvS S t).2.2.1), mi ((tvS S t).2.1)] [] dX8_meet_85 co_X8_174 ⟨Nat.le_of_ble_eq_true rfl, Nat.le_of_ble_eq_true rfl⟩ gw_502 gw_503 rfl (dm_y hD).1 rfl rfl rfl (Nat.le_of_ble_eq_true rfl) hc0) ?_
        refine mRun.go (q_aload_n dX8_meet_88 rfl rfl) ?_
        refine mRun.go (q_getR dX8_meet_89 fo_X8_79 hD.1 rfl) ?_
        refine mRun.go (q_aload_n dX8_meet_92 rfl rfl) ?_
        refine mRun.go (q_getR dX8_meet_93 fo_X8_26 hD.1 rfl) ?_
        refine mRun.go (q_aload_n dX8_meet_96 rfl rfl) ?_
        refine mRun.go (q_getR dX8_meet_97 fo_X8_33 hD.1 rfl) ?_
        refine mRun.go (q_aload_n dX8_meet_100 rfl rfl) ?_
        refine mRun.go (q_getR dX8_meet_101 fo_X8_69 hD.1 rfl) ?_
        refine mRun.go (q_getE (x := (tvS S u).2.2.1) dX8_meet_104 fo_X8_159 (dm_o hD) rfl (by rw [hfK 133 (by decide) (by decide)]; show _ = (fV (sF S) u.toNat).2.2.1; rw [← huo.1]; simp [tset, tget, nrmT])) ?_
        refine mRun.go (q_aload_n dX8_meet_107 rfl rfl) ?_
        refine mRun.go (q_getR dX8_meet_108 fo_X8_69 hD.1 rfl) ?_
        refine mRun.go (q_getE (x := (tvS S u).2.1) dX8_meet_111 fo_X8_156 (dm_o hD) rfl (by rw [hfK 133 (by decide) (by decide)]; show _ = (fV (sF S) u.toNat).2.1; rw [← huo.1]; simp [tset, tget, nrmT])) ?_
        have hfB : ∀ r, r ≠ 132 → r ≠ 133 → (r < 134 ∨ 143 < r) → K r = I r := fun r a b c => (hfK r (by omega) (by omega)).trans (hfA r a b)
        obtain ⟨v1, h1, hc1, rfl, J, rfl, hJ, hfJ, hkn2⟩ := k_lrn (w := 139) (d := (tvS S u).2.2.1) (g := (tvS S u).2.1) hK (dm_z hD) (dm_l hD) (dm_n hD) hL (hLR.fr (fun r a b => hfB r (by omega) (by omega) (by omega))) (hF.fr hL (fun r a b => hfB r (by omega) (by omega) (by omega)) (hfB 23 (by decide) (by decide) (by decide))) hum.2.2.1 hum.2.1 (by decide) (by omega)
        refine mRun.go (q_callVv (r := 139) [mr 21, mr 28, mi ((tvS S u).2.2.1), mi ((tvS S u).2.1)] [] dX8_meet_114 co_X8_174 ⟨Nat.le_of_ble_eq_true rfl, Nat.le_of_ble_eq_true rfl⟩ gw_502 gw_503 rfl (dm_z hD).1 rfl rfl rfl (Nat.le_of_ble_eq_true rfl) hc1) ?_
        refine mRun.go (q_iconst dX8_meet_117) ?_
        refine mRun.go (q_istore_n (ls' := [some (mr 0), some (mi t), some (mi u), some (mi 0)]) dX8_meet_118 rfl (Nat.le_of_ble_eq_true rfl) rfl) ?_
        have e0 : a_meet S t u = mtT (sfS S (tvS S t)) (sfS S (tvS S u)) 61 0 (tvS S t) (tvS S u) := by simp only [a_meet, isT]; rw [if_pos (by omega)]
        rw [e0]
        have em := mtT_nrm (P := lP (sL S)) (nd := lD (sL S)) (f := sfc (sL S) (fT (sF S)) (fW (sF S)) (tvS S t).2.2.1 (tvS S t).2.1) (g := sfc (sL S) (fT (sF S)) (fW (sF S)) (tvS S u).2.2.1 (tvS S u).2.1) (f' := sfS S (tvS S t)) (g' := sfS S (tvS S u)) (fun t ht => sfc_nrm ht) (fun t ht => sfc_nrm ht) (fun t ht => sfc_ok hL ht) (fun t ht => sfc_ok hL ht) 61 0 _ _ hto.2 huo.2
        rw [hto.1, huo.1] at em
        refine f_meet_loop hC hS 62 0 J (tget I (28 + 4 + t.toNat)) (tget I (28 + 4 + u.toNat)) (by omega) (by omega) hJ (fun r a b c => (hfJ r (by omega) (by omega)).trans (hfB r a b c)) (knows_fr hkn (hfJ _ (by decide) (by decide)) (hfJ _ (by decide) (by decide))) hkn2 ?_ ?_ hto.2 huo.2 em
        · simp only [tget]; rw [hfJ 132 (by decide) (by decide), hfK 132 (by decide) (by decide)]; exact (tget_tset_ne (I := tset I 132 (tget I (28 + 4 + t.toNat))) (r := 133) (q := 132) (t := tget I (28 + 4 + u.toNat)) (by decide)).trans tget_tset
        · simp only [tget]; rw [hfJ 133 (by decide) (by decide), hfK 133 (by decide) (by decide)]; exact tget_tset (I := tset I 132 (tget I (28 + 4 + t.toNat))) (r := 133) (t := tget I (28 + 4 + u.toNat))
      · refine mRun.go (q_iconst dX8_meet_27) ?_
        refine r_iret dX8_meet_28 rfl ?_
        have e0 : a_meet S t u = (-1) := by simp only [a_meet, isD, isP, isT]; rw [if_neg (by omega)]
        rw [e0]
        exact out_q hC hS hI frq_rf
