/-! ===== DrumMaps: the calls that change something ===== -/
theorem cs_out {σ σ2 : List mC} {I K J : mI} {S : Sx} {x : Int} (hfK : ∀ r, (r < 36 ∨ 101 < r) → K r = I r) (hJ : ∀ r, 35 < r → J r = K r) (hsg : ∀ k, k ≠ 37 → σ2[k]? = σ[k]?) (hms : σ2.map msz = σ.map msz) (h : CS σ2 J S) : Out σ I S x (some (mi x)) (σ2, J) := ⟨rfl, σ2, J, rfl, fun r hr => (hJ r (by omega)).trans (hfK r (by omega)), fun k hk => hsg k (by omega), hms, h⟩

set_option maxRecDepth 100000 in
theorem f_write {σ : List mC} {I : mI} {S : Sx} {B : Int} {x : Int} (hC : CS σ I S) (hS : SxOk B S) (hx : -2147483648 ≤ x ∧ x < 2147483648) : mMt mX8_write [mr 0, mi x] (σ, I) (Out σ I (z_write S x) (a_write S x)) := by
  refine mMt.of pl_8 (Nat.le_of_ble_eq_true rfl) ?_
  show mRun mZt mX8_write 0 [some (mr 0), some (mi x)] [] (σ, I) _
  obtain ⟨q, hq1, hq2, hU, hq4⟩ := hC.2.2.1
  have hI := hC.1
  have hD := hC.2.1
  have hL := hS.1
  have hT := hC.2.2.2.1
  have hLR := hC.2.2.2.2.1
  have hF := hC.2.2.2.2.2.1
  have hpr := lp_rng hL
  have hqe := lq_eq hL
  have hwr := hL.2.1
  have hdr := hL.2.2.1
  have hnt := hL.2.2.2.1
  have hwF := hS.2.1.1
  have hhF := hS.2.1.2.1
  have hH8 := hS.2.2.2.2.2.2.1
  have hU8 := hS.2.2.1
  have hK2 := hS.2.2.2.2.1
  have hLn := hS.2.2.2.2.2.2.2.2
  refine mRun.go (q_iload_n dX8_write_0 rfl rfl) ?_
  refine mRun.go (q_bipush dX8_write_1 (by decide)) ?_
  refine mRun.go (q_bipush dX8_write_3 (by decide)) ?_
  refine mRun.go (q_callSi [mi x, mi 32, mi 126] [] dX8_write_5 co_X8_105 ⟨Nat.le_of_ble_eq_true rfl, Nat.le_of_ble_eq_true rfl⟩ gw_308 rfl rfl (Nat.le_of_ble_eq_true rfl) (k_within hx (by omega) (by omega))) ?_
  refine r_if_ne (tgt := 13) dX8_write_8 (by decide) (by split <;> omega) (fun c8 => ?_) (fun c8 => ?_)
  · have h8 := ite01 c8
    refine mRun.go (q_aload_n dX8_write_13 rfl rfl) ?_
    refine mRun.go (q_getR dX8_write_14 fo_X8_10 hD.1 rfl) ?_
    refine mRun.go (q_iload_n dX8_write_17 rfl rfl) ?_
    have hI11 : I 1 1 = sLn S := hT.2.1
    have hadd := @k_add σ I 1 x (dm_t hD) hI (by omega)
    rw [hI11] at hadd
    refine mRun.go (q_callVi (r := 1) [mi x] [] dX8_write_18 co_X8_94 ⟨Nat.le_of_ble_eq_true rfl, Nat.le_of_ble_eq_true rfl⟩ gw_269 gw_270 rfl (dm_t hD).1 rfl rfl rfl (Nat.le_of_ble_eq_true rfl) hadd) ?_
    refine r_if_eq (tgt := 34) dX8_write_21 (by decide) (by split <;> omega) (fun c21 => ?_) (fun c21 => ?_)
    · have h21 := ite00 c21
      refine mRun.go (q_bipush dX8_write_34 (by decide)) ?_
      refine r_iret dX8_write_36 rfl ?_
      have e9 : tadd I 1 x = I := by unfold tadd; rw [if_neg (by omega)]
      rw [e9]
      have e0 : a_write S x = (-3) := by simp only [a_write, isD, isP, isT, tvS]; first | (rw [if_pos (by omega)]; done) | (rw [if_neg (by omega)]; done) | (rw [if_pos (by omega), if_pos (by omega)]; done) | (rw [if_pos (by omega), if_neg (by omega)]; done) | (rw [if_neg (by omega), if_pos (by omega)]; done) | (rw [if_neg (by omega), if_neg (by omega)]; done)
      have e9 : z_write S x = S := by simp only [z_write, isD, isP, isT, tvS]; rw [if_neg (by omega)]
      rw [e0, e9]
      exact out_q hC hS hI frq_rf
    · have h21 := ite01 c21
      refine mRun.go (q_aload_n dX8_write_24 rfl rfl) ?_
      refine mRun.go (q_getR dX8_write_25 fo_X8_10 hD.1 rfl) ?_
      refine mRun.go (q_getE (x := sLn S + 1) dX8_write_28 fo_X8_102 (dm_t hD).1 rfl (by unfold tadd; rw [if_pos (by omega), mup_self, hI11])) ?_
      refine mRun.go (q_goto (tgt := 36) dX8_write_31 (by decide)) ?_
      refine r_iret dX8_write_36 rfl ?_
      have e0 : a_write S x = sLn S + 1 := by simp only [a_write]; rw [if_pos (by omega), if_pos (by omega)]
      have e9 : z_write S x = ((iup (sC S) (sLn S) x, sLn S + 1), S.2) := by unfold z_write; rw [if_pos ⟨by omega, by omega⟩]
      have e3 : tadd I 1 x = mup (mup I 2 (sLn S).toNat x) 1 1 (sLn S + 1) := by unfold tadd; rw [if_pos (by omega), hI11]
      rw [e0, e9, e3]
      have hfr : ∀ r, 2 < r ∨ r = 0 → mup (mup I 2 (sLn S).toNat x) 1 1 (sLn S + 1) r = I r := fun r a => by rw [mup_nf (by omega), mup_nf (by omega)]
      have hN : Nrm (mup (mup I 2 (sLn S).toNat x) 1 1 (sLn S + 1)) := nrm_mup (nrm_mup hI hx) (by omega)
      obtain ⟨a1, a2, a3, a4, a5, a6, a7, a8⟩ := hC.2.2.2
      refine ⟨rfl, σ, _, rfl, fun r a => hfr r (by omega), fun _ _ => rfl, rfl, hN, hD, ⟨q, hq1, hq2, hU, fun k hk => (hq4 k hk).fr hL (fun r a b => hfr r (by omega)) (hfr 23 (by decide))⟩, ⟨⟨by show 0 ≤ sLn S + 1; omega, by show sLn S + 1 ≤ 200; omega⟩, mup_self, fun i => ?_, fun i => ?_⟩, a2.fr (fun r a b => hfr r (by omega)), a3.fr hL (fun r a b => hfr r (by omega)) (hfr 23 (by decide)), by rw [hfr 102 (by decide)]; exact a4, fun k hk => (a5 k hk).fr hL (fun r a b => hfr r (by omega)) (hfr 23 (by decide)), by rw [hfr 0 (by decide)]; exact a6, fun k hk => by rw [hfr 121 (by decide), hfr 123 (by decide)]; exact a7 k hk, by rw [hfr 36 (by decide)]; exact a8⟩
      · show tla _ 1 i = iup (sC S) (sLn S) x i
        rw [show iup (sC S) (sLn S) x i = if i = sLn S then x else sC S i from rfl, ← a1.2.2.1 i]
        unfold tla
        rw [mup_self, hI11, show ∀ k, mup (mup I 2 (sLn S).toNat x) 1 1 (sLn S + 1) (1 + 1) k = mup I 2 (sLn S).toNat x 2 k from fun k => mup_ne (by decide)]
        by_cases z : i = sLn S
        · rw [if_pos (by omega), if_pos z, z, mup_self]
        · rw [if_neg z]
          by_cases z2 : 0 ≤ i ∧ i < sLn S
          · rw [if_pos (by omega), if_pos z2, mup_ne2 (by omega)]
          · rw [if_neg (by omega), if_neg z2]
      · show -2147483648 ≤ (if i = sLn S then x else sC S i) ∧ (if i = sLn S then x else sC S i) < 2147483648
        split
        · exact hx
        · exact a1.2.2.2 i
  · have h8 := ite00 (Classical.not_not.mp c8)
    refine mRun.go (q_iconst dX8_write_11) ?_
    refine r_iret dX8_write_12 rfl ?_
    have e0 : a_write S x = (-1) := by simp only [a_write, isD, isP, isT, tvS]; first | (rw [if_pos (by omega)]; done) | (rw [if_neg (by omega)]; done) | (rw [if_pos (by omega), if_pos (by omega)]; done) | (rw [if_pos (by omega), if_neg (by omega)]; done) | (rw [if_neg (by omega), if_pos (by omega)]; done) | (rw [if_neg (by omega), if_neg (by omega)]; done)
    have e9 : z_write S x = S := by simp only [z_write, isD, isP, isT, tvS]; rw [if_neg (by omega)]
    rw [e0, e9]
    exact out_q hC hS hI frq_rf

set_option maxRecDepth 100000 in
theorem f_wipe {σ : List mC} {I : mI} {S : Sx} {B : Int} (hC : CS σ I S) (hS : SxOk B S)  : mMt mX8_wipe [mr 0] (σ, I) (Out σ I (z_wipe S) (sLn S)) := by
  refine mMt.of pl_8 (Nat.le_of_ble_eq_true rfl) ?_
  show mRun mZt mX8_wipe 0 [some (mr 0), none] [] (σ, I) _
  obtain ⟨q, hq1, hq2, hU, hq4⟩ := hC.2.2.1
  have hI := hC.1
  have hD := hC.2.1
  have hL := hS.1
  have hT := hC.2.2.2.1
  have hLR := hC.2.2.2.2.1
  have hF := hC.2.2.2.2.2.1
  have hpr := lp_rng hL
  have hqe := lq_eq hL
  have hwr := hL.2.1
  have hdr := hL.2.2.1
  have hnt := hL.2.2.2.1
  have hwF := hS.2.1.1
  have hhF := hS.2.1.2.1
  have hH8 := hS.2.2.2.2.2.2.1
  have hU8 := hS.2.2.1
  have hK2 := hS.2.2.2.2.1
  have hLn := hS.2.2.2.2.2.2.2.2
  refine mRun.go (q_aload_n dX8_wipe_0 rfl rfl) ?_
  refine mRun.go (q_getR dX8_wipe_1 fo_X8_10 hD.1 rfl) ?_
  refine mRun.go (q_getE (x := sLn S) dX8_wipe_4 fo_X8_102 (dm_t hD).1 rfl hT.2.1) ?_
  refine mRun.go (q_istore_n (ls' := [some (mr 0), some (mi (sLn S))]) dX8_wipe_7 rfl (Nat.le_of_ble_eq_true rfl) rfl) ?_
  refine mRun.go (q_aload_n dX8_wipe_8 rfl rfl) ?_
  refine mRun.go (q_getR dX8_wipe_9 fo_X8_10 hD.1 rfl) ?_
  refine mRun.go (q_iconst dX8_wipe_12) ?_
  refine mRun.go (q_putI dX8_wipe_13 fo_X8_102 fp_5_1 (dm_t hD).1 rfl) ?_
  refine mRun.go (q_iload_n dX8_wipe_16 rfl rfl) ?_
  refine r_iret dX8_wipe_17 rfl ?_
  have hfr : ∀ r, r ≠ 1 → mup I 1 1 0 r = I r := fun r a => mup_nf a
  obtain ⟨a1, a2, a3, a4, a5, a6, a7, a8⟩ := hC.2.2.2
  refine ⟨rfl, σ, _, rfl, fun r a => hfr r (by omega), fun _ _ => rfl, rfl, nrm_mup hI (by decide), hD, ⟨q, hq1, hq2, hU, fun k hk => (hq4 k hk).fr hL (fun r a b => hfr r (by omega)) (hfr 23 (by decide))⟩, ⟨⟨(by decide : (0 : Int) ≤ 0), (by decide : (0 : Int) ≤ 200)⟩, mup_self, fun i => ?_, fun i => ⟨(by decide : (-2147483648 : Int) ≤ 0), (by decide : (0 : Int) < 2147483648)⟩⟩, a2.fr (fun r a b => hfr r (by omega)), a3.fr hL (fun r a b => hfr r (by omega)) (hfr 23 (by decide)), by rw [hfr 102 (by decide)]; exact a4, fun k hk => (a5 k hk).fr hL (fun r a b => hfr r (by omega)) (hfr 23 (by decide)), by rw [hfr 0 (by decide)]; exact a6, fun k hk => by rw [hfr 121 (by decide), hfr 123 (by decide)]; exact a7 k hk, by rw [hfr 36 (by decide)]; exact a8⟩
  unfold tla
  rw [mup_self, if_neg (by omega)]
  rfl

set_option maxRecDepth 100000 in
theorem f_lay {σ : List mC} {I : mI} {S : Sx} {B : Int} (hC : CS σ I S) (hS : SxOk B S)  : mMt mX8_lay [mr 0] (σ, I) (Out σ I (z_lay S) (a_lay S)) := by
  refine mMt.of pl_8 (Nat.le_of_ble_eq_true rfl) ?_
  show mRun mZt mX8_lay 0 [some (mr 0)] [] (σ, I) _
  obtain ⟨q, hq1, hq2, hU, hq4⟩ := hC.2.2.1
  have hI := hC.1
  have hD := hC.2.1
  have hL := hS.1
  have hT := hC.2.2.2.1
  have hLR := hC.2.2.2.2.1
  have hF := hC.2.2.2.2.2.1
  have hpr := lp_rng hL
  have hqe := lq_eq hL
  have hwr := hL.2.1
  have hdr := hL.2.2.1
  have hnt := hL.2.2.2.1
  have hwF := hS.2.1.1
  have hhF := hS.2.1.2.1
  have hH8 := hS.2.2.2.2.2.2.1
  have hU8 := hS.2.2.1
  have hK2 := hS.2.2.2.2.1
  have hLn := hS.2.2.2.2.2.2.2.2
  refine mRun.go (q_aload_n dX8_lay_0 rfl rfl) ?_
  obtain ⟨v0, h0, hc0, rfl, K, rfl, hK, hfK, hno, hyes⟩ := k_layText hI hD hU hT
  have hrok : RdOk (rdS (sC S) (sLn S)) := prs_ok 201 0 rd0 rd0_ok
  have hplr := pl_rng hrok
  refine mRun.go (q_callVi (r := 0) [] [] dX8_lay_1 co_X8_98 ⟨Nat.le_of_ble_eq_true rfl, Nat.le_of_ble_eq_true rfl⟩ gw_274 gs_0 rfl hD.1 rfl rfl rfl (Nat.le_of_ble_eq_true rfl) hc0) ?_
  refine r_if_eq (tgt := 17) dX8_lay_4 (by decide) (by split <;> omega) (fun c4 => ?_) (fun c4 => ?_)
  · have h4 := ite00 c4
    refine mRun.go (q_bipush dX8_lay_17 (by decide)) ?_
    refine r_iret dX8_lay_19 rfl ?_
    have e0 : a_lay S = (-2) := by unfold a_lay; rw [if_neg h4]
    have e9 : z_lay S = S := by unfold z_lay; rw [if_neg h4]
    rw [e0, e9]
    exact out_q hC hS hK (hno (Bool.eq_false_iff.mpr h4))
  · have h4 := ite01 c4
    refine mRun.go (q_aload_n dX8_lay_7 rfl rfl) ?_
    refine mRun.go (q_getR dX8_lay_8 fo_X8_26 hD.1 rfl) ?_
    refine mRun.go (q_getE (x := rPl (rdS (sC S) (sLn S))) dX8_lay_11 fo_X8_113 (dm_l hD).1 rfl (hyes h4).1.1) ?_
    refine mRun.go (q_goto (tgt := 19) dX8_lay_14 (by decide)) ?_
    refine r_iret dX8_lay_19 rfl ?_
    have e0 : a_lay S = rPl (rdS (sC S) (sLn S)) := by unfold a_lay; rw [if_pos h4]
    have e9 : z_lay S = (S.1, ldR (rdS (sC S) (sLn S)), fsR (rdS (sC S) (sLn S)), (0, (sU S).2), (0, (sK S).2), (0, (sH S).2)) := by unfold z_lay; rw [if_pos h4]
    obtain ⟨y1, y2, y3, y4, y5⟩ := hyes h4
    rw [e0, e9]
    exact ⟨rfl, σ, K, rfl, fun r a => hfK r (by omega), fun _ _ => rfl, rfl, hK, hD, ⟨q, hq1, hq2, hU, fun k hk => absurd hk (Nat.not_lt_zero k)⟩, hT.fr (hfK 1 (by decide)) (hfK 2 (by decide)), y1, y2, y5, fun k hk => absurd hk (Nat.not_lt_zero k), y3, fun k hk => absurd hk (Nat.not_lt_zero k), y4⟩

set_option maxRecDepth 100000 in
theorem f_rain {σ : List mC} {I : mI} {S : Sx} {B : Int} {v : Int} (hC : CS σ I S) (hS : SxOk B S) (hv : -2147483648 ≤ v ∧ v < 2147483648) : mMt mX8_rain [mr 0, mi v] (σ, I) (Out σ I (z_rain S v) (a_rain S v)) := by
  refine mMt.of pl_8 (Nat.le_of_ble_eq_true rfl) ?_
  show mRun mZt mX8_rain 0 [some (mr 0), some (mi v), none] [] (σ, I) _
  obtain ⟨q, hq1, hq2, hU, hq4⟩ := hC.2.2.1
  have hI := hC.1
  have hD := hC.2.1
  have hL := hS.1
  have hT := hC.2.2.2.1
  have hLR := hC.2.2.2.2.1
  have hF := hC.2.2.2.2.2.1
  have hpr := lp_rng hL
  have hqe := lq_eq hL
  have hwr := hL.2.1
  have hdr := hL.2.2.1
  have hnt := hL.2.2.2.1
  have hwF := hS.2.1.1
  have hhF := hS.2.1.2.1
  have hH8 := hS.2.2.2.2.2.2.1
  have hU8 := hS.2.2.1
  have hK2 := hS.2.2.2.2.1
  have hLn := hS.2.2.2.2.2.2.2.2
  refine mRun.go (q_iload_n dX8_rain_0 rfl rfl) ?_
  refine mRun.go (q_iconst dX8_rain_1) ?_
  refine mRun.go (q_iconst dX8_rain_2) ?_
  refine mRun.go (q_callSi [mi v, mi 0, mi 3] [] dX8_rain_3 co_X8_105 ⟨Nat.le_of_ble_eq_true rfl, Nat.le_of_ble_eq_true rfl⟩ gw_308 rfl rfl (Nat.le_of_ble_eq_true rfl) (k_within hv (by omega) (by omega))) ?_
  refine r_if_ne (tgt := 11) dX8_rain_6 (by decide) (by split <;> omega) (fun c6 => ?_) (fun c6 => ?_)
  · have h6 := ite01 c6
    refine mRun.go (q_aload_n dX8_rain_11 rfl rfl) ?_
    refine mRun.go (q_getR dX8_rain_12 fo_X8_42 hD.1 rfl) ?_
    refine mRun.go (q_aload_n dX8_rain_15 rfl rfl) ?_
    refine mRun.go (q_getR dX8_rain_16 fo_X8_33 hD.1 rfl) ?_
    obtain ⟨v0, h0, hc0, rfl, σ2, K, rfl, hfK, hsg, hms, hCK⟩ := k_push hC hS
    have hK := hCK.1
    have hDK := hCK.2.1
    have hFK : FRC K 28 (sL S) (sF S) := hCK.2.2.2.2.2.1
    have hLRK : LRC K (sL S) := hCK.2.2.2.2.1
    refine mRun.go (q_callVv (r := 36) [mr 28] [] dX8_rain_19 co_X8_189 ⟨Nat.le_of_ble_eq_true rfl, Nat.le_of_ble_eq_true rfl⟩ gw_547 gw_548 rfl hU.1 rfl rfl rfl (Nat.le_of_ble_eq_true rfl) hc0) ?_
    refine mRun.go (q_aload_n dX8_rain_22 rfl rfl) ?_
    refine mRun.go (q_getR dX8_rain_23 fo_X8_33 hDK.1 rfl) ?_
    refine mRun.go (q_getE (x := fW (sF S)) dX8_rain_26 fo_X8_136 (dm_n hDK).1 rfl hFK.1) ?_
    refine mRun.go (q_istore_n (ls' := [some (mr 0), some (mi v), some (mi (fW (sF S)))]) dX8_rain_29 rfl (Nat.le_of_ble_eq_true rfl) rfl) ?_
    refine mRun.go (q_aload_n dX8_rain_30 rfl rfl) ?_
    refine mRun.go (q_getR dX8_rain_31 fo_X8_33 hDK.1 rfl) ?_
    refine mRun.go (q_iload_n dX8_rain_34 rfl rfl) ?_
    refine mRun.go (q_putI dX8_rain_35 fo_X8_136 fp_0_2 (dm_n hDK).1 rfl) ?_
    refine mRun.go (q_iload_n dX8_rain_38 rfl rfl) ?_
    refine r_iret dX8_rain_39 rfl ?_
    have e0 : a_rain S v = fW (sF S) := by simp only [a_rain, isD, isP, isT, tvS, tlS]; first | (rw [if_pos (by omega)]; done) | (rw [if_neg (by omega)]; done) | (rw [if_pos (by omega), if_pos (by omega)]; done) | (rw [if_pos (by omega), if_neg (by omega)]; done) | (rw [if_neg (by omega), if_pos (by omega)]; done) | (rw [if_neg (by omega), if_neg (by omega)]; done)
    have e9 : z_rain S v = putU S (setW (sF S) v) := by simp only [z_rain, isD, isP, isT, tvS, tlS]; rw [if_pos (by omega)]
    have hfin : FRC (mup K 28 2 v) 28 (sL S) (setW (sF S) v) := frc_setW hFK hL (by decide)
    rw [e0, e9]
    exact cs_out hfK (fun r a => mup_nf (by omega)) hsg hms (cs_now hCK hL (push_ok hS.2.2.1 hS.2.2.2.1 hS.2.1).1 (fun r a => mup_nf (by omega)) (nrm_mup hK hv) hfin)
  · have h6 := ite00 (Classical.not_not.mp c6)
    refine mRun.go (q_iconst dX8_rain_9) ?_
    refine r_iret dX8_rain_10 rfl ?_
    have e0 : a_rain S v = (-1) := by simp only [a_rain, isD, isP, isT, tvS]; first | (rw [if_pos (by omega)]; done) | (rw [if_neg (by omega)]; done) | (rw [if_pos (by omega), if_pos (by omega)]; done) | (rw [if_pos (by omega), if_neg (by omega)]; done) | (rw [if_neg (by omega), if_pos (by omega)]; done) | (rw [if_neg (by omega), if_neg (by omega)]; done)
    have e9 : z_rain S v = S := by simp only [z_rain, isD, isP, isT, tvS]; rw [if_neg (by omega)]
    rw [e0, e9]
    exact out_q hC hS hI frq_rf

set_option maxRecDepth 100000 in
theorem f_retune {σ : List mC} {I : mI} {S : Sx} {B : Int} {d x v : Int} (hC : CS σ I S) (hS : SxOk B S) (hd : -2147483648 ≤ d ∧ d < 2147483648) (hx : -2147483648 ≤ x ∧ x < 2147483648) (hv : -2147483648 ≤ v ∧ v < 2147483648) : mMt mX8_retune [mr 0, mi d, mi x, mi v] (σ, I) (Out σ I (z_retune S d x v) (a_retune S d x v)) := by
  refine mMt.of pl_8 (Nat.le_of_ble_eq_true rfl) ?_
  show mRun mZt mX8_retune 0 [some (mr 0), some (mi d), some (mi x), some (mi v), none] [] (σ, I) _
  obtain ⟨q, hq1, hq2, hU, hq4⟩ := hC.2.2.1
  have hI := hC.1
  have hD := hC.2.1
  have hL := hS.1
  have hT := hC.2.2.2.1
  have hLR := hC.2.2.2.2.1
  have hF := hC.2.2.2.2.2.1
  have hpr := lp_rng hL
  have hqe := lq_eq hL
  have hwr := hL.2.1
  have hdr := hL.2.2.1
  have hnt := hL.2.2.2.1
  have hwF := hS.2.1.1
  have hhF := hS.2.1.2.1
  have hH8 := hS.2.2.2.2.2.2.1
  have hU8 := hS.2.2.1
  have hK2 := hS.2.2.2.2.1
  have hLn := hS.2.2.2.2.2.2.2.2
  refine mRun.go (q_aload_n dX8_retune_0 rfl rfl) ?_
  refine mRun.go (q_getR dX8_retune_1 fo_X8_26 hD.1 rfl) ?_
  refine mRun.go (q_iload_n dX8_retune_4 rfl rfl) ?_
  have hh5 := @k_hasDrum σ I 21 d (dm_l hD) hI hd
  rw [hLR.2.2.1] at hh5
  refine mRun.go (q_callVi (r := 21) [mi d] [] dX8_retune_5 co_X8_126 ⟨Nat.le_of_ble_eq_true rfl, Nat.le_of_ble_eq_true rfl⟩ gw_331 gw_332 rfl (dm_l hD).1 rfl rfl rfl (Nat.le_of_ble_eq_true rfl) hh5) ?_
  refine r_if_eq (tgt := 31) dX8_retune_8 (by decide) (by split <;> omega) (fun c8 => ?_) (fun c8 => ?_)
  · have h8 := ite00 c8
    refine mRun.go (q_iconst dX8_retune_31) ?_
    refine r_iret dX8_retune_32 rfl ?_
    have e0 : a_retune S d x v = (-1) := by simp only [a_retune, isD, isP, isT, tvS]; first | (rw [if_pos (by omega)]; done) | (rw [if_neg (by omega)]; done) | (rw [if_pos (by omega), if_pos (by omega)]; done) | (rw [if_pos (by omega), if_neg (by omega)]; done) | (rw [if_neg (by omega), if_pos (by omega)]; done) | (rw [if_neg (by omega), if_neg (by omega)]; done)
    have e9 : z_retune S d x v = S := by simp only [z_retune, isD, isP, isT, tvS]; rw [if_neg (by omega)]
    rw [e0, e9]
    exact out_q hC hS hI frq_rf
  · have h8 := ite01 c8
    refine mRun.go (q_aload_n dX8_retune_11 rfl rfl) ?_
    refine mRun.go (q_getR dX8_retune_12 fo_X8_26 hD.1 rfl) ?_
    refine mRun.go (q_iload_n dX8_retune_15 rfl rfl) ?_
    have hh16 := @k_hasPlace σ I 21 x (dm_l hD) hI hx
    rw [hLR.1] at hh16
    refine mRun.go (q_callVi (r := 21) [mi x] [] dX8_retune_16 co_X8_116 ⟨Nat.le_of_ble_eq_true rfl, Nat.le_of_ble_eq_true rfl⟩ gw_335 gw_336 rfl (dm_l hD).1 rfl rfl rfl (Nat.le_of_ble_eq_true rfl) hh16) ?_
    refine r_if_eq (tgt := 31) dX8_retune_19 (by decide) (by split <;> omega) (fun c19 => ?_) (fun c19 => ?_)
    · have h19 := ite00 c19
      refine mRun.go (q_iconst dX8_retune_31) ?_
      refine r_iret dX8_retune_32 rfl ?_
      have e0 : a_retune S d x v = (-1) := by simp only [a_retune, isD, isP, isT, tvS]; first | (rw [if_pos (by omega)]; done) | (rw [if_neg (by omega)]; done) | (rw [if_pos (by omega), if_pos (by omega)]; done) | (rw [if_pos (by omega), if_neg (by omega)]; done) | (rw [if_neg (by omega), if_pos (by omega)]; done) | (rw [if_neg (by omega), if_neg (by omega)]; done)
      have e9 : z_retune S d x v = S := by simp only [z_retune, isD, isP, isT, tvS]; rw [if_neg (by omega)]
      rw [e0, e9]
      exact out_q hC hS hI frq_rf
    · have h19 := ite01 c19
      refine mRun.go (q_iload_n dX8_retune_22 rfl rfl) ?_
      refine mRun.go (q_iconst dX8_retune_23) ?_
      refine mRun.go (q_iconst dX8_retune_24) ?_
      refine mRun.go (q_callSi [mi v, mi 0, mi 3] [] dX8_retune_25 co_X8_105 ⟨Nat.le_of_ble_eq_true rfl, Nat.le_of_ble_eq_true rfl⟩ gw_308 rfl rfl (Nat.le_of_ble_eq_true rfl) (k_within hv (by omega) (by omega))) ?_
      refine r_if_ne (tgt := 33) dX8_retune_28 (by decide) (by split <;> omega) (fun c28 => ?_) (fun c28 => ?_)
      · have h28 := ite01 c28
        refine mRun.go (q_aload_n dX8_retune_33 rfl rfl) ?_
        refine mRun.go (q_getR dX8_retune_34 fo_X8_42 hD.1 rfl) ?_
        refine mRun.go (q_aload_n dX8_retune_37 rfl rfl) ?_
        refine mRun.go (q_getR dX8_retune_38 fo_X8_33 hD.1 rfl) ?_
        obtain ⟨v0, h0, hc0, rfl, σ2, K, rfl, hfK, hsg, hms, hCK⟩ := k_push hC hS
        have hK := hCK.1
        have hDK := hCK.2.1
        have hFK : FRC K 28 (sL S) (sF S) := hCK.2.2.2.2.2.1
        have hLRK : LRC K (sL S) := hCK.2.2.2.2.1
        refine mRun.go (q_callVv (r := 36) [mr 28] [] dX8_retune_41 co_X8_189 ⟨Nat.le_of_ble_eq_true rfl, Nat.le_of_ble_eq_true rfl⟩ gw_547 gw_548 rfl hU.1 rfl rfl rfl (Nat.le_of_ble_eq_true rfl) hc0) ?_
        refine mRun.go (q_aload_n dX8_retune_44 rfl rfl) ?_
        refine mRun.go (q_getR dX8_retune_45 fo_X8_33 hDK.1 rfl) ?_
        refine mRun.go (q_aload_n dX8_retune_48 rfl rfl) ?_
        refine mRun.go (q_getR dX8_retune_49 fo_X8_26 hDK.1 rfl) ?_
        refine mRun.go (q_iload_n dX8_retune_52 rfl rfl) ?_
        refine mRun.go (q_iload_n dX8_retune_53 rfl rfl) ?_
        refine mRun.go (q_callVi (r := 28) [mr 21, mi d, mi x] [] dX8_retune_54 co_X8_129 ⟨Nat.le_of_ble_eq_true rfl, Nat.le_of_ble_eq_true rfl⟩ gw_468 gw_469 rfl (dm_n hDK).1 rfl rfl rfl (Nat.le_of_ble_eq_true rfl) (k_tellsF hK (dm_n hDK) hDK hL hLRK hFK (by omega) (by omega))) ?_
        refine mRun.go (q_istore (ls' := [some (mr 0), some (mi d), some (mi x), some (mi v), some (mi (fT (sF S) (36 * d + x)))]) dX8_retune_57 (Nat.le_of_ble_eq_true rfl) rfl) ?_
        refine mRun.go (q_aload_n dX8_retune_59 rfl rfl) ?_
        refine mRun.go (q_getR dX8_retune_60 fo_X8_33 hDK.1 rfl) ?_
        refine mRun.go (q_iload_n dX8_retune_63 rfl rfl) ?_
        refine mRun.go (q_iload_n dX8_retune_64 rfl rfl) ?_
        refine mRun.go (q_iload_n dX8_retune_65 rfl rfl) ?_
        refine mRun.go (q_callVv (r := 28) [mi d, mi x, mi v] [] dX8_retune_66 co_X8_198 ⟨Nat.le_of_ble_eq_true rfl, Nat.le_of_ble_eq_true rfl⟩ gw_339 gw_340 rfl (dm_n hDK).1 rfl rfl rfl (Nat.le_of_ble_eq_true rfl) (k_setTold (dm_n hDK) hK (by omega) (by omega) (by omega))) ?_
        refine mRun.go (q_iload dX8_retune_69 rfl) ?_
        refine r_iret dX8_retune_71 rfl ?_
        have e0 : a_retune S d x v = fT (sF S) (36 * d + x) := by simp only [a_retune, isD, isP, isT, tvS, tlS]; first | (rw [if_pos (by omega)]; done) | (rw [if_neg (by omega)]; done) | (rw [if_pos (by omega), if_pos (by omega)]; done) | (rw [if_pos (by omega), if_neg (by omega)]; done) | (rw [if_neg (by omega), if_pos (by omega)]; done) | (rw [if_neg (by omega), if_neg (by omega)]; done)
        have e9 : z_retune S d x v = putU S (setTl (sF S) (36 * d + x) v) := by simp only [z_retune, isD, isP, isT, tvS, tlS]; rw [if_pos (by omega)]
        have hfin : FRC (rput K (28 + 1) 144 (d * 36 + x) v) 28 (sL S) (setTl (sF S) (36 * d + x) v) := frc_setTl hFK hLRK hL (by decide) (by omega) (by omega) (by rw [if_neg (by omega)])
        rw [e0, e9]
        exact cs_out hfK (fun r a => rput_nf (by omega)) hsg hms (cs_now hCK hL (push_ok hS.2.2.1 hS.2.2.2.1 hS.2.1).1 (fun r a => rput_nf (by omega)) (nrm_rput hK hv) hfin)
      · have h28 := ite00 (Classical.not_not.mp c28)
        refine mRun.go (q_iconst dX8_retune_31) ?_
        refine r_iret dX8_retune_32 rfl ?_
        have e0 : a_retune S d x v = (-1) := by simp only [a_retune, isD, isP, isT, tvS]; first | (rw [if_pos (by omega)]; done) | (rw [if_neg (by omega)]; done) | (rw [if_pos (by omega), if_pos (by omega)]; done) | (rw [if_pos (by omega), if_neg (by omega)]; done) | (rw [if_neg (by omega), if_pos (by omega)]; done) | (rw [if_neg (by omega), if_neg (by omega)]; done)
        have e9 : z_retune S d x v = S := by simp only [z_retune, isD, isP, isT, tvS]; rw [if_neg (by omega)]
        rw [e0, e9]
        exact out_q hC hS hI frq_rf

set_option maxRecDepth 100000 in
theorem f_give {σ : List mC} {I : mI} {S : Sx} {B : Int} {t d : Int} (hC : CS σ I S) (hS : SxOk B S) (ht : -2147483648 ≤ t ∧ t < 2147483648) (hd : -2147483648 ≤ d ∧ d < 2147483648) : mMt mX8_give [mr 0, mi t, mi d] (σ, I) (Out σ I (z_give S t d) (a_give S t d)) := by
  refine mMt.of pl_8 (Nat.le_of_ble_eq_true rfl) ?_
  show mRun mZt mX8_give 0 [some (mr 0), some (mi t), some (mi d), none, none] [] (σ, I) _
  obtain ⟨q, hq1, hq2, hU, hq4⟩ := hC.2.2.1
  have hI := hC.1
  have hD := hC.2.1
  have hL := hS.1
  have hT := hC.2.2.2.1
  have hLR := hC.2.2.2.2.1
  have hF := hC.2.2.2.2.2.1
  have hpr := lp_rng hL
  have hqe := lq_eq hL
  have hwr := hL.2.1
  have hdr := hL.2.2.1
  have hnt := hL.2.2.2.1
  have hwF := hS.2.1.1
  have hhF := hS.2.1.2.1
  have hH8 := hS.2.2.2.2.2.2.1
  have hU8 := hS.2.2.1
  have hK2 := hS.2.2.2.2.1
  have hLn := hS.2.2.2.2.2.2.2.2
  refine mRun.go (q_aload_n dX8_give_0 rfl rfl) ?_
  refine mRun.go (q_getR dX8_give_1 fo_X8_26 hD.1 rfl) ?_
  refine mRun.go (q_iload_n dX8_give_4 rfl rfl) ?_
  have hh5 := @k_hasTrv σ I 21 t (dm_l hD) hI ht
  rw [hLR.2.2.2.1] at hh5
  refine mRun.go (q_callVi (r := 21) [mi t] [] dX8_give_5 co_X8_146 ⟨Nat.le_of_ble_eq_true rfl, Nat.le_of_ble_eq_true rfl⟩ gw_489 gw_490 rfl (dm_l hD).1 rfl rfl rfl (Nat.le_of_ble_eq_true rfl) hh5) ?_
  refine r_if_eq (tgt := 22) dX8_give_8 (by decide) (by split <;> omega) (fun c8 => ?_) (fun c8 => ?_)
  · have h8 := ite00 c8
    refine mRun.go (q_iconst dX8_give_22) ?_
    refine r_iret dX8_give_23 rfl ?_
    have e0 : a_give S t d = (-1) := by simp only [a_give, isD, isP, isT, tvS]; first | (rw [if_pos (by omega)]; done) | (rw [if_neg (by omega)]; done) | (rw [if_pos (by omega), if_pos (by omega)]; done) | (rw [if_pos (by omega), if_neg (by omega)]; done) | (rw [if_neg (by omega), if_pos (by omega)]; done) | (rw [if_neg (by omega), if_neg (by omega)]; done)
    have e9 : z_give S t d = S := by simp only [z_give, isD, isP, isT, tvS]; rw [if_neg (by omega)]
    rw [e0, e9]
    exact out_q hC hS hI frq_rf
  · have h8 := ite01 c8
    refine mRun.go (q_aload_n dX8_give_11 rfl rfl) ?_
    refine mRun.go (q_getR dX8_give_12 fo_X8_26 hD.1 rfl) ?_
    refine mRun.go (q_iload_n dX8_give_15 rfl rfl) ?_
    have hh16 := @k_hasDrum σ I 21 d (dm_l hD) hI hd
    rw [hLR.2.2.1] at hh16
    refine mRun.go (q_callVi (r := 21) [mi d] [] dX8_give_16 co_X8_126 ⟨Nat.le_of_ble_eq_true rfl, Nat.le_of_ble_eq_true rfl⟩ gw_331 gw_332 rfl (dm_l hD).1 rfl rfl rfl (Nat.le_of_ble_eq_true rfl) hh16) ?_
    refine r_if_ne (tgt := 24) dX8_give_19 (by decide) (by split <;> omega) (fun c19 => ?_) (fun c19 => ?_)
    · have h19 := ite01 c19
      refine mRun.go (q_aload_n dX8_give_24 rfl rfl) ?_
      refine mRun.go (q_getR dX8_give_25 fo_X8_33 hD.1 rfl) ?_
      refine mRun.go (q_iload_n dX8_give_28 rfl rfl) ?_
      refine mRun.go (q_callVi (r := 28) [mi t] [] dX8_give_29 co_X8_149 ⟨Nat.le_of_ble_eq_true rfl, Nat.le_of_ble_eq_true rfl⟩ gw_348 gw_349 rfl (dm_n hD).1 rfl rfl rfl (Nat.le_of_ble_eq_true rfl) (k_who (dm_n hD) (by omega))) ?_
      refine mRun.go (q_astore_n (ls' := [some (mr 0), some (mi t), some (mi d), some (mr (28 + 4 + t.toNat)), none]) dX8_give_32 rfl (Nat.le_of_ble_eq_true rfl) rfl) ?_
      refine mRun.go (q_aload_n dX8_give_33 rfl rfl) ?_
      refine mRun.go (q_getE (x := (tget I (28 + 4 + t.toNat)).2.2.2.1) dX8_give_34 fo_X8_162 ((dm_n hD).2.2.2 t.toNat (by omega)) rfl rfl) ?_
      refine r_if_eq (tgt := 43) dX8_give_37 (by decide) (hI _ _) (fun c37 => ?_) (fun c37 => ?_)
      · refine mRun.go (q_aload_n dX8_give_43 rfl rfl) ?_
        refine mRun.go (q_getR dX8_give_44 fo_X8_42 hD.1 rfl) ?_
        refine mRun.go (q_aload_n dX8_give_47 rfl rfl) ?_
        refine mRun.go (q_getR dX8_give_48 fo_X8_33 hD.1 rfl) ?_
        obtain ⟨v0, h0, hc0, rfl, σ2, K, rfl, hfK, hsg, hms, hCK⟩ := k_push hC hS
        have hK := hCK.1
        have hDK := hCK.2.1
        have hFK : FRC K 28 (sL S) (sF S) := hCK.2.2.2.2.2.1
        have hLRK : LRC K (sL S) := hCK.2.2.2.2.1
        refine mRun.go (q_callVv (r := 36) [mr 28] [] dX8_give_51 co_X8_189 ⟨Nat.le_of_ble_eq_true rfl, Nat.le_of_ble_eq_true rfl⟩ gw_547 gw_548 rfl hU.1 rfl rfl rfl (Nat.le_of_ble_eq_true rfl) hc0) ?_
        refine mRun.go (q_aload_n dX8_give_54 rfl rfl) ?_
        refine mRun.go (q_getE (x := (tget K (28 + 4 + t.toNat)).2.2.1) dX8_give_55 fo_X8_159 ((dm_n hDK).2.2.2 t.toNat (by omega)) rfl rfl) ?_
        refine mRun.go (q_istore (ls' := [some (mr 0), some (mi t), some (mi d), some (mr (28 + 4 + t.toNat)), some (mi ((tget K (28 + 4 + t.toNat)).2.2.1))]) dX8_give_58 (Nat.le_of_ble_eq_true rfl) rfl) ?_
        refine mRun.go (q_aload_n dX8_give_60 rfl rfl) ?_
        refine mRun.go (q_iload_n dX8_give_61 rfl rfl) ?_
        refine mRun.go (q_putI dX8_give_62 fo_X8_159 fp_6_2 ((dm_n hDK).2.2.2 t.toNat (by omega)) rfl) ?_
        refine mRun.go (q_iload dX8_give_65 rfl) ?_
        refine r_iret dX8_give_67 rfl ?_
        have hto := hF.2.2.2 t.toNat (by omega)
        have htK := hFK.2.2.2 t.toNat (by omega)
        have hst : (fV (sF S) t.toNat).2.2.2.1 = 0 := by rw [← hto.1]; exact c37
        have ev : (tget K (28 + 4 + t.toNat)).2.2.1 = (fV (sF S) t.toNat).2.2.1 := by rw [← htK.1]; rfl
        have eh : mup K (28 + 4 + t.toNat) 2 d = tset K (28 + 4 + t.toNat) (sdr (tget K (28 + 4 + t.toNat)) d) := by rw [mup_t2]; rfl
        rw [ev, eh]
        have hok := sdrc_ok (d := d) htK.2 (by omega)
        have hfr := frc_setV (t := t.toNat) hFK hL (by decide) (by omega) hok
        rw [sdr_nrm, htK.1] at hfr
        have e0 : a_give S t d = (fV (sF S) t.toNat).2.2.1 := by simp only [a_give, isD, isP, isT, tvS, tlS]; first | (rw [if_pos (by omega)]; done) | (rw [if_neg (by omega)]; done) | (rw [if_pos (by omega), if_pos (by omega)]; done) | (rw [if_pos (by omega), if_neg (by omega)]; done) | (rw [if_neg (by omega), if_pos (by omega)]; done) | (rw [if_neg (by omega), if_neg (by omega)]; done)
        have e9 : z_give S t d = putU S (setV (sF S) t.toNat (sdr (fV (sF S) t.toNat) d)) := by simp only [z_give, isD, isP, isT, tvS, tlS]; rw [if_pos (by omega)]
        have hfin : FRC (tset K (28 + 4 + t.toNat) (sdr (tget K (28 + 4 + t.toNat)) d)) 28 (sL S) (setV (sF S) t.toNat (sdr (fV (sF S) t.toNat) d)) := hfr
        rw [e0, e9]
        exact cs_out hfK (fun r a => by funext k; exact tset_ne (by omega)) hsg hms (cs_now hCK hL (push_ok hS.2.2.1 hS.2.2.2.1 hS.2.1).1 (fun r a => by funext k; exact tset_ne (by omega)) (nrm_trv hK (by omega) (by omega) hok) hfin)
      · refine mRun.go (q_bipush dX8_give_40 (by decide)) ?_
        refine r_iret dX8_give_42 rfl ?_
        have hto := hF.2.2.2 t.toNat (by omega)
        have hst : ¬ (fV (sF S) t.toNat).2.2.2.1 = 0 := by rw [← hto.1]; exact c37
        have e0 : a_give S t d = (-2) := by simp only [a_give, isD, isP, isT, tvS]; first | (rw [if_pos (by omega)]; done) | (rw [if_neg (by omega)]; done) | (rw [if_pos (by omega), if_pos (by omega)]; done) | (rw [if_pos (by omega), if_neg (by omega)]; done) | (rw [if_neg (by omega), if_pos (by omega)]; done) | (rw [if_neg (by omega), if_neg (by omega)]; done)
        have e9 : z_give S t d = S := by simp only [z_give, isD, isP, isT, tvS]; rw [if_neg (by omega)]
        rw [e0, e9]
        exact out_q hC hS hI frq_rf
    · have h19 := ite00 (Classical.not_not.mp c19)
      refine mRun.go (q_iconst dX8_give_22) ?_
      refine r_iret dX8_give_23 rfl ?_
      have e0 : a_give S t d = (-1) := by simp only [a_give, isD, isP, isT, tvS]; first | (rw [if_pos (by omega)]; done) | (rw [if_neg (by omega)]; done) | (rw [if_pos (by omega), if_pos (by omega)]; done) | (rw [if_pos (by omega), if_neg (by omega)]; done) | (rw [if_neg (by omega), if_pos (by omega)]; done) | (rw [if_neg (by omega), if_neg (by omega)]; done)
      have e9 : z_give S t d = S := by simp only [z_give, isD, isP, isT, tvS]; rw [if_neg (by omega)]
      rw [e0, e9]
      exact out_q hC hS hI frq_rf

set_option maxRecDepth 100000 in
theorem f_send {σ : List mC} {I : mI} {S : Sx} {B : Int} {t y : Int} (hC : CS σ I S) (hS : SxOk B S) (ht : -2147483648 ≤ t ∧ t < 2147483648) (hy : -2147483648 ≤ y ∧ y < 2147483648) : mMt mX8_send [mr 0, mi t, mi y] (σ, I) (Out σ I (z_send S t y) (a_send S t y)) := by
  refine mMt.of pl_8 (Nat.le_of_ble_eq_true rfl) ?_
  show mRun mZt mX8_send 0 [some (mr 0), some (mi t), some (mi y), none] [] (σ, I) _
  obtain ⟨q, hq1, hq2, hU, hq4⟩ := hC.2.2.1
  have hI := hC.1
  have hD := hC.2.1
  have hL := hS.1
  have hT := hC.2.2.2.1
  have hLR := hC.2.2.2.2.1
  have hF := hC.2.2.2.2.2.1
  have hpr := lp_rng hL
  have hqe := lq_eq hL
  have hwr := hL.2.1
  have hdr := hL.2.2.1
  have hnt := hL.2.2.2.1
  have hwF := hS.2.1.1
  have hhF := hS.2.1.2.1
  have hH8 := hS.2.2.2.2.2.2.1
  have hU8 := hS.2.2.1
  have hK2 := hS.2.2.2.2.1
  have hLn := hS.2.2.2.2.2.2.2.2
  refine mRun.go (q_aload_n dX8_send_0 rfl rfl) ?_
  refine mRun.go (q_getR dX8_send_1 fo_X8_26 hD.1 rfl) ?_
  refine mRun.go (q_iload_n dX8_send_4 rfl rfl) ?_
  have hh5 := @k_hasTrv σ I 21 t (dm_l hD) hI ht
  rw [hLR.2.2.2.1] at hh5
  refine mRun.go (q_callVi (r := 21) [mi t] [] dX8_send_5 co_X8_146 ⟨Nat.le_of_ble_eq_true rfl, Nat.le_of_ble_eq_true rfl⟩ gw_489 gw_490 rfl (dm_l hD).1 rfl rfl rfl (Nat.le_of_ble_eq_true rfl) hh5) ?_
  refine r_if_eq (tgt := 22) dX8_send_8 (by decide) (by split <;> omega) (fun c8 => ?_) (fun c8 => ?_)
  · have h8 := ite00 c8
    refine mRun.go (q_iconst dX8_send_22) ?_
    refine r_iret dX8_send_23 rfl ?_
    have e0 : a_send S t y = (-1) := by simp only [a_send, isD, isP, isT, tvS]; first | (rw [if_pos (by omega)]; done) | (rw [if_neg (by omega)]; done) | (rw [if_pos (by omega), if_pos (by omega)]; done) | (rw [if_pos (by omega), if_neg (by omega)]; done) | (rw [if_neg (by omega), if_pos (by omega)]; done) | (rw [if_neg (by omega), if_neg (by omega)]; done)
    have e9 : z_send S t y = S := by simp only [z_send, isD, isP, isT, tvS]; rw [if_neg (by omega)]
    rw [e0, e9]
    exact out_q hC hS hI frq_rf
  · have h8 := ite01 c8
    refine mRun.go (q_aload_n dX8_send_11 rfl rfl) ?_
    refine mRun.go (q_getR dX8_send_12 fo_X8_26 hD.1 rfl) ?_
    refine mRun.go (q_iload_n dX8_send_15 rfl rfl) ?_
    have hh16 := @k_hasPlace σ I 21 y (dm_l hD) hI hy
    rw [hLR.1] at hh16
    refine mRun.go (q_callVi (r := 21) [mi y] [] dX8_send_16 co_X8_116 ⟨Nat.le_of_ble_eq_true rfl, Nat.le_of_ble_eq_true rfl⟩ gw_335 gw_336 rfl (dm_l hD).1 rfl rfl rfl (Nat.le_of_ble_eq_true rfl) hh16) ?_
    refine r_if_ne (tgt := 24) dX8_send_19 (by decide) (by split <;> omega) (fun c19 => ?_) (fun c19 => ?_)
    · have h19 := ite01 c19
      refine mRun.go (q_aload_n dX8_send_24 rfl rfl) ?_
      refine mRun.go (q_getR dX8_send_25 fo_X8_33 hD.1 rfl) ?_
      refine mRun.go (q_iload_n dX8_send_28 rfl rfl) ?_
      refine mRun.go (q_callVi (r := 28) [mi t] [] dX8_send_29 co_X8_149 ⟨Nat.le_of_ble_eq_true rfl, Nat.le_of_ble_eq_true rfl⟩ gw_348 gw_349 rfl (dm_n hD).1 rfl rfl rfl (Nat.le_of_ble_eq_true rfl) (k_who (dm_n hD) (by omega))) ?_
      refine mRun.go (q_astore_n (ls' := [some (mr 0), some (mi t), some (mi y), some (mr (28 + 4 + t.toNat))]) dX8_send_32 rfl (Nat.le_of_ble_eq_true rfl) rfl) ?_
      refine mRun.go (q_aload_n dX8_send_33 rfl rfl) ?_
      refine mRun.go (q_getE (x := (tget I (28 + 4 + t.toNat)).2.2.2.1) dX8_send_34 fo_X8_162 ((dm_n hD).2.2.2 t.toNat (by omega)) rfl rfl) ?_
      refine mRun.go (q_iconst dX8_send_37) ?_
      refine r_icmp_ne (tgt := 44) dX8_send_38 (by decide) (hI _ _) (by omega) (fun c38 => ?_) (fun c38 => ?_)
      · refine mRun.go (q_aload_n dX8_send_44 rfl rfl) ?_
        refine mRun.go (q_getR dX8_send_45 fo_X8_42 hD.1 rfl) ?_
        refine mRun.go (q_aload_n dX8_send_48 rfl rfl) ?_
        refine mRun.go (q_getR dX8_send_49 fo_X8_33 hD.1 rfl) ?_
        obtain ⟨v0, h0, hc0, rfl, σ2, K, rfl, hfK, hsg, hms, hCK⟩ := k_push hC hS
        have hK := hCK.1
        have hDK := hCK.2.1
        have hFK : FRC K 28 (sL S) (sF S) := hCK.2.2.2.2.2.1
        have hLRK : LRC K (sL S) := hCK.2.2.2.2.1
        refine mRun.go (q_callVv (r := 36) [mr 28] [] dX8_send_52 co_X8_189 ⟨Nat.le_of_ble_eq_true rfl, Nat.le_of_ble_eq_true rfl⟩ gw_547 gw_548 rfl hU.1 rfl rfl rfl (Nat.le_of_ble_eq_true rfl) hc0) ?_
        refine mRun.go (q_aload_n dX8_send_55 rfl rfl) ?_
        refine mRun.go (q_iload_n dX8_send_56 rfl rfl) ?_
        refine mRun.go (q_callVv (r := 28 + 4 + t.toNat) [mi y] [] dX8_send_57 co_X8_202 ⟨Nat.le_of_ble_eq_true rfl, Nat.le_of_ble_eq_true rfl⟩ gw_356 gw_357 rfl ((dm_n hDK).2.2.2 t.toNat (by omega)) rfl rfl rfl (Nat.le_of_ble_eq_true rfl) (k_goTo ((dm_n hDK).2.2.2 t.toNat (by omega)) hK hy)) ?_
        refine mRun.go (q_aload_n dX8_send_60 rfl rfl) ?_
        refine mRun.go (q_getE (x := (goToT (tget K (28 + 4 + t.toNat)) y).2.2.2.1) dX8_send_61 fo_X8_162 ((dm_n hDK).2.2.2 t.toNat (by omega)) rfl tset_3) ?_
        refine mRun.go (q_iconst dX8_send_64) ?_
        refine r_icmp_ne (tgt := 72) dX8_send_65 (by decide) (by unfold goToT; simp only; split <;> omega) (by omega) (fun c65 => ?_) (fun c65 => ?_)
        · refine mRun.go (q_iconst dX8_send_72) ?_
          refine r_iret dX8_send_73 rfl ?_
          have hto := hF.2.2.2 t.toNat (by omega)
          have htK := hFK.2.2.2 t.toNat (by omega)
          have hst : ¬ (fV (sF S) t.toNat).2.2.2.1 = 2 := by rw [← hto.1]; exact c38
          have hok := goToc_ok (y := y) htK.2 (by omega)
          have hfr := frc_setV (t := t.toNat) hFK hL (by decide) (by omega) hok
          rw [goTo_nrm, htK.1] at hfr
          have hg : (goToT (fV (sF S) t.toNat) y).2.2.2.1 = (goToT (tget K (28 + 4 + t.toNat)) y).2.2.2.1 := by rw [← htK.1]; rfl
          have hg2 : (goToT (tget K (28 + 4 + t.toNat)) y).2.2.2.1 = 0 ∨ (goToT (tget K (28 + 4 + t.toNat)) y).2.2.2.1 = 1 := by unfold goToT; simp only; split <;> omega
          have hg3 : (goToT (fV (sF S) t.toNat) y).2.2.2.1 = 0 := by omega
          have e0 : a_send S t y = 0 := by simp only [a_send, isP, isT, tvS]; rw [if_pos (by omega), if_neg (by omega), hg3]
          have e9 : z_send S t y = putU S (setV (sF S) t.toNat (goToT (fV (sF S) t.toNat) y)) := by simp only [z_send, isP, isT, tvS]; rw [if_pos (by omega)]
          rw [e0, e9]
          exact cs_out hfK (fun r a => by funext k; exact tset_ne (by omega)) hsg hms (cs_now hCK hL (push_ok hS.2.2.1 hS.2.2.2.1 hS.2.1).1 (fun r a => by funext k; exact tset_ne (by omega)) (nrm_trv hK (by omega) (by omega) hok) hfr)
        · refine mRun.go (q_iconst dX8_send_68) ?_
          refine mRun.go (q_goto (tgt := 73) dX8_send_69 (by decide)) ?_
          refine r_iret dX8_send_73 rfl ?_
          have hto := hF.2.2.2 t.toNat (by omega)
          have htK := hFK.2.2.2 t.toNat (by omega)
          have hst : ¬ (fV (sF S) t.toNat).2.2.2.1 = 2 := by rw [← hto.1]; exact c38
          have hok := goToc_ok (y := y) htK.2 (by omega)
          have hfr := frc_setV (t := t.toNat) hFK hL (by decide) (by omega) hok
          rw [goTo_nrm, htK.1] at hfr
          have hg : (goToT (fV (sF S) t.toNat) y).2.2.2.1 = (goToT (tget K (28 + 4 + t.toNat)) y).2.2.2.1 := by rw [← htK.1]; rfl
          have hg2 : (goToT (tget K (28 + 4 + t.toNat)) y).2.2.2.1 = 0 ∨ (goToT (tget K (28 + 4 + t.toNat)) y).2.2.2.1 = 1 := by unfold goToT; simp only; split <;> omega
          have hg3 : (goToT (fV (sF S) t.toNat) y).2.2.2.1 = 1 := by omega
          have e0 : a_send S t y = 1 := by simp only [a_send, isP, isT, tvS]; rw [if_pos (by omega), if_neg (by omega), hg3]
          have e9 : z_send S t y = putU S (setV (sF S) t.toNat (goToT (fV (sF S) t.toNat) y)) := by simp only [z_send, isP, isT, tvS]; rw [if_pos (by omega)]
          rw [e0, e9]
          exact cs_out hfK (fun r a => by funext k; exact tset_ne (by omega)) hsg hms (cs_now hCK hL (push_ok hS.2.2.1 hS.2.2.2.1 hS.2.1).1 (fun r a => by funext k; exact tset_ne (by omega)) (nrm_trv hK (by omega) (by omega) hok) hfr)
      · refine mRun.go (q_bipush dX8_send_41 (by decide)) ?_
        refine r_iret dX8_send_43 rfl ?_
        have hto := hF.2.2.2 t.toNat (by omega)
        have hst : (fV (sF S) t.toNat).2.2.2.1 = 2 := by rw [← hto.1]; exact Classical.not_not.mp c38
        have e0 : a_send S t y = (-2) := by simp only [a_send, isD, isP, isT, tvS]; first | (rw [if_pos (by omega)]; done) | (rw [if_neg (by omega)]; done) | (rw [if_pos (by omega), if_pos (by omega)]; done) | (rw [if_pos (by omega), if_neg (by omega)]; done) | (rw [if_neg (by omega), if_pos (by omega)]; done) | (rw [if_neg (by omega), if_neg (by omega)]; done)
        have e9 : z_send S t y = S := by simp only [z_send, isD, isP, isT, tvS]; rw [if_neg (by omega)]
        rw [e0, e9]
        exact out_q hC hS hI frq_rf
    · have h19 := ite00 (Classical.not_not.mp c19)
      refine mRun.go (q_iconst dX8_send_22) ?_
      refine r_iret dX8_send_23 rfl ?_
      have e0 : a_send S t y = (-1) := by simp only [a_send, isD, isP, isT, tvS]; first | (rw [if_pos (by omega)]; done) | (rw [if_neg (by omega)]; done) | (rw [if_pos (by omega), if_pos (by omega)]; done) | (rw [if_pos (by omega), if_neg (by omega)]; done) | (rw [if_neg (by omega), if_pos (by omega)]; done) | (rw [if_neg (by omega), if_neg (by omega)]; done)
      have e9 : z_send S t y = S := by simp only [z_send, isD, isP, isT, tvS]; rw [if_neg (by omega)]
      rw [e0, e9]
      exact out_q hC hS hI frq_rf
