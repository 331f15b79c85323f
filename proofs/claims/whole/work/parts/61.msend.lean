/-! ===== the reference: sending, hours ===== -/
set_option maxRecDepth 100000 in
theorem g_send {σ : List mC} {I : mI} {S : Sx} {B : Int} {t y : Int} (hM : MS σ I S) (hS : SxOk B S) (ht : -2147483648 ≤ t ∧ t < 2147483648) (hy : -2147483648 ≤ y ∧ y < 2147483648) : mMt mX9_send [mr 144, mi t, mi y] (σ, I) (OutM σ I (z_send S t y) (a_send S t y)) := by
  refine mMt.of pl_9 (Nat.le_of_ble_eq_true rfl) ?_
  show mRun mZt mX9_send 0 [some (mr 144), some (mi t), some (mi y)] [] (σ, I) _
  have hI := hM.1
  have hD := hM.2.1
  have hL := hS.1
  have hsz := hM.2.2.1
  have hLR := hM.2.2.2.2.2.2.1
  have hF := hM.2.2.2.2.2.2.2.1
  have hun := hM.2.2.2.2.2.2.2.2.1
  have hpa := hM.2.2.2.2.2.2.2.2.2.1
  have hkm := hM.2.2.2.2.2.2.2.2.2.2.1
  have hke := hM.2.2.2.2.2.2.2.2.2.2.2.1
  have hhm := hM.2.2.2.2.2.2.2.2.2.2.2.2.1
  have hhe := hM.2.2.2.2.2.2.2.2.2.2.2.2.2.1
  have hN := hM.2.2.2.2.2.2.2.2.2.2.2.2.2.2
  have hpr := lp_rng hL
  have hqe := lq_eq hL
  have hwr := hL.2.1
  have hrr := hL.1
  have hdr := hL.2.2.1
  have hnt := hL.2.2.2.1
  have hwF := hS.2.1.1
  have hhF := hS.2.1.2.1
  have hvF := hS.2.1.2.2.2
  have hH8 := hS.2.2.2.2.2.2.1
  have hU8 := hS.2.2.1
  have hK2 := hS.2.2.2.2.1
  have hLn := hS.2.2.2.2.2.2.2.2
  refine mRun.go (q_aload_n dX9_send_0 rfl rfl) ?_
  refine mRun.go (q_iload_n dX9_send_1 rfl rfl) ?_
  refine mRun.go (q_callVi (r := 144) [mi t] [] dX9_send_2 co_X9_203 ⟨Nat.le_of_ble_eq_true rfl, Nat.le_of_ble_eq_true rfl⟩ gw_950 gs_41 rfl hD.1 rfl rfl rfl (Nat.le_of_ble_eq_true rfl) (m_isTraveller hI hD hL hLR hN ht)) ?_
  refine r_if_eq (tgt := 16) dX9_send_5 (by decide) (by split <;> omega) (fun c5 => ?_) (fun c5 => ?_)
  · have h5 := ite00 c5
    refine mRun.go (q_iconst dX9_send_16) ?_
    refine r_iret dX9_send_17 rfl ?_
    have e0 : a_send S t y = (-1) := by simp only [a_send, isD, isP, isT, tvS]; first | (rw [if_pos (by omega)]; done) | (rw [if_neg (by omega)]; done) | (rw [if_pos (by omega), if_pos (by omega)]; done) | (rw [if_pos (by omega), if_neg (by omega)]; done) | (rw [if_neg (by omega), if_pos (by omega)]; done) | (rw [if_neg (by omega), if_neg (by omega)]; done)
    have e9 : z_send S t y = S := by simp only [z_send, isD, isP, isT, tvS]; rw [if_neg (by omega)]
    rw [e0, e9]
    exact outm_q hM hS hI frm_rf
  · have h5 := ite01 c5
    refine mRun.go (q_aload_n dX9_send_8 rfl rfl) ?_
    refine mRun.go (q_iload_n dX9_send_9 rfl rfl) ?_
    refine mRun.go (q_callVi (r := 144) [mi y] [] dX9_send_10 co_X9_195 ⟨Nat.le_of_ble_eq_true rfl, Nat.le_of_ble_eq_true rfl⟩ gw_922 gs_38 rfl hD.1 rfl rfl rfl (Nat.le_of_ble_eq_true rfl) (m_isPlace hI hD hL hLR hy)) ?_
    refine r_if_ne (tgt := 18) dX9_send_13 (by decide) (by split <;> omega) (fun c13 => ?_) (fun c13 => ?_)
    · have h13 := ite01 c13
      refine mRun.go (q_aload_n dX9_send_18 rfl rfl) ?_
      refine mRun.go (q_getR dX9_send_19 fo_X9_16 hD.1 rfl) ?_
      refine mRun.go (q_sipush dX9_send_22 (by decide)) ?_
      refine mRun.go (q_iload_n dX9_send_25 rfl rfl) ?_
      refine mRun.go (q_iadd dX9_send_26) ?_
      refine mRun.go (q_ialdE (x := (fV (sF S) t.toNat).2.2.2.1) dX9_send_27 hD.2.2.2.1 (by omega) (by omega) (by have h := (tv6i (hF.2.2.2 t.toNat (by omega))).2.2.2.1; rw [show ((t.toNat : Nat) : Int) = t by omega] at h; exact h)) ?_
      refine mRun.go (q_iconst dX9_send_28) ?_
      refine r_icmp_ne (tgt := 35) dX9_send_29 (by decide) (by rw [← (tv6i (hF.2.2.2 t.toNat (by omega))).2.2.2.1]; exact hI _ _) (by omega) (fun c29 => ?_) (fun c29 => ?_)
      · refine mRun.go (q_aload_n dX9_send_35 rfl rfl) ?_
        obtain ⟨v0, h0, hc0, rfl, K, rfl, hK, hlo, hRK⟩ := m_remember hM hS
        have hLRK : LRM K (sL S) := hRK.2.2.2.2.1
        have hFK : FRM K 147 0 (sL S) (sF S) := hRK.2.2.2.2.2.1
        refine mRun.go (q_callVv (r := 144) [] [] dX9_send_36 co_X9_220 ⟨Nat.le_of_ble_eq_true rfl, Nat.le_of_ble_eq_true rfl⟩ gw_992 gs_47 rfl hD.1 rfl rfl rfl (Nat.le_of_ble_eq_true rfl) hc0) ?_
        refine mRun.go (q_aload_n dX9_send_39 rfl rfl) ?_
        refine mRun.go (q_getR dX9_send_40 fo_X9_16 hD.1 rfl) ?_
        refine mRun.go (q_iload_n dX9_send_43 rfl rfl) ?_
        refine mRun.go (q_iload_n dX9_send_44 rfl rfl) ?_
        obtain ⟨v1, h1, hc1, rfl, J, rfl, hJ, hfJ, hFJ⟩ := m_sends (t := t.toNat) (y := y) hK hL hD.2.2.2.1 hFK (by omega) (hvF _ (by omega)) (by omega)
        rw [show ((t.toNat : Nat) : Int) = t by omega] at hc1
        refine mRun.go (q_callSv [mr 147, mi t, mi y] [] dX9_send_45 co_X9_229 ⟨Nat.le_of_ble_eq_true rfl, Nat.le_of_ble_eq_true rfl⟩ gw_1020 rfl rfl (Nat.le_of_ble_eq_true rfl) hc1) ?_
        refine mRun.go (q_aload_n dX9_send_48 rfl rfl) ?_
        refine mRun.go (q_getR dX9_send_49 fo_X9_16 hD.1 rfl) ?_
        refine mRun.go (q_sipush dX9_send_52 (by decide)) ?_
        refine mRun.go (q_iload_n dX9_send_55 rfl rfl) ?_
        refine mRun.go (q_iadd dX9_send_56) ?_
        refine mRun.go (q_ialdE (x := (goToT (fV (sF S) t.toNat) y).2.2.2.1) dX9_send_57 hD.2.2.2.1 (by omega) (by omega) (by have h := (tv6i (hFJ.2.2.2 t.toNat (by omega))).2.2.2.1; rw [setV_at, show ((t.toNat : Nat) : Int) = t by omega] at h; exact h)) ?_
        refine mRun.go (q_iconst dX9_send_58) ?_
        refine r_icmp_ne (tgt := 66) dX9_send_59 (by decide) (by unfold goToT; simp only; split <;> omega) (by omega) (fun c59 => ?_) (fun c59 => ?_)
        · refine mRun.go (q_iconst dX9_send_66) ?_
          refine r_iret dX9_send_67 rfl ?_
          have hg2 : (goToT (fV (sF S) t.toNat) y).2.2.2.1 = 0 ∨ (goToT (fV (sF S) t.toNat) y).2.2.2.1 = 1 := by unfold goToT; simp only; split <;> omega
          have hg3 : (goToT (fV (sF S) t.toNat) y).2.2.2.1 = 0 := by omega
          have e0 : a_send S t y = 0 := by simp only [a_send, isP, isT, tvS]; rw [if_pos (by omega), if_neg (by omega), hg3]
          have e9 : z_send S t y = putU S (setV (sF S) t.toNat (goToT (fV (sF S) t.toNat) y)) := by simp only [z_send, isP, isT, tvS]; rw [if_pos (by omega)]
          rw [e0, e9]
          exact ⟨rfl, _, rfl, fun r hr => (hfJ r (by omega)).trans (hlo r hr), hJ, hD, rm_now (S := putU S (sF S)) hRK hL (fun r p _ => hfJ r p) hFJ⟩
        · refine mRun.go (q_iconst dX9_send_62) ?_
          refine mRun.go (q_goto (tgt := 67) dX9_send_63 (by decide)) ?_
          refine r_iret dX9_send_67 rfl ?_
          have hg2 : (goToT (fV (sF S) t.toNat) y).2.2.2.1 = 0 ∨ (goToT (fV (sF S) t.toNat) y).2.2.2.1 = 1 := by unfold goToT; simp only; split <;> omega
          have hg3 : (goToT (fV (sF S) t.toNat) y).2.2.2.1 = 1 := by omega
          have e0 : a_send S t y = 1 := by simp only [a_send, isP, isT, tvS]; rw [if_pos (by omega), if_neg (by omega), hg3]
          have e9 : z_send S t y = putU S (setV (sF S) t.toNat (goToT (fV (sF S) t.toNat) y)) := by simp only [z_send, isP, isT, tvS]; rw [if_pos (by omega)]
          rw [e0, e9]
          exact ⟨rfl, _, rfl, fun r hr => (hfJ r (by omega)).trans (hlo r hr), hJ, hD, rm_now (S := putU S (sF S)) hRK hL (fun r p _ => hfJ r p) hFJ⟩
      · refine mRun.go (q_bipush dX9_send_32 (by decide)) ?_
        refine r_iret dX9_send_34 rfl ?_
        have e0 : a_send S t y = (-2) := by simp only [a_send, isD, isP, isT, tvS]; first | (rw [if_pos (by omega)]; done) | (rw [if_neg (by omega)]; done) | (rw [if_pos (by omega), if_pos (by omega)]; done) | (rw [if_pos (by omega), if_neg (by omega)]; done) | (rw [if_neg (by omega), if_pos (by omega)]; done) | (rw [if_neg (by omega), if_neg (by omega)]; done)
        have e9 : z_send S t y = S := by simp only [z_send, isD, isP, isT, tvS]; rw [if_neg (by omega)]
        rw [e0, e9]
        exact outm_q hM hS hI frm_rf
    · have h13 := ite00 (Classical.not_not.mp c13)
      refine mRun.go (q_iconst dX9_send_16) ?_
      refine r_iret dX9_send_17 rfl ?_
      have e0 : a_send S t y = (-1) := by simp only [a_send, isD, isP, isT, tvS]; first | (rw [if_pos (by omega)]; done) | (rw [if_neg (by omega)]; done) | (rw [if_pos (by omega), if_pos (by omega)]; done) | (rw [if_pos (by omega), if_neg (by omega)]; done) | (rw [if_neg (by omega), if_pos (by omega)]; done) | (rw [if_neg (by omega), if_neg (by omega)]; done)
      have e9 : z_send S t y = S := by simp only [z_send, isD, isP, isT, tvS]; rw [if_neg (by omega)]
      rw [e0, e9]
      exact outm_q hM hS hI frm_rf
