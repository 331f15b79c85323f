/-! ===== the reference: the calls that only ask ===== -/
set_option maxRecDepth 100000 in
theorem g_place {σ : List mC} {I : mI} {S : Sx} {B : Int} {x : Int} (hM : MS σ I S) (hS : SxOk B S) (hx : -2147483648 ≤ x ∧ x < 2147483648) : mMt mX9_place [mr 144, mi x] (σ, I) (OutM σ I S (a_place S x)) := by
  refine mMt.of pl_9 (Nat.le_of_ble_eq_true rfl) ?_
  show mRun mZt mX9_place 0 [some (mr 144), some (mi x)] [] (σ, I) _
  have hI := hM.1
  have hD := hM.2.1
  have hL := hS.1
  have hsz := hM.2.2.1
  have hLR := hM.2.2.2.2.2.2.1
  have hF := hM.2.2.2.2.2.2.2.1
  have hun := hM.2.2.2.2.2.2.2.2.1
  have hpa := hM.2.2.2.2.2.2.2.2.2.1
  have hkm := hM.2.2.2.2.2.2.2.2.2.2.1
  have hke := hM.2.2.2.2.2.2.2.2.2.2.2.1
  have hhm := hM.2.2.2.2.2.2.2.2.2.2.2.2.1
  have hhe := hM.2.2.2.2.2.2.2.2.2.2.2.2.2.1
  have hN := hM.2.2.2.2.2.2.2.2.2.2.2.2.2.2
  have hpr := lp_rng hL
  have hqe := lq_eq hL
  have hwr := hL.2.1
  have hrr := hL.1
  have hdr := hL.2.2.1
  have hnt := hL.2.2.2.1
  have hwF := hS.2.1.1
  have hhF := hS.2.1.2.1
  have hvF := hS.2.1.2.2.2
  have hH8 := hS.2.2.2.2.2.2.1
  have hU8 := hS.2.2.1
  have hK2 := hS.2.2.2.2.1
  have hLn := hS.2.2.2.2.2.2.2.2
  refine mRun.go (q_aload_n dX9_place_0 rfl rfl) ?_
  refine mRun.go (q_iload_n dX9_place_1 rfl rfl) ?_
  refine mRun.go (q_callVi (r := 144) [mi x] [] dX9_place_2 co_X9_195 ⟨Nat.le_of_ble_eq_true rfl, Nat.le_of_ble_eq_true rfl⟩ gw_922 gs_38 rfl hD.1 rfl rfl rfl (Nat.le_of_ble_eq_true rfl) (m_isPlace hI hD hL hLR hx)) ?_
  refine r_if_eq (tgt := 17) dX9_place_5 (by decide) (by split <;> omega) (fun c5 => ?_) (fun c5 => ?_)
  · have h5 := ite00 c5
    refine mRun.go (q_iconst dX9_place_17) ?_
    refine r_iret dX9_place_18 rfl ?_
    have e : a_place S x = (-1) := by
      simp only [a_place, isP, isD, isT]
      first | (rw [if_pos (by omega)]; done) | (rw [if_neg (by omega)]; done)
    rw [e]
    exact outm_q hM hS hI frm_rf
  · have h5 := ite01 c5
    refine mRun.go (q_aload_n dX9_place_8 rfl rfl) ?_
    refine mRun.go (q_getR dX9_place_9 fo_X9_7 hD.1 rfl) ?_
    refine mRun.go (q_iload_n dX9_place_12 rfl rfl) ?_
    refine mRun.go (q_ialdE (x := lG (sL S) x) dX9_place_13 hD.2.1 (by omega) (by omega) (lrm_g hLR (by omega))) ?_
    refine mRun.go (q_goto (tgt := 18) dX9_place_14 (by decide)) ?_
    refine r_iret dX9_place_18 rfl ?_
    have e : a_place S x = lG (sL S) x := by
      simp only [a_place, isP, isD, isT]
      first | (rw [if_pos (by omega)]; done) | (rw [if_neg (by omega)]; done)
    rw [e]
    exact outm_q hM hS hI frm_rf

set_option maxRecDepth 100000 in
theorem g_kind {σ : List mC} {I : mI} {S : Sx} {B : Int} {d : Int} (hM : MS σ I S) (hS : SxOk B S) (hd : -2147483648 ≤ d ∧ d < 2147483648) : mMt mX9_kind [mr 144, mi d] (σ, I) (OutM σ I S (a_kind S d)) := by
  refine mMt.of pl_9 (Nat.le_of_ble_eq_true rfl) ?_
  show mRun mZt mX9_kind 0 [some (mr 144), some (mi d)] [] (σ, I) _
  have hI := hM.1
  have hD := hM.2.1
  have hL := hS.1
  have hsz := hM.2.2.1
  have hLR := hM.2.2.2.2.2.2.1
  have hF := hM.2.2.2.2.2.2.2.1
  have hun := hM.2.2.2.2.2.2.2.2.1
  have hpa := hM.2.2.2.2.2.2.2.2.2.1
  have hkm := hM.2.2.2.2.2.2.2.2.2.2.1
  have hke := hM.2.2.2.2.2.2.2.2.2.2.2.1
  have hhm := hM.2.2.2.2.2.2.2.2.2.2.2.2.1
  have hhe := hM.2.2.2.2.2.2.2.2.2.2.2.2.2.1
  have hN := hM.2.2.2.2.2.2.2.2.2.2.2.2.2.2
  have hpr := lp_rng hL
  have hqe := lq_eq hL
  have hwr := hL.2.1
  have hrr := hL.1
  have hdr := hL.2.2.1
  have hnt := hL.2.2.2.1
  have hwF := hS.2.1.1
  have hhF := hS.2.1.2.1
  have hvF := hS.2.1.2.2.2
  have hH8 := hS.2.2.2.2.2.2.1
  have hU8 := hS.2.2.1
  have hK2 := hS.2.2.2.2.1
  have hLn := hS.2.2.2.2.2.2.2.2
  refine mRun.go (q_aload_n dX9_kind_0 rfl rfl) ?_
  refine mRun.go (q_iload_n dX9_kind_1 rfl rfl) ?_
  refine mRun.go (q_callVi (r := 144) [mi d] [] dX9_kind_2 co_X9_198 ⟨Nat.le_of_ble_eq_true rfl, Nat.le_of_ble_eq_true rfl⟩ gw_930 gs_39 rfl hD.1 rfl rfl rfl (Nat.le_of_ble_eq_true rfl) (m_isDrum hI hD hL hLR hd)) ?_
  refine r_if_eq (tgt := 17) dX9_kind_5 (by decide) (by split <;> omega) (fun c5 => ?_) (fun c5 => ?_)
  · have h5 := ite00 c5
    refine mRun.go (q_iconst dX9_kind_17) ?_
    refine r_iret dX9_kind_18 rfl ?_
    have e : a_kind S d = (-1) := by
      simp only [a_kind, isP, isD, isT]
      first | (rw [if_pos (by omega)]; done) | (rw [if_neg (by omega)]; done)
    rw [e]
    exact outm_q hM hS hI frm_rf
  · have h5 := ite01 c5
    refine mRun.go (q_aload_n dX9_kind_8 rfl rfl) ?_
    refine mRun.go (q_getR dX9_kind_9 fo_X9_13 hD.1 rfl) ?_
    refine mRun.go (q_iload_n dX9_kind_12 rfl rfl) ?_
    refine mRun.go (q_ialdE (x := lK (sL S) d) dX9_kind_13 hD.2.2.1 (by omega) (by omega) (lrm_k hLR (by omega))) ?_
    refine mRun.go (q_goto (tgt := 18) dX9_kind_14 (by decide)) ?_
    refine r_iret dX9_kind_18 rfl ?_
    have e : a_kind S d = lK (sL S) d := by
      simp only [a_kind, isP, isD, isT]
      first | (rw [if_pos (by omega)]; done) | (rw [if_neg (by omega)]; done)
    rw [e]
    exact outm_q hM hS hI frm_rf

set_option maxRecDepth 100000 in
theorem g_traveller {σ : List mC} {I : mI} {S : Sx} {B : Int} {t v : Int} (hM : MS σ I S) (hS : SxOk B S) (ht : -2147483648 ≤ t ∧ t < 2147483648) (hv : -2147483648 ≤ v ∧ v < 2147483648) : mMt mX9_traveller [mr 144, mi t, mi v] (σ, I) (OutM σ I S (a_traveller S t v)) := by
  refine mMt.of pl_9 (Nat.le_of_ble_eq_true rfl) ?_
  show mRun mZt mX9_traveller 0 [some (mr 144), some (mi t), some (mi v)] [] (σ, I) _
  have hI := hM.1
  have hD := hM.2.1
  have hL := hS.1
  have hsz := hM.2.2.1
  have hLR := hM.2.2.2.2.2.2.1
  have hF := hM.2.2.2.2.2.2.2.1
  have hun := hM.2.2.2.2.2.2.2.2.1
  have hpa := hM.2.2.2.2.2.2.2.2.2.1
  have hkm := hM.2.2.2.2.2.2.2.2.2.2.1
  have hke := hM.2.2.2.2.2.2.2.2.2.2.2.1
  have hhm := hM.2.2.2.2.2.2.2.2.2.2.2.2.1
  have hhe := hM.2.2.2.2.2.2.2.2.2.2.2.2.2.1
  have hN := hM.2.2.2.2.2.2.2.2.2.2.2.2.2.2
  have hpr := lp_rng hL
  have hqe := lq_eq hL
  have hwr := hL.2.1
  have hrr := hL.1
  have hdr := hL.2.2.1
  have hnt := hL.2.2.2.1
  have hwF := hS.2.1.1
  have hhF := hS.2.1.2.1
  have hvF := hS.2.1.2.2.2
  have hH8 := hS.2.2.2.2.2.2.1
  have hU8 := hS.2.2.1
  have hK2 := hS.2.2.2.2.1
  have hLn := hS.2.2.2.2.2.2.2.2
  refine mRun.go (q_aload_n dX9_traveller_0 rfl rfl) ?_
  refine mRun.go (q_iload_n dX9_traveller_1 rfl rfl) ?_
  refine mRun.go (q_callVi (r := 144) [mi t] [] dX9_traveller_2 co_X9_203 ⟨Nat.le_of_ble_eq_true rfl, Nat.le_of_ble_eq_true rfl⟩ gw_950 gs_41 rfl hD.1 rfl rfl rfl (Nat.le_of_ble_eq_true rfl) (m_isTraveller hI hD hL hLR hN ht)) ?_
  refine r_if_eq (tgt := 37) dX9_traveller_5 (by decide) (by split <;> omega) (fun c5 => ?_) (fun c5 => ?_)
  · have h5 := ite00 c5
    refine mRun.go (q_iconst dX9_traveller_37) ?_
    refine r_iret dX9_traveller_38 rfl ?_
    have e : a_traveller S t v = (-1) := by
      simp only [a_traveller, isT, tvi]
      first | (rw [if_neg (by omega)]; done) | (rw [if_pos (by omega), if_neg (by omega), if_neg (by omega), if_neg (by omega), if_neg (by omega), if_neg (by omega), if_neg (by omega)]; done)
    rw [e]
    exact outm_q hM hS hI frm_rf
  · have h5 := ite01 c5
    refine mRun.go (q_iload_n dX9_traveller_8 rfl rfl) ?_
    refine mRun.go (q_i2l dX9_traveller_9 hv) ?_
    refine mRun.go (q_lconst (a := 0) dX9_traveller_10 (by decide)) ?_
    refine mRun.go (q_ldc2 (a := 5) dX9_traveller_11 gw_952) ?_
    refine mRun.go (q_callSi [ml v, ml 0, ml 5] [] dX9_traveller_14 co_X9_114 ⟨Nat.le_of_ble_eq_true rfl, Nat.le_of_ble_eq_true rfl⟩ gw_855 rfl rfl (Nat.le_of_ble_eq_true rfl) (k_in (by omega) (by omega) (by omega))) ?_
    refine r_if_eq (tgt := 37) dX9_traveller_17 (by decide) (by split <;> omega) (fun c17 => ?_) (fun c17 => ?_)
    · have h17 := ite00 c17
      refine mRun.go (q_iconst dX9_traveller_37) ?_
      refine r_iret dX9_traveller_38 rfl ?_
      have e : a_traveller S t v = (-1) := by
        simp only [a_traveller, isT, tvi]
        first | (rw [if_neg (by omega)]; done) | (rw [if_pos (by omega), if_neg (by omega), if_neg (by omega), if_neg (by omega), if_neg (by omega), if_neg (by omega), if_neg (by omega)]; done)
      rw [e]
      exact outm_q hM hS hI frm_rf
    · have h17 := ite01 c17
      refine mRun.go (q_aload_n dX9_traveller_20 rfl rfl) ?_
      refine mRun.go (q_getR dX9_traveller_21 fo_X9_16 hD.1 rfl) ?_
      refine mRun.go (q_sipush dX9_traveller_24 (by decide)) ?_
      refine mRun.go (q_iconst dX9_traveller_27) ?_
      refine mRun.go (q_iload_n dX9_traveller_28 rfl rfl) ?_
      refine mRun.go (q_imul dX9_traveller_29) ?_
      refine mRun.go (q_iadd dX9_traveller_30) ?_
      refine mRun.go (q_iload_n dX9_traveller_31 rfl rfl) ?_
      refine mRun.go (q_iadd dX9_traveller_32) ?_
      refine mRun.go (q_ialdE (x := I 147 (146 + 4 * v + t).toNat) dX9_traveller_33 hD.2.2.2.1 (by omega) (by omega) rfl) ?_
      refine mRun.go (q_goto (tgt := 38) dX9_traveller_34 (by decide)) ?_
      refine r_iret dX9_traveller_38 rfl ?_
      have h6 := tv6i (hF.2.2.2 t.toNat (by omega))
      rw [show ((t.toNat : Nat) : Int) = t by omega] at h6
      have e : a_traveller S t v = I 147 (146 + 4 * v + t).toNat := by
        simp only [a_traveller, isT, tvS]
        rw [if_pos (by omega)]
        rcases (show v = 0 ∨ v = 1 ∨ v = 2 ∨ v = 3 ∨ v = 4 ∨ v = 5 by omega) with q | q | q | q | q | q
        · rw [q, show (146 + 4 * 0 + t).toNat = (146 + t).toNat by omega, h6.1]; rfl
        · rw [q, show (146 + 4 * 1 + t).toNat = (150 + t).toNat by omega, h6.2.1]; rfl
        · rw [q, show (146 + 4 * 2 + t).toNat = (154 + t).toNat by omega, h6.2.2.1]; rfl
        · rw [q, show (146 + 4 * 3 + t).toNat = (158 + t).toNat by omega, h6.2.2.2.1]; rfl
        · rw [q, show (146 + 4 * 4 + t).toNat = (162 + t).toNat by omega, h6.2.2.2.2.1]; rfl
        · rw [q, show (146 + 4 * 5 + t).toNat = (166 + t).toNat by omega, h6.2.2.2.2.2]; rfl
      rw [e]
      exact outm_q hM hS hI frm_rf

set_option maxRecDepth 100000 in
theorem g_drum {σ : List mC} {I : mI} {S : Sx} {B : Int} {d x v : Int} (hM : MS σ I S) (hS : SxOk B S) (hd : -2147483648 ≤ d ∧ d < 2147483648) (hx : -2147483648 ≤ x ∧ x < 2147483648) (hv : -2147483648 ≤ v ∧ v < 2147483648) : mMt mX9_drum [mr 144, mi d, mi x, mi v] (σ, I) (OutM σ I S (a_drum S d x v)) := by
  refine mMt.of pl_9 (Nat.le_of_ble_eq_true rfl) ?_
  show mRun mZt mX9_drum 0 [some (mr 144), some (mi d), some (mi x), some (mi v), none] [] (σ, I) _
  have hI := hM.1
  have hD := hM.2.1
  have hL := hS.1
  have hsz := hM.2.2.1
  have hLR := hM.2.2.2.2.2.2.1
  have hF := hM.2.2.2.2.2.2.2.1
  have hun := hM.2.2.2.2.2.2.2.2.1
  have hpa := hM.2.2.2.2.2.2.2.2.2.1
  have hkm := hM.2.2.2.2.2.2.2.2.2.2.1
  have hke := hM.2.2.2.2.2.2.2.2.2.2.2.1
  have hhm := hM.2.2.2.2.2.2.2.2.2.2.2.2.1
  have hhe := hM.2.2.2.2.2.2.2.2.2.2.2.2.2.1
  have hN := hM.2.2.2.2.2.2.2.2.2.2.2.2.2.2
  have hpr := lp_rng hL
  have hqe := lq_eq hL
  have hwr := hL.2.1
  have hrr := hL.1
  have hdr := hL.2.2.1
  have hnt := hL.2.2.2.1
  have hwF := hS.2.1.1
  have hhF := hS.2.1.2.1
  have hvF := hS.2.1.2.2.2
  have hH8 := hS.2.2.2.2.2.2.1
  have hU8 := hS.2.2.1
  have hK2 := hS.2.2.2.2.1
  have hLn := hS.2.2.2.2.2.2.2.2
  refine mRun.go (q_aload_n dX9_drum_0 rfl rfl) ?_
  refine mRun.go (q_iload_n dX9_drum_1 rfl rfl) ?_
  refine mRun.go (q_callVi (r := 144) [mi d] [] dX9_drum_2 co_X9_198 ⟨Nat.le_of_ble_eq_true rfl, Nat.le_of_ble_eq_true rfl⟩ gw_930 gs_39 rfl hD.1 rfl rfl rfl (Nat.le_of_ble_eq_true rfl) (m_isDrum hI hD hL hLR hd)) ?_
  refine r_if_eq (tgt := 28) dX9_drum_5 (by decide) (by split <;> omega) (fun c5 => ?_) (fun c5 => ?_)
  · have h5 := ite00 c5
    refine mRun.go (q_iconst dX9_drum_28) ?_
    refine r_iret dX9_drum_29 rfl ?_
    have e : a_drum S d x v = (-1) := by
      simp only [a_drum, isP, isD, isT, tlS]
      first | (rw [if_pos (by omega)]; done) | (rw [if_neg (by omega)]; done) | (rw [if_pos (by omega), if_pos (by omega)]; done) | (rw [if_pos (by omega), if_neg (by omega)]; done) | (rw [if_neg (by omega), if_pos (by omega)]; done) | (rw [if_neg (by omega), if_neg (by omega)]; done) | (rw [if_pos (by omega), if_pos (by omega), if_pos (by omega)]; done) | (rw [if_pos (by omega), if_pos (by omega), if_neg (by omega)]; done) | (rw [if_pos (by omega), if_neg (by omega), if_pos (by omega)]; done) | (rw [if_pos (by omega), if_neg (by omega), if_neg (by omega)]; done) | (rw [if_neg (by omega), if_pos (by omega), if_pos (by omega)]; done) | (rw [if_neg (by omega), if_pos (by omega), if_neg (by omega)]; done) | (rw [if_neg (by omega), if_neg (by omega), if_pos (by omega)]; done) | (rw [if_neg (by omega), if_neg (by omega), if_neg (by omega)]; done) | (rw [if_pos (by omega), if_pos (by omega), if_pos (by omega), if_pos (by omega)]; done) | (rw [if_pos (by omega), if_pos (by omega), if_pos (by omega), if_neg (by omega)]; done) | (rw [if_pos (by omega), if_pos (by omega), if_neg (by omega), if_pos (by omega)]; done) | (rw [if_pos (by omega), if_pos (by omega), if_neg (by omega), if_neg (by omega)]; done) | (rw [if_pos (by omega), if_neg (by omega), if_pos (by omega), if_pos (by omega)]; done) | (rw [if_pos (by omega), if_neg (by omega), if_pos (by omega), if_neg (by omega)]; done) | (rw [if_pos (by omega), if_neg (by omega), if_neg (by omega), if_pos (by omega)]; done) | (rw [if_pos (by omega), if_neg (by omega), if_neg (by omega), if_neg (by omega)]; done) | (rw [if_neg (by omega), if_pos (by omega), if_pos (by omega), if_pos (by omega)]; done) | (rw [if_neg (by omega), if_pos (by omega), if_pos (by omega), if_neg (by omega)]; done) | (rw [if_neg (by omega), if_pos (by omega), if_neg (by omega), if_pos (by omega)]; done) | (rw [if_neg (by omega), if_pos (by omega), if_neg (by omega), if_neg (by omega)]; done) | (rw [if_neg (by omega), if_neg (by omega), if_pos (by omega), if_pos (by omega)]; done) | (rw [if_neg (by omega), if_neg (by omega), if_pos (by omega), if_neg (by omega)]; done) | (rw [if_neg (by omega), if_neg (by omega), if_neg (by omega), if_pos (by omega)]; done) | (rw [if_neg (by omega), if_neg (by omega), if_neg (by omega), if_neg (by omega)]; done)
    rw [e]
    exact outm_q hM hS hI frm_rf
  · have h5 := ite01 c5
    refine mRun.go (q_aload_n dX9_drum_8 rfl rfl) ?_
    refine mRun.go (q_iload_n dX9_drum_9 rfl rfl) ?_
    refine mRun.go (q_callVi (r := 144) [mi x] [] dX9_drum_10 co_X9_195 ⟨Nat.le_of_ble_eq_true rfl, Nat.le_of_ble_eq_true rfl⟩ gw_922 gs_38 rfl hD.1 rfl rfl rfl (Nat.le_of_ble_eq_true rfl) (m_isPlace hI hD hL hLR hx)) ?_
    refine r_if_eq (tgt := 28) dX9_drum_13 (by decide) (by split <;> omega) (fun c13 => ?_) (fun c13 => ?_)
    · have h13 := ite00 c13
      refine mRun.go (q_iconst dX9_drum_28) ?_
      refine r_iret dX9_drum_29 rfl ?_
      have e : a_drum S d x v = (-1) := by
        simp only [a_drum, isP, isD, isT, tlS]
        first | (rw [if_pos (by omega)]; done) | (rw [if_neg (by omega)]; done) | (rw [if_pos (by omega), if_pos (by omega)]; done) | (rw [if_pos (by omega), if_neg (by omega)]; done) | (rw [if_neg (by omega), if_pos (by omega)]; done) | (rw [if_neg (by omega), if_neg (by omega)]; done) | (rw [if_pos (by omega), if_pos (by omega), if_pos (by omega)]; done) | (rw [if_pos (by omega), if_pos (by omega), if_neg (by omega)]; done) | (rw [if_pos (by omega), if_neg (by omega), if_pos (by omega)]; done) | (rw [if_pos (by omega), if_neg (by omega), if_neg (by omega)]; done) | (rw [if_neg (by omega), if_pos (by omega), if_pos (by omega)]; done) | (rw [if_neg (by omega), if_pos (by omega), if_neg (by omega)]; done) | (rw [if_neg (by omega), if_neg (by omega), if_pos (by omega)]; done) | (rw [if_neg (by omega), if_neg (by omega), if_neg (by omega)]; done) | (rw [if_pos (by omega), if_pos (by omega), if_pos (by omega), if_pos (by omega)]; done) | (rw [if_pos (by omega), if_pos (by omega), if_pos (by omega), if_neg (by omega)]; done) | (rw [if_pos (by omega), if_pos (by omega), if_neg (by omega), if_pos (by omega)]; done) | (rw [if_pos (by omega), if_pos (by omega), if_neg (by omega), if_neg (by omega)]; done) | (rw [if_pos (by omega), if_neg (by omega), if_pos (by omega), if_pos (by omega)]; done) | (rw [if_pos (by omega), if_neg (by omega), if_pos (by omega), if_neg (by omega)]; done) | (rw [if_pos (by omega), if_neg (by omega), if_neg (by omega), if_pos (by omega)]; done) | (rw [if_pos (by omega), if_neg (by omega), if_neg (by omega), if_neg (by omega)]; done) | (rw [if_neg (by omega), if_pos (by omega), if_pos (by omega), if_pos (by omega)]; done) | (rw [if_neg (by omega), if_pos (by omega), if_pos (by omega), if_neg (by omega)]; done) | (rw [if_neg (by omega), if_pos (by omega), if_neg (by omega), if_pos (by omega)]; done) | (rw [if_neg (by omega), if_pos (by omega), if_neg (by omega), if_neg (by omega)]; done) | (rw [if_neg (by omega), if_neg (by omega), if_pos (by omega), if_pos (by omega)]; done) | (rw [if_neg (by omega), if_neg (by omega), if_pos (by omega), if_neg (by omega)]; done) | (rw [if_neg (by omega), if_neg (by omega), if_neg (by omega), if_pos (by omega)]; done) | (rw [if_neg (by omega), if_neg (by omega), if_neg (by omega), if_neg (by omega)]; done)
      rw [e]
      exact outm_q hM hS hI frm_rf
    · have h13 := ite01 c13
      refine mRun.go (q_iload_n dX9_drum_16 rfl rfl) ?_
      refine mRun.go (q_i2l dX9_drum_17 hv) ?_
      refine mRun.go (q_lconst (a := 0) dX9_drum_18 (by decide)) ?_
      refine mRun.go (q_ldc2 (a := 2) dX9_drum_19 gw_932) ?_
      refine mRun.go (q_callSi [ml v, ml 0, ml 2] [] dX9_drum_22 co_X9_114 ⟨Nat.le_of_ble_eq_true rfl, Nat.le_of_ble_eq_true rfl⟩ gw_855 rfl rfl (Nat.le_of_ble_eq_true rfl) (k_in (by omega) (by omega) (by omega))) ?_
      refine r_if_ne (tgt := 30) dX9_drum_25 (by decide) (by split <;> omega) (fun c25 => ?_) (fun c25 => ?_)
      · have h25 := ite01 c25
        refine mRun.go (q_aload_n dX9_drum_30 rfl rfl) ?_
        refine mRun.go (q_getR dX9_drum_31 fo_X9_16 hD.1 rfl) ?_
        refine mRun.go (q_iload_n dX9_drum_34 rfl rfl) ?_
        refine mRun.go (q_iload_n dX9_drum_35 rfl rfl) ?_
        refine mRun.go (q_callSi [mr 147, mi d, mi x] [] dX9_drum_36 co_X9_172 ⟨Nat.le_of_ble_eq_true rfl, Nat.le_of_ble_eq_true rfl⟩ gw_934 rfl rfl (Nat.le_of_ble_eq_true rfl) (m_tells hI hD hL hLR hD.2.2.2.1 hF (by omega) (by omega))) ?_
        refine mRun.go (q_istore (ls' := [some (mr 144), some (mi d), some (mi x), some (mi v), some (mi (fT (sF S) (36 * d + x)))]) dX9_drum_39 (Nat.le_of_ble_eq_true rfl) rfl) ?_
        refine mRun.go (q_iload_n dX9_drum_41 rfl rfl) ?_
        refine mRun.go (q_iconst dX9_drum_42) ?_
        refine r_icmp_ge (tgt := 66) dX9_drum_43 (by decide) hv (by omega) (fun c43 => ?_) (fun c43 => ?_)
        · refine mRun.go (q_iload dX9_drum_66 rfl) ?_
          refine mRun.go (q_iconst dX9_drum_68) ?_
          refine r_icmp_ne (tgt := 76) dX9_drum_69 (by decide) (tellsM_rng hI hF (by omega) (by omega)) (by omega) (fun c69 => ?_) (fun c69 => ?_)
          · refine mRun.go (q_iload dX9_drum_76 rfl) ?_
            refine r_if_ne (tgt := 86) dX9_drum_78 (by decide) (tellsM_rng hI hF (by omega) (by omega)) (fun c78 => ?_) (fun c78 => ?_)
            · refine mRun.go (q_iload dX9_drum_86 rfl) ?_
              refine mRun.go (q_iconst dX9_drum_88) ?_
              refine r_icmp_ne (tgt := 97) dX9_drum_89 (by decide) (tellsM_rng hI hF (by omega) (by omega)) (by omega) (fun c89 => ?_) (fun c89 => ?_)
              · refine mRun.go (q_iconst dX9_drum_97) ?_
                refine mRun.go (q_aload_n dX9_drum_98 rfl rfl) ?_
                refine mRun.go (q_getR dX9_drum_99 fo_X9_16 hD.1 rfl) ?_
                refine mRun.go (q_iconst dX9_drum_102) ?_
                refine mRun.go (q_ialdE (x := fW (sF S)) dX9_drum_103 hD.2.2.2.1 (by omega) (by omega) hF.1) ?_
                refine mRun.go (q_isub dX9_drum_104) ?_
                refine r_iret dX9_drum_105 rfl ?_
                have htr := hS.2.1.2.2.1 d x (by omega) (by omega) (by omega) (by omega)
                have e : a_drum S d x v = 4 - (fW (sF S)) := by
                  simp only [a_drum, isP, isD, tlS]
                  rw [if_pos (by omega)]
                  rw [if_neg (by omega), if_neg (by omega), if_pos (by omega)]
                  unfold loud
                  first | (rw [if_pos (by omega)]; done) | (rw [if_neg (by omega)]; done) | (rw [if_pos (by omega), if_pos (by omega)]; done) | (rw [if_pos (by omega), if_neg (by omega)]; done) | (rw [if_neg (by omega), if_pos (by omega)]; done) | (rw [if_neg (by omega), if_neg (by omega)]; done) | (rw [if_pos (by omega), if_pos (by omega), if_pos (by omega)]; done) | (rw [if_pos (by omega), if_pos (by omega), if_neg (by omega)]; done) | (rw [if_pos (by omega), if_neg (by omega), if_pos (by omega)]; done) | (rw [if_pos (by omega), if_neg (by omega), if_neg (by omega)]; done) | (rw [if_neg (by omega), if_pos (by omega), if_pos (by omega)]; done) | (rw [if_neg (by omega), if_pos (by omega), if_neg (by omega)]; done) | (rw [if_neg (by omega), if_neg (by omega), if_pos (by omega)]; done) | (rw [if_neg (by omega), if_neg (by omega), if_neg (by omega)]; done)
                rw [e]
                exact outm_q hM hS hI frm_rf
              · refine mRun.go (q_bipush dX9_drum_92 (by decide)) ?_
                refine mRun.go (q_goto (tgt := 98) dX9_drum_94 (by decide)) ?_
                refine mRun.go (q_aload_n dX9_drum_98 rfl rfl) ?_
                refine mRun.go (q_getR dX9_drum_99 fo_X9_16 hD.1 rfl) ?_
                refine mRun.go (q_iconst dX9_drum_102) ?_
                refine mRun.go (q_ialdE (x := fW (sF S)) dX9_drum_103 hD.2.2.2.1 (by omega) (by omega) hF.1) ?_
                refine mRun.go (q_isub dX9_drum_104) ?_
                refine r_iret dX9_drum_105 rfl ?_
                have htr := hS.2.1.2.2.1 d x (by omega) (by omega) (by omega) (by omega)
                have e : a_drum S d x v = 6 - (fW (sF S)) := by
                  simp only [a_drum, isP, isD, tlS]
                  rw [if_pos (by omega)]
                  rw [if_neg (by omega), if_neg (by omega), if_pos (by omega)]
                  unfold loud
                  first | (rw [if_pos (by omega)]; done) | (rw [if_neg (by omega)]; done) | (rw [if_pos (by omega), if_pos (by omega)]; done) | (rw [if_pos (by omega), if_neg (by omega)]; done) | (rw [if_neg (by omega), if_pos (by omega)]; done) | (rw [if_neg (by omega), if_neg (by omega)]; done) | (rw [if_pos (by omega), if_pos (by omega), if_pos (by omega)]; done) | (rw [if_pos (by omega), if_pos (by omega), if_neg (by omega)]; done) | (rw [if_pos (by omega), if_neg (by omega), if_pos (by omega)]; done) | (rw [if_pos (by omega), if_neg (by omega), if_neg (by omega)]; done) | (rw [if_neg (by omega), if_pos (by omega), if_pos (by omega)]; done) | (rw [if_neg (by omega), if_pos (by omega), if_neg (by omega)]; done) | (rw [if_neg (by omega), if_neg (by omega), if_pos (by omega)]; done) | (rw [if_neg (by omega), if_neg (by omega), if_neg (by omega)]; done)
                rw [e]
                exact outm_q hM hS hI frm_rf
            · refine mRun.go (q_bipush dX9_drum_81 (by decide)) ?_
              refine mRun.go (q_goto (tgt := 98) dX9_drum_83 (by decide)) ?_
              refine mRun.go (q_aload_n dX9_drum_98 rfl rfl) ?_
              refine mRun.go (q_getR dX9_drum_99 fo_X9_16 hD.1 rfl) ?_
              refine mRun.go (q_iconst dX9_drum_102) ?_
              refine mRun.go (q_ialdE (x := fW (sF S)) dX9_drum_103 hD.2.2.2.1 (by omega) (by omega) hF.1) ?_
              refine mRun.go (q_isub dX9_drum_104) ?_
              refine r_iret dX9_drum_105 rfl ?_
              have htr := hS.2.1.2.2.1 d x (by omega) (by omega) (by omega) (by omega)
              have e : a_drum S d x v = 9 - (fW (sF S)) := by
                simp only [a_drum, isP, isD, tlS]
                rw [if_pos (by omega)]
                rw [if_neg (by omega), if_neg (by omega), if_pos (by omega)]
                unfold loud
                first | (rw [if_pos (by omega)]; done) | (rw [if_neg (by omega)]; done) | (rw [if_pos (by omega), if_pos (by omega)]; done) | (rw [if_pos (by omega), if_neg (by omega)]; done) | (rw [if_neg (by omega), if_pos (by omega)]; done) | (rw [if_neg (by omega), if_neg (by omega)]; done) | (rw [if_pos (by omega), if_pos (by omega), if_pos (by omega)]; done) | (rw [if_pos (by omega), if_pos (by omega), if_neg (by omega)]; done) | (rw [if_pos (by omega), if_neg (by omega), if_pos (by omega)]; done) | (rw [if_pos (by omega), if_neg (by omega), if_neg (by omega)]; done) | (rw [if_neg (by omega), if_pos (by omega), if_pos (by omega)]; done) | (rw [if_neg (by omega), if_pos (by omega), if_neg (by omega)]; done) | (rw [if_neg (by omega), if_neg (by omega), if_pos (by omega)]; done) | (rw [if_neg (by omega), if_neg (by omega), if_neg (by omega)]; done)
              rw [e]
              exact outm_q hM hS hI frm_rf
          · refine mRun.go (q_iconst dX9_drum_72) ?_
            refine mRun.go (q_goto (tgt := 105) dX9_drum_73 (by decide)) ?_
            refine r_iret dX9_drum_105 rfl ?_
            have htr := hS.2.1.2.2.1 d x (by omega) (by omega) (by omega) (by omega)
            have e : a_drum S d x v = 0 := by
              simp only [a_drum, isP, isD, tlS]
              rw [if_pos (by omega)]
              rw [if_neg (by omega), if_neg (by omega), if_pos (by omega)]
              unfold loud
              first | (rw [if_pos (by omega)]; done) | (rw [if_neg (by omega)]; done) | (rw [if_pos (by omega), if_pos (by omega)]; done) | (rw [if_pos (by omega), if_neg (by omega)]; done) | (rw [if_neg (by omega), if_pos (by omega)]; done) | (rw [if_neg (by omega), if_neg (by omega)]; done) | (rw [if_pos (by omega), if_pos (by omega), if_pos (by omega)]; done) | (rw [if_pos (by omega), if_pos (by omega), if_neg (by omega)]; done) | (rw [if_pos (by omega), if_neg (by omega), if_pos (by omega)]; done) | (rw [if_pos (by omega), if_neg (by omega), if_neg (by omega)]; done) | (rw [if_neg (by omega), if_pos (by omega), if_pos (by omega)]; done) | (rw [if_neg (by omega), if_pos (by omega), if_neg (by omega)]; done) | (rw [if_neg (by omega), if_neg (by omega), if_pos (by omega)]; done) | (rw [if_neg (by omega), if_neg (by omega), if_neg (by omega)]; done)
            rw [e]
            exact outm_q hM hS hI frm_rf
        · refine mRun.go (q_iload_n dX9_drum_46 rfl rfl) ?_
          refine r_if_ne (tgt := 55) dX9_drum_47 (by decide) hv (fun c47 => ?_) (fun c47 => ?_)
          · refine mRun.go (q_aload_n dX9_drum_55 rfl rfl) ?_
            refine mRun.go (q_aload_n dX9_drum_56 rfl rfl) ?_
            refine mRun.go (q_getR dX9_drum_57 fo_X9_16 hD.1 rfl) ?_
            refine mRun.go (q_iload_n dX9_drum_60 rfl rfl) ?_
            refine mRun.go (q_iload_n dX9_drum_61 rfl rfl) ?_
            refine mRun.go (q_callVi (r := 144) [mr 147, mi d, mi x] [] dX9_drum_62 co_X9_181 ⟨Nat.le_of_ble_eq_true rfl, Nat.le_of_ble_eq_true rfl⟩ gw_938 gs_40 rfl hD.1 rfl rfl rfl (Nat.le_of_ble_eq_true rfl) (m_taken hI hD hL hLR hD.2.2.2.1 hF (by omega) (by omega))) ?_
            refine r_iret dX9_drum_65 rfl ?_
            have htr := hS.2.1.2.2.1 d x (by omega) (by omega) (by omega) (by omega)
            have e : a_drum S d x v = tkM (sL S) (sF S) d x := by
              simp only [a_drum, isP, isD, tlS]
              rw [if_pos (by omega)]
              rw [if_neg (by omega), if_pos (by omega)]
              unfold tkM
              rw [if_neg (by omega)]
            rw [e]
            exact outm_q hM hS hI frm_rf
          · refine mRun.go (q_iload dX9_drum_50 rfl) ?_
            refine mRun.go (q_goto (tgt := 65) dX9_drum_52 (by decide)) ?_
            refine r_iret dX9_drum_65 rfl ?_
            have htr := hS.2.1.2.2.1 d x (by omega) (by omega) (by omega) (by omega)
            have e : a_drum S d x v = fT (sF S) (36 * d + x) := by
              simp only [a_drum, isP, isD, tlS]
              rw [if_pos (by omega)]
              rw [if_pos (by omega)]
            rw [e]
            exact outm_q hM hS hI frm_rf
      · have h25 := ite00 (Classical.not_not.mp c25)
        refine mRun.go (q_iconst dX9_drum_28) ?_
        refine r_iret dX9_drum_29 rfl ?_
        have e : a_drum S d x v = (-1) := by
          simp only [a_drum, isP, isD, isT, tlS]
          first | (rw [if_pos (by omega)]; done) | (rw [if_neg (by omega)]; done) | (rw [if_pos (by omega), if_pos (by omega)]; done) | (rw [if_pos (by omega), if_neg (by omega)]; done) | (rw [if_neg (by omega), if_pos (by omega)]; done) | (rw [if_neg (by omega), if_neg (by omega)]; done) | (rw [if_pos (by omega), if_pos (by omega), if_pos (by omega)]; done) | (rw [if_pos (by omega), if_pos (by omega), if_neg (by omega)]; done) | (rw [if_pos (by omega), if_neg (by omega), if_pos (by omega)]; done) | (rw [if_pos (by omega), if_neg (by omega), if_neg (by omega)]; done) | (rw [if_neg (by omega), if_pos (by omega), if_pos (by omega)]; done) | (rw [if_neg (by omega), if_pos (by omega), if_neg (by omega)]; done) | (rw [if_neg (by omega), if_neg (by omega), if_pos (by omega)]; done) | (rw [if_neg (by omega), if_neg (by omega), if_neg (by omega)]; done) | (rw [if_pos (by omega), if_pos (by omega), if_pos (by omega), if_pos (by omega)]; done) | (rw [if_pos (by omega), if_pos (by omega), if_pos (by omega), if_neg (by omega)]; done) | (rw [if_pos (by omega), if_pos (by omega), if_neg (by omega), if_pos (by omega)]; done) | (rw [if_pos (by omega), if_pos (by omega), if_neg (by omega), if_neg (by omega)]; done) | (rw [if_pos (by omega), if_neg (by omega), if_pos (by omega), if_pos (by omega)]; done) | (rw [if_pos (by omega), if_neg (by omega), if_pos (by omega), if_neg (by omega)]; done) | (rw [if_pos (by omega), if_neg (by omega), if_neg (by omega), if_pos (by omega)]; done) | (rw [if_pos (by omega), if_neg (by omega), if_neg (by omega), if_neg (by omega)]; done) | (rw [if_neg (by omega), if_pos (by omega), if_pos (by omega), if_pos (by omega)]; done) | (rw [if_neg (by omega), if_pos (by omega), if_pos (by omega), if_neg (by omega)]; done) | (rw [if_neg (by omega), if_pos (by omega), if_neg (by omega), if_pos (by omega)]; done) | (rw [if_neg (by omega), if_pos (by omega), if_neg (by omega), if_neg (by omega)]; done) | (rw [if_neg (by omega), if_neg (by omega), if_pos (by omega), if_pos (by omega)]; done) | (rw [if_neg (by omega), if_neg (by omega), if_pos (by omega), if_neg (by omega)]; done) | (rw [if_neg (by omega), if_neg (by omega), if_neg (by omega), if_pos (by omega)]; done) | (rw [if_neg (by omega), if_neg (by omega), if_neg (by omega), if_neg (by omega)]; done)
        rw [e]
        exact outm_q hM hS hI frm_rf

set_option maxRecDepth 100000 in
theorem g_route {σ : List mC} {I : mI} {S : Sx} {B : Int} {d x y v : Int} (hM : MS σ I S) (hS : SxOk B S) (hd : -2147483648 ≤ d ∧ d < 2147483648) (hx : -2147483648 ≤ x ∧ x < 2147483648) (hy : -2147483648 ≤ y ∧ y < 2147483648) (hv : -2147483648 ≤ v ∧ v < 2147483648) : mMt mX9_route [mr 144, mi d, mi x, mi y, mi v] (σ, I) (OutM σ I S (a_route S d x y v)) := by
  refine mMt.of pl_9 (Nat.le_of_ble_eq_true rfl) ?_
  show mRun mZt mX9_route 0 [some (mr 144), some (mi d), some (mi x), some (mi y), some (mi v)] [] (σ, I) _
  have hI := hM.1
  have hD := hM.2.1
  have hL := hS.1
  have hsz := hM.2.2.1
  have hLR := hM.2.2.2.2.2.2.1
  have hF := hM.2.2.2.2.2.2.2.1
  have hun := hM.2.2.2.2.2.2.2.2.1
  have hpa := hM.2.2.2.2.2.2.2.2.2.1
  have hkm := hM.2.2.2.2.2.2.2.2.2.2.1
  have hke := hM.2.2.2.2.2.2.2.2.2.2.2.1
  have hhm := hM.2.2.2.2.2.2.2.2.2.2.2.2.1
  have hhe := hM.2.2.2.2.2.2.2.2.2.2.2.2.2.1
  have hN := hM.2.2.2.2.2.2.2.2.2.2.2.2.2.2
  have hpr := lp_rng hL
  have hqe := lq_eq hL
  have hwr := hL.2.1
  have hrr := hL.1
  have hdr := hL.2.2.1
  have hnt := hL.2.2.2.1
  have hwF := hS.2.1.1
  have hhF := hS.2.1.2.1
  have hvF := hS.2.1.2.2.2
  have hH8 := hS.2.2.2.2.2.2.1
  have hU8 := hS.2.2.1
  have hK2 := hS.2.2.2.2.1
  have hLn := hS.2.2.2.2.2.2.2.2
  refine mRun.go (q_aload_n dX9_route_0 rfl rfl) ?_
  refine mRun.go (q_iload_n dX9_route_1 rfl rfl) ?_
  refine mRun.go (q_callVi (r := 144) [mi d] [] dX9_route_2 co_X9_198 ⟨Nat.le_of_ble_eq_true rfl, Nat.le_of_ble_eq_true rfl⟩ gw_930 gs_39 rfl hD.1 rfl rfl rfl (Nat.le_of_ble_eq_true rfl) (m_isDrum hI hD hL hLR hd)) ?_
  refine r_if_eq (tgt := 35) dX9_route_5 (by decide) (by split <;> omega) (fun c5 => ?_) (fun c5 => ?_)
  · have h5 := ite00 c5
    refine mRun.go (q_iconst dX9_route_35) ?_
    refine r_iret dX9_route_36 rfl ?_
    have e : a_route S d x y v = (-1) := by
      simp only [a_route, isP, isD, isT]
      first | (rw [if_pos (by omega)]; done) | (rw [if_neg (by omega)]; done) | (rw [if_pos (by omega), if_pos (by omega)]; done) | (rw [if_pos (by omega), if_neg (by omega)]; done) | (rw [if_neg (by omega), if_pos (by omega)]; done) | (rw [if_neg (by omega), if_neg (by omega)]; done)
    rw [e]
    exact outm_q hM hS hI frm_rf
  · have h5 := ite01 c5
    refine mRun.go (q_aload_n dX9_route_8 rfl rfl) ?_
    refine mRun.go (q_iload_n dX9_route_9 rfl rfl) ?_
    refine mRun.go (q_callVi (r := 144) [mi x] [] dX9_route_10 co_X9_195 ⟨Nat.le_of_ble_eq_true rfl, Nat.le_of_ble_eq_true rfl⟩ gw_922 gs_38 rfl hD.1 rfl rfl rfl (Nat.le_of_ble_eq_true rfl) (m_isPlace hI hD hL hLR hx)) ?_
    refine r_if_eq (tgt := 35) dX9_route_13 (by decide) (by split <;> omega) (fun c13 => ?_) (fun c13 => ?_)
    · have h13 := ite00 c13
      refine mRun.go (q_iconst dX9_route_35) ?_
      refine r_iret dX9_route_36 rfl ?_
      have e : a_route S d x y v = (-1) := by
        simp only [a_route, isP, isD, isT]
        first | (rw [if_pos (by omega)]; done) | (rw [if_neg (by omega)]; done) | (rw [if_pos (by omega), if_pos (by omega)]; done) | (rw [if_pos (by omega), if_neg (by omega)]; done) | (rw [if_neg (by omega), if_pos (by omega)]; done) | (rw [if_neg (by omega), if_neg (by omega)]; done)
      rw [e]
      exact outm_q hM hS hI frm_rf
    · have h13 := ite01 c13
      refine mRun.go (q_aload_n dX9_route_16 rfl rfl) ?_
      refine mRun.go (q_iload_n dX9_route_17 rfl rfl) ?_
      refine mRun.go (q_callVi (r := 144) [mi y] [] dX9_route_18 co_X9_195 ⟨Nat.le_of_ble_eq_true rfl, Nat.le_of_ble_eq_true rfl⟩ gw_922 gs_38 rfl hD.1 rfl rfl rfl (Nat.le_of_ble_eq_true rfl) (m_isPlace hI hD hL hLR hy)) ?_
      refine r_if_eq (tgt := 35) dX9_route_21 (by decide) (by split <;> omega) (fun c21 => ?_) (fun c21 => ?_)
      · have h21 := ite00 c21
        refine mRun.go (q_iconst dX9_route_35) ?_
        refine r_iret dX9_route_36 rfl ?_
        have e : a_route S d x y v = (-1) := by
          simp only [a_route, isP, isD, isT]
          first | (rw [if_pos (by omega)]; done) | (rw [if_neg (by omega)]; done) | (rw [if_pos (by omega), if_pos (by omega)]; done) | (rw [if_pos (by omega), if_neg (by omega)]; done) | (rw [if_neg (by omega), if_pos (by omega)]; done) | (rw [if_neg (by omega), if_neg (by omega)]; done)
        rw [e]
        exact outm_q hM hS hI frm_rf
      · have h21 := ite01 c21
        refine mRun.go (q_iload dX9_route_24 rfl) ?_
        refine mRun.go (q_i2l dX9_route_26 hv) ?_
        refine mRun.go (q_lconst (a := 0) dX9_route_27 (by decide)) ?_
        refine mRun.go (q_lconst (a := 1) dX9_route_28 (by decide)) ?_
        refine mRun.go (q_callSi [ml v, ml 0, ml 1] [] dX9_route_29 co_X9_114 ⟨Nat.le_of_ble_eq_true rfl, Nat.le_of_ble_eq_true rfl⟩ gw_855 rfl rfl (Nat.le_of_ble_eq_true rfl) (k_in (by omega) (by omega) (by omega))) ?_
        refine r_if_ne (tgt := 37) dX9_route_32 (by decide) (by split <;> omega) (fun c32 => ?_) (fun c32 => ?_)
        · have h32 := ite01 c32
          refine mRun.go (q_iload dX9_route_37 rfl) ?_
          refine r_if_ne (tgt := 56) dX9_route_39 (by decide) hv (fun c39 => ?_) (fun c39 => ?_)
          · refine mRun.go (q_aload_n dX9_route_56 rfl rfl) ?_
            refine mRun.go (q_aload_n dX9_route_57 rfl rfl) ?_
            refine mRun.go (q_getR dX9_route_58 fo_X9_16 hD.1 rfl) ?_
            refine mRun.go (q_iload_n dX9_route_61 rfl rfl) ?_
            refine mRun.go (q_iload_n dX9_route_62 rfl rfl) ?_
            refine mRun.go (q_iload_n dX9_route_63 rfl rfl) ?_
            obtain ⟨v0, h0, hc0, rfl, K, rfl, hK, hfK⟩ := m_firstOf (d := d) (x := x.toNat) (y := y.toNat) hI hD hL hLR hD.2.2.2.1 hF (Or.inl rfl) (by omega) (by omega) (by omega)
            rw [show ((x.toNat : Nat) : Int) = x by omega, show ((y.toNat : Nat) : Int) = y by omega, eM_d (by omega)] at hc0
            refine mRun.go (q_callVi (r := 144) [mr 147, mi d, mi x, mi y] [] dX9_route_64 co_X9_211 ⟨Nat.le_of_ble_eq_true rfl, Nat.le_of_ble_eq_true rfl⟩ gw_979 gs_46 rfl hD.1 rfl rfl rfl (Nat.le_of_ble_eq_true rfl) hc0) ?_
            refine r_iret dX9_route_67 rfl ?_
            have e : a_route S d x y v = hpS (sL S) (fT (sF S)) (fW (sF S)) d y x := by
              simp only [a_route, isP, isD, isT]
              first | (rw [if_pos (by omega)]; done) | (rw [if_neg (by omega)]; done) | (rw [if_pos (by omega), if_pos (by omega)]; done) | (rw [if_pos (by omega), if_neg (by omega)]; done) | (rw [if_neg (by omega), if_pos (by omega)]; done) | (rw [if_neg (by omega), if_neg (by omega)]; done)
            rw [e]
            exact outm_q hM hS hK ⟨fun r p q s => hfK r (by omega), fun k hk => by rw [hfK 144 (by decide)]⟩
          · refine mRun.go (q_aload_n dX9_route_42 rfl rfl) ?_
            refine mRun.go (q_aload_n dX9_route_43 rfl rfl) ?_
            refine mRun.go (q_getR dX9_route_44 fo_X9_16 hD.1 rfl) ?_
            refine mRun.go (q_iload_n dX9_route_47 rfl rfl) ?_
            refine mRun.go (q_iload_n dX9_route_48 rfl rfl) ?_
            refine mRun.go (q_iload_n dX9_route_49 rfl rfl) ?_
            obtain ⟨v0, h0, hc0, rfl, K, rfl, hK, hfK⟩ := m_lengthOf (d := d) (x := x.toNat) (y := y.toNat) hI hD hL hLR hD.2.2.2.1 hF (Or.inl rfl) (by omega) (by omega) (by omega)
            rw [show ((x.toNat : Nat) : Int) = x by omega, show ((y.toNat : Nat) : Int) = y by omega, eM_d (by omega)] at hc0
            refine mRun.go (q_callVi (r := 144) [mr 147, mi d, mi x, mi y] [] dX9_route_50 co_X9_208 ⟨Nat.le_of_ble_eq_true rfl, Nat.le_of_ble_eq_true rfl⟩ gw_959 gs_42 rfl hD.1 rfl rfl rfl (Nat.le_of_ble_eq_true rfl) hc0) ?_
            refine mRun.go (q_goto (tgt := 67) dX9_route_53 (by decide)) ?_
            refine r_iret dX9_route_67 rfl ?_
            have e : a_route S d x y v = fin (awD (sL S) (fT (sF S)) (fW (sF S)) d y x.toNat) := by
              simp only [a_route, isP, isD, isT]
              first | (rw [if_pos (by omega)]; done) | (rw [if_neg (by omega)]; done) | (rw [if_pos (by omega), if_pos (by omega)]; done) | (rw [if_pos (by omega), if_neg (by omega)]; done) | (rw [if_neg (by omega), if_pos (by omega)]; done) | (rw [if_neg (by omega), if_neg (by omega)]; done)
            rw [e]
            exact outm_q hM hS hK ⟨fun r p q s => hfK r (by omega), fun k hk => by rw [hfK 144 (by decide)]⟩
        · have h32 := ite00 (Classical.not_not.mp c32)
          refine mRun.go (q_iconst dX9_route_35) ?_
          refine r_iret dX9_route_36 rfl ?_
          have e : a_route S d x y v = (-1) := by
            simp only [a_route, isP, isD, isT]
            first | (rw [if_pos (by omega)]; done) | (rw [if_neg (by omega)]; done) | (rw [if_pos (by omega), if_pos (by omega)]; done) | (rw [if_pos (by omega), if_neg (by omega)]; done) | (rw [if_neg (by omega), if_pos (by omega)]; done) | (rw [if_neg (by omega), if_neg (by omega)]; done)
          rw [e]
          exact outm_q hM hS hI frm_rf

set_option maxRecDepth 100000 in
theorem g_truth {σ : List mC} {I : mI} {S : Sx} {B : Int} {x y : Int} (hM : MS σ I S) (hS : SxOk B S) (hx : -2147483648 ≤ x ∧ x < 2147483648) (hy : -2147483648 ≤ y ∧ y < 2147483648) : mMt mX9_truth [mr 144, mi x, mi y] (σ, I) (OutM σ I S (a_truth S x y)) := by
  refine mMt.of pl_9 (Nat.le_of_ble_eq_true rfl) ?_
  show mRun mZt mX9_truth 0 [some (mr 144), some (mi x), some (mi y)] [] (σ, I) _
  have hI := hM.1
  have hD := hM.2.1
  have hL := hS.1
  have hsz := hM.2.2.1
  have hLR := hM.2.2.2.2.2.2.1
  have hF := hM.2.2.2.2.2.2.2.1
  have hun := hM.2.2.2.2.2.2.2.2.1
  have hpa := hM.2.2.2.2.2.2.2.2.2.1
  have hkm := hM.2.2.2.2.2.2.2.2.2.2.1
  have hke := hM.2.2.2.2.2.2.2.2.2.2.2.1
  have hhm := hM.2.2.2.2.2.2.2.2.2.2.2.2.1
  have hhe := hM.2.2.2.2.2.2.2.2.2.2.2.2.2.1
  have hN := hM.2.2.2.2.2.2.2.2.2.2.2.2.2.2
  have hpr := lp_rng hL
  have hqe := lq_eq hL
  have hwr := hL.2.1
  have hrr := hL.1
  have hdr := hL.2.2.1
  have hnt := hL.2.2.2.1
  have hwF := hS.2.1.1
  have hhF := hS.2.1.2.1
  have hvF := hS.2.1.2.2.2
  have hH8 := hS.2.2.2.2.2.2.1
  have hU8 := hS.2.2.1
  have hK2 := hS.2.2.2.2.1
  have hLn := hS.2.2.2.2.2.2.2.2
  refine mRun.go (q_aload_n dX9_truth_0 rfl rfl) ?_
  refine mRun.go (q_iload_n dX9_truth_1 rfl rfl) ?_
  refine mRun.go (q_callVi (r := 144) [mi x] [] dX9_truth_2 co_X9_195 ⟨Nat.le_of_ble_eq_true rfl, Nat.le_of_ble_eq_true rfl⟩ gw_922 gs_38 rfl hD.1 rfl rfl rfl (Nat.le_of_ble_eq_true rfl) (m_isPlace hI hD hL hLR hx)) ?_
  refine r_if_eq (tgt := 30) dX9_truth_5 (by decide) (by split <;> omega) (fun c5 => ?_) (fun c5 => ?_)
  · have h5 := ite00 c5
    refine mRun.go (q_iconst dX9_truth_30) ?_
    refine r_iret dX9_truth_31 rfl ?_
    have e : a_truth S x y = (-1) := by
      simp only [a_truth, isP, isD, isT]
      first | (rw [if_pos (by omega)]; done) | (rw [if_neg (by omega)]; done)
    rw [e]
    exact outm_q hM hS hI frm_rf
  · have h5 := ite01 c5
    refine mRun.go (q_aload_n dX9_truth_8 rfl rfl) ?_
    refine mRun.go (q_iload_n dX9_truth_9 rfl rfl) ?_
    refine mRun.go (q_callVi (r := 144) [mi y] [] dX9_truth_10 co_X9_195 ⟨Nat.le_of_ble_eq_true rfl, Nat.le_of_ble_eq_true rfl⟩ gw_922 gs_38 rfl hD.1 rfl rfl rfl (Nat.le_of_ble_eq_true rfl) (m_isPlace hI hD hL hLR hy)) ?_
    refine r_if_eq (tgt := 30) dX9_truth_13 (by decide) (by split <;> omega) (fun c13 => ?_) (fun c13 => ?_)
    · have h13 := ite00 c13
      refine mRun.go (q_iconst dX9_truth_30) ?_
      refine r_iret dX9_truth_31 rfl ?_
      have e : a_truth S x y = (-1) := by
        simp only [a_truth, isP, isD, isT]
        first | (rw [if_pos (by omega)]; done) | (rw [if_neg (by omega)]; done)
      rw [e]
      exact outm_q hM hS hI frm_rf
    · have h13 := ite01 c13
      refine mRun.go (q_aload_n dX9_truth_16 rfl rfl) ?_
      refine mRun.go (q_aload_n dX9_truth_17 rfl rfl) ?_
      refine mRun.go (q_getR dX9_truth_18 fo_X9_16 hD.1 rfl) ?_
      refine mRun.go (q_iconst dX9_truth_21) ?_
      refine mRun.go (q_iload_n dX9_truth_22 rfl rfl) ?_
      refine mRun.go (q_iload_n dX9_truth_23 rfl rfl) ?_
      obtain ⟨v0, h0, hc0, rfl, K, rfl, hK, hfK⟩ := m_lengthOf (d := (-1)) (x := x.toNat) (y := y.toNat) hI hD hL hLR hD.2.2.2.1 hF (Or.inl rfl) (by omega) (by omega) (by omega)
      rw [show ((x.toNat : Nat) : Int) = x by omega, show ((y.toNat : Nat) : Int) = y by omega, eM_t (by decide)] at hc0
      refine mRun.go (q_callVi (r := 144) [mr 147, mi (-1), mi x, mi y] [] dX9_truth_24 co_X9_208 ⟨Nat.le_of_ble_eq_true rfl, Nat.le_of_ble_eq_true rfl⟩ gw_959 gs_42 rfl hD.1 rfl rfl rfl (Nat.le_of_ble_eq_true rfl) hc0) ?_
      refine mRun.go (q_goto (tgt := 31) dX9_truth_27 (by decide)) ?_
      refine r_iret dX9_truth_31 rfl ?_
      have e : a_truth S x y = fin (awT (sL S) (fW (sF S)) y x.toNat) := by
        simp only [a_truth, isP, isD, isT]
        first | (rw [if_pos (by omega)]; done) | (rw [if_neg (by omega)]; done)
      rw [e]
      exact outm_q hM hS hK ⟨fun r p q s => hfK r (by omega), fun k hk => by rw [hfK 144 (by decide)]⟩

/-- the state copied aside -/
def asd (I : mI) : mI := mcp I 148 147 0 0 170
theorem asd_f {I : mI} {L : Ld} {F : Fs} (h : FRM I 147 0 L F) (hL : LdOk L) : FRM (asd I) 148 0 L F := h.at hL (fun k hk => by
  show mcp I 148 147 0 0 170 148 (0 + k) = I 147 (0 + k)
  unfold mcp
  rw [if_pos rfl, if_pos ⟨by omega, by omega⟩]
  congr 1
  omega)
theorem asd_r {I : mI} {r : Nat} (h : r ≠ 148) : asd I r = I r := by
  funext k
  exact mcp_ne h
theorem asd_m {I : mI} : FrM I (asd I) := ⟨fun r p q s => asd_r q, fun k hk => by rw [asd_r (by decide)]⟩
theorem frm_a {I K : mI} (h : ∀ r, r ≠ 159 → r ≠ 148 → K r = I r) : FrM I K := ⟨fun r p q s => h r (by omega) q, fun k hk => by rw [h 144 (by decide) (by decide)]⟩

set_option maxRecDepth 100000 in
theorem m_untilNow {σ : List mC} {I : mI} {S : Sx} {B : Int} {t s : Int} (hM : MS σ I S) (hS : SxOk B S) (htt : isT S t) (ht : -2147483648 ≤ t ∧ t < 2147483648) (hs : -2147483648 ≤ s ∧ s < 2147483648) : mMt mX9_untilNow [mr 144, mi t, mi s] (σ, I) (fun v h => v = some (mi (anS S s (tvS S t))) ∧ ∃ K, h = (σ, K) ∧ Nrm K ∧ FrM I K) := by
  refine mMt.of pl_9 (Nat.le_of_ble_eq_true rfl) ?_
  show mRun mZt mX9_untilNow 0 [some (mr 144), some (mi t), some (mi s)] [] (σ, I) _
  have hI := hM.1
  have hD := hM.2.1
  have hL := hS.1
  have hsz := hM.2.2.1
  have hLR := hM.2.2.2.2.2.2.1
  have hF := hM.2.2.2.2.2.2.2.1
  have hun := hM.2.2.2.2.2.2.2.2.1
  have hpa := hM.2.2.2.2.2.2.2.2.2.1
  have hkm := hM.2.2.2.2.2.2.2.2.2.2.1
  have hke := hM.2.2.2.2.2.2.2.2.2.2.2.1
  have hhm := hM.2.2.2.2.2.2.2.2.2.2.2.2.1
  have hhe := hM.2.2.2.2.2.2.2.2.2.2.2.2.2.1
  have hN := hM.2.2.2.2.2.2.2.2.2.2.2.2.2.2
  have hpr := lp_rng hL
  have hqe := lq_eq hL
  have hwr := hL.2.1
  have hrr := hL.1
  have hdr := hL.2.2.1
  have hnt := hL.2.2.2.1
  have hwF := hS.2.1.1
  have hhF := hS.2.1.2.1
  have hvF := hS.2.1.2.2.2
  have hH8 := hS.2.2.2.2.2.2.1
  have hU8 := hS.2.2.1
  have hK2 := hS.2.2.2.2.1
  have hLn := hS.2.2.2.2.2.2.2.2
  have htt : 0 ≤ t ∧ t < lTv (sL S) := htt
  refine mRun.go (q_aload_n dX9_untilNow_0 rfl rfl) ?_
  refine mRun.go (q_getR dX9_untilNow_1 fo_X9_16 hD.1 rfl) ?_
  refine mRun.go (q_iconst dX9_untilNow_4) ?_
  refine mRun.go (q_aload_n dX9_untilNow_5 rfl rfl) ?_
  refine mRun.go (q_getR dX9_untilNow_6 fo_X9_19 hD.1 rfl) ?_
  refine mRun.go (q_iconst dX9_untilNow_9) ?_
  refine mRun.go (q_sipush dX9_untilNow_10 (by decide)) ?_
  refine mRun.go (q_callSv [mr 147, mi 0, mr 148, mi 0, mi 170] [] dX9_untilNow_13 co_X9_97 ⟨Nat.le_of_ble_eq_true rfl, Nat.le_of_ble_eq_true rfl⟩ gw_755 rfl rfl (Nat.le_of_ble_eq_true rfl) (m_copies (i := 0) (j := 0) (m := 170) hI hD.2.2.2.1 hD.2.2.2.2.1 (by decide) (by decide) (by decide) (by decide) (by decide))) ?_
  refine mRun.go (q_aload_n dX9_untilNow_16 rfl rfl) ?_
  refine mRun.go (q_iload_n dX9_untilNow_17 rfl rfl) ?_
  refine mRun.go (q_iload_n dX9_untilNow_18 rfl rfl) ?_
  obtain ⟨v0, h0, hc0, rfl, K, rfl, hK, hfK⟩ := m_untilSo (t := t.toNat) (s := s) (show Nrm (asd I) from nrm_mcp hI) hD hL (hLR.frm asd_m) (asd_f hF hL) (by omega) hwF (hvF _ (by omega)) hs
  rw [show ((t.toNat : Nat) : Int) = t by omega] at hc0
  refine mRun.go (q_callVi (r := 144) [mi t, mi s] [] dX9_untilNow_19 co_X9_232 ⟨Nat.le_of_ble_eq_true rfl, Nat.le_of_ble_eq_true rfl⟩ gw_1036 gs_51 rfl hD.1 rfl rfl rfl (Nat.le_of_ble_eq_true rfl) hc0) ?_
  refine r_iret dX9_untilNow_22 rfl ?_
  exact ⟨rfl, K, rfl, hK, frm_tr asd_m (frm_a hfK)⟩

set_option maxRecDepth 100000 in
theorem g_arrives {σ : List mC} {I : mI} {S : Sx} {B : Int} {t : Int} (hM : MS σ I S) (hS : SxOk B S) (ht : -2147483648 ≤ t ∧ t < 2147483648) : mMt mX9_arrives [mr 144, mi t] (σ, I) (OutM σ I S (a_when S 1 t)) := by
  refine mMt.of pl_9 (Nat.le_of_ble_eq_true rfl) ?_
  show mRun mZt mX9_arrives 0 [some (mr 144), some (mi t)] [] (σ, I) _
  have hI := hM.1
  have hD := hM.2.1
  have hL := hS.1
  have hsz := hM.2.2.1
  have hLR := hM.2.2.2.2.2.2.1
  have hF := hM.2.2.2.2.2.2.2.1
  have hun := hM.2.2.2.2.2.2.2.2.1
  have hpa := hM.2.2.2.2.2.2.2.2.2.1
  have hkm := hM.2.2.2.2.2.2.2.2.2.2.1
  have hke := hM.2.2.2.2.2.2.2.2.2.2.2.1
  have hhm := hM.2.2.2.2.2.2.2.2.2.2.2.2.1
  have hhe := hM.2.2.2.2.2.2.2.2.2.2.2.2.2.1
  have hN := hM.2.2.2.2.2.2.2.2.2.2.2.2.2.2
  have hpr := lp_rng hL
  have hqe := lq_eq hL
  have hwr := hL.2.1
  have hrr := hL.1
  have hdr := hL.2.2.1
  have hnt := hL.2.2.2.1
  have hwF := hS.2.1.1
  have hhF := hS.2.1.2.1
  have hvF := hS.2.1.2.2.2
  have hH8 := hS.2.2.2.2.2.2.1
  have hU8 := hS.2.2.1
  have hK2 := hS.2.2.2.2.1
  have hLn := hS.2.2.2.2.2.2.2.2
  refine mRun.go (q_aload_n dX9_arrives_0 rfl rfl) ?_
  refine mRun.go (q_iload_n dX9_arrives_1 rfl rfl) ?_
  refine mRun.go (q_callVi (r := 144) [mi t] [] dX9_arrives_2 co_X9_203 ⟨Nat.le_of_ble_eq_true rfl, Nat.le_of_ble_eq_true rfl⟩ gw_950 gs_41 rfl hD.1 rfl rfl rfl (Nat.le_of_ble_eq_true rfl) (m_isTraveller hI hD hL hLR hN ht)) ?_
  refine r_if_eq (tgt := 17) dX9_arrives_5 (by decide) (by split <;> omega) (fun c5 => ?_) (fun c5 => ?_)
  · have h5 := ite00 c5
    refine mRun.go (q_iconst dX9_arrives_17) ?_
    refine r_iret dX9_arrives_18 rfl ?_
    have e : a_when S 1 t = (-1) := by
      simp only [a_when, isP, isD, isT]
      first | (rw [if_pos (by omega)]; done) | (rw [if_neg (by omega)]; done)
    rw [e]
    exact outm_q hM hS hI frm_rf
  · have h5 := ite01 c5
    refine mRun.go (q_aload_n dX9_arrives_8 rfl rfl) ?_
    refine mRun.go (q_iload_n dX9_arrives_9 rfl rfl) ?_
    refine mRun.go (q_iconst dX9_arrives_10) ?_
    obtain ⟨v0, h0, hc0, rfl, K, rfl, hK, hfK⟩ := m_untilNow (t := t) (s := 1) hM hS (by omega) (by omega) (by decide)
    refine mRun.go (q_callVi (r := 144) [mi t, mi 1] [] dX9_arrives_11 co_X9_235 ⟨Nat.le_of_ble_eq_true rfl, Nat.le_of_ble_eq_true rfl⟩ gw_1032 gs_50 rfl hD.1 rfl rfl rfl (Nat.le_of_ble_eq_true rfl) hc0) ?_
    refine mRun.go (q_goto (tgt := 18) dX9_arrives_14 (by decide)) ?_
    refine r_iret dX9_arrives_18 rfl ?_
    have e : a_when S 1 t = anS S 1 (tvS S t) := by
      simp only [a_when, isP, isD, isT]
      first | (rw [if_pos (by omega)]; done) | (rw [if_neg (by omega)]; done)
    rw [e]
    exact outm_q hM hS hK hfK

set_option maxRecDepth 100000 in
theorem g_loses {σ : List mC} {I : mI} {S : Sx} {B : Int} {t : Int} (hM : MS σ I S) (hS : SxOk B S) (ht : -2147483648 ≤ t ∧ t < 2147483648) : mMt mX9_loses [mr 144, mi t] (σ, I) (OutM σ I S (a_when S 2 t)) := by
  refine mMt.of pl_9 (Nat.le_of_ble_eq_true rfl) ?_
  show mRun mZt mX9_loses 0 [some (mr 144), some (mi t)] [] (σ, I) _
  have hI := hM.1
  have hD := hM.2.1
  have hL := hS.1
  have hsz := hM.2.2.1
  have hLR := hM.2.2.2.2.2.2.1
  have hF := hM.2.2.2.2.2.2.2.1
  have hun := hM.2.2.2.2.2.2.2.2.1
  have hpa := hM.2.2.2.2.2.2.2.2.2.1
  have hkm := hM.2.2.2.2.2.2.2.2.2.2.1
  have hke := hM.2.2.2.2.2.2.2.2.2.2.2.1
  have hhm := hM.2.2.2.2.2.2.2.2.2.2.2.2.1
  have hhe := hM.2.2.2.2.2.2.2.2.2.2.2.2.2.1
  have hN := hM.2.2.2.2.2.2.2.2.2.2.2.2.2.2
  have hpr := lp_rng hL
  have hqe := lq_eq hL
  have hwr := hL.2.1
  have hrr := hL.1
  have hdr := hL.2.2.1
  have hnt := hL.2.2.2.1
  have hwF := hS.2.1.1
  have hhF := hS.2.1.2.1
  have hvF := hS.2.1.2.2.2
  have hH8 := hS.2.2.2.2.2.2.1
  have hU8 := hS.2.2.1
  have hK2 := hS.2.2.2.2.1
  have hLn := hS.2.2.2.2.2.2.2.2
  refine mRun.go (q_aload_n dX9_loses_0 rfl rfl) ?_
  refine mRun.go (q_iload_n dX9_loses_1 rfl rfl) ?_
  refine mRun.go (q_callVi (r := 144) [mi t] [] dX9_loses_2 co_X9_203 ⟨Nat.le_of_ble_eq_true rfl, Nat.le_of_ble_eq_true rfl⟩ gw_950 gs_41 rfl hD.1 rfl rfl rfl (Nat.le_of_ble_eq_true rfl) (m_isTraveller hI hD hL hLR hN ht)) ?_
  refine r_if_eq (tgt := 17) dX9_loses_5 (by decide) (by split <;> omega) (fun c5 => ?_) (fun c5 => ?_)
  · have h5 := ite00 c5
    refine mRun.go (q_iconst dX9_loses_17) ?_
    refine r_iret dX9_loses_18 rfl ?_
    have e : a_when S 2 t = (-1) := by
      simp only [a_when, isP, isD, isT]
      first | (rw [if_pos (by omega)]; done) | (rw [if_neg (by omega)]; done)
    rw [e]
    exact outm_q hM hS hI frm_rf
  · have h5 := ite01 c5
    refine mRun.go (q_aload_n dX9_loses_8 rfl rfl) ?_
    refine mRun.go (q_iload_n dX9_loses_9 rfl rfl) ?_
    refine mRun.go (q_iconst dX9_loses_10) ?_
    obtain ⟨v0, h0, hc0, rfl, K, rfl, hK, hfK⟩ := m_untilNow (t := t) (s := 2) hM hS (by omega) (by omega) (by decide)
    refine mRun.go (q_callVi (r := 144) [mi t, mi 2] [] dX9_loses_11 co_X9_235 ⟨Nat.le_of_ble_eq_true rfl, Nat.le_of_ble_eq_true rfl⟩ gw_1032 gs_50 rfl hD.1 rfl rfl rfl (Nat.le_of_ble_eq_true rfl) hc0) ?_
    refine mRun.go (q_goto (tgt := 18) dX9_loses_14 (by decide)) ?_
    refine r_iret dX9_loses_18 rfl ?_
    have e : a_when S 2 t = anS S 2 (tvS S t) := by
      simp only [a_when, isP, isD, isT]
      first | (rw [if_pos (by omega)]; done) | (rw [if_neg (by omega)]; done)
    rw [e]
    exact outm_q hM hS hK hfK

theorem ld1_pos {L : Ld} (h : 0 ≤ lTv L) : ((0 : Nat) : Int) < lTv (ld1 L) := by
  show ((0 : Nat) : Int) < (if lTv L = 0 then 1 else lTv L)
  split <;> omega
theorem tvm_led {P nd x y d : Int} (hx : 0 ≤ x ∧ x < P) (hy : 0 ≤ y ∧ y < P) (hd : 0 ≤ d ∧ d < nd) : TvM P nd (ledT x y d) := by
  rw [← start_nrm (t := (0, 0, 0, 0, 0, 0))]
  exact tvm_of (start_ok hx hy hd)
theorem led_frm {J : mI} {L : Ld} {F : Fs} {x d : Int} (h : FRM J 148 0 L F) (hL : LdOk L) : FRM (mup (mup (mup (mup J 148 146 x) 148 154 d) 148 162 (-4)) 148 166 0) 148 0 (ld1 L) (fW F, fH F, fT F, fun u => if u = 0 then (x, (tvM J 148 0 0).2.1, d, (tvM J 148 0 0).2.2.2.1, -4, 0) else fV F u) := by
  have hdr := hL.2.2.1
  have hpr := lp_rng hL
  have hnt := hL.2.2.2.1
  have hn : ∀ k, k ≠ 146 → k ≠ 154 → k ≠ 162 → k ≠ 166 → mup (mup (mup (mup J 148 146 x) 148 154 d) 148 162 (-4)) 148 166 0 148 k = J 148 k := fun k a b c e => by rw [mup_ne2 e, mup_ne2 c, mup_ne2 b, mup_ne2 a]
  refine ⟨by rw [hn 0 (by decide) (by decide) (by decide) (by decide)]; exact h.1, by rw [hn (0 + 1) (by decide) (by decide) (by decide) (by decide)]; exact h.2.1, fun d' y a b c e => ?_, fun u hu => ?_⟩
  · have b : d' < lD L := b
    have e : y < lP L := e
    rw [hn _ (by omega) (by omega) (by omega) (by omega)]
    exact h.2.2.1 d' y a b c e
  · have hu : (u : Int) < (if lTv L = 0 then 1 else lTv L) := hu
    by_cases q : u = 0
    · subst q
      show tvM _ 148 0 0 = (if (0 : Nat) = 0 then (x, (tvM J 148 0 0).2.1, d, (tvM J 148 0 0).2.2.2.1, -4, 0) else fV F 0)
      rw [if_pos rfl]
      simp [tvM, mup]
    · have hu2 : (u : Int) < lTv L := by split at hu <;> omega
      show tvM _ 148 0 u = (if u = 0 then _ else fV F u)
      rw [if_neg q, ← h.2.2.2 u hu2]
      unfold tvM
      rw [hn _ (by omega) (by omega) (by omega) (by omega), hn _ (by omega) (by omega) (by omega) (by omega), hn _ (by omega) (by omega) (by omega) (by omega), hn _ (by omega) (by omega) (by omega) (by omega), hn _ (by omega) (by omega) (by omega) (by omega), hn _ (by omega) (by omega) (by omega) (by omega)]

set_option maxRecDepth 100000 in
theorem m_sends0 {σ : List mC} {I : mI} {L : Ld} (hI : Nrm I) (hL : LdOk L) {a : Nat} {F : Fs} (ha : σ[a]? = some (.inr (.inl 170))) (hF : FRM I a 0 L F) {x y d gg ss : Int} (ht : ((0 : Nat) : Int) < lTv L) (hv0 : fV F 0 = (x, gg, d, ss, -4, 0)) (hx : x = x) (hy : -2147483648 ≤ y ∧ y < 2147483648) : mMt mX9_sends [mr a, mi ((0 : Nat) : Int), mi y] (σ, I) (fun v h => v = none ∧ ∃ K, h = (σ, K) ∧ Nrm K ∧ (∀ r, r ≠ a → K r = I r) ∧ FRM K a 0 L (setV F 0 (ledT x y d))) := by
  refine mMt.of pl_9 (Nat.le_of_ble_eq_true rfl) ?_
  show mRun mZt mX9_sends 0 [some (mr a), some (mi ((0 : Nat) : Int)), some (mi y)] [] (σ, I) _
  have h6 := tv6i (hF.2.2.2 0 ht)
  have hxr : -2147483648 ≤ x ∧ x < 2147483648 := by have := hI a (146 + ((0 : Nat) : Int)).toNat; rw [h6.1, hv0] at this; exact this
  refine mRun.go (q_aload_n dX9_sends_0 rfl rfl) ?_
  refine mRun.go (q_sipush dX9_sends_1 (by decide)) ?_
  refine mRun.go (q_iload_n dX9_sends_4 rfl rfl) ?_
  refine mRun.go (q_iadd dX9_sends_5) ?_
  refine mRun.go (q_iload_n dX9_sends_6 rfl rfl) ?_
  refine mRun.go (q_iast dX9_sends_7 ha (by omega) (by omega)) ?_
  refine mRun.go (q_aload_n dX9_sends_8 rfl rfl) ?_
  refine mRun.go (q_sipush dX9_sends_9 (by decide)) ?_
  refine mRun.go (q_iload_n dX9_sends_12 rfl rfl) ?_
  refine mRun.go (q_iadd dX9_sends_13) ?_
  refine mRun.go (q_aload_n dX9_sends_14 rfl rfl) ?_
  refine mRun.go (q_sipush dX9_sends_15 (by decide)) ?_
  refine mRun.go (q_iload_n dX9_sends_18 rfl rfl) ?_
  refine mRun.go (q_iadd dX9_sends_19) ?_
  refine mRun.go (q_ialdE (x := 0) dX9_sends_20 ha (by omega) (by omega) (by rw [mup_ne2 (by decide)]; exact (h6.2.2.2.2.2.trans (by rw [hv0])))) ?_
  refine r_if_ne (tgt := 39) dX9_sends_21 (by decide) (by omega) (fun c21 => ?_) (fun c21 => ?_)
  · refine mRun.go (q_iconst dX9_sends_39) ?_
    refine mRun.go (q_iast dX9_sends_40 ha (by omega) (by omega)) ?_
    refine r_ret dX9_sends_41 rfl ?_
    have hvv : tvM (mup (mup I a ((150 + ((0 : Nat) : Int)).toNat) y) a ((158 + ((0 : Nat) : Int)).toNat) 0) a 0 0 = (x, y, (fV F 0).2.2.1, 0, (fV F 0).2.2.2.2.1, 0) := tv6 (by exact (by rw [mup_ne2 (by decide), mup_ne2 (by decide)]; exact (h6.1.trans (by rw [hv0])))) (by exact (by rw [mup_ne2 (by decide), mup_self])) (by exact (by rw [mup_ne2 (by decide), mup_ne2 (by decide)]; exact h6.2.2.1)) (by exact (by rw [mup_self])) (by exact (by rw [mup_ne2 (by decide), mup_ne2 (by decide)]; exact h6.2.2.2.2.1)) (by exact (by rw [mup_ne2 (by decide), mup_ne2 (by decide)]; exact (h6.2.2.2.2.2.trans (by rw [hv0]))))
    have hd4 : (fV F 0).2.2.1 = d := by rw [hv0]
    have hd5 : (fV F 0).2.2.2.2.1 = -4 := by rw [hv0]
    have he : ledT x y d = (x, y, (fV F 0).2.2.1, 0, (fV F 0).2.2.2.2.1, 0) := by unfold ledT; rw [hd4, hd5]; first | (rw [if_pos (by omega)]; done) | (rw [if_neg (by omega)]; done)
    refine ⟨rfl, mup (mup I a ((150 + ((0 : Nat) : Int)).toNat) y) a ((158 + ((0 : Nat) : Int)).toNat) 0, rfl, (nrm_mup (nrm_mup hI (by omega)) (by omega)), fun r q => ?_, ?_⟩
    · rw [mup_nf q, mup_nf q]
    · rw [he]
      exact frm_setV (t := 0) hF hL ht (fun k hk n0 n1 n2 n3 n4 n5 => by rw [mup_ne2 (by assumption), mup_ne2 (by assumption)]) hvv
  · refine mRun.go (q_aload_n dX9_sends_24 rfl rfl) ?_
    refine mRun.go (q_sipush dX9_sends_25 (by decide)) ?_
    refine mRun.go (q_iload_n dX9_sends_28 rfl rfl) ?_
    refine mRun.go (q_iadd dX9_sends_29) ?_
    refine mRun.go (q_ialdE (x := x) dX9_sends_30 ha (by omega) (by omega) (by rw [mup_ne2 (by decide)]; exact (h6.1.trans (by rw [hv0])))) ?_
    refine mRun.go (q_iload_n dX9_sends_31 rfl rfl) ?_
    refine r_icmp_ne (tgt := 39) dX9_sends_32 (by decide) (by omega) (by omega) (fun c32 => ?_) (fun c32 => ?_)
    · refine mRun.go (q_iconst dX9_sends_39) ?_
      refine mRun.go (q_iast dX9_sends_40 ha (by omega) (by omega)) ?_
      refine r_ret dX9_sends_41 rfl ?_
      have hvv : tvM (mup (mup I a ((150 + ((0 : Nat) : Int)).toNat) y) a ((158 + ((0 : Nat) : Int)).toNat) 0) a 0 0 = (x, y, (fV F 0).2.2.1, 0, (fV F 0).2.2.2.2.1, 0) := tv6 (by exact (by rw [mup_ne2 (by decide), mup_ne2 (by decide)]; exact (h6.1.trans (by rw [hv0])))) (by exact (by rw [mup_ne2 (by decide), mup_self])) (by exact (by rw [mup_ne2 (by decide), mup_ne2 (by decide)]; exact h6.2.2.1)) (by exact (by rw [mup_self])) (by exact (by rw [mup_ne2 (by decide), mup_ne2 (by decide)]; exact h6.2.2.2.2.1)) (by exact (by rw [mup_ne2 (by decide), mup_ne2 (by decide)]; exact (h6.2.2.2.2.2.trans (by rw [hv0]))))
      have hd4 : (fV F 0).2.2.1 = d := by rw [hv0]
      have hd5 : (fV F 0).2.2.2.2.1 = -4 := by rw [hv0]
      have he : ledT x y d = (x, y, (fV F 0).2.2.1, 0, (fV F 0).2.2.2.2.1, 0) := by unfold ledT; rw [hd4, hd5]; first | (rw [if_pos (by omega)]; done) | (rw [if_neg (by omega)]; done)
      refine ⟨rfl, mup (mup I a ((150 + ((0 : Nat) : Int)).toNat) y) a ((158 + ((0 : Nat) : Int)).toNat) 0, rfl, (nrm_mup (nrm_mup hI (by omega)) (by omega)), fun r q => ?_, ?_⟩
      · rw [mup_nf q, mup_nf q]
      · rw [he]
        exact frm_setV (t := 0) hF hL ht (fun k hk n0 n1 n2 n3 n4 n5 => by rw [mup_ne2 (by assumption), mup_ne2 (by assumption)]) hvv
    · refine mRun.go (q_iconst dX9_sends_35) ?_
      refine mRun.go (q_goto (tgt := 40) dX9_sends_36 (by decide)) ?_
      refine mRun.go (q_iast dX9_sends_40 ha (by omega) (by omega)) ?_
      refine r_ret dX9_sends_41 rfl ?_
      have hvv : tvM (mup (mup I a ((150 + ((0 : Nat) : Int)).toNat) y) a ((158 + ((0 : Nat) : Int)).toNat) 1) a 0 0 = (x, y, (fV F 0).2.2.1, 1, (fV F 0).2.2.2.2.1, 0) := tv6 (by exact (by rw [mup_ne2 (by decide), mup_ne2 (by decide)]; exact (h6.1.trans (by rw [hv0])))) (by exact (by rw [mup_ne2 (by decide), mup_self])) (by exact (by rw [mup_ne2 (by decide), mup_ne2 (by decide)]; exact h6.2.2.1)) (by exact (by rw [mup_self])) (by exact (by rw [mup_ne2 (by decide), mup_ne2 (by decide)]; exact h6.2.2.2.2.1)) (by exact (by rw [mup_ne2 (by decide), mup_ne2 (by decide)]; exact (h6.2.2.2.2.2.trans (by rw [hv0]))))
      have hd4 : (fV F 0).2.2.1 = d := by rw [hv0]
      have hd5 : (fV F 0).2.2.2.2.1 = -4 := by rw [hv0]
      have he : ledT x y d = (x, y, (fV F 0).2.2.1, 1, (fV F 0).2.2.2.2.1, 0) := by unfold ledT; rw [hd4, hd5]; first | (rw [if_pos (by omega)]; done) | (rw [if_neg (by omega)]; done)
      refine ⟨rfl, mup (mup I a ((150 + ((0 : Nat) : Int)).toNat) y) a ((158 + ((0 : Nat) : Int)).toNat) 1, rfl, (nrm_mup (nrm_mup hI (by omega)) (by omega)), fun r q => ?_, ?_⟩
      · rw [mup_nf q, mup_nf q]
      · rw [he]
        exact frm_setV (t := 0) hF hL ht (fun k hk n0 n1 n2 n3 n4 n5 => by rw [mup_ne2 (by assumption), mup_ne2 (by assumption)]) hvv

set_option maxRecDepth 100000 in
theorem m_ledBy {σ : List mC} {I : mI} {S : Sx} {B : Int} {d x y : Int} (hM : MS σ I S) (hS : SxOk B S) (hd2 : isD S d) (hx2 : isP S x) (hy2 : isP S y) (hd : -2147483648 ≤ d ∧ d < 2147483648) (hx : -2147483648 ≤ x ∧ x < 2147483648) (hy : -2147483648 ≤ y ∧ y < 2147483648) : mMt mX9_ledBy [mr 144, mi d, mi x, mi y] (σ, I) (fun v h => v = some (mi (anS S 1 (ledT x y d))) ∧ ∃ K, h = (σ, K) ∧ Nrm K ∧ FrM I K) := by
  refine mMt.of pl_9 (Nat.le_of_ble_eq_true rfl) ?_
  show mRun mZt mX9_ledBy 0 [some (mr 144), some (mi d), some (mi x), some (mi y)] [] (σ, I) _
  have hI := hM.1
  have hD := hM.2.1
  have hL := hS.1
  have hsz := hM.2.2.1
  have hLR := hM.2.2.2.2.2.2.1
  have hF := hM.2.2.2.2.2.2.2.1
  have hun := hM.2.2.2.2.2.2.2.2.1
  have hpa := hM.2.2.2.2.2.2.2.2.2.1
  have hkm := hM.2.2.2.2.2.2.2.2.2.2.1
  have hke := hM.2.2.2.2.2.2.2.2.2.2.2.1
  have hhm := hM.2.2.2.2.2.2.2.2.2.2.2.2.1
  have hhe := hM.2.2.2.2.2.2.2.2.2.2.2.2.2.1
  have hN := hM.2.2.2.2.2.2.2.2.2.2.2.2.2.2
  have hpr := lp_rng hL
  have hqe := lq_eq hL
  have hwr := hL.2.1
  have hrr := hL.1
  have hdr := hL.2.2.1
  have hnt := hL.2.2.2.1
  have hwF := hS.2.1.1
  have hhF := hS.2.1.2.1
  have hvF := hS.2.1.2.2.2
  have hH8 := hS.2.2.2.2.2.2.1
  have hU8 := hS.2.2.1
  have hK2 := hS.2.2.2.2.1
  have hLn := hS.2.2.2.2.2.2.2.2
  have hd2 : 0 ≤ d ∧ d < lD (sL S) := hd2
  have hx2 : 0 ≤ x ∧ x < lP (sL S) := hx2
  have hy2 : 0 ≤ y ∧ y < lP (sL S) := hy2
  refine mRun.go (q_aload_n dX9_ledBy_0 rfl rfl) ?_
  refine mRun.go (q_getR dX9_ledBy_1 fo_X9_16 hD.1 rfl) ?_
  refine mRun.go (q_iconst dX9_ledBy_4) ?_
  refine mRun.go (q_aload_n dX9_ledBy_5 rfl rfl) ?_
  refine mRun.go (q_getR dX9_ledBy_6 fo_X9_19 hD.1 rfl) ?_
  refine mRun.go (q_iconst dX9_ledBy_9) ?_
  refine mRun.go (q_sipush dX9_ledBy_10 (by decide)) ?_
  refine mRun.go (q_callSv [mr 147, mi 0, mr 148, mi 0, mi 170] [] dX9_ledBy_13 co_X9_97 ⟨Nat.le_of_ble_eq_true rfl, Nat.le_of_ble_eq_true rfl⟩ gw_755 rfl rfl (Nat.le_of_ble_eq_true rfl) (m_copies (i := 0) (j := 0) (m := 170) hI hD.2.2.2.1 hD.2.2.2.2.1 (by decide) (by decide) (by decide) (by decide) (by decide))) ?_
  refine mRun.go (q_aload_n dX9_ledBy_16 rfl rfl) ?_
  refine mRun.go (q_getR dX9_ledBy_17 fo_X9_19 hD.1 rfl) ?_
  refine mRun.go (q_sipush dX9_ledBy_20 (by decide)) ?_
  refine mRun.go (q_iload_n dX9_ledBy_23 rfl rfl) ?_
  refine mRun.go (q_iast dX9_ledBy_24 hD.2.2.2.2.1 (by omega) (by omega)) ?_
  refine mRun.go (q_aload_n dX9_ledBy_25 rfl rfl) ?_
  refine mRun.go (q_getR dX9_ledBy_26 fo_X9_19 hD.1 rfl) ?_
  refine mRun.go (q_sipush dX9_ledBy_29 (by decide)) ?_
  refine mRun.go (q_iload_n dX9_ledBy_32 rfl rfl) ?_
  refine mRun.go (q_iast dX9_ledBy_33 hD.2.2.2.2.1 (by omega) (by omega)) ?_
  refine mRun.go (q_aload_n dX9_ledBy_34 rfl rfl) ?_
  refine mRun.go (q_getR dX9_ledBy_35 fo_X9_19 hD.1 rfl) ?_
  refine mRun.go (q_sipush dX9_ledBy_38 (by decide)) ?_
  refine mRun.go (q_bipush dX9_ledBy_41 (by decide)) ?_
  refine mRun.go (q_iast dX9_ledBy_43 hD.2.2.2.2.1 (by omega) (by omega)) ?_
  refine mRun.go (q_aload_n dX9_ledBy_44 rfl rfl) ?_
  refine mRun.go (q_getR dX9_ledBy_45 fo_X9_19 hD.1 rfl) ?_
  refine mRun.go (q_sipush dX9_ledBy_48 (by decide)) ?_
  refine mRun.go (q_iconst dX9_ledBy_51) ?_
  refine mRun.go (q_iast dX9_ledBy_52 hD.2.2.2.2.1 (by omega) (by omega)) ?_
  refine mRun.go (q_aload_n dX9_ledBy_53 rfl rfl) ?_
  refine mRun.go (q_getR dX9_ledBy_54 fo_X9_19 hD.1 rfl) ?_
  refine mRun.go (q_iconst dX9_ledBy_57) ?_
  refine mRun.go (q_iload_n dX9_ledBy_58 rfl rfl) ?_
  have hN4 : Nrm (mup (mup (mup (mup (asd I) 148 146 x) 148 154 d) 148 162 (-4)) 148 166 0) := nrm_mup (nrm_mup (nrm_mup (nrm_mup (nrm_mcp hI) (by omega)) (by omega)) (by decide)) (by decide)
  have hL1 := ld1_ok hL
  have hF4 : FRM (mup (mup (mup (mup (asd I) 148 146 x) 148 154 d) 148 162 (-4)) 148 166 0) 148 0 (ld1 (sL S)) (fW (sF S), fH (sF S), fT (sF S), fun u => if u = 0 then (x, (tvM (asd I) 148 0 0).2.1, d, (tvM (asd I) 148 0 0).2.2.2.1, -4, 0) else fV (sF S) u) := led_frm (asd_f hF hL) hL
  obtain ⟨v0, h0, hc0, rfl, K, rfl, hK, hfK, hFK⟩ := m_sends0 (y := y) (x := x) hN4 hL1 hD.2.2.2.2.1 hF4 (ld1_pos hnt.1) rfl rfl (by omega)
  refine mRun.go (q_callSv [mr 148, mi 0, mi y] [] dX9_ledBy_59 co_X9_229 ⟨Nat.le_of_ble_eq_true rfl, Nat.le_of_ble_eq_true rfl⟩ gw_1020 rfl rfl (Nat.le_of_ble_eq_true rfl) hc0) ?_
  refine mRun.go (q_aload_n dX9_ledBy_62 rfl rfl) ?_
  refine mRun.go (q_iconst dX9_ledBy_63) ?_
  refine mRun.go (q_iconst dX9_ledBy_64) ?_
  have hfA : FrM I K := frm_tr asd_m (frm_a (fun r p q => (hfK r q).trans (by rw [mup_nf q, mup_nf q, mup_nf q, mup_nf q])))
  have hvL : TvM (lP (ld1 (sL S))) (lD (ld1 (sL S))) (ledT x y d) := tvm_led (P := lP (sL S)) (nd := lD (sL S)) hx2 hy2 hd2
  obtain ⟨v1, h1, hc1, rfl, J, rfl, hJ, hfJ⟩ := m_untilSo (t := 0) (s := 1) hK hD hL1 (ld1_lrm (hLR.frm hfA)) hFK (ld1_pos hnt.1) hwF (by rw [setV_at]; exact hvL) (by decide)
  rw [setV_at] at hc1
  refine mRun.go (q_callVi (r := 144) [mi 0, mi 1] [] dX9_ledBy_65 co_X9_232 ⟨Nat.le_of_ble_eq_true rfl, Nat.le_of_ble_eq_true rfl⟩ gw_1036 gs_51 rfl hD.1 rfl rfl rfl (Nat.le_of_ble_eq_true rfl) hc1) ?_
  refine r_iret dX9_ledBy_68 rfl ?_
  exact ⟨rfl, J, rfl, hJ, frm_tr hfA (frm_a hfJ)⟩

set_option maxRecDepth 100000 in
theorem g_led {σ : List mC} {I : mI} {S : Sx} {B : Int} {d x y : Int} (hM : MS σ I S) (hS : SxOk B S) (hd : -2147483648 ≤ d ∧ d < 2147483648) (hx : -2147483648 ≤ x ∧ x < 2147483648) (hy : -2147483648 ≤ y ∧ y < 2147483648) : mMt mX9_led [mr 144, mi d, mi x, mi y] (σ, I) (OutM σ I S (a_led S d x y)) := by
  refine mMt.of pl_9 (Nat.le_of_ble_eq_true rfl) ?_
  show mRun mZt mX9_led 0 [some (mr 144), some (mi d), some (mi x), some (mi y)] [] (σ, I) _
  have hI := hM.1
  have hD := hM.2.1
  have hL := hS.1
  have hsz := hM.2.2.1
  have hLR := hM.2.2.2.2.2.2.1
  have hF := hM.2.2.2.2.2.2.2.1
  have hun := hM.2.2.2.2.2.2.2.2.1
  have hpa := hM.2.2.2.2.2.2.2.2.2.1
  have hkm := hM.2.2.2.2.2.2.2.2.2.2.1
  have hke := hM.2.2.2.2.2.2.2.2.2.2.2.1
  have hhm := hM.2.2.2.2.2.2.2.2.2.2.2.2.1
  have hhe := hM.2.2.2.2.2.2.2.2.2.2.2.2.2.1
  have hN := hM.2.2.2.2.2.2.2.2.2.2.2.2.2.2
  have hpr := lp_rng hL
  have hqe := lq_eq hL
  have hwr := hL.2.1
  have hrr := hL.1
  have hdr := hL.2.2.1
  have hnt := hL.2.2.2.1
  have hwF := hS.2.1.1
  have hhF := hS.2.1.2.1
  have hvF := hS.2.1.2.2.2
  have hH8 := hS.2.2.2.2.2.2.1
  have hU8 := hS.2.2.1
  have hK2 := hS.2.2.2.2.1
  have hLn := hS.2.2.2.2.2.2.2.2
  refine mRun.go (q_aload_n dX9_led_0 rfl rfl) ?_
  refine mRun.go (q_iload_n dX9_led_1 rfl rfl) ?_
  refine mRun.go (q_callVi (r := 144) [mi d] [] dX9_led_2 co_X9_198 ⟨Nat.le_of_ble_eq_true rfl, Nat.le_of_ble_eq_true rfl⟩ gw_930 gs_39 rfl hD.1 rfl rfl rfl (Nat.le_of_ble_eq_true rfl) (m_isDrum hI hD hL hLR hd)) ?_
  refine r_if_eq (tgt := 34) dX9_led_5 (by decide) (by split <;> omega) (fun c5 => ?_) (fun c5 => ?_)
  · have h5 := ite00 c5
    refine mRun.go (q_iconst dX9_led_34) ?_
    refine r_iret dX9_led_35 rfl ?_
    have e : a_led S d x y = (-1) := by
      simp only [a_led, isP, isD, isT]
      first | (rw [if_pos (by omega)]; done) | (rw [if_neg (by omega)]; done)
    rw [e]
    exact outm_q hM hS hI frm_rf
  · have h5 := ite01 c5
    refine mRun.go (q_aload_n dX9_led_8 rfl rfl) ?_
    refine mRun.go (q_iload_n dX9_led_9 rfl rfl) ?_
    refine mRun.go (q_callVi (r := 144) [mi x] [] dX9_led_10 co_X9_195 ⟨Nat.le_of_ble_eq_true rfl, Nat.le_of_ble_eq_true rfl⟩ gw_922 gs_38 rfl hD.1 rfl rfl rfl (Nat.le_of_ble_eq_true rfl) (m_isPlace hI hD hL hLR hx)) ?_
    refine r_if_eq (tgt := 34) dX9_led_13 (by decide) (by split <;> omega) (fun c13 => ?_) (fun c13 => ?_)
    · have h13 := ite00 c13
      refine mRun.go (q_iconst dX9_led_34) ?_
      refine r_iret dX9_led_35 rfl ?_
      have e : a_led S d x y = (-1) := by
        simp only [a_led, isP, isD, isT]
        first | (rw [if_pos (by omega)]; done) | (rw [if_neg (by omega)]; done)
      rw [e]
      exact outm_q hM hS hI frm_rf
    · have h13 := ite01 c13
      refine mRun.go (q_aload_n dX9_led_16 rfl rfl) ?_
      refine mRun.go (q_iload_n dX9_led_17 rfl rfl) ?_
      refine mRun.go (q_callVi (r := 144) [mi y] [] dX9_led_18 co_X9_195 ⟨Nat.le_of_ble_eq_true rfl, Nat.le_of_ble_eq_true rfl⟩ gw_922 gs_38 rfl hD.1 rfl rfl rfl (Nat.le_of_ble_eq_true rfl) (m_isPlace hI hD hL hLR hy)) ?_
      refine r_if_eq (tgt := 34) dX9_led_21 (by decide) (by split <;> omega) (fun c21 => ?_) (fun c21 => ?_)
      · have h21 := ite00 c21
        refine mRun.go (q_iconst dX9_led_34) ?_
        refine r_iret dX9_led_35 rfl ?_
        have e : a_led S d x y = (-1) := by
          simp only [a_led, isP, isD, isT]
          first | (rw [if_pos (by omega)]; done) | (rw [if_neg (by omega)]; done)
        rw [e]
        exact outm_q hM hS hI frm_rf
      · have h21 := ite01 c21
        refine mRun.go (q_aload_n dX9_led_24 rfl rfl) ?_
        refine mRun.go (q_iload_n dX9_led_25 rfl rfl) ?_
        refine mRun.go (q_iload_n dX9_led_26 rfl rfl) ?_
        refine mRun.go (q_iload_n dX9_led_27 rfl rfl) ?_
        obtain ⟨v0, h0, hc0, rfl, K, rfl, hK, hfK⟩ := m_ledBy (d := d) (x := x) (y := y) hM hS (by omega) (by omega) (by omega) (by omega) (by omega) (by omega)
        refine mRun.go (q_callVi (r := 144) [mi d, mi x, mi y] [] dX9_led_28 co_X9_238 ⟨Nat.le_of_ble_eq_true rfl, Nat.le_of_ble_eq_true rfl⟩ gw_1048 gs_52 rfl hD.1 rfl rfl rfl (Nat.le_of_ble_eq_true rfl) hc0) ?_
        refine mRun.go (q_goto (tgt := 35) dX9_led_31 (by decide)) ?_
        refine r_iret dX9_led_35 rfl ?_
        have e : a_led S d x y = anS S 1 (ledT x y d) := by
          simp only [a_led, isP, isD, isT]
          first | (rw [if_pos (by omega)]; done) | (rw [if_neg (by omega)]; done)
        rw [e]
        exact outm_q hM hS hK hfK
