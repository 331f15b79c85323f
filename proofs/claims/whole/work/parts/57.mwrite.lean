/-! ===== the reference: writing, hearing ===== -/
/-- what a call that changes only its own little thing keeps -/
theorem rm_keep {I K : mI} {S : Sx} {q j : Nat} (h : RM I S) (hL : LdOk (sL S)) (hr : ∀ r, r ≠ 144 → r ≠ q → r < 153 → K r = I r) (hk : ∀ k, k ≠ j → k < 16 → K 144 k = I 144 k) (hq : q = 151 ∨ q = 152) (hj : j = 13 ∨ j = 15) : LRM K (sL S) ∧ FRM K 147 0 (sL S) (sF S) ∧ K 144 9 = ((sU S).1 : Int) ∧ (∀ k, k < (sU S).1 → FRM K 149 (170 * k) (sL S) ((sU S).2 k)) ∧ K 144 11 = ((sK S).1 : Int) ∧ (∀ k, k < (sK S).1 → FRM K 150 (170 * k) (sL S) ((sK S).2 k)) ∧ K 144 5 = lTv (sL S) := by
  obtain ⟨a1, a2, a3, a4, a5, a6, a7, a8, a9, b1, b2, b3, b4⟩ := h
  refine ⟨a5.fr (hk 0 (by omega) (by decide)) (hk 1 (by omega) (by decide)) (hk 3 (by omega) (by decide)) (hk 5 (by omega) (by decide)) (hr 145 (by decide) (by omega) (by decide)) (hr 146 (by decide) (by omega) (by decide)), a6.fr hL (fun k _ _ => by rw [hr 147 (by decide) (by omega) (by decide)]), by rw [hk 9 (by omega) (by decide)]; exact a7, fun k hk' => (a8 k hk').fr hL (fun k _ _ => by rw [hr 149 (by decide) (by omega) (by decide)]), by rw [hk 11 (by omega) (by decide)]; exact a9, fun k hk' => (b1 k hk').fr hL (fun k _ _ => by rw [hr 150 (by decide) (by omega) (by decide)]), by rw [hk 5 (by omega) (by decide)]; exact b4⟩

set_option maxRecDepth 100000 in
theorem g_forget {σ : List mC} {I : mI} {S : Sx} {B : Int} (hM : MS σ I S) (hS : SxOk B S)  : mMt mX9_forget [mr 144] (σ, I) (OutM σ I (z_forget S) (((sH S).1 : Int))) := by
  refine mMt.of pl_9 (Nat.le_of_ble_eq_true rfl) ?_
  show mRun mZt mX9_forget 0 [some (mr 144), none] [] (σ, I) _
  have hI := hM.1
  have hD := hM.2.1
  have hL := hS.1
  have hsz := hM.2.2.1
  have hLR := hM.2.2.2.2.2.2.1
  have hF := hM.2.2.2.2.2.2.2.1
  have hun := hM.2.2.2.2.2.2.2.2.1
  have hpa := hM.2.2.2.2.2.2.2.2.2.1
  have hkm := hM.2.2.2.2.2.2.2.2.2.2.1
  have hke := hM.2.2.2.2.2.2.2.2.2.2.2.1
  have hhm := hM.2.2.2.2.2.2.2.2.2.2.2.2.1
  have hhe := hM.2.2.2.2.2.2.2.2.2.2.2.2.2.1
  have hN := hM.2.2.2.2.2.2.2.2.2.2.2.2.2.2
  have hpr := lp_rng hL
  have hqe := lq_eq hL
  have hwr := hL.2.1
  have hrr := hL.1
  have hdr := hL.2.2.1
  have hnt := hL.2.2.2.1
  have hwF := hS.2.1.1
  have hhF := hS.2.1.2.1
  have hvF := hS.2.1.2.2.2
  have hH8 := hS.2.2.2.2.2.2.1
  have hU8 := hS.2.2.1
  have hK2 := hS.2.2.2.2.1
  have hLn := hS.2.2.2.2.2.2.2.2
  refine mRun.go (q_aload_n dX9_forget_0 rfl rfl) ?_
  refine mRun.go (q_getE (x := ((sH S).1 : Int)) dX9_forget_1 fo_X9_107 hD.1 rfl hhm) ?_
  refine mRun.go (q_istore_n (ls' := [some (mr 144), some (mi ((sH S).1 : Int))]) dX9_forget_4 rfl (Nat.le_of_ble_eq_true rfl) rfl) ?_
  refine mRun.go (q_aload_n dX9_forget_5 rfl rfl) ?_
  refine mRun.go (q_iconst dX9_forget_6) ?_
  refine mRun.go (q_putI dX9_forget_7 fo_X9_107 fp_9_13 hD.1 rfl) ?_
  refine mRun.go (q_iload_n dX9_forget_10 rfl rfl) ?_
  refine r_iret dX9_forget_11 rfl ?_
  obtain ⟨a1, a2, a3, a4, a5, a6, a7, a8, a9, b1, b2, b3, b4⟩ := hM.2.2
  obtain ⟨d1, d2, d3, d4, d5, d6, d7⟩ := rm_keep (K := mup I 144 13 0) (q := 151) (j := 13) hM.2.2 hL (fun r p _ _ => mup_nf p) (fun k p _ => mup_ne2 p) (by omega) (by omega)
  exact ⟨rfl, _, rfl, fun r hr => mup_nf (by omega), nrm_mup hI (by decide), hD, by rw [mup_ne2 (by decide)]; exact a1, fun k hk => by rw [mup_nf (by decide)]; exact a2 k hk, a3, a4, d1, d2, d3, d4, d5, d6, mup_self, fun k hk => absurd hk (Nat.not_lt_zero k), d7⟩

set_option maxRecDepth 100000 in
theorem g_wipe {σ : List mC} {I : mI} {S : Sx} {B : Int} (hM : MS σ I S) (hS : SxOk B S)  : mMt mX9_wipe [mr 144] (σ, I) (OutM σ I (z_wipe S) (sLn S)) := by
  refine mMt.of pl_9 (Nat.le_of_ble_eq_true rfl) ?_
  show mRun mZt mX9_wipe 0 [some (mr 144), none] [] (σ, I) _
  have hI := hM.1
  have hD := hM.2.1
  have hL := hS.1
  have hsz := hM.2.2.1
  have hLR := hM.2.2.2.2.2.2.1
  have hF := hM.2.2.2.2.2.2.2.1
  have hun := hM.2.2.2.2.2.2.2.2.1
  have hpa := hM.2.2.2.2.2.2.2.2.2.1
  have hkm := hM.2.2.2.2.2.2.2.2.2.2.1
  have hke := hM.2.2.2.2.2.2.2.2.2.2.2.1
  have hhm := hM.2.2.2.2.2.2.2.2.2.2.2.2.1
  have hhe := hM.2.2.2.2.2.2.2.2.2.2.2.2.2.1
  have hN := hM.2.2.2.2.2.2.2.2.2.2.2.2.2.2
  have hpr := lp_rng hL
  have hqe := lq_eq hL
  have hwr := hL.2.1
  have hrr := hL.1
  have hdr := hL.2.2.1
  have hnt := hL.2.2.2.1
  have hwF := hS.2.1.1
  have hhF := hS.2.1.2.1
  have hvF := hS.2.1.2.2.2
  have hH8 := hS.2.2.2.2.2.2.1
  have hU8 := hS.2.2.1
  have hK2 := hS.2.2.2.2.1
  have hLn := hS.2.2.2.2.2.2.2.2
  refine mRun.go (q_aload_n dX9_wipe_0 rfl rfl) ?_
  refine mRun.go (q_getE (x := sLn S) dX9_wipe_1 fo_X9_118 hD.1 rfl hsz) ?_
  refine mRun.go (q_istore_n (ls' := [some (mr 144), some (mi (sLn S))]) dX9_wipe_4 rfl (Nat.le_of_ble_eq_true rfl) rfl) ?_
  refine mRun.go (q_aload_n dX9_wipe_5 rfl rfl) ?_
  refine mRun.go (q_iconst dX9_wipe_6) ?_
  refine mRun.go (q_putI dX9_wipe_7 fo_X9_118 fp_9_15 hD.1 rfl) ?_
  refine mRun.go (q_iload_n dX9_wipe_10 rfl rfl) ?_
  refine r_iret dX9_wipe_11 rfl ?_
  obtain ⟨a1, a2, a3, a4, a5, a6, a7, a8, a9, b1, b2, b3, b4⟩ := hM.2.2
  obtain ⟨d1, d2, d3, d4, d5, d6, d7⟩ := rm_keep (K := mup I 144 15 0) (q := 152) (j := 15) hM.2.2 hL (fun r p _ _ => mup_nf p) (fun k p _ => mup_ne2 p) (by omega) (by omega)
  exact ⟨rfl, _, rfl, fun r hr => mup_nf (by omega), nrm_mup hI (by decide), hD, mup_self, fun k hk => by have hk : (k : Int) < 0 := hk; omega, fun i _ => rfl, fun i => ⟨(by decide : (-2147483648 : Int) ≤ 0), (by decide : (0 : Int) < 2147483648)⟩, d1, d2, d3, d4, d5, d6, by rw [mup_ne2 (by decide)]; exact b2, fun k hk => by rw [mup_nf (by decide)]; exact b3 k hk, d7⟩

set_option maxRecDepth 100000 in
theorem g_write {σ : List mC} {I : mI} {S : Sx} {B : Int} {x : Int} (hM : MS σ I S) (hS : SxOk B S) (hx : -2147483648 ≤ x ∧ x < 2147483648) : mMt mX9_write [mr 144, mi x] (σ, I) (OutM σ I (z_write S x) (a_write S x)) := by
  refine mMt.of pl_9 (Nat.le_of_ble_eq_true rfl) ?_
  show mRun mZt mX9_write 0 [some (mr 144), some (mi x)] [] (σ, I) _
  have hI := hM.1
  have hD := hM.2.1
  have hL := hS.1
  have hsz := hM.2.2.1
  have hLR := hM.2.2.2.2.2.2.1
  have hF := hM.2.2.2.2.2.2.2.1
  have hun := hM.2.2.2.2.2.2.2.2.1
  have hpa := hM.2.2.2.2.2.2.2.2.2.1
  have hkm := hM.2.2.2.2.2.2.2.2.2.2.1
  have hke := hM.2.2.2.2.2.2.2.2.2.2.2.1
  have hhm := hM.2.2.2.2.2.2.2.2.2.2.2.2.1
  have hhe := hM.2.2.2.2.2.2.2.2.2.2.2.2.2.1
  have hN := hM.2.2.2.2.2.2.2.2.2.2.2.2.2.2
  have hpr := lp_rng hL
  have hqe := lq_eq hL
  have hwr := hL.2.1
  have hrr := hL.1
  have hdr := hL.2.2.1
  have hnt := hL.2.2.2.1
  have hwF := hS.2.1.1
  have hhF := hS.2.1.2.1
  have hvF := hS.2.1.2.2.2
  have hH8 := hS.2.2.2.2.2.2.1
  have hU8 := hS.2.2.1
  have hK2 := hS.2.2.2.2.1
  have hLn := hS.2.2.2.2.2.2.2.2
  refine mRun.go (q_iload_n dX9_write_0 rfl rfl) ?_
  refine mRun.go (q_i2l dX9_write_1 hx) ?_
  refine mRun.go (q_ldc2 (a := 32) dX9_write_2 gw_852) ?_
  refine mRun.go (q_ldc2 (a := 126) dX9_write_5 gw_853) ?_
  refine mRun.go (q_callSi [ml x, ml 32, ml 126] [] dX9_write_8 co_X9_114 ⟨Nat.le_of_ble_eq_true rfl, Nat.le_of_ble_eq_true rfl⟩ gw_855 rfl rfl (Nat.le_of_ble_eq_true rfl) (k_in (by omega) (by omega) (by omega))) ?_
  refine r_if_ne (tgt := 16) dX9_write_11 (by decide) (by split <;> omega) (fun c11 => ?_) (fun c11 => ?_)
  · have h11 := ite01 c11
    refine mRun.go (q_aload_n dX9_write_16 rfl rfl) ?_
    refine mRun.go (q_getE (x := sLn S) dX9_write_17 fo_X9_118 hD.1 rfl hsz) ?_
    refine mRun.go (q_sipush dX9_write_20 (by decide)) ?_
    refine r_icmp_ne (tgt := 29) dX9_write_23 (by decide) (by omega) (by omega) (fun c23 => ?_) (fun c23 => ?_)
    · refine mRun.go (q_aload_n dX9_write_29 rfl rfl) ?_
      refine mRun.go (q_getR dX9_write_30 fo_X9_31 hD.1 rfl) ?_
      refine mRun.go (q_aload_n dX9_write_33 rfl rfl) ?_
      refine mRun.go (q_getE (x := sLn S) dX9_write_34 fo_X9_118 hD.1 rfl hsz) ?_
      refine mRun.go (q_iload_n dX9_write_37 rfl rfl) ?_
      refine mRun.go (q_iast dX9_write_38 hD.2.2.2.2.2.2.2.2.1 (by omega) (by omega)) ?_
      refine mRun.go (q_aload_n dX9_write_39 rfl rfl) ?_
      refine mRun.go (q_dup dX9_write_40 rfl) ?_
      refine mRun.go (q_getE (x := sLn S) dX9_write_41 fo_X9_118 hD.1 rfl (by rw [mup_nf (by decide)]; exact hsz)) ?_
      refine mRun.go (q_iconst dX9_write_44) ?_
      refine mRun.go (q_iadd dX9_write_45) ?_
      refine mRun.go (q_putI dX9_write_46 fo_X9_118 fp_9_15 hD.1 rfl) ?_
      refine mRun.go (q_aload_n dX9_write_49 rfl rfl) ?_
      refine mRun.go (q_getE (x := sLn S + 1) dX9_write_50 fo_X9_118 hD.1 rfl mup_self) ?_
      refine r_iret dX9_write_53 rfl ?_
      have e0 : a_write S x = sLn S + 1 := by simp only [a_write]; rw [if_pos (by omega), if_pos (by omega)]
      have e9 : z_write S x = ((iup (sC S) (sLn S) x, sLn S + 1), S.2) := by unfold z_write; rw [if_pos ⟨by omega, by omega⟩]
      rw [e0, e9]
      obtain ⟨a1, a2, a3, a4, a5, a6, a7, a8, a9, b1, b2, b3, b4⟩ := hM.2.2
      obtain ⟨d1, d2, d3, d4, d5, d6, d7⟩ := rm_keep (K := mup (mup I 152 (sLn S).toNat x) 144 15 (sLn S + 1)) (q := 152) (j := 15) hM.2.2 hL (fun r p p2 _ => by rw [mup_nf p, mup_nf p2]) (fun k p _ => by rw [mup_ne2 p, mup_ne (by decide)]) (by omega) (by omega)
      refine ⟨rfl, _, rfl, fun r hr => by rw [mup_nf (by omega), mup_nf (by omega)], (nrm_mup (nrm_mup hI hx) (by omega)), hD, mup_self, fun k hk => ?_, fun i hi => ?_, fun i => ?_, d1, d2, d3, d4, d5, d6, by rw [mup_ne2 (by decide), mup_ne (by decide)]; exact b2, fun k hk => by rw [mup_nf (by decide), mup_nf (by decide)]; exact b3 k hk, d7⟩
      · have hk : (k : Int) < sLn S + 1 := hk
        show (mup (mup I 152 (sLn S).toNat x) 144 15 (sLn S + 1)) 152 k = (if (k : Int) = sLn S then x else sC S k)
        rw [mup_ne (by decide)]
        by_cases z : (k : Int) = sLn S
        · rw [if_pos z, show (sLn S).toNat = k by omega, mup_self]
        · rw [if_neg z, mup_ne2 (by omega)]; exact a2 k (by omega)
      · have hi : ¬ (0 ≤ i ∧ i < sLn S + 1) := hi
        show (if i = sLn S then x else sC S i) = 0
        rw [if_neg (by omega)]; exact a3 i (by omega)
      · show -2147483648 ≤ (if i = sLn S then x else sC S i) ∧ (if i = sLn S then x else sC S i) < 2147483648
        split
        · exact hx
        · exact a4 i
    · refine mRun.go (q_bipush dX9_write_26 (by decide)) ?_
      refine r_iret dX9_write_28 rfl ?_
      have e0 : a_write S x = (-3) := by simp only [a_write]; first | (rw [if_pos (by omega)]; done) | (rw [if_neg (by omega)]; done) | (rw [if_pos (by omega), if_pos (by omega)]; done) | (rw [if_pos (by omega), if_neg (by omega)]; done) | (rw [if_neg (by omega), if_pos (by omega)]; done) | (rw [if_neg (by omega), if_neg (by omega)]; done)
      have e9 : z_write S x = S := by unfold z_write; rw [if_neg (by omega)]
      rw [e0, e9]
      exact outm_q hM hS hI frm_rf
  · have h11 := ite00 (Classical.not_not.mp c11)
    refine mRun.go (q_iconst dX9_write_14) ?_
    refine r_iret dX9_write_15 rfl ?_
    have e0 : a_write S x = (-1) := by simp only [a_write]; first | (rw [if_pos (by omega)]; done) | (rw [if_neg (by omega)]; done) | (rw [if_pos (by omega), if_pos (by omega)]; done) | (rw [if_pos (by omega), if_neg (by omega)]; done) | (rw [if_neg (by omega), if_pos (by omega)]; done) | (rw [if_neg (by omega), if_neg (by omega)]; done)
    have e9 : z_write S x = S := by unfold z_write; rw [if_neg (by omega)]
    rw [e0, e9]
    exact outm_q hM hS hI frm_rf

set_option maxRecDepth 100000 in
theorem g_hear {σ : List mC} {I : mI} {S : Sx} {B : Int} {x v : Int} (hM : MS σ I S) (hS : SxOk B S) (hx : -2147483648 ≤ x ∧ x < 2147483648) (hv : -2147483648 ≤ v ∧ v < 2147483648) : mMt mX9_hear [mr 144, mi x, mi v] (σ, I) (OutM σ I (z_hear S x v) (a_hear S x v)) := by
  refine mMt.of pl_9 (Nat.le_of_ble_eq_true rfl) ?_
  show mRun mZt mX9_hear 0 [some (mr 144), some (mi x), some (mi v)] [] (σ, I) _
  have hI := hM.1
  have hD := hM.2.1
  have hL := hS.1
  have hsz := hM.2.2.1
  have hLR := hM.2.2.2.2.2.2.1
  have hF := hM.2.2.2.2.2.2.2.1
  have hun := hM.2.2.2.2.2.2.2.2.1
  have hpa := hM.2.2.2.2.2.2.2.2.2.1
  have hkm := hM.2.2.2.2.2.2.2.2.2.2.1
  have hke := hM.2.2.2.2.2.2.2.2.2.2.2.1
  have hhm := hM.2.2.2.2.2.2.2.2.2.2.2.2.1
  have hhe := hM.2.2.2.2.2.2.2.2.2.2.2.2.2.1
  have hN := hM.2.2.2.2.2.2.2.2.2.2.2.2.2.2
  have hpr := lp_rng hL
  have hqe := lq_eq hL
  have hwr := hL.2.1
  have hrr := hL.1
  have hdr := hL.2.2.1
  have hnt := hL.2.2.2.1
  have hwF := hS.2.1.1
  have hhF := hS.2.1.2.1
  have hvF := hS.2.1.2.2.2
  have hH8 := hS.2.2.2.2.2.2.1
  have hU8 := hS.2.2.1
  have hK2 := hS.2.2.2.2.1
  have hLn := hS.2.2.2.2.2.2.2.2
  refine mRun.go (q_aload_n dX9_hear_0 rfl rfl) ?_
  refine mRun.go (q_iload_n dX9_hear_1 rfl rfl) ?_
  refine mRun.go (q_callVi (r := 144) [mi x] [] dX9_hear_2 co_X9_195 ⟨Nat.le_of_ble_eq_true rfl, Nat.le_of_ble_eq_true rfl⟩ gw_922 gs_38 rfl hD.1 rfl rfl rfl (Nat.le_of_ble_eq_true rfl) (m_isPlace hI hD hL hLR hx)) ?_
  refine r_if_eq (tgt := 20) dX9_hear_5 (by decide) (by split <;> omega) (fun c5 => ?_) (fun c5 => ?_)
  · have h5 := ite00 c5
    refine mRun.go (q_iconst dX9_hear_20) ?_
    refine r_iret dX9_hear_21 rfl ?_
    have e0 : a_hear S x v = (-1) := by simp only [a_hear, isP]; first | (rw [if_pos (by omega)]; done) | (rw [if_neg (by omega)]; done) | (rw [if_pos (by omega), if_pos (by omega)]; done) | (rw [if_pos (by omega), if_neg (by omega)]; done) | (rw [if_neg (by omega), if_pos (by omega)]; done) | (rw [if_neg (by omega), if_neg (by omega)]; done)
    have e9 : z_hear S x v = S := by simp only [z_hear, isP]; rw [if_neg (by omega)]
    rw [e0, e9]
    exact outm_q hM hS hI frm_rf
  · have h5 := ite01 c5
    refine mRun.go (q_iload_n dX9_hear_8 rfl rfl) ?_
    refine mRun.go (q_i2l dX9_hear_9 hv) ?_
    refine mRun.go (q_lconst (a := 0) dX9_hear_10 (by decide)) ?_
    refine mRun.go (q_ldc2 (a := 3) dX9_hear_11 gw_1006) ?_
    refine mRun.go (q_callSi [ml v, ml 0, ml 3] [] dX9_hear_14 co_X9_114 ⟨Nat.le_of_ble_eq_true rfl, Nat.le_of_ble_eq_true rfl⟩ gw_855 rfl rfl (Nat.le_of_ble_eq_true rfl) (k_in (by omega) (by omega) (by omega))) ?_
    refine r_if_ne (tgt := 22) dX9_hear_17 (by decide) (by split <;> omega) (fun c17 => ?_) (fun c17 => ?_)
    · have h17 := ite01 c17
      refine mRun.go (q_aload_n dX9_hear_22 rfl rfl) ?_
      refine mRun.go (q_getE (x := ((sH S).1 : Int)) dX9_hear_23 fo_X9_107 hD.1 rfl hhm) ?_
      refine mRun.go (q_bipush dX9_hear_26 (by decide)) ?_
      refine r_icmp_ne (tgt := 34) dX9_hear_28 (by decide) (by omega) (by omega) (fun c28 => ?_) (fun c28 => ?_)
      · refine mRun.go (q_aload_n dX9_hear_34 rfl rfl) ?_
        refine mRun.go (q_getR dX9_hear_35 fo_X9_28 hD.1 rfl) ?_
        refine mRun.go (q_iconst dX9_hear_38) ?_
        refine mRun.go (q_aload_n dX9_hear_39 rfl rfl) ?_
        refine mRun.go (q_getE (x := ((sH S).1 : Int)) dX9_hear_40 fo_X9_107 hD.1 rfl hhm) ?_
        refine mRun.go (q_imul dX9_hear_43) ?_
        refine mRun.go (q_iload_n dX9_hear_44 rfl rfl) ?_
        refine mRun.go (q_iast dX9_hear_45 hD.2.2.2.2.2.2.2.1 (by omega) (by omega)) ?_
        refine mRun.go (q_aload_n dX9_hear_46 rfl rfl) ?_
        refine mRun.go (q_getR dX9_hear_47 fo_X9_28 hD.1 rfl) ?_
        refine mRun.go (q_iconst dX9_hear_50) ?_
        refine mRun.go (q_aload_n dX9_hear_51 rfl rfl) ?_
        refine mRun.go (q_getE (x := ((sH S).1 : Int)) dX9_hear_52 fo_X9_107 hD.1 rfl (by rw [mup_nf (by decide)]; exact hhm)) ?_
        refine mRun.go (q_imul dX9_hear_55) ?_
        refine mRun.go (q_iconst dX9_hear_56) ?_
        refine mRun.go (q_iadd dX9_hear_57) ?_
        refine mRun.go (q_iload_n dX9_hear_58 rfl rfl) ?_
        refine mRun.go (q_iast dX9_hear_59 hD.2.2.2.2.2.2.2.1 (by omega) (by omega)) ?_
        refine mRun.go (q_aload_n dX9_hear_60 rfl rfl) ?_
        refine mRun.go (q_dup dX9_hear_61 rfl) ?_
        refine mRun.go (q_getE (x := ((sH S).1 : Int)) dX9_hear_62 fo_X9_107 hD.1 rfl (by rw [mup_nf (by decide), mup_nf (by decide)]; exact hhm)) ?_
        refine mRun.go (q_iconst dX9_hear_65) ?_
        refine mRun.go (q_iadd dX9_hear_66) ?_
        refine mRun.go (q_putI dX9_hear_67 fo_X9_107 fp_9_13 hD.1 rfl) ?_
        refine mRun.go (q_aload_n dX9_hear_70 rfl rfl) ?_
        refine mRun.go (q_getE (x := ((sH S).1 : Int) + 1) dX9_hear_71 fo_X9_107 hD.1 rfl mup_self) ?_
        refine r_iret dX9_hear_74 rfl ?_
        have e0 : a_hear S x v = ((sH S).1 : Int) + 1 := by simp only [a_hear, isP]; rw [if_pos (by omega), if_neg (by omega)]; omega
        have e9 : z_hear S x v = (S.1, sL S, sF S, sU S, sK S, ((sH S).1 + 1, (fun k => if k = (sH S).1 then x else (sH S).2.1 k), fun k => if k = (sH S).1 then v else (sH S).2.2 k)) := by simp only [z_hear, isP]; rw [if_pos (by omega)]
        rw [e0, e9]
        obtain ⟨a1, a2, a3, a4, a5, a6, a7, a8, a9, b1, b2, b3, b4⟩ := hM.2.2
        obtain ⟨d1, d2, d3, d4, d5, d6, d7⟩ := rm_keep (K := mup (mup (mup I 151 (2 * ((sH S).1 : Int)).toNat x) 151 (2 * ((sH S).1 : Int) + 1).toNat v) 144 13 (((sH S).1 : Int) + 1)) (q := 151) (j := 13) hM.2.2 hL (fun r p p2 _ => by rw [mup_nf p, mup_nf p2, mup_nf p2]) (fun k p _ => by rw [mup_ne2 p, mup_ne (by decide), mup_ne (by decide)]) (by omega) (by omega)
        refine ⟨rfl, _, rfl, fun r hr => by rw [mup_nf (by omega), mup_nf (by omega), mup_nf (by omega)], (nrm_mup (nrm_mup (nrm_mup hI hx) hv) (by omega)), hD, by rw [mup_ne2 (by decide), mup_ne (by decide), mup_ne (by decide)]; exact a1, fun k hk => by rw [mup_nf (by decide), mup_nf (by decide), mup_nf (by decide)]; exact a2 k hk, a3, a4, d1, d2, d3, d4, d5, d6, ?_, fun k hk => ?_, d7⟩
        · show mup _ 144 13 _ 144 13 = (((sH S).1 + 1 : Nat) : Int)
          rw [mup_self]; omega
        · have hk : k < (sH S).1 + 1 := hk
          show (mup (mup (mup I 151 (2 * ((sH S).1 : Int)).toNat x) 151 (2 * ((sH S).1 : Int) + 1).toNat v) 144 13 (((sH S).1 : Int) + 1)) 151 (2 * k) = (if k = (sH S).1 then x else (sH S).2.1 k) ∧ (mup (mup (mup I 151 (2 * ((sH S).1 : Int)).toNat x) 151 (2 * ((sH S).1 : Int) + 1).toNat v) 144 13 (((sH S).1 : Int) + 1)) 151 (2 * k + 1) = (if k = (sH S).1 then v else (sH S).2.2 k)
          rw [mup_ne (show 151 ≠ 144 by decide), mup_ne (show 151 ≠ 144 by decide), mup_ne2 (by omega)]
          by_cases z : k = (sH S).1
          · rw [if_pos z, if_pos z, show (2 * ((sH S).1 : Int)).toNat = 2 * k by omega, show (2 * ((sH S).1 : Int) + 1).toNat = 2 * k + 1 by omega, mup_self, mup_self]; exact ⟨rfl, rfl⟩
          · rw [if_neg z, if_neg z, mup_ne2 (by omega), mup_ne2 (by omega), mup_ne2 (by omega)]; exact b3 k (by omega)
      · refine mRun.go (q_bipush dX9_hear_31 (by decide)) ?_
        refine r_iret dX9_hear_33 rfl ?_
        have e0 : a_hear S x v = (-3) := by simp only [a_hear, isP]; first | (rw [if_pos (by omega)]; done) | (rw [if_neg (by omega)]; done) | (rw [if_pos (by omega), if_pos (by omega)]; done) | (rw [if_pos (by omega), if_neg (by omega)]; done) | (rw [if_neg (by omega), if_pos (by omega)]; done) | (rw [if_neg (by omega), if_neg (by omega)]; done)
        have e9 : z_hear S x v = S := by simp only [z_hear, isP]; rw [if_neg (by omega)]
        rw [e0, e9]
        exact outm_q hM hS hI frm_rf
    · have h17 := ite00 (Classical.not_not.mp c17)
      refine mRun.go (q_iconst dX9_hear_20) ?_
      refine r_iret dX9_hear_21 rfl ?_
      have e0 : a_hear S x v = (-1) := by simp only [a_hear, isP]; first | (rw [if_pos (by omega)]; done) | (rw [if_neg (by omega)]; done) | (rw [if_pos (by omega), if_pos (by omega)]; done) | (rw [if_pos (by omega), if_neg (by omega)]; done) | (rw [if_neg (by omega), if_pos (by omega)]; done) | (rw [if_neg (by omega), if_neg (by omega)]; done)
      have e9 : z_hear S x v = S := by simp only [z_hear, isP]; rw [if_neg (by omega)]
      rw [e0, e9]
      exact outm_q hM hS hI frm_rf
