/-! ===== the reference: hours pass ===== -/
set_option maxRecDepth 100000 in
theorem g_pass_loop {σ : List mC} {I : mI} {S : Sx} {B : Int} {N : Nat} (hS : SxOk B S) (hB : B ≤ 1000000) (hN : N ≤ 24) : ∀ (n m : Nat) (K : mI), N - m < n → m ≤ N → (∀ r, r < 144 → K r = I r) → MS σ K (putU S (hoursF (sL S) m (sF S))) → mRun mZt mX9_pass 20 [some (mr 144), some (mi (N : Int)), some (mi (m : Int))] [] (σ, K) (OutM σ I (putU S (hoursF (sL S) N (sF S))) (fH (hoursF (sL S) N (sF S)))) := by
  intro n
  induction n with
  | zero => intro m K h; omega
  | succ n ih =>
    intro m K hn hm hfr hM
    have hhr := (hoursF_ok hS.1 hS.2.1 m).2.1
    refine mRun.go (q_iload_n dX9_pass_20 rfl rfl) ?_
    refine mRun.go (q_iload_n dX9_pass_21 rfl rfl) ?_
    refine r_icmp_ge (tgt := 39) dX9_pass_22 (by decide) (by omega) (by omega) (fun c22 => ?_) (fun c22 => ?_)
    · refine mRun.go (q_aload_n dX9_pass_39 rfl rfl) ?_
      refine mRun.go (q_getR dX9_pass_40 fo_X9_16 hM.2.1.1 rfl) ?_
      refine mRun.go (q_iconst dX9_pass_43) ?_
      refine mRun.go (q_ialdE (x := fH (hoursF (sL S) m (sF S))) dX9_pass_44 hM.2.1.2.2.2.1 (by omega) (by omega) hM.2.2.2.2.2.2.2.1.2.1) ?_
      refine r_iret dX9_pass_45 rfl ?_
      have hme : m = N := by omega
      subst hme
      exact ⟨rfl, K, rfl, hfr, hM⟩
    · refine mRun.go (q_aload_n dX9_pass_25 rfl rfl) ?_
      refine mRun.go (q_aload_n dX9_pass_26 rfl rfl) ?_
      refine mRun.go (q_getR dX9_pass_27 fo_X9_16 hM.2.1.1 rfl) ?_
      have hok := hoursF_ok hS.1 hS.2.1 m
      obtain ⟨v0, h0, hc0, rfl, J, rfl, hJ, hfJ, hFJ⟩ := m_hourGoes (F := hoursF (S.2.1) m (S.2.2.1)) hM.1 hM.2.1 hS.1 hM.2.2.2.2.2.2.1 hM.2.1.2.2.2.1 (show FRM K 147 0 (sL S) (hoursF (sL S) m (sF S)) from hM.2.2.2.2.2.2.2.1) (Or.inl rfl) hM.2.2.2.2.2.2.2.2.2.2.2.2.2.2 hok.1 ⟨hok.2.1.1, by have h8 : fH (hoursF (S.2.1) m (S.2.2.1)) ≤ B + m := hok.2.1.2; omega⟩ hok.2.2.2
      refine mRun.go (q_callVv (r := 144) [mr 147] [] dX9_pass_30 co_X9_223 ⟨Nat.le_of_ble_eq_true rfl, Nat.le_of_ble_eq_true rfl⟩ gw_996 gs_48 rfl hM.2.1.1 rfl rfl rfl (Nat.le_of_ble_eq_true rfl) hc0) ?_
      refine mRun.go (q_iinc (ls' := [some (mr 144), some (mi (N : Int)), some (mi ((m : Int) + 1))]) dX9_pass_33 rfl (Nat.le_of_ble_eq_true rfl) rfl) ?_
      refine mRun.go (q_goto (tgt := 20) dX9_pass_36 (by decide)) ?_
      have e1 : ((m : Int) + 1) = ((m + 1 : Nat) : Int) := by omega
      rw [e1]
      exact ih (m + 1) J (by omega) (by omega) (fun r a => (hfJ r (by omega) (by omega)).trans (hfr r a)) ⟨hJ, hM.2.1, rm_now (S := putU S (hoursF (S.2.1) m (S.2.2.1))) hM.2.2 hS.1 (fun r p q => hfJ r q p) hFJ⟩

set_option maxRecDepth 100000 in
theorem g_pass {σ : List mC} {I : mI} {S : Sx} {B : Int} {n : Int} (hM : MS σ I S) (hS : SxOk B S) (hB : B ≤ 1000000) (hn : -2147483648 ≤ n ∧ n < 2147483648) : mMt mX9_pass [mr 144, mi n] (σ, I) (OutM σ I (z_pass S n) (a_pass S n)) := by
  refine mMt.of pl_9 (Nat.le_of_ble_eq_true rfl) ?_
  show mRun mZt mX9_pass 0 [some (mr 144), some (mi n), none] [] (σ, I) _
  have hI := hM.1
  have hD := hM.2.1
  have hL := hS.1
  have hsz := hM.2.2.1
  have hLR := hM.2.2.2.2.2.2.1
  have hF := hM.2.2.2.2.2.2.2.1
  have hun := hM.2.2.2.2.2.2.2.2.1
  have hpa := hM.2.2.2.2.2.2.2.2.2.1
  have hkm := hM.2.2.2.2.2.2.2.2.2.2.1
  have hke := hM.2.2.2.2.2.2.2.2.2.2.2.1
  have hhm := hM.2.2.2.2.2.2.2.2.2.2.2.2.1
  have hhe := hM.2.2.2.2.2.2.2.2.2.2.2.2.2.1
  have hN := hM.2.2.2.2.2.2.2.2.2.2.2.2.2.2
  have hpr := lp_rng hL
  have hqe := lq_eq hL
  have hwr := hL.2.1
  have hrr := hL.1
  have hdr := hL.2.2.1
  have hnt := hL.2.2.2.1
  have hwF := hS.2.1.1
  have hhF := hS.2.1.2.1
  have hvF := hS.2.1.2.2.2
  have hH8 := hS.2.2.2.2.2.2.1
  have hU8 := hS.2.2.1
  have hK2 := hS.2.2.2.2.1
  have hLn := hS.2.2.2.2.2.2.2.2
  refine mRun.go (q_iload_n dX9_pass_0 rfl rfl) ?_
  refine mRun.go (q_i2l dX9_pass_1 hn) ?_
  refine mRun.go (q_lconst (a := 1) dX9_pass_2 (by decide)) ?_
  refine mRun.go (q_ldc2 (a := 24) dX9_pass_3 gw_989) ?_
  refine mRun.go (q_callSi [ml n, ml 1, ml 24] [] dX9_pass_6 co_X9_114 ⟨Nat.le_of_ble_eq_true rfl, Nat.le_of_ble_eq_true rfl⟩ gw_855 rfl rfl (Nat.le_of_ble_eq_true rfl) (k_in (by omega) (by omega) (by omega))) ?_
  refine r_if_ne (tgt := 14) dX9_pass_9 (by decide) (by split <;> omega) (fun c9 => ?_) (fun c9 => ?_)
  · have h9 := ite01 c9
    refine mRun.go (q_aload_n dX9_pass_14 rfl rfl) ?_
    obtain ⟨v0, h0, hc0, rfl, K, rfl, hK, hlo, hRK⟩ := m_remember hM hS
    have hLRK : LRM K (sL S) := hRK.2.2.2.2.1
    have hFK : FRM K 147 0 (sL S) (sF S) := hRK.2.2.2.2.2.1
    refine mRun.go (q_callVv (r := 144) [] [] dX9_pass_15 co_X9_220 ⟨Nat.le_of_ble_eq_true rfl, Nat.le_of_ble_eq_true rfl⟩ gw_992 gs_47 rfl hD.1 rfl rfl rfl (Nat.le_of_ble_eq_true rfl) hc0) ?_
    refine mRun.go (q_iconst dX9_pass_18) ?_
    refine mRun.go (q_istore_n (ls' := [some (mr 144), some (mi n), some (mi 0)]) dX9_pass_19 rfl (Nat.le_of_ble_eq_true rfl) rfl) ?_
    have e0 : a_pass S n = fH (hoursF (sL S) n.toNat (sF S)) := by unfold a_pass; rw [if_pos (by omega)]
    have e9 : z_pass S n = putU S (hoursF (sL S) n.toNat (sF S)) := by unfold z_pass; rw [if_pos (by omega)]
    rw [e0, e9]
    have h := g_pass_loop (I := K) (N := n.toNat) hS hB (by omega) (n.toNat + 1) 0 K (by omega) (by omega) (fun _ _ => rfl) ⟨hK, hD, hRK⟩
    rw [show ((n.toNat : Nat) : Int) = n by omega] at h
    refine mRun.im h ?_
    rintro v h ⟨h1, J, h2, h3, h4⟩
    exact ⟨h1, J, h2, fun r a => (h3 r a).trans (hlo r a), h4⟩
  · have h9 := ite00 (Classical.not_not.mp c9)
    refine mRun.go (q_iconst dX9_pass_12) ?_
    refine r_iret dX9_pass_13 rfl ?_
    have e0 : a_pass S n = (-1) := by simp only [a_pass, isD, isP, isT, tvS]; first | (rw [if_pos (by omega)]; done) | (rw [if_neg (by omega)]; done) | (rw [if_pos (by omega), if_pos (by omega)]; done) | (rw [if_pos (by omega), if_neg (by omega)]; done) | (rw [if_neg (by omega), if_pos (by omega)]; done) | (rw [if_neg (by omega), if_neg (by omega)]; done)
    have e9 : z_pass S n = S := by simp only [z_pass, isD, isP, isT, tvS]; rw [if_neg (by omega)]
    rw [e0, e9]
    exact outm_q hM hS hI frm_rf
