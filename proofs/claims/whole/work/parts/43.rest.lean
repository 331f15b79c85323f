/-! ===== DrumMaps: undoing, keeping, hearing; hours, chances, years ===== -/
set_option maxRecDepth 100000 in
theorem f_undo {σ : List mC} {I : mI} {S : Sx} {B : Int} (hC : CS σ I S) (hS : SxOk B S)  : mMt mX8_undo [mr 0] (σ, I) (Out σ I (z_undo S) (a_undo S)) := by
  refine mMt.of pl_8 (Nat.le_of_ble_eq_true rfl) ?_
  show mRun mZt mX8_undo 0 [some (mr 0)] [] (σ, I) _
  obtain ⟨q, hq1, hq2, hU, hq4⟩ := hC.2.2.1
  have hI := hC.1
  have hD := hC.2.1
  have hL := hS.1
  have hT := hC.2.2.2.1
  have hLR := hC.2.2.2.2.1
  have hF := hC.2.2.2.2.2.1
  have hpr := lp_rng hL
  have hqe := lq_eq hL
  have hwr := hL.2.1
  have hdr := hL.2.2.1
  have hnt := hL.2.2.2.1
  have hwF := hS.2.1.1
  have hhF := hS.2.1.2.1
  have hH8 := hS.2.2.2.2.2.2.1
  have hU8 := hS.2.2.1
  have hK2 := hS.2.2.2.2.1
  have hLn := hS.2.2.2.2.2.2.2.2
  refine mRun.go (q_aload_n dX8_undo_0 rfl rfl) ?_
  refine mRun.go (q_getR dX8_undo_1 fo_X8_42 hD.1 rfl) ?_
  refine mRun.go (q_aload_n dX8_undo_4 rfl rfl) ?_
  refine mRun.go (q_getR dX8_undo_5 fo_X8_33 hD.1 rfl) ?_
  by_cases hn : (sU S).1 = 0
  · refine mRun.go (q_callVi (r := 36) [mr 28] [] dX8_undo_8 co_X8_205 ⟨Nat.le_of_ble_eq_true rfl, Nat.le_of_ble_eq_true rfl⟩ gw_603 gw_604 rfl hU.1 rfl rfl rfl (Nat.le_of_ble_eq_true rfl) (k_undo0 hC hn)) ?_
    refine mRun.go (q_if_eq_t (tgt := 24) dX8_undo_11 (by decide) (by omega) (by decide)) ?_
    refine mRun.go (q_bipush dX8_undo_24 (by decide)) ?_
    refine r_iret dX8_undo_26 rfl ?_
    have e0 : a_undo S = (-2) := by unfold a_undo; rw [if_pos hn]
    have e9 : z_undo S = S := by unfold z_undo; rw [if_pos hn]
    rw [e0, e9]
    exact out_q hC hS hI frq_rf
  · obtain ⟨K, hc0, hfK, hCK⟩ := k_undo1 hC hS hn
    have eU : z_undo S = (S.1, sL S, (sU S).2 ((sU S).1 - 1), ((sU S).1 - 1, (sU S).2), S.2.2.2.2) := by unfold z_undo; rw [if_neg hn]
    have hK36 : K 36 1 = (((sU S).1 - 1 : Nat) : Int) := by have h := hCK.2.2.2.2.2.2.2.2.2.2; rw [eU] at h; exact h
    refine mRun.go (q_callVi (r := 36) [mr 28] [] dX8_undo_8 co_X8_205 ⟨Nat.le_of_ble_eq_true rfl, Nat.le_of_ble_eq_true rfl⟩ gw_603 gw_604 rfl hU.1 rfl rfl rfl (Nat.le_of_ble_eq_true rfl) hc0) ?_
    refine mRun.go (q_if_eq_f (tgt := 24) dX8_undo_11 (by decide) (by omega) (by decide)) ?_
    refine mRun.go (q_aload_n dX8_undo_14 rfl rfl) ?_
    refine mRun.go (q_getR dX8_undo_15 fo_X8_42 hD.1 rfl) ?_
    refine mRun.go (q_getE (x := (((sU S).1 - 1 : Nat) : Int)) dX8_undo_18 fo_X8_209 hU.1 rfl hK36) ?_
    refine mRun.go (q_goto (tgt := 26) dX8_undo_21 (by decide)) ?_
    refine r_iret dX8_undo_26 rfl ?_
    have e0 : a_undo S = (((sU S).1 - 1 : Nat) : Int) := by unfold a_undo; rw [if_neg hn]
    rw [e0]
    exact ⟨rfl, σ, K, rfl, hfK, fun _ _ => rfl, rfl, hCK⟩

set_option maxRecDepth 100000 in
theorem f_back {σ : List mC} {I : mI} {S : Sx} {B : Int} (hC : CS σ I S) (hS : SxOk B S)  : mMt mX8_back [mr 0] (σ, I) (Out σ I (z_back S) (a_back S)) := by
  refine mMt.of pl_8 (Nat.le_of_ble_eq_true rfl) ?_
  show mRun mZt mX8_back 0 [some (mr 0)] [] (σ, I) _
  obtain ⟨q, hq1, hq2, hU, hq4⟩ := hC.2.2.1
  have hI := hC.1
  have hD := hC.2.1
  have hL := hS.1
  have hT := hC.2.2.2.1
  have hLR := hC.2.2.2.2.1
  have hF := hC.2.2.2.2.2.1
  have hpr := lp_rng hL
  have hqe := lq_eq hL
  have hwr := hL.2.1
  have hdr := hL.2.2.1
  have hnt := hL.2.2.2.1
  have hwF := hS.2.1.1
  have hhF := hS.2.1.2.1
  have hH8 := hS.2.2.2.2.2.2.1
  have hU8 := hS.2.2.1
  have hK2 := hS.2.2.2.2.1
  have hLn := hS.2.2.2.2.2.2.2.2
  refine mRun.go (q_aload_n dX8_back_0 rfl rfl) ?_
  refine mRun.go (q_getR dX8_back_1 fo_X8_46 hD.1 rfl) ?_
  refine mRun.go (q_aload_n dX8_back_4 rfl rfl) ?_
  refine mRun.go (q_getR dX8_back_5 fo_X8_33 hD.1 rfl) ?_
  by_cases hn : (sK S).1 = 0
  · refine mRun.go (q_callVi (r := 102) [mr 28] [] dX8_back_8 co_X8_205 ⟨Nat.le_of_ble_eq_true rfl, Nat.le_of_ble_eq_true rfl⟩ gw_603 gw_604 rfl (dm_k hD).1 rfl rfl rfl (Nat.le_of_ble_eq_true rfl) (k_back0 hC hn)) ?_
    refine mRun.go (q_if_ne_f (tgt := 17) dX8_back_11 (by decide) (by omega) (by decide)) ?_
    refine mRun.go (q_bipush dX8_back_14 (by decide)) ?_
    refine r_iret dX8_back_16 rfl ?_
    have e0 : a_back S = (-2) := by unfold a_back; rw [if_pos hn]
    have e9 : z_back S = S := by unfold z_back; rw [if_pos hn]
    rw [e0, e9]
    exact out_q hC hS hI frq_rf
  · obtain ⟨K, hc0, hfK, hKn, hK102, hCK⟩ := k_back1 hC hS hn
    refine mRun.go (q_callVi (r := 102) [mr 28] [] dX8_back_8 co_X8_205 ⟨Nat.le_of_ble_eq_true rfl, Nat.le_of_ble_eq_true rfl⟩ gw_603 gw_604 rfl (dm_k hD).1 rfl rfl rfl (Nat.le_of_ble_eq_true rfl) hc0) ?_
    refine mRun.go (q_if_ne_t (tgt := 17) dX8_back_11 (by decide) (by omega) (by decide)) ?_
    refine mRun.go (q_aload_n dX8_back_17 rfl rfl) ?_
    refine mRun.go (q_getR dX8_back_18 fo_X8_42 hD.1 rfl) ?_
    refine mRun.go (q_iconst dX8_back_21) ?_
    refine mRun.go (q_putI dX8_back_22 fo_X8_209 fp_4_1 hU.1 rfl) ?_
    refine mRun.go (q_aload_n dX8_back_25 rfl rfl) ?_
    refine mRun.go (q_getR dX8_back_26 fo_X8_46 hD.1 rfl) ?_
    refine mRun.go (q_getE (x := (((sK S).1 - 1 : Nat) : Int)) dX8_back_29 fo_X8_209 (dm_k hD).1 rfl (by rw [mup_nf (by decide)]; exact hK102)) ?_
    refine r_iret dX8_back_32 rfl ?_
    have e0 : a_back S = (((sK S).1 - 1 : Nat) : Int) := by unfold a_back; rw [if_neg hn]
    rw [e0]
    exact ⟨rfl, σ, _, rfl, fun r a => (mup_nf (by omega)).trans (hfK r a), fun _ _ => rfl, rfl, hCK⟩

set_option maxRecDepth 100000 in
theorem f_keep {σ : List mC} {I : mI} {S : Sx} {B : Int} (hC : CS σ I S) (hS : SxOk B S)  : mMt mX8_keep [mr 0] (σ, I) (Out σ I (z_keep S) (a_keep S)) := by
  refine mMt.of pl_8 (Nat.le_of_ble_eq_true rfl) ?_
  show mRun mZt mX8_keep 0 [some (mr 0)] [] (σ, I) _
  obtain ⟨q, hq1, hq2, hU, hq4⟩ := hC.2.2.1
  have hI := hC.1
  have hD := hC.2.1
  have hL := hS.1
  have hT := hC.2.2.2.1
  have hLR := hC.2.2.2.2.1
  have hF := hC.2.2.2.2.2.1
  have hpr := lp_rng hL
  have hqe := lq_eq hL
  have hwr := hL.2.1
  have hdr := hL.2.2.1
  have hnt := hL.2.2.2.1
  have hwF := hS.2.1.1
  have hhF := hS.2.1.2.1
  have hH8 := hS.2.2.2.2.2.2.1
  have hU8 := hS.2.2.1
  have hK2 := hS.2.2.2.2.1
  have hLn := hS.2.2.2.2.2.2.2.2
  refine mRun.go (q_aload_n dX8_keep_0 rfl rfl) ?_
  refine mRun.go (q_getR dX8_keep_1 fo_X8_46 hD.1 rfl) ?_
  have hfl : mCt mX4_isFull [mr 102] (σ, I) (some (mi (if ((sK S).1 : Int) < 2 then 0 else 1))) (σ, I) := by have h := k_isFull (dm_k hD) hI (by decide); rw [hC.2.2.2.2.2.2.1] at h; exact h
  refine mRun.go (q_callVi (r := 102) [] [] dX8_keep_4 co_X8_273 ⟨Nat.le_of_ble_eq_true rfl, Nat.le_of_ble_eq_true rfl⟩ gw_551 gw_552 rfl (dm_k hD).1 rfl rfl rfl (Nat.le_of_ble_eq_true rfl) hfl) ?_
  refine r_if_eq (tgt := 13) dX8_keep_7 (by decide) (by split <;> omega) (fun c7 => ?_) (fun c7 => ?_)
  · refine mRun.go (q_aload_n dX8_keep_13 rfl rfl) ?_
    refine mRun.go (q_getR dX8_keep_14 fo_X8_46 hD.1 rfl) ?_
    refine mRun.go (q_aload_n dX8_keep_17 rfl rfl) ?_
    refine mRun.go (q_getR dX8_keep_18 fo_X8_33 hD.1 rfl) ?_
    have hn : (sK S).1 < 2 := Classical.byContradiction fun z => by rw [if_neg (by omega)] at c7; omega
    obtain ⟨K, hc0, hfK, hCK⟩ := k_keep1 hC hS hn
    have eK : z_keep S = (S.1, sL S, sF S, sU S, ((sK S).1 + 1, fun k => if k = (sK S).1 then sF S else (sK S).2 k), sH S) := by unfold z_keep; rw [if_neg (by omega)]
    have hK102 : K 102 1 = (((sK S).1 + 1 : Nat) : Int) := by have h := hCK.2.2.2.2.2.2.1; rw [eK] at h; exact h
    refine mRun.go (q_callVv (r := 102) [mr 28] [] dX8_keep_21 co_X8_189 ⟨Nat.le_of_ble_eq_true rfl, Nat.le_of_ble_eq_true rfl⟩ gw_547 gw_548 rfl (dm_k hD).1 rfl rfl rfl (Nat.le_of_ble_eq_true rfl) hc0) ?_
    refine mRun.go (q_aload_n dX8_keep_24 rfl rfl) ?_
    refine mRun.go (q_getR dX8_keep_25 fo_X8_46 hD.1 rfl) ?_
    refine mRun.go (q_getE (x := (((sK S).1 + 1 : Nat) : Int)) dX8_keep_28 fo_X8_209 (dm_k hD).1 rfl hK102) ?_
    refine r_iret dX8_keep_31 rfl ?_
    have e0 : a_keep S = (((sK S).1 + 1 : Nat) : Int) := by unfold a_keep; rw [if_neg (by omega)]
    rw [e0]
    exact ⟨rfl, σ, K, rfl, hfK, fun _ _ => rfl, rfl, hCK⟩
  · refine mRun.go (q_bipush dX8_keep_10 (by decide)) ?_
    refine r_iret dX8_keep_12 rfl ?_
    have hn : (sK S).1 = 2 := Classical.byContradiction fun z => by rw [if_pos (by omega)] at c7; omega
    have e0 : a_keep S = (-3) := by unfold a_keep; rw [if_pos hn]
    have e9 : z_keep S = S := by unfold z_keep; rw [if_pos hn]
    rw [e0, e9]
    exact out_q hC hS hI frq_rf

set_option maxRecDepth 100000 in
theorem f_forget {σ : List mC} {I : mI} {S : Sx} {B : Int} (hC : CS σ I S) (hS : SxOk B S)  : mMt mX8_forget [mr 0] (σ, I) (Out σ I (z_forget S) (((sH S).1 : Int))) := by
  refine mMt.of pl_8 (Nat.le_of_ble_eq_true rfl) ?_
  show mRun mZt mX8_forget 0 [some (mr 0), none] [] (σ, I) _
  obtain ⟨q, hq1, hq2, hU, hq4⟩ := hC.2.2.1
  have hI := hC.1
  have hD := hC.2.1
  have hL := hS.1
  have hT := hC.2.2.2.1
  have hLR := hC.2.2.2.2.1
  have hF := hC.2.2.2.2.2.1
  have hpr := lp_rng hL
  have hqe := lq_eq hL
  have hwr := hL.2.1
  have hdr := hL.2.2.1
  have hnt := hL.2.2.2.1
  have hwF := hS.2.1.1
  have hhF := hS.2.1.2.1
  have hH8 := hS.2.2.2.2.2.2.1
  have hU8 := hS.2.2.1
  have hK2 := hS.2.2.2.2.1
  have hLn := hS.2.2.2.2.2.2.2.2
  refine mRun.go (q_aload_n dX8_forget_0 rfl rfl) ?_
  refine mRun.go (q_getE (x := ((sH S).1 : Int)) dX8_forget_1 fo_X8_242 hD.1 rfl hC.2.2.2.2.2.2.2.2.1) ?_
  refine mRun.go (q_istore_n (ls' := [some (mr 0), some (mi ((sH S).1 : Int))]) dX8_forget_4 rfl (Nat.le_of_ble_eq_true rfl) rfl) ?_
  refine mRun.go (q_aload_n dX8_forget_5 rfl rfl) ?_
  refine mRun.go (q_iconst dX8_forget_6) ?_
  refine mRun.go (q_putI dX8_forget_7 fo_X8_242 fp_8_8 hD.1 rfl) ?_
  refine mRun.go (q_iload_n dX8_forget_10 rfl rfl) ?_
  refine r_iret dX8_forget_11 rfl ?_
  have hfr : ∀ r, r ≠ 0 → mup I 0 8 0 r = I r := fun r a => mup_nf a
  obtain ⟨a1, a2, a3, a4, a5, a6, a7, a8⟩ := hC.2.2.2
  exact ⟨rfl, σ, _, rfl, fun r a => hfr r (by omega), fun _ _ => rfl, rfl, nrm_mup hI (by decide), hD, ⟨q, hq1, hq2, hU, fun k hk => (hq4 k hk).fr hL (fun r a b => hfr r (by omega)) (hfr 23 (by decide))⟩, a1.fr (hfr 1 (by decide)) (hfr 2 (by decide)), a2.fr (fun r a b => hfr r (by omega)), a3.fr hL (fun r a b => hfr r (by omega)) (hfr 23 (by decide)), by rw [hfr 102 (by decide)]; exact a4, fun k hk => (a5 k hk).fr hL (fun r a b => hfr r (by omega)) (hfr 23 (by decide)), mup_self, fun k hk => absurd hk (Nat.not_lt_zero k), by rw [hfr 36 (by decide)]; exact a8⟩

set_option maxRecDepth 100000 in
theorem f_hear {σ : List mC} {I : mI} {S : Sx} {B : Int} {x v : Int} (hC : CS σ I S) (hS : SxOk B S) (hx : -2147483648 ≤ x ∧ x < 2147483648) (hv : -2147483648 ≤ v ∧ v < 2147483648) : mMt mX8_hear [mr 0, mi x, mi v] (σ, I) (Out σ I (z_hear S x v) (a_hear S x v)) := by
  refine mMt.of pl_8 (Nat.le_of_ble_eq_true rfl) ?_
  show mRun mZt mX8_hear 0 [some (mr 0), some (mi x), some (mi v)] [] (σ, I) _
  obtain ⟨q, hq1, hq2, hU, hq4⟩ := hC.2.2.1
  have hI := hC.1
  have hD := hC.2.1
  have hL := hS.1
  have hT := hC.2.2.2.1
  have hLR := hC.2.2.2.2.1
  have hF := hC.2.2.2.2.2.1
  have hpr := lp_rng hL
  have hqe := lq_eq hL
  have hwr := hL.2.1
  have hdr := hL.2.2.1
  have hnt := hL.2.2.2.1
  have hwF := hS.2.1.1
  have hhF := hS.2.1.2.1
  have hH8 := hS.2.2.2.2.2.2.1
  have hU8 := hS.2.2.1
  have hK2 := hS.2.2.2.2.1
  have hLn := hS.2.2.2.2.2.2.2.2
  refine mRun.go (q_aload_n dX8_hear_0 rfl rfl) ?_
  refine mRun.go (q_getR dX8_hear_1 fo_X8_26 hD.1 rfl) ?_
  refine mRun.go (q_iload_n dX8_hear_4 rfl rfl) ?_
  have hh5 := @k_hasPlace σ I 21 x (dm_l hD) hI hx
  rw [hLR.1] at hh5
  refine mRun.go (q_callVi (r := 21) [mi x] [] dX8_hear_5 co_X8_116 ⟨Nat.le_of_ble_eq_true rfl, Nat.le_of_ble_eq_true rfl⟩ gw_335 gw_336 rfl (dm_l hD).1 rfl rfl rfl (Nat.le_of_ble_eq_true rfl) hh5) ?_
  refine r_if_eq (tgt := 20) dX8_hear_8 (by decide) (by split <;> omega) (fun c8 => ?_) (fun c8 => ?_)
  · have h8 := ite00 c8
    refine mRun.go (q_iconst dX8_hear_20) ?_
    refine r_iret dX8_hear_21 rfl ?_
    have e0 : a_hear S x v = (-1) := by simp only [a_hear, isD, isP, isT, tvS]; first | (rw [if_pos (by omega)]; done) | (rw [if_neg (by omega)]; done) | (rw [if_pos (by omega), if_pos (by omega)]; done) | (rw [if_pos (by omega), if_neg (by omega)]; done) | (rw [if_neg (by omega), if_pos (by omega)]; done) | (rw [if_neg (by omega), if_neg (by omega)]; done)
    have e9 : z_hear S x v = S := by simp only [z_hear, isD, isP, isT, tvS]; rw [if_neg (by omega)]
    rw [e0, e9]
    exact out_q hC hS hI frq_rf
  · have h8 := ite01 c8
    refine mRun.go (q_iload_n dX8_hear_11 rfl rfl) ?_
    refine mRun.go (q_iconst dX8_hear_12) ?_
    refine mRun.go (q_iconst dX8_hear_13) ?_
    refine mRun.go (q_callSi [mi v, mi 0, mi 3] [] dX8_hear_14 co_X8_105 ⟨Nat.le_of_ble_eq_true rfl, Nat.le_of_ble_eq_true rfl⟩ gw_308 rfl rfl (Nat.le_of_ble_eq_true rfl) (k_within hv (by omega) (by omega))) ?_
    refine r_if_ne (tgt := 22) dX8_hear_17 (by decide) (by split <;> omega) (fun c17 => ?_) (fun c17 => ?_)
    · have h17 := ite01 c17
      refine mRun.go (q_aload_n dX8_hear_22 rfl rfl) ?_
      refine mRun.go (q_getE (x := ((sH S).1 : Int)) dX8_hear_23 fo_X8_242 hD.1 rfl hC.2.2.2.2.2.2.2.2.1) ?_
      refine mRun.go (q_bipush dX8_hear_26 (by decide)) ?_
      refine r_icmp_lt (tgt := 34) dX8_hear_28 (by decide) (by omega) (by omega) (fun c28 => ?_) (fun c28 => ?_)
      · refine mRun.go (q_aload_n dX8_hear_34 rfl rfl) ?_
        refine mRun.go (q_getR dX8_hear_35 fo_X8_52 hD.1 rfl) ?_
        refine mRun.go (q_aload_n dX8_hear_38 rfl rfl) ?_
        refine mRun.go (q_getE (x := ((sH S).1 : Int)) dX8_hear_39 fo_X8_242 hD.1 rfl hC.2.2.2.2.2.2.2.2.1) ?_
        refine mRun.go (q_iload_n dX8_hear_42 rfl rfl) ?_
        refine mRun.go (q_callVv (r := 120) [mi ((sH S).1 : Int), mi x] [] dX8_hear_43 co_X8_245 ⟨Nat.le_of_ble_eq_true rfl, Nat.le_of_ble_eq_true rfl⟩ gw_311 gw_312 rfl (dm_hp hD).1 rfl rfl rfl (Nat.le_of_ble_eq_true rfl) (k_putE (J := mup I 121 (sH S).1 x) (dm_hp hD) (by omega) (by decide) (rput_nat (k := (sH S).1) rfl (by omega)))) ?_
        refine mRun.go (q_aload_n dX8_hear_46 rfl rfl) ?_
        refine mRun.go (q_getR dX8_hear_47 fo_X8_56 hD.1 rfl) ?_
        refine mRun.go (q_aload_n dX8_hear_50 rfl rfl) ?_
        refine mRun.go (q_getE (x := ((sH S).1 : Int)) dX8_hear_51 fo_X8_242 hD.1 rfl (by first | (rw [mup_nf (by decide)]; exact hC.2.2.2.2.2.2.2.2.1) | (rw [mup_nf (by decide), mup_nf (by decide)]; exact hC.2.2.2.2.2.2.2.2.1))) ?_
        refine mRun.go (q_iload_n dX8_hear_54 rfl rfl) ?_
        refine mRun.go (q_callVv (r := 122) [mi ((sH S).1 : Int), mi v] [] dX8_hear_55 co_X8_245 ⟨Nat.le_of_ble_eq_true rfl, Nat.le_of_ble_eq_true rfl⟩ gw_311 gw_312 rfl (dm_ht hD).1 rfl rfl rfl (Nat.le_of_ble_eq_true rfl) (k_putE (J := mup (mup I 121 (sH S).1 x) 123 (sH S).1 v) (dm_ht hD) (by omega) (by decide) (rput_nat (k := (sH S).1) rfl (by omega)))) ?_
        refine mRun.go (q_aload_n dX8_hear_58 rfl rfl) ?_
        refine mRun.go (q_dup dX8_hear_59 rfl) ?_
        refine mRun.go (q_getE (x := ((sH S).1 : Int)) dX8_hear_60 fo_X8_242 hD.1 rfl (by first | (rw [mup_nf (by decide)]; exact hC.2.2.2.2.2.2.2.2.1) | (rw [mup_nf (by decide), mup_nf (by decide)]; exact hC.2.2.2.2.2.2.2.2.1))) ?_
        refine mRun.go (q_iconst dX8_hear_63) ?_
        refine mRun.go (q_iadd dX8_hear_64) ?_
        refine mRun.go (q_putI dX8_hear_65 fo_X8_242 fp_8_8 hD.1 rfl) ?_
        refine mRun.go (q_aload_n dX8_hear_68 rfl rfl) ?_
        refine mRun.go (q_getE (x := ((sH S).1 : Int) + 1) dX8_hear_69 fo_X8_242 hD.1 rfl mup_self) ?_
        refine r_iret dX8_hear_72 rfl ?_
        have e0 : a_hear S x v = ((sH S).1 : Int) + 1 := by simp only [a_hear, isP]; rw [if_pos (by omega), if_neg (by omega)]; omega
        have e9 : z_hear S x v = (S.1, sL S, sF S, sU S, sK S, ((sH S).1 + 1, (fun k => if k = (sH S).1 then x else (sH S).2.1 k), fun k => if k = (sH S).1 then v else (sH S).2.2 k)) := by simp only [z_hear, isP]; rw [if_pos (by omega)]
        have hfr : ∀ r, r ≠ 0 → r ≠ 121 → r ≠ 123 → mup (mup (mup I 121 (sH S).1 x) 123 (sH S).1 v) 0 8 (((sH S).1 : Int) + 1) r = I r := fun r a b c => by rw [mup_nf a, mup_nf c, mup_nf b]
        rw [e0, e9]
        obtain ⟨a1, a2, a3, a4, a5, a6, a7, a8⟩ := hC.2.2.2
        refine ⟨rfl, σ, _, rfl, fun r a => hfr r (by omega) (by omega) (by omega), fun _ _ => rfl, rfl, nrm_mup (nrm_mup (nrm_mup hI hx) hv) (by omega), hD, ⟨q, hq1, hq2, hU, fun k hk => (hq4 k hk).fr hL (fun r a b => hfr r (by omega) (by have := hq1 k (by have hk : k < (sU S).1 := hk; omega); omega) (by have := hq1 k (by have hk : k < (sU S).1 := hk; omega); omega)) (hfr 23 (by decide) (by decide) (by decide))⟩, a1.fr (hfr 1 (by decide) (by decide) (by decide)) (hfr 2 (by decide) (by decide) (by decide)), a2.fr (fun r a b => hfr r (by omega) (by omega) (by omega)), a3.fr hL (fun r a b => hfr r (by omega) (by omega) (by omega)) (hfr 23 (by decide) (by decide) (by decide)), by rw [hfr 102 (by decide) (by decide) (by decide)]; exact a4, fun k hk => (a5 k hk).fr hL (fun r a b => hfr r (by omega) (by have hk : k < (sK S).1 := hk; omega) (by have hk : k < (sK S).1 := hk; omega)) (hfr 23 (by decide) (by decide) (by decide)), ?_, fun k hk => ?_, by rw [hfr 36 (by decide) (by decide) (by decide)]; exact a8⟩
        · show mup _ 0 8 _ 0 8 = (((sH S).1 + 1 : Nat) : Int)
          rw [mup_self]; omega
        · have hk : k < (sH S).1 + 1 := hk
          show mup (mup (mup I 121 (sH S).1 x) 123 (sH S).1 v) 0 8 _ 121 k = (if k = (sH S).1 then x else (sH S).2.1 k) ∧ mup (mup (mup I 121 (sH S).1 x) 123 (sH S).1 v) 0 8 _ 123 k = (if k = (sH S).1 then v else (sH S).2.2 k)
          have w1 : mup (mup (mup I 121 (sH S).1 x) 123 (sH S).1 v) 0 8 (((sH S).1 : Int) + 1) 121 k = mup I 121 (sH S).1 x 121 k := by rw [mup_ne (show 121 ≠ 0 by decide), mup_ne (show 121 ≠ 123 by decide)]
          have w2 : mup (mup (mup I 121 (sH S).1 x) 123 (sH S).1 v) 0 8 (((sH S).1 : Int) + 1) 123 k = mup (mup I 121 (sH S).1 x) 123 (sH S).1 v 123 k := by rw [mup_ne (show 123 ≠ 0 by decide)]
          rw [w1, w2]
          by_cases z : k = (sH S).1
          · rw [if_pos z, if_pos z, z, mup_self, mup_self]; exact ⟨rfl, rfl⟩
          · rw [if_neg z, if_neg z, mup_ne2 z, mup_ne2 z, mup_ne (show 123 ≠ 121 by decide)]; exact a7 k (by omega)
      · refine mRun.go (q_bipush dX8_hear_31 (by decide)) ?_
        refine r_iret dX8_hear_33 rfl ?_
        have e0 : a_hear S x v = (-3) := by simp only [a_hear, isD, isP, isT, tvS]; first | (rw [if_pos (by omega)]; done) | (rw [if_neg (by omega)]; done) | (rw [if_pos (by omega), if_pos (by omega)]; done) | (rw [if_pos (by omega), if_neg (by omega)]; done) | (rw [if_neg (by omega), if_pos (by omega)]; done) | (rw [if_neg (by omega), if_neg (by omega)]; done)
        have e9 : z_hear S x v = S := by simp only [z_hear, isD, isP, isT, tvS]; rw [if_neg (by omega)]
        rw [e0, e9]
        exact out_q hC hS hI frq_rf
    · have h17 := ite00 (Classical.not_not.mp c17)
      refine mRun.go (q_iconst dX8_hear_20) ?_
      refine r_iret dX8_hear_21 rfl ?_
      have e0 : a_hear S x v = (-1) := by simp only [a_hear, isD, isP, isT, tvS]; first | (rw [if_pos (by omega)]; done) | (rw [if_neg (by omega)]; done) | (rw [if_pos (by omega), if_pos (by omega)]; done) | (rw [if_pos (by omega), if_neg (by omega)]; done) | (rw [if_neg (by omega), if_pos (by omega)]; done) | (rw [if_neg (by omega), if_neg (by omega)]; done)
      have e9 : z_hear S x v = S := by simp only [z_hear, isD, isP, isT, tvS]; rw [if_neg (by omega)]
      rw [e0, e9]
      exact out_q hC hS hI frq_rf

theorem rc_now {I K : mI} {S : Sx} {F : Fs} (h : RC I S) (hL : LdOk (sL S)) (h2 : (sK S).1 ≤ 2) (hf : ∀ r, (r < 28 ∨ 36 ≤ r) → (r < 134 ∨ 138 < r) → K r = I r) (hF : FRC K 28 (sL S) F) : RC K (putN S F) := by
  obtain ⟨a1, a2, a3, a4, a5, a6, a7, a8⟩ := h
  refine ⟨a1.fr (hf 1 (by omega) (by omega)) (hf 2 (by omega) (by omega)), a2.fr (fun r p q => hf r (by omega) (by omega)), hF, ?_, ?_, ?_, ?_, ?_⟩
  · show K 102 1 = _
    rw [hf 102 (by omega) (by omega)]; exact a4
  · exact fun k hk => (a5 k hk).fr hL (fun r p q => hf r (by omega) (by have hk : k < (sK S).1 := hk; omega)) (hf 23 (by omega) (by omega))
  · show K 0 8 = _
    rw [hf 0 (by omega) (by omega)]; exact a6
  · exact fun k hk => by rw [hf 121 (by omega) (by omega), hf 123 (by omega) (by omega)]; exact a7 k hk
  · show K 36 1 = _
    rw [hf 36 (by omega) (by omega)]; exact a8
theorem cs_hour {σ : List mC} {I K : mI} {S : Sx} {F G : Fs} (h : CS σ I (putU S G)) (hL : LdOk (sL S)) (h8 : (pushF (sU S) (sF S)).1 ≤ 8 ∧ (sK S).1 ≤ 2) (hf : ∀ r, (r < 28 ∨ 28 + 8 ≤ r) → (r < 134 ∨ 138 < r) → K r = I r) (hK : Nrm K) (hF : FRC K 28 (sL S) F) : CS σ K (putU S F) := by
  obtain ⟨b1, b2, ⟨q, b3, b4, b5, b6⟩, hR⟩ := h
  refine ⟨hK, b2, ⟨q, b3, b4, b5, fun k hk => (b6 k hk).fr hL (fun r p z => hf r (by omega) (by have := b3 k (by have hk : k < (pushF (sU S) (sF S)).1 := hk; omega); omega)) (hf 23 (by omega) (by omega))⟩, ?_⟩
  exact rc_now (S := putU S G) hR hL h8.2 hf hF
set_option maxRecDepth 100000 in
theorem f_pass_loop {σ : List mC} {I : mI} {S : Sx} {B : Int} {N : Nat} (hS : SxOk B S) (hB : B ≤ 1000000) (hN : N ≤ 24) : ∀ (n m : Nat) (K : mI), N - m < n → m ≤ N → (∀ r, 144 ≤ r → K r = I r) → CS σ K (putU S (hoursF (sL S) m (sF S))) → mRun mZt mX8_pass 25 [some (mr 0), some (mi (N : Int)), some (mi (m : Int))] [] (σ, K) (Out σ I (putU S (hoursF (sL S) N (sF S))) (fH (hoursF (sL S) N (sF S)))) := by
  intro n
  induction n with
  | zero => intro m K h; omega
  | succ n ih =>
    intro m K hn hm hfr hC
    have h8 : (pushF (sU S) (sF S)).1 ≤ 8 ∧ (sK S).1 ≤ 2 := ⟨(push_ok hS.2.2.1 hS.2.2.2.1 hS.2.1).1, hS.2.2.2.2.1⟩
    have hhr := (hoursF_ok hS.1 hS.2.1 m).2.1
    refine mRun.go (q_iload_n dX8_pass_25 rfl rfl) ?_
    refine mRun.go (q_iload_n dX8_pass_26 rfl rfl) ?_
    refine r_icmp_ge (tgt := 44) dX8_pass_27 (by decide) (by omega) (by omega) (fun c27 => ?_) (fun c27 => ?_)
    · refine mRun.go (q_aload_n dX8_pass_44 rfl rfl) ?_
      refine mRun.go (q_getR dX8_pass_45 fo_X8_33 hC.2.1.1 rfl) ?_
      refine mRun.go (q_getE (x := fH (hoursF (sL S) m (sF S))) dX8_pass_48 fo_X8_195 (dm_n hC.2.1).1 rfl hC.2.2.2.2.2.1.2.1) ?_
      refine r_iret dX8_pass_51 rfl ?_
      have hme : m = N := by omega
      subst hme
      exact ⟨rfl, σ, K, rfl, hfr, fun _ _ => rfl, rfl, hC⟩
    · refine mRun.go (q_aload_n dX8_pass_30 rfl rfl) ?_
      refine mRun.go (q_aload_n dX8_pass_31 rfl rfl) ?_
      refine mRun.go (q_getR dX8_pass_32 fo_X8_33 hC.2.1.1 rfl) ?_
      have hok := hoursF_ok hS.1 hS.2.1 m
      obtain ⟨v0, h0, hc0, rfl, J, rfl, hJ, hfJ, hFJ⟩ := k_letHourPass hC.1 hC.2.1 hS.1 hC.2.2.2.2.1 (dm_n hC.2.1) (show FRC K 28 (sL S) (hoursF (sL S) m (sF S)) from hC.2.2.2.2.2.1) (Or.inl rfl) hok.1 (by have := hok.2.1; exact ⟨this.1, by omega⟩)
      refine mRun.go (q_callVv (r := 0) [mr 28] [] dX8_pass_35 co_X8_192 ⟨Nat.le_of_ble_eq_true rfl, Nat.le_of_ble_eq_true rfl⟩ gw_561 gs_12 rfl hC.2.1.1 rfl rfl rfl (Nat.le_of_ble_eq_true rfl) hc0) ?_
      refine mRun.go (q_iinc (ls' := [some (mr 0), some (mi (N : Int)), some (mi ((m : Int) + 1))]) dX8_pass_38 rfl (Nat.le_of_ble_eq_true rfl) rfl) ?_
      refine mRun.go (q_goto (tgt := 25) dX8_pass_41 (by decide)) ?_
      have e1 : ((m : Int) + 1) = ((m + 1 : Nat) : Int) := by omega
      rw [e1]
      refine mRun.im (ih (m + 1) J (by omega) (by omega) (fun r a => (hfJ r (by omega) (by omega)).trans (hfr r a)) (cs_hour hC hS.1 h8 hfJ hJ hFJ)) (fun _ _ h => h)

set_option maxRecDepth 100000 in
theorem f_pass {σ : List mC} {I : mI} {S : Sx} {B : Int} {n : Int} (hC : CS σ I S) (hS : SxOk B S) (hB : B ≤ 1000000) (hn : -2147483648 ≤ n ∧ n < 2147483648) : mMt mX8_pass [mr 0, mi n] (σ, I) (Out σ I (z_pass S n) (a_pass S n)) := by
  refine mMt.of pl_8 (Nat.le_of_ble_eq_true rfl) ?_
  show mRun mZt mX8_pass 0 [some (mr 0), some (mi n), none] [] (σ, I) _
  obtain ⟨q, hq1, hq2, hU, hq4⟩ := hC.2.2.1
  have hI := hC.1
  have hD := hC.2.1
  have hL := hS.1
  have hT := hC.2.2.2.1
  have hLR := hC.2.2.2.2.1
  have hF := hC.2.2.2.2.2.1
  have hpr := lp_rng hL
  have hqe := lq_eq hL
  have hwr := hL.2.1
  have hdr := hL.2.2.1
  have hnt := hL.2.2.2.1
  have hwF := hS.2.1.1
  have hhF := hS.2.1.2.1
  have hH8 := hS.2.2.2.2.2.2.1
  have hU8 := hS.2.2.1
  have hK2 := hS.2.2.2.2.1
  have hLn := hS.2.2.2.2.2.2.2.2
  refine mRun.go (q_iload_n dX8_pass_0 rfl rfl) ?_
  refine mRun.go (q_iconst dX8_pass_1) ?_
  refine mRun.go (q_bipush dX8_pass_2 (by decide)) ?_
  refine mRun.go (q_callSi [mi n, mi 1, mi 24] [] dX8_pass_4 co_X8_105 ⟨Nat.le_of_ble_eq_true rfl, Nat.le_of_ble_eq_true rfl⟩ gw_308 rfl rfl (Nat.le_of_ble_eq_true rfl) (k_within hn (by omega) (by omega))) ?_
  refine r_if_ne (tgt := 12) dX8_pass_7 (by decide) (by split <;> omega) (fun c7 => ?_) (fun c7 => ?_)
  · have h7 := ite01 c7
    refine mRun.go (q_aload_n dX8_pass_12 rfl rfl) ?_
    refine mRun.go (q_getR dX8_pass_13 fo_X8_42 hD.1 rfl) ?_
    refine mRun.go (q_aload_n dX8_pass_16 rfl rfl) ?_
    refine mRun.go (q_getR dX8_pass_17 fo_X8_33 hD.1 rfl) ?_
    obtain ⟨v0, h0, hc0, rfl, σ2, K, rfl, hfK, hsg, hms, hCK⟩ := k_push hC hS
    have hK := hCK.1
    have hDK := hCK.2.1
    have hFK : FRC K 28 (sL S) (sF S) := hCK.2.2.2.2.2.1
    have hLRK : LRC K (sL S) := hCK.2.2.2.2.1
    refine mRun.go (q_callVv (r := 36) [mr 28] [] dX8_pass_20 co_X8_189 ⟨Nat.le_of_ble_eq_true rfl, Nat.le_of_ble_eq_true rfl⟩ gw_547 gw_548 rfl hU.1 rfl rfl rfl (Nat.le_of_ble_eq_true rfl) hc0) ?_
    refine mRun.go (q_iconst dX8_pass_23) ?_
    refine mRun.go (q_istore_n (ls' := [some (mr 0), some (mi n), some (mi 0)]) dX8_pass_24 rfl (Nat.le_of_ble_eq_true rfl) rfl) ?_
    have e0 : a_pass S n = fH (hoursF (sL S) n.toNat (sF S)) := by unfold a_pass; rw [if_pos (by omega)]
    have e9 : z_pass S n = putU S (hoursF (sL S) n.toNat (sF S)) := by unfold z_pass; rw [if_pos (by omega)]
    rw [e0, e9]
    have h := f_pass_loop (I := K) (N := n.toNat) hS hB (by omega) (n.toNat + 1) 0 K (by omega) (by omega) (fun _ _ => rfl) hCK
    rw [show ((n.toNat : Nat) : Int) = n by omega] at h
    refine mRun.im h ?_
    rintro v h ⟨h1, σ3, J, h2, h3, h4, h5, h6⟩
    exact ⟨h1, σ3, J, h2, fun r a => (h3 r a).trans (hfK r (by omega)), fun k a => (h4 k a).trans (hsg k (by omega)), h5.trans hms, h6⟩
  · have h7 := ite00 (Classical.not_not.mp c7)
    refine mRun.go (q_iconst dX8_pass_10) ?_
    refine r_iret dX8_pass_11 rfl ?_
    have e0 : a_pass S n = (-1) := by simp only [a_pass, isD, isP, isT, tvS]; first | (rw [if_pos (by omega)]; done) | (rw [if_neg (by omega)]; done) | (rw [if_pos (by omega), if_pos (by omega)]; done) | (rw [if_pos (by omega), if_neg (by omega)]; done) | (rw [if_neg (by omega), if_pos (by omega)]; done) | (rw [if_neg (by omega), if_neg (by omega)]; done)
    have e9 : z_pass S n = S := by simp only [z_pass, isD, isP, isT, tvS]; rw [if_neg (by omega)]
    rw [e0, e9]
    exact out_q hC hS hI frq_rf

set_option maxRecDepth 100000 in
theorem f_year_loop {σ : List mC} {I : mI} {S : Sx} {B z v : Int} {N : Nat} (hC : CS σ I S) (hS : SxOk B S) (hB : B ≤ 1000000) (hz : 0 ≤ z ∧ z ≤ 9999) (hN : N ≤ 60) (hv : 0 ≤ v ∧ v ≤ 1) : ∀ (n m : Nat) (K : mI), N - m < n → m ≤ N → Nrm K → FrQ I K → FRC K 124 (sL S) (yearS (sL S) (sF S) z m) → mRun mZt mX8_year 46 [some (mr 0), some (mi z), some (mi (N : Int)), some (mi v), some (mi (m : Int))] [] (σ, K) (Out σ I S (manyS (sL S) (yearS (sL S) (sF S) z N) (if v = 0 then 1 else 2))) := by
  intro n
  induction n with
  | zero => intro m K h; omega
  | succ n ih =>
    intro m K hn hm hK hfr hFK
    obtain ⟨q, hq1, hq2, hU, hq4⟩ := hC.2.2.1
    have hI := hC.1
    have hD := hC.2.1
    have hL := hS.1
    have hT := hC.2.2.2.1
    have hLR := hC.2.2.2.2.1
    have hF := hC.2.2.2.2.2.1
    have hpr := lp_rng hL
    have hqe := lq_eq hL
    have hwr := hL.2.1
    have hdr := hL.2.2.1
    have hnt := hL.2.2.2.1
    have hwF := hS.2.1.1
    have hhF := hS.2.1.2.1
    have hH8 := hS.2.2.2.2.2.2.1
    have hU8 := hS.2.2.1
    have hK2 := hS.2.2.2.2.1
    have hLn := hS.2.2.2.2.2.2.2.2
    refine mRun.go (q_iload dX8_year_46 rfl) ?_
    refine mRun.go (q_iload_n dX8_year_48 rfl rfl) ?_
    refine r_icmp_ge (tgt := 80) dX8_year_49 (by decide) (by omega) (by omega) (fun c49 => ?_) (fun c49 => ?_)
    · refine mRun.go (q_aload_n dX8_year_80 rfl rfl) ?_
      refine mRun.go (q_getR dX8_year_81 fo_X8_59 hD.1 rfl) ?_
      refine mRun.go (q_aload_n dX8_year_84 rfl rfl) ?_
      refine mRun.go (q_getR dX8_year_85 fo_X8_26 hD.1 rfl) ?_
      refine mRun.go (q_iload_n dX8_year_88 rfl rfl) ?_
      refine r_if_ne (tgt := 96) dX8_year_89 (by decide) (by omega) (fun c89 => ?_) (fun c89 => ?_)
      · refine mRun.go (q_iconst dX8_year_96) ?_
        have hmN : m = N := by omega
        subst hmN
        have hLRK : LRC K (sL S) := hLR.fr (fun r a b => hfr r (by omega))
        refine mRun.go (q_callVi (r := 124) [mr 21, mi 2] [] dX8_year_97 co_X8_270 ⟨Nat.le_of_ble_eq_true rfl, Nat.le_of_ble_eq_true rfl⟩ gw_712 gw_713 rfl (dm_s hD).1 rfl rfl rfl (Nat.le_of_ble_eq_true rfl) (k_many (s := 2) hK hD hL hLRK (dm_s hD) hFK (by decide))) ?_
        refine r_iret dX8_year_100 rfl ?_
        rw [if_neg c89]
        exact out_q hC hS hK hfr
      · refine mRun.go (q_iconst dX8_year_92) ?_
        refine mRun.go (q_goto (tgt := 97) dX8_year_93 (by decide)) ?_
        have hmN : m = N := by omega
        subst hmN
        have hLRK : LRC K (sL S) := hLR.fr (fun r a b => hfr r (by omega))
        refine mRun.go (q_callVi (r := 124) [mr 21, mi 1] [] dX8_year_97 co_X8_270 ⟨Nat.le_of_ble_eq_true rfl, Nat.le_of_ble_eq_true rfl⟩ gw_712 gw_713 rfl (dm_s hD).1 rfl rfl rfl (Nat.le_of_ble_eq_true rfl) (k_many (s := 1) hK hD hL hLRK (dm_s hD) hFK (by decide))) ?_
        refine r_iret dX8_year_100 rfl ?_
        rw [if_pos (Classical.not_not.mp c89)]
        exact out_q hC hS hK hfr
    · refine mRun.go (q_aload_n dX8_year_52 rfl rfl) ?_
      refine mRun.go (q_aload_n dX8_year_53 rfl rfl) ?_
      refine mRun.go (q_getR dX8_year_54 fo_X8_59 hD.1 rfl) ?_
      refine mRun.go (q_iload_n dX8_year_57 rfl rfl) ?_
      refine mRun.go (q_iload dX8_year_58 rfl) ?_
      refine mRun.go (q_callSi [mi z, mi (m : Int)] [mr 124, mr 0] dX8_year_60 co_X8_263 ⟨Nat.le_of_ble_eq_true rfl, Nat.le_of_ble_eq_true rfl⟩ gw_697 rfl rfl (Nat.le_of_ble_eq_true rfl) (k_drawOf (by omega) (by omega))) ?_
      have hok := yearS_ok (z := z) hS.1 hS.2.1 m
      have hLRK : LRC K (sL S) := hLR.fr (fun r a b => hfr r (by omega))
      obtain ⟨v0, h0, hc0, rfl, J, rfl, hJ, hfJ, hFJ⟩ := k_stir (q := drawS z (m : Int)) hK hD hL hLRK (dm_s hD) hFK (by decide) (draw_rng z (m : Int))
      refine mRun.go (q_callVv (r := 0) [mr 124, mi (drawS z (m : Int))] [] dX8_year_63 co_X8_266 ⟨Nat.le_of_ble_eq_true rfl, Nat.le_of_ble_eq_true rfl⟩ gw_704 gs_21 rfl hD.1 rfl rfl rfl (Nat.le_of_ble_eq_true rfl) hc0) ?_
      refine mRun.go (q_aload_n dX8_year_66 rfl rfl) ?_
      refine mRun.go (q_aload_n dX8_year_67 rfl rfl) ?_
      refine mRun.go (q_getR dX8_year_68 fo_X8_59 hD.1 rfl) ?_
      have hok2 := stirF_ok hL hok (draw_rng z (m : Int))
      have hLRJ : LRC J (sL S) := hLRK.fr (fun r a b => hfJ r (by omega))
      obtain ⟨v1, h1, hc1, rfl, J2, rfl, hJ2, hfJ2, hFJ2⟩ := k_letHourPass hJ hD hL hLRJ (dm_s hD) hFJ (Or.inr rfl) hok2.1 (by have := hok2.2.1; exact ⟨this.1, by omega⟩)
      refine mRun.go (q_callVv (r := 0) [mr 124] [] dX8_year_71 co_X8_192 ⟨Nat.le_of_ble_eq_true rfl, Nat.le_of_ble_eq_true rfl⟩ gw_561 gs_12 rfl hD.1 rfl rfl rfl (Nat.le_of_ble_eq_true rfl) hc1) ?_
      refine mRun.go (q_iinc (ls' := [some (mr 0), some (mi z), some (mi (N : Int)), some (mi v), some (mi ((m : Int) + 1))]) dX8_year_74 rfl (Nat.le_of_ble_eq_true rfl) rfl) ?_
      refine mRun.go (q_goto (tgt := 46) dX8_year_77 (by decide)) ?_
      have e1 : ((m : Int) + 1) = ((m + 1 : Nat) : Int) := by omega
      rw [e1]
      exact ih (m + 1) J2 (by omega) (by omega) hJ2 (fun r a => (hfJ2 r (by omega) (by omega)).trans ((hfJ r (by omega)).trans (hfr r a))) hFJ2

set_option maxRecDepth 100000 in
theorem f_year {σ : List mC} {I : mI} {S : Sx} {B : Int} {z n v : Int} (hC : CS σ I S) (hS : SxOk B S) (hB : B ≤ 1000000) (hz : -2147483648 ≤ z ∧ z < 2147483648) (hn : -2147483648 ≤ n ∧ n < 2147483648) (hv : -2147483648 ≤ v ∧ v < 2147483648) : mMt mX8_year [mr 0, mi z, mi n, mi v] (σ, I) (Out σ I S (a_year S z n v)) := by
  refine mMt.of pl_8 (Nat.le_of_ble_eq_true rfl) ?_
  show mRun mZt mX8_year 0 [some (mr 0), some (mi z), some (mi n), some (mi v), none] [] (σ, I) _
  obtain ⟨q, hq1, hq2, hU, hq4⟩ := hC.2.2.1
  have hI := hC.1
  have hD := hC.2.1
  have hL := hS.1
  have hT := hC.2.2.2.1
  have hLR := hC.2.2.2.2.1
  have hF := hC.2.2.2.2.2.1
  have hpr := lp_rng hL
  have hqe := lq_eq hL
  have hwr := hL.2.1
  have hdr := hL.2.2.1
  have hnt := hL.2.2.2.1
  have hwF := hS.2.1.1
  have hhF := hS.2.1.2.1
  have hH8 := hS.2.2.2.2.2.2.1
  have hU8 := hS.2.2.1
  have hK2 := hS.2.2.2.2.1
  have hLn := hS.2.2.2.2.2.2.2.2
  refine mRun.go (q_iload_n dX8_year_0 rfl rfl) ?_
  refine mRun.go (q_iconst dX8_year_1) ?_
  refine mRun.go (q_sipush dX8_year_2 (by decide)) ?_
  refine mRun.go (q_callSi [mi z, mi 0, mi 9999] [] dX8_year_5 co_X8_105 ⟨Nat.le_of_ble_eq_true rfl, Nat.le_of_ble_eq_true rfl⟩ gw_308 rfl rfl (Nat.le_of_ble_eq_true rfl) (k_within hz (by omega) (by omega))) ?_
  refine r_if_eq (tgt := 30) dX8_year_8 (by decide) (by split <;> omega) (fun c8 => ?_) (fun c8 => ?_)
  · have h8 := ite00 c8
    refine mRun.go (q_iconst dX8_year_30) ?_
    refine r_iret dX8_year_31 rfl ?_
    have e0 : a_year S z n v = (-1) := by unfold a_year; rw [if_neg (by omega)]
    rw [e0]
    exact out_q hC hS hI frq_rf
  · have h8 := ite01 c8
    refine mRun.go (q_iload_n dX8_year_11 rfl rfl) ?_
    refine mRun.go (q_iconst dX8_year_12) ?_
    refine mRun.go (q_bipush dX8_year_13 (by decide)) ?_
    refine mRun.go (q_callSi [mi n, mi 1, mi 60] [] dX8_year_15 co_X8_105 ⟨Nat.le_of_ble_eq_true rfl, Nat.le_of_ble_eq_true rfl⟩ gw_308 rfl rfl (Nat.le_of_ble_eq_true rfl) (k_within hn (by omega) (by omega))) ?_
    refine r_if_eq (tgt := 30) dX8_year_18 (by decide) (by split <;> omega) (fun c18 => ?_) (fun c18 => ?_)
    · have h18 := ite00 c18
      refine mRun.go (q_iconst dX8_year_30) ?_
      refine r_iret dX8_year_31 rfl ?_
      have e0 : a_year S z n v = (-1) := by unfold a_year; rw [if_neg (by omega)]
      rw [e0]
      exact out_q hC hS hI frq_rf
    · have h18 := ite01 c18
      refine mRun.go (q_iload_n dX8_year_21 rfl rfl) ?_
      refine mRun.go (q_iconst dX8_year_22) ?_
      refine mRun.go (q_iconst dX8_year_23) ?_
      refine mRun.go (q_callSi [mi v, mi 0, mi 1] [] dX8_year_24 co_X8_105 ⟨Nat.le_of_ble_eq_true rfl, Nat.le_of_ble_eq_true rfl⟩ gw_308 rfl rfl (Nat.le_of_ble_eq_true rfl) (k_within hv (by omega) (by omega))) ?_
      refine r_if_ne (tgt := 32) dX8_year_27 (by decide) (by split <;> omega) (fun c27 => ?_) (fun c27 => ?_)
      · have h27 := ite01 c27
        refine mRun.go (q_aload_n dX8_year_32 rfl rfl) ?_
        refine mRun.go (q_getR dX8_year_33 fo_X8_59 hD.1 rfl) ?_
        refine mRun.go (q_aload_n dX8_year_36 rfl rfl) ?_
        refine mRun.go (q_getR dX8_year_37 fo_X8_33 hD.1 rfl) ?_
        refine mRun.go (q_callVv (r := 124) [mr 28] [] dX8_year_40 co_X8_232 ⟨Nat.le_of_ble_eq_true rfl, Nat.le_of_ble_eq_true rfl⟩ gw_386 gw_387 rfl (dm_s hD).1 rfl rfl rfl (Nat.le_of_ble_eq_true rfl) (k_fcopy (dm_s hD) (dm_n hD) hI (by decide))) ?_
        refine mRun.go (q_iconst dX8_year_43) ?_
        refine mRun.go (q_istore (ls' := [some (mr 0), some (mi z), some (mi n), some (mi v), some (mi 0)]) dX8_year_44 (Nat.le_of_ble_eq_true rfl) rfl) ?_
        have e0 : a_year S z n v = manyS (sL S) (yearS (sL S) (sF S) z n.toNat) (if v = 0 then 1 else 2) := by unfold a_year; rw [if_pos (by omega)]
        rw [e0]
        have h := f_year_loop (z := z) (v := v) (N := n.toNat) hC hS hB (by omega) (by omega) (by omega) (n.toNat + 1) 0 (fcp I 124 28) (by omega) (by omega) (nrm_fcp hI) (fun r a => fcp_fr (by omega)) (frc_cp hF hL (by decide) (by decide))
        rw [show ((n.toNat : Nat) : Int) = n by omega] at h
        exact h
      · have h27 := ite00 (Classical.not_not.mp c27)
        refine mRun.go (q_iconst dX8_year_30) ?_
        refine r_iret dX8_year_31 rfl ?_
        have e0 : a_year S z n v = (-1) := by unfold a_year; rw [if_neg (by omega)]
        rw [e0]
        exact out_q hC hS hI frq_rf
