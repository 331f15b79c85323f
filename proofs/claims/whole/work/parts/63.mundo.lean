/-! ===== the reference: undoing, keeping ===== -/
theorem rm_take {I K : mI} {S : Sx} {F : Fs} {u k : Nat} (h : RM I S) (hL : LdOk (sL S)) (hr : ∀ r, r ≠ 144 → r ≠ 147 → K r = I r) (hk : ∀ j, j ≠ 9 → j ≠ 11 → K 144 j = I 144 j) (hu : K 144 9 = (u : Int)) (hu2 : u ≤ (sU S).1) (hkk : K 144 11 = (k : Int)) (hk2 : k ≤ (sK S).1) (hF : FRM K 147 0 (sL S) F) : RM K (S.1, sL S, F, (u, (sU S).2), (k, (sK S).2), sH S) := by
  obtain ⟨a1, a2, a3, a4, a5, a6, a7, a8, a9, b1, b2, b3, b4⟩ := h
  refine ⟨?_, ?_, a3, a4, ?_, hF, hu, ?_, hkk, ?_, ?_, ?_, ?_⟩
  · rw [hk 15 (by decide) (by decide)]; exact a1
  · exact fun k hk' => by rw [hr 152 (by decide) (by decide)]; exact a2 k hk'
  · exact a5.fr (hk 0 (by decide) (by decide)) (hk 1 (by decide) (by decide)) (hk 3 (by decide) (by decide)) (hk 5 (by decide) (by decide)) (hr 145 (by decide) (by decide)) (hr 146 (by decide) (by decide))
  · exact fun j hj => (a8 j (Nat.lt_of_lt_of_le hj hu2)).fr hL (fun k _ _ => by rw [hr 149 (by decide) (by decide)])
  · exact fun j hj => (b1 j (Nat.lt_of_lt_of_le hj hk2)).fr hL (fun k _ _ => by rw [hr 150 (by decide) (by decide)])
  · rw [hk 13 (by decide) (by decide)]; exact b2
  · exact fun k hk' => by rw [hr 151 (by decide) (by decide)]; exact b3 k hk'
  · rw [hk 5 (by decide) (by decide)]; exact b4
theorem mcp_at {I : mI} {r1 r0 sp n k : Nat} (h : k < n) : mcp I r1 r0 sp 0 n r1 (0 + k) = I r0 (sp + k) := by
  unfold mcp
  rw [if_pos rfl, if_pos ⟨by omega, by omega⟩, show sp + (0 + k - 0) = sp + k by omega]

set_option maxRecDepth 100000 in
theorem g_undo {σ : List mC} {I : mI} {S : Sx} {B : Int} (hM : MS σ I S) (hS : SxOk B S)  : mMt mX9_undo [mr 144] (σ, I) (OutM σ I (z_undo S) (a_undo S)) := by
  refine mMt.of pl_9 (Nat.le_of_ble_eq_true rfl) ?_
  show mRun mZt mX9_undo 0 [some (mr 144)] [] (σ, I) _
  have hI := hM.1
  have hD := hM.2.1
  have hL := hS.1
  have hsz := hM.2.2.1
  have hLR := hM.2.2.2.2.2.2.1
  have hF := hM.2.2.2.2.2.2.2.1
  have hun := hM.2.2.2.2.2.2.2.2.1
  have hpa := hM.2.2.2.2.2.2.2.2.2.1
  have hkm := hM.2.2.2.2.2.2.2.2.2.2.1
  have hke := hM.2.2.2.2.2.2.2.2.2.2.2.1
  have hhm := hM.2.2.2.2.2.2.2.2.2.2.2.2.1
  have hhe := hM.2.2.2.2.2.2.2.2.2.2.2.2.2.1
  have hN := hM.2.2.2.2.2.2.2.2.2.2.2.2.2.2
  have hpr := lp_rng hL
  have hqe := lq_eq hL
  have hwr := hL.2.1
  have hrr := hL.1
  have hdr := hL.2.2.1
  have hnt := hL.2.2.2.1
  have hwF := hS.2.1.1
  have hhF := hS.2.1.2.1
  have hvF := hS.2.1.2.2.2
  have hH8 := hS.2.2.2.2.2.2.1
  have hU8 := hS.2.2.1
  have hK2 := hS.2.2.2.2.1
  have hLn := hS.2.2.2.2.2.2.2.2
  refine mRun.go (q_aload_n dX9_undo_0 rfl rfl) ?_
  refine mRun.go (q_getE (x := ((sU S).1 : Int)) dX9_undo_1 fo_X9_101 hD.1 rfl hun) ?_
  refine r_if_ne (tgt := 10) dX9_undo_4 (by decide) (by omega) (fun c4 => ?_) (fun c4 => ?_)
  · refine mRun.go (q_aload_n dX9_undo_10 rfl rfl) ?_
    refine mRun.go (q_dup dX9_undo_11 rfl) ?_
    refine mRun.go (q_getE (x := ((sU S).1 : Int)) dX9_undo_12 fo_X9_101 hD.1 rfl hun) ?_
    refine mRun.go (q_iconst dX9_undo_15) ?_
    refine mRun.go (q_isub dX9_undo_16) ?_
    refine mRun.go (q_putI dX9_undo_17 fo_X9_101 fp_9_9 hD.1 rfl) ?_
    refine mRun.go (q_aload_n dX9_undo_20 rfl rfl) ?_
    refine mRun.go (q_getR dX9_undo_21 fo_X9_22 hD.1 rfl) ?_
    refine mRun.go (q_sipush dX9_undo_24 (by decide)) ?_
    refine mRun.go (q_aload_n dX9_undo_27 rfl rfl) ?_
    refine mRun.go (q_getE (x := ((sU S).1 : Int) - 1) dX9_undo_28 fo_X9_101 hD.1 rfl mup_self) ?_
    refine mRun.go (q_imul dX9_undo_31) ?_
    refine mRun.go (q_aload_n dX9_undo_32 rfl rfl) ?_
    refine mRun.go (q_getR dX9_undo_33 fo_X9_16 hD.1 rfl) ?_
    refine mRun.go (q_iconst dX9_undo_36) ?_
    refine mRun.go (q_sipush dX9_undo_37 (by decide)) ?_
    have hN1 : Nrm (mup I 144 9 (((sU S).1 : Int) - 1)) := nrm_mup hI (by omega)
    have hcp := m_copies (r0 := 149) (r1 := 147) (i := 170 * ((sU S).1 - 1)) (j := 0) (m := 170) hN1 hD.2.2.2.2.2.1 hD.2.2.2.1 (by decide) (by omega) (by decide) (by decide) (by decide)
    rw [show ((170 * ((sU S).1 - 1) : Nat) : Int) = 170 * (((sU S).1 : Int) - 1) by omega] at hcp
    refine mRun.go (q_callSv [mr 149, mi (170 * (((sU S).1 : Int) - 1)), mr 147, mi 0, mi 170] [] dX9_undo_40 co_X9_97 ⟨Nat.le_of_ble_eq_true rfl, Nat.le_of_ble_eq_true rfl⟩ gw_755 rfl rfl (Nat.le_of_ble_eq_true rfl) hcp) ?_
    refine mRun.go (q_aload_n dX9_undo_43 rfl rfl) ?_
    refine mRun.go (q_getE (x := ((sU S).1 : Int) - 1) dX9_undo_44 fo_X9_101 hD.1 rfl (by rw [mcp_ne (by decide), mup_self])) ?_
    refine r_iret dX9_undo_47 rfl ?_
    have e0 : a_undo S = ((sU S).1 : Int) - 1 := by unfold a_undo; rw [if_neg (by omega)]; omega
    have e9 : z_undo S = (S.1, sL S, (sU S).2 ((sU S).1 - 1), ((sU S).1 - 1, (sU S).2), S.2.2.2.2) := by unfold z_undo; rw [if_neg (by omega)]
    rw [e0, e9]
    have hfin : FRM (mcp (mup I 144 9 (((sU S).1 : Int) - 1)) 147 149 (170 * ((sU S).1 - 1)) 0 170) 147 0 (sL S) (((sU S)).2 ((sU S).1 - 1)) := (hpa ((sU S).1 - 1) (by omega)).at hL (fun k hk => by rw [mcp_at hk, mup_ne (by decide)])
    exact ⟨rfl, _, rfl, fun r hr => by funext k; rw [mcp_ne (by omega), mup_ne (by omega)], nrm_mcp hN1, hD, rm_take (u := (sU S).1 - 1) (k := (sK S).1) hM.2.2 hL (fun r a b => by funext k; rw [mcp_ne b, mup_ne a]) (fun j a _ => by rw [mcp_ne (by decide), mup_ne2 a]) (by rw [mcp_ne (by decide), mup_self]; omega) (by omega) (by rw [mcp_ne (by decide), mup_ne2 (by decide)]; exact hkm) (Nat.le_refl _) hfin⟩
  · refine mRun.go (q_bipush dX9_undo_7 (by decide)) ?_
    refine r_iret dX9_undo_9 rfl ?_
    have e0 : a_undo S = -2 := by unfold a_undo; rw [if_pos (by omega)]
    have e9 : z_undo S = S := by unfold z_undo; rw [if_pos (by omega)]
    rw [e0, e9]
    exact outm_q hM hS hI frm_rf

set_option maxRecDepth 100000 in
theorem g_back {σ : List mC} {I : mI} {S : Sx} {B : Int} (hM : MS σ I S) (hS : SxOk B S)  : mMt mX9_back [mr 144] (σ, I) (OutM σ I (z_back S) (a_back S)) := by
  refine mMt.of pl_9 (Nat.le_of_ble_eq_true rfl) ?_
  show mRun mZt mX9_back 0 [some (mr 144)] [] (σ, I) _
  have hI := hM.1
  have hD := hM.2.1
  have hL := hS.1
  have hsz := hM.2.2.1
  have hLR := hM.2.2.2.2.2.2.1
  have hF := hM.2.2.2.2.2.2.2.1
  have hun := hM.2.2.2.2.2.2.2.2.1
  have hpa := hM.2.2.2.2.2.2.2.2.2.1
  have hkm := hM.2.2.2.2.2.2.2.2.2.2.1
  have hke := hM.2.2.2.2.2.2.2.2.2.2.2.1
  have hhm := hM.2.2.2.2.2.2.2.2.2.2.2.2.1
  have hhe := hM.2.2.2.2.2.2.2.2.2.2.2.2.2.1
  have hN := hM.2.2.2.2.2.2.2.2.2.2.2.2.2.2
  have hpr := lp_rng hL
  have hqe := lq_eq hL
  have hwr := hL.2.1
  have hrr := hL.1
  have hdr := hL.2.2.1
  have hnt := hL.2.2.2.1
  have hwF := hS.2.1.1
  have hhF := hS.2.1.2.1
  have hvF := hS.2.1.2.2.2
  have hH8 := hS.2.2.2.2.2.2.1
  have hU8 := hS.2.2.1
  have hK2 := hS.2.2.2.2.1
  have hLn := hS.2.2.2.2.2.2.2.2
  refine mRun.go (q_aload_n dX9_back_0 rfl rfl) ?_
  refine mRun.go (q_getE (x := ((sK S).1 : Int)) dX9_back_1 fo_X9_104 hD.1 rfl hkm) ?_
  refine r_if_ne (tgt := 10) dX9_back_4 (by decide) (by omega) (fun c4 => ?_) (fun c4 => ?_)
  · refine mRun.go (q_aload_n dX9_back_10 rfl rfl) ?_
    refine mRun.go (q_dup dX9_back_11 rfl) ?_
    refine mRun.go (q_getE (x := ((sK S).1 : Int)) dX9_back_12 fo_X9_104 hD.1 rfl hkm) ?_
    refine mRun.go (q_iconst dX9_back_15) ?_
    refine mRun.go (q_isub dX9_back_16) ?_
    refine mRun.go (q_putI dX9_back_17 fo_X9_104 fp_9_11 hD.1 rfl) ?_
    refine mRun.go (q_aload_n dX9_back_20 rfl rfl) ?_
    refine mRun.go (q_getR dX9_back_21 fo_X9_25 hD.1 rfl) ?_
    refine mRun.go (q_sipush dX9_back_24 (by decide)) ?_
    refine mRun.go (q_aload_n dX9_back_27 rfl rfl) ?_
    refine mRun.go (q_getE (x := ((sK S).1 : Int) - 1) dX9_back_28 fo_X9_104 hD.1 rfl mup_self) ?_
    refine mRun.go (q_imul dX9_back_31) ?_
    refine mRun.go (q_aload_n dX9_back_32 rfl rfl) ?_
    refine mRun.go (q_getR dX9_back_33 fo_X9_16 hD.1 rfl) ?_
    refine mRun.go (q_iconst dX9_back_36) ?_
    refine mRun.go (q_sipush dX9_back_37 (by decide)) ?_
    have hN1 : Nrm (mup I 144 11 (((sK S).1 : Int) - 1)) := nrm_mup hI (by omega)
    have hcp := m_copies (r0 := 150) (r1 := 147) (i := 170 * ((sK S).1 - 1)) (j := 0) (m := 170) hN1 hD.2.2.2.2.2.2.1 hD.2.2.2.1 (by decide) (by omega) (by decide) (by decide) (by decide)
    rw [show ((170 * ((sK S).1 - 1) : Nat) : Int) = 170 * (((sK S).1 : Int) - 1) by omega] at hcp
    refine mRun.go (q_callSv [mr 150, mi (170 * (((sK S).1 : Int) - 1)), mr 147, mi 0, mi 170] [] dX9_back_40 co_X9_97 ⟨Nat.le_of_ble_eq_true rfl, Nat.le_of_ble_eq_true rfl⟩ gw_755 rfl rfl (Nat.le_of_ble_eq_true rfl) hcp) ?_
    refine mRun.go (q_aload_n dX9_back_43 rfl rfl) ?_
    refine mRun.go (q_iconst dX9_back_44) ?_
    refine mRun.go (q_putI dX9_back_45 fo_X9_101 fp_9_9 hD.1 rfl) ?_
    refine mRun.go (q_aload_n dX9_back_48 rfl rfl) ?_
    refine mRun.go (q_getE (x := ((sK S).1 : Int) - 1) dX9_back_49 fo_X9_104 hD.1 rfl (by rw [mup_ne2 (by decide), mcp_ne (by decide), mup_self])) ?_
    refine r_iret dX9_back_52 rfl ?_
    have e0 : a_back S = ((sK S).1 : Int) - 1 := by unfold a_back; rw [if_neg (by omega)]; omega
    have e9 : z_back S = (S.1, sL S, (sK S).2 ((sK S).1 - 1), (0, (sU S).2), ((sK S).1 - 1, (sK S).2), sH S) := by unfold z_back; rw [if_neg (by omega)]
    rw [e0, e9]
    have hfin : FRM (mcp (mup I 144 11 (((sK S).1 : Int) - 1)) 147 150 (170 * ((sK S).1 - 1)) 0 170) 147 0 (sL S) (((sK S)).2 ((sK S).1 - 1)) := (hke ((sK S).1 - 1) (by omega)).at hL (fun k hk => by rw [mcp_at hk, mup_ne (by decide)])
    have hfin2 : FRM (mup (mcp (mup I 144 11 (((sK S).1 : Int) - 1)) 147 150 (170 * ((sK S).1 - 1)) 0 170) 144 9 0) 147 0 (sL S) (((sK S)).2 ((sK S).1 - 1)) := hfin.fr hL (fun k _ _ => mup_ne (by decide))
    exact ⟨rfl, _, rfl, fun r hr => by funext k; rw [mup_ne (by omega), mcp_ne (by omega), mup_ne (by omega)], (nrm_mup (nrm_mcp hN1) (by omega)), hD, rm_take (u := 0) (k := (sK S).1 - 1) hM.2.2 hL (fun r a b => by funext k; rw [mup_ne a, mcp_ne b, mup_ne a]) (fun j a b => by rw [mup_ne2 a, mcp_ne (by decide), mup_ne2 b]) mup_self (Nat.zero_le _) (by rw [mup_ne2 (by decide), mcp_ne (by decide), mup_self]; omega) (by omega) hfin2⟩
  · refine mRun.go (q_bipush dX9_back_7 (by decide)) ?_
    refine r_iret dX9_back_9 rfl ?_
    have e0 : a_back S = -2 := by unfold a_back; rw [if_pos (by omega)]
    have e9 : z_back S = S := by unfold z_back; rw [if_pos (by omega)]
    rw [e0, e9]
    exact outm_q hM hS hI frm_rf

set_option maxRecDepth 100000 in
theorem g_keep {σ : List mC} {I : mI} {S : Sx} {B : Int} (hM : MS σ I S) (hS : SxOk B S)  : mMt mX9_keep [mr 144] (σ, I) (OutM σ I (z_keep S) (a_keep S)) := by
  refine mMt.of pl_9 (Nat.le_of_ble_eq_true rfl) ?_
  show mRun mZt mX9_keep 0 [some (mr 144)] [] (σ, I) _
  have hI := hM.1
  have hD := hM.2.1
  have hL := hS.1
  have hsz := hM.2.2.1
  have hLR := hM.2.2.2.2.2.2.1
  have hF := hM.2.2.2.2.2.2.2.1
  have hun := hM.2.2.2.2.2.2.2.2.1
  have hpa := hM.2.2.2.2.2.2.2.2.2.1
  have hkm := hM.2.2.2.2.2.2.2.2.2.2.1
  have hke := hM.2.2.2.2.2.2.2.2.2.2.2.1
  have hhm := hM.2.2.2.2.2.2.2.2.2.2.2.2.1
  have hhe := hM.2.2.2.2.2.2.2.2.2.2.2.2.2.1
  have hN := hM.2.2.2.2.2.2.2.2.2.2.2.2.2.2
  have hpr := lp_rng hL
  have hqe := lq_eq hL
  have hwr := hL.2.1
  have hrr := hL.1
  have hdr := hL.2.2.1
  have hnt := hL.2.2.2.1
  have hwF := hS.2.1.1
  have hhF := hS.2.1.2.1
  have hvF := hS.2.1.2.2.2
  have hH8 := hS.2.2.2.2.2.2.1
  have hU8 := hS.2.2.1
  have hK2 := hS.2.2.2.2.1
  have hLn := hS.2.2.2.2.2.2.2.2
  refine mRun.go (q_aload_n dX9_keep_0 rfl rfl) ?_
  refine mRun.go (q_getE (x := ((sK S).1 : Int)) dX9_keep_1 fo_X9_104 hD.1 rfl hkm) ?_
  refine mRun.go (q_iconst dX9_keep_4) ?_
  refine r_icmp_ne (tgt := 11) dX9_keep_5 (by decide) (by omega) (by omega) (fun c5 => ?_) (fun c5 => ?_)
  · refine mRun.go (q_aload_n dX9_keep_11 rfl rfl) ?_
    refine mRun.go (q_getR dX9_keep_12 fo_X9_16 hD.1 rfl) ?_
    refine mRun.go (q_iconst dX9_keep_15) ?_
    refine mRun.go (q_aload_n dX9_keep_16 rfl rfl) ?_
    refine mRun.go (q_getR dX9_keep_17 fo_X9_25 hD.1 rfl) ?_
    refine mRun.go (q_sipush dX9_keep_20 (by decide)) ?_
    refine mRun.go (q_aload_n dX9_keep_23 rfl rfl) ?_
    refine mRun.go (q_getE (x := ((sK S).1 : Int)) dX9_keep_24 fo_X9_104 hD.1 rfl hkm) ?_
    refine mRun.go (q_imul dX9_keep_27) ?_
    refine mRun.go (q_sipush dX9_keep_28 (by decide)) ?_
    have hcp := m_copies (r0 := 147) (r1 := 150) (i := 0) (j := 170 * (sK S).1) (m := 170) hI hD.2.2.2.1 hD.2.2.2.2.2.2.1 (by decide) (by decide) (by omega) (by decide) (by decide)
    rw [show ((170 * (sK S).1 : Nat) : Int) = 170 * ((sK S).1 : Int) by omega] at hcp
    refine mRun.go (q_callSv [mr 147, mi 0, mr 150, mi (170 * ((sK S).1 : Int)), mi 170] [] dX9_keep_31 co_X9_97 ⟨Nat.le_of_ble_eq_true rfl, Nat.le_of_ble_eq_true rfl⟩ gw_755 rfl rfl (Nat.le_of_ble_eq_true rfl) hcp) ?_
    refine mRun.go (q_aload_n dX9_keep_34 rfl rfl) ?_
    refine mRun.go (q_dup dX9_keep_35 rfl) ?_
    refine mRun.go (q_getE (x := ((sK S).1 : Int)) dX9_keep_36 fo_X9_104 hD.1 rfl (by rw [mcp_ne (by decide)]; exact hkm)) ?_
    refine mRun.go (q_iconst dX9_keep_39) ?_
    refine mRun.go (q_iadd dX9_keep_40) ?_
    refine mRun.go (q_putI dX9_keep_41 fo_X9_104 fp_9_11 hD.1 rfl) ?_
    refine mRun.go (q_aload_n dX9_keep_44 rfl rfl) ?_
    refine mRun.go (q_getE (x := ((sK S).1 : Int) + 1) dX9_keep_45 fo_X9_104 hD.1 rfl mup_self) ?_
    refine r_iret dX9_keep_48 rfl ?_
    have e0 : a_keep S = ((sK S).1 : Int) + 1 := by unfold a_keep; rw [if_neg (by omega)]; omega
    have e9 : z_keep S = (S.1, sL S, sF S, sU S, ((sK S).1 + 1, fun k => if k = (sK S).1 then sF S else (sK S).2 k), sH S) := by unfold z_keep; rw [if_neg (by omega)]
    rw [e0, e9]
    obtain ⟨a1, a2, a3, a4, a5, a6, a7, a8, a9, b1, b2, b3, b4⟩ := hM.2.2
    have hr : ∀ r, r ≠ 144 → r ≠ 150 → mup (mcp I 150 147 0 (170 * (sK S).1) 170) 144 11 (((sK S).1 : Int) + 1) r = I r := fun r a b => by funext k; rw [mup_ne a, mcp_ne b]
    have hk : ∀ j, j ≠ 11 → mup (mcp I 150 147 0 (170 * (sK S).1) 170) 144 11 (((sK S).1 : Int) + 1) 144 j = I 144 j := fun j a => by rw [mup_ne2 a, mcp_ne (by decide)]
    refine ⟨rfl, _, rfl, fun r q => hr r (by omega) (by omega), (nrm_mup (nrm_mcp hI) (by omega)), hD, (hk 15 (by decide)).trans a1, fun k q => by rw [hr 152 (by decide) (by decide)]; exact a2 k q, a3, a4, a5.fr (hk 0 (by decide)) (hk 1 (by decide)) (hk 3 (by decide)) (hk 5 (by decide)) (hr 145 (by decide) (by decide)) (hr 146 (by decide) (by decide)), a6.fr hL (fun k _ _ => by rw [hr 147 (by decide) (by decide)]), (hk 9 (by decide)).trans a7, fun k q => (a8 k q).fr hL (fun k _ _ => by rw [hr 149 (by decide) (by decide)]), ?_, fun k q => ?_, (hk 13 (by decide)).trans b2, fun k q => by rw [hr 151 (by decide) (by decide)]; exact b3 k q, (hk 5 (by decide)).trans b4⟩
    · show mup (mcp I 150 147 0 (170 * (sK S).1) 170) 144 11 (((sK S).1 : Int) + 1) 144 11 = (((sK S).1 + 1 : Nat) : Int)
      rw [mup_self]; omega
    · have q : k < (sK S).1 + 1 := q
      show FRM _ 150 (170 * k) (sL S) (if k = (sK S).1 then sF S else (sK S).2 k)
      by_cases z : k = (sK S).1
      · rw [if_pos z, z]; exact a6.at hL (fun j hj => by rw [mup_ne (by decide)]; exact mcp_in hj)
      · rw [if_neg z]; exact (b1 k (by omega)).fr hL (fun j p1 p2 => by rw [mup_ne (by decide)]; exact mcp_out (by omega))
  · refine mRun.go (q_bipush dX9_keep_8 (by decide)) ?_
    refine r_iret dX9_keep_10 rfl ?_
    have e0 : a_keep S = -3 := by unfold a_keep; rw [if_pos (by omega)]
    have e9 : z_keep S = S := by unfold z_keep; rw [if_pos (by omega)]
    rw [e0, e9]
    exact outm_q hM hS hI frm_rf
