/-! ===== the reference remembers: all ===== -/
theorem rm_push {I K : mI} {S : Sx} {n : Nat} (h : RM I S) (hL : LdOk (sL S)) (hr : ∀ r, r ≠ 144 → r ≠ 149 → K r = I r) (hk : ∀ k, k ≠ 9 → K 144 k = I 144 k) (e : (pushF (sU S) (sF S)).1 = n) (hn : K 144 9 = (n : Int)) (hp : ∀ k, k < n → FRM K 149 (170 * k) (sL S) ((pushF (sU S) (sF S)).2 k)) : RM K (putU S (sF S)) := by
  obtain ⟨a1, a2, a3, a4, a5, a6, a7, a8, a9, b1, b2, b3, b4⟩ := h
  refine ⟨?_, ?_, a3, a4, ?_, ?_, ?_, ?_, ?_, ?_, ?_, ?_, ?_⟩
  · rw [hk 15 (by decide)]; exact a1
  · exact fun k hk' => by rw [hr 152 (by decide) (by decide)]; exact a2 k hk'
  · exact a5.fr (hk 0 (by decide)) (hk 1 (by decide)) (hk 3 (by decide)) (hk 5 (by decide)) (hr 145 (by decide) (by decide)) (hr 146 (by decide) (by decide))
  · exact a6.fr hL (fun k _ _ => by rw [hr 147 (by decide) (by decide)])
  · show K 144 9 = (((pushF (sU S) (sF S)).1 : Nat) : Int)
    rw [e]; exact hn
  · intro k hk'
    exact hp k (by rw [← e]; exact hk')
  · show K 144 11 = _
    rw [hk 11 (by decide)]; exact a9
  · exact fun k hk' => (b1 k hk').fr hL (fun k _ _ => by rw [hr 150 (by decide) (by decide)])
  · show K 144 13 = _
    rw [hk 13 (by decide)]; exact b2
  · exact fun k hk' => by rw [hr 151 (by decide) (by decide)]; exact b3 k hk'
  · rw [hk 5 (by decide)]; exact b4
theorem mcp_in {I : mI} {r1 r0 dp n k : Nat} (h : k < n) : mcp I r1 r0 0 dp n r1 (dp + k) = I r0 (0 + k) := by
  unfold mcp
  rw [if_pos rfl, if_pos ⟨by omega, by omega⟩, show 0 + (dp + k - dp) = 0 + k by omega]
theorem mcp_out {I : mI} {r1 r0 sp dp n k : Nat} (h : k < dp ∨ dp + n ≤ k) : mcp I r1 r0 sp dp n r1 k = I r1 k := by
  unfold mcp
  rw [if_pos rfl, if_neg (by omega)]

set_option maxRecDepth 100000 in
theorem m_remember {σ : List mC} {I : mI} {S : Sx} {B : Int} (hM : MS σ I S) (hS : SxOk B S)  : mMt mX9_remember [mr 144] (σ, I) (fun v h => v = none ∧ ∃ K, h = (σ, K) ∧ Nrm K ∧ (∀ r, r < 144 → K r = I r) ∧ RM K (putU S (sF S))) := by
  refine mMt.of pl_9 (Nat.le_of_ble_eq_true rfl) ?_
  show mRun mZt mX9_remember 0 [some (mr 144), none] [] (σ, I) _
  have hI := hM.1
  have hD := hM.2.1
  have hL := hS.1
  have hsz := hM.2.2.1
  have hLR := hM.2.2.2.2.2.2.1
  have hF := hM.2.2.2.2.2.2.2.1
  have hun := hM.2.2.2.2.2.2.2.2.1
  have hpa := hM.2.2.2.2.2.2.2.2.2.1
  have hkm := hM.2.2.2.2.2.2.2.2.2.2.1
  have hke := hM.2.2.2.2.2.2.2.2.2.2.2.1
  have hhm := hM.2.2.2.2.2.2.2.2.2.2.2.2.1
  have hhe := hM.2.2.2.2.2.2.2.2.2.2.2.2.2.1
  have hN := hM.2.2.2.2.2.2.2.2.2.2.2.2.2.2
  have hpr := lp_rng hL
  have hqe := lq_eq hL
  have hwr := hL.2.1
  have hrr := hL.1
  have hdr := hL.2.2.1
  have hnt := hL.2.2.2.1
  have hwF := hS.2.1.1
  have hhF := hS.2.1.2.1
  have hvF := hS.2.1.2.2.2
  have hH8 := hS.2.2.2.2.2.2.1
  have hU8 := hS.2.2.1
  have hK2 := hS.2.2.2.2.1
  have hLn := hS.2.2.2.2.2.2.2.2
  refine mRun.go (q_aload_n dX9_remember_0 rfl rfl) ?_
  refine mRun.go (q_getE (x := ((sU S).1 : Int)) dX9_remember_1 fo_X9_101 hD.1 rfl hun) ?_
  refine mRun.go (q_bipush dX9_remember_4 (by decide)) ?_
  refine r_icmp_ne (tgt := 50) dX9_remember_6 (by decide) (by omega) (by omega) (fun c6 => ?_) (fun c6 => ?_)
  · refine mRun.go (q_aload_n dX9_remember_50 rfl rfl) ?_
    refine mRun.go (q_getR dX9_remember_51 fo_X9_16 hD.1 rfl) ?_
    refine mRun.go (q_iconst dX9_remember_54) ?_
    refine mRun.go (q_aload_n dX9_remember_55 rfl rfl) ?_
    refine mRun.go (q_getR dX9_remember_56 fo_X9_22 hD.1 rfl) ?_
    refine mRun.go (q_sipush dX9_remember_59 (by decide)) ?_
    refine mRun.go (q_aload_n dX9_remember_62 rfl rfl) ?_
    refine mRun.go (q_getE (x := ((sU S).1 : Int)) dX9_remember_63 fo_X9_101 hD.1 rfl hun) ?_
    refine mRun.go (q_imul dX9_remember_66) ?_
    refine mRun.go (q_sipush dX9_remember_67 (by decide)) ?_
    have hcp := m_copies (r0 := 147) (r1 := 149) (i := 0) (j := 170 * (sU S).1) (m := 170) hI hD.2.2.2.1 hD.2.2.2.2.2.1 (by decide) (by decide) (by omega) (by decide) (by decide)
    rw [show ((170 * (sU S).1 : Nat) : Int) = 170 * ((sU S).1 : Int) by omega] at hcp
    refine mRun.go (q_callSv [mr 147, mi 0, mr 149, mi (170 * ((sU S).1 : Int)), mi 170] [] dX9_remember_70 co_X9_97 ⟨Nat.le_of_ble_eq_true rfl, Nat.le_of_ble_eq_true rfl⟩ gw_755 rfl rfl (Nat.le_of_ble_eq_true rfl) hcp) ?_
    refine mRun.go (q_aload_n dX9_remember_73 rfl rfl) ?_
    refine mRun.go (q_dup dX9_remember_74 rfl) ?_
    refine mRun.go (q_getE (x := ((sU S).1 : Int)) dX9_remember_75 fo_X9_101 hD.1 rfl (by rw [mcp_ne (by decide)]; exact hun)) ?_
    refine mRun.go (q_iconst dX9_remember_78) ?_
    refine mRun.go (q_iadd dX9_remember_79) ?_
    refine mRun.go (q_putI dX9_remember_80 fo_X9_101 fp_9_9 hD.1 rfl) ?_
    refine r_ret dX9_remember_83 rfl ?_
    have hn8 : (sU S).1 < 8 := by omega
    have e : pushF (sU S) (sF S) = ((sU S).1 + 1, fun k => if k = (sU S).1 then sF S else (sU S).2 k) := by unfold pushF; rw [if_neg (by omega)]
    refine ⟨rfl, _, rfl, (nrm_mup (nrm_mcp hI) (by omega)), fun r a => by rw [mup_nf (by omega)]; funext k; exact mcp_ne (by omega), rm_push (n := (sU S).1 + 1) hM.2.2 hL (fun r a b => by rw [mup_nf a]; funext k; exact mcp_ne b) (fun k a => by rw [mup_ne2 a, mcp_ne (by decide)]) (by rw [e]) (by rw [mup_self]; omega) (fun k hk => ?_)⟩
    rw [e]
    show FRM _ 149 (170 * k) (sL S) (if k = (sU S).1 then sF S else (sU S).2 k)
    by_cases z : k = (sU S).1
    · rw [if_pos z, z]
      exact hF.at hL (fun j hj => by rw [mup_ne (by decide)]; exact mcp_in hj)
    · rw [if_neg z]
      exact (hpa k (by omega)).fr hL (fun j a b => by rw [mup_ne (by decide)]; exact mcp_out (by omega))
  · refine mRun.go (q_iconst dX9_remember_9) ?_
    refine mRun.go (q_istore_n (ls' := [some (mr 144), some (mi 0)]) dX9_remember_10 rfl (Nat.le_of_ble_eq_true rfl) rfl) ?_
    have hn8 : (sU S).1 = 8 := by omega
    refine m_shift hI hD ?_ 1191 0 I (by decide) (by decide) hI (fun _ _ => rfl) (fun j => by rw [if_neg (by omega)])
    intro K hK hfr hs
    refine mRun.go (q_aload_n dX9_remember_40 rfl rfl) ?_
    refine mRun.go (q_dup dX9_remember_41 rfl) ?_
    refine mRun.go (q_getE (x := 8) dX9_remember_42 fo_X9_101 hD.1 rfl (by rw [hfr 144 (by decide), hun]; omega)) ?_
    refine mRun.go (q_iconst dX9_remember_45) ?_
    refine mRun.go (q_isub dX9_remember_46) ?_
    refine mRun.go (q_putI dX9_remember_47 fo_X9_101 fp_9_9 hD.1 rfl) ?_
    rw [show (8 : Int) - 1 = 7 by decide]
    refine mRun.go (q_aload_n dX9_remember_50 rfl rfl) ?_
    refine mRun.go (q_getR dX9_remember_51 fo_X9_16 hD.1 rfl) ?_
    refine mRun.go (q_iconst dX9_remember_54) ?_
    refine mRun.go (q_aload_n dX9_remember_55 rfl rfl) ?_
    refine mRun.go (q_getR dX9_remember_56 fo_X9_22 hD.1 rfl) ?_
    refine mRun.go (q_sipush dX9_remember_59 (by decide)) ?_
    refine mRun.go (q_aload_n dX9_remember_62 rfl rfl) ?_
    refine mRun.go (q_getE (x := 7) dX9_remember_63 fo_X9_101 hD.1 rfl mup_self) ?_
    refine mRun.go (q_imul dX9_remember_66) ?_
    refine mRun.go (q_sipush dX9_remember_67 (by decide)) ?_
    have hNK : Nrm (mup K 144 9 7) := nrm_mup hK (by decide)
    have hcp := m_copies (r0 := 147) (r1 := 149) (i := 0) (j := 1190) (m := 170) hNK hD.2.2.2.1 hD.2.2.2.2.2.1 (by decide) (by decide) (by decide) (by decide) (by decide)
    refine mRun.go (q_callSv [mr 147, mi 0, mr 149, mi (170 * 7), mi 170] [] dX9_remember_70 co_X9_97 ⟨Nat.le_of_ble_eq_true rfl, Nat.le_of_ble_eq_true rfl⟩ gw_755 rfl rfl (Nat.le_of_ble_eq_true rfl) hcp) ?_
    refine mRun.go (q_aload_n dX9_remember_73 rfl rfl) ?_
    refine mRun.go (q_dup dX9_remember_74 rfl) ?_
    refine mRun.go (q_getE (x := 7) dX9_remember_75 fo_X9_101 hD.1 rfl (by rw [mcp_ne (by decide), mup_self])) ?_
    refine mRun.go (q_iconst dX9_remember_78) ?_
    refine mRun.go (q_iadd dX9_remember_79) ?_
    refine mRun.go (q_putI dX9_remember_80 fo_X9_101 fp_9_9 hD.1 rfl) ?_
    refine r_ret dX9_remember_83 rfl ?_
    have e : pushF (sU S) (sF S) = (8, fun k => if k = 7 then sF S else (sU S).2 (k + 1)) := by unfold pushF; rw [if_pos hn8]
    refine ⟨rfl, _, rfl, (nrm_mup (nrm_mcp hNK) (by omega)), fun r a => by rw [mup_nf (by omega)]; funext k; rw [mcp_ne (by omega), mup_nf (by omega), hfr r (by omega)], rm_push (n := 8) hM.2.2 hL (fun r a b => by rw [mup_nf a]; funext k; rw [mcp_ne b, mup_nf a, hfr r b]) (fun k a => by rw [mup_ne2 a, mcp_ne (by decide), mup_ne2 a, hfr 144 (by decide)]) (by rw [e]) (by rw [mup_self]; rfl) (fun k hk => ?_)⟩
    rw [e]
    show FRM _ 149 (170 * k) (sL S) (if k = 7 then sF S else (sU S).2 (k + 1))
    by_cases z : k = 7
    · rw [if_pos z, z]
      exact hF.at hL (fun j hj => by rw [mup_ne (by decide), show 170 * 7 = 1190 from rfl, mcp_in hj, mup_nf (by decide), hfr 147 (by decide)])
    · rw [if_neg z]
      exact (hpa (k + 1) (by omega)).at hL (fun j hj => by rw [mup_ne (by decide), mcp_out (by omega), mup_nf (by decide), hs, if_pos (by omega)]; congr 1; omega)
