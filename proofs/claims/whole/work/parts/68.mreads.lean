/-! ===== the reference reads: all ===== -/
theorem ir_01 {c : Int → Int} {p : Int × Rd} {b : Int} {K : mI} (h : IR c p b K) : b = 0 ∨ b = 1 := h.elim (fun q => Or.inl q.1) (fun q => Or.inr q.1)

set_option maxRecDepth 100000 in
theorem m_readsItem {σ : List mC} {I : mI} {c : Int → Int} {Ln s : Int} {R : Rd} (hI : Nrm I) (hD : IsMd σ) (hT : TM I c Ln) (hat : I 144 27 = s) (hs : 0 ≤ s ∧ s ≤ 250) (hRd : RdM I R) (hok : RdOk R)  : mMt mX9_readsItem [mr 144] (σ, I) (fun v h => ∃ (b : Int) (K : mI), v = some (mi b) ∧ h = (σ, K) ∧ Nrm K ∧ FrM I K ∧ (0 ≤ K 144 27 ∧ K 144 27 ≤ s + 13) ∧ IR c (itm c R s) b K) := by
  refine mMt.of pl_9 (Nat.le_of_ble_eq_true rfl) ?_
  show mRun mZt mX9_readsItem 0 [some (mr 144), none] [] (σ, I) _
  have hhr := hr_rng hT (s := s)
  refine mRun.go (q_aload_n dX9_readsItem_0 rfl rfl) ?_
  refine mRun.go (q_callVi (r := 144) [] [] dX9_readsItem_1 co_X9_124 ⟨Nat.le_of_ble_eq_true rfl, Nat.le_of_ble_eq_true rfl⟩ gw_875 gs_30 rfl hD.1 rfl rfl rfl (Nat.le_of_ble_eq_true rfl) (m_here hI hD hT hat (by omega))) ?_
  refine mRun.go (q_istore_n (ls' := [some (mr 144), some (mi (hrC c Ln s))]) dX9_readsItem_4 rfl (Nat.le_of_ble_eq_true rfl) rfl) ?_
  refine mRun.go (q_aload_n dX9_readsItem_5 rfl rfl) ?_
  refine mRun.go (q_dup dX9_readsItem_6 rfl) ?_
  refine mRun.go (q_getE (x := s) dX9_readsItem_7 fo_X9_121 hD.1 rfl hat) ?_
  refine mRun.go (q_iconst dX9_readsItem_10) ?_
  refine mRun.go (q_iadd dX9_readsItem_11) ?_
  refine mRun.go (q_putI dX9_readsItem_12 fo_X9_121 fp_9_27 hD.1 rfl) ?_
  refine mRun.go (q_iload_n dX9_readsItem_15 rfl rfl) ?_
  rcases (show (hrC c Ln s) = 100 ∨ (hrC c Ln s) = 114 ∨ (hrC c Ln s) = 116 ∨ (hrC c Ln s) = 119 ∨ (hrC c Ln s) = 120 ∨ (¬ (hrC c Ln s) = 100 ∧ ¬ (hrC c Ln s) = 114 ∧ ¬ (hrC c Ln s) = 116 ∧ ¬ (hrC c Ln s) = 119 ∧ ¬ (hrC c Ln s) = 120) by omega) with s16 | s16 | s16 | s16 | s16 | s16
  · refine mRun.go (q_lsw (off := 57) (tgt := 73) dX9_readsItem_16 (hr_rng hT) (by decide) (by rw [s16]; rfl) (by decide)) ?_
    refine mRun.go (q_aload_n dX9_readsItem_73 rfl rfl) ?_
    have hK0 : Nrm (mup I 144 27 (s + 1)) := (nrm_mup hI (by omega))
    have hA0 : FrA I (mup I 144 27 (s + 1)) := fra_27 fra_rf
    obtain ⟨v1, h1, hc1, b, K, rfl, rfl, hK, hfK, hpos, hir⟩ := m_readsDrum (s := s + 1) hK0 hD (hT.fr (frm_fa hA0)) mup_self (by omega) (hRd.fa hA0) hok
    refine mRun.go (q_callVi (r := 144) [] [] dX9_readsItem_74 co_X9_154 ⟨Nat.le_of_ble_eq_true rfl, Nat.le_of_ble_eq_true rfl⟩ gw_886 gs_32 rfl hD.1 rfl rfl rfl (Nat.le_of_ble_eq_true rfl) hc1) ?_
    refine r_zret dX9_readsItem_77 rfl (ir_01 hir) ?_
    have ho := hr_or hT s
    have e : itm c R s = itD c R (s + 1) := by unfold itm; rw [if_neg (by omega), if_pos (by omega)]
    exact ⟨b, K, rfl, rfl, hK, frm_tr (frm_fa hA0) hfK, by omega, by rw [e]; exact hir⟩
  · refine mRun.go (q_lsw (off := 52) (tgt := 68) dX9_readsItem_16 (hr_rng hT) (by decide) (by rw [s16]; rfl) (by decide)) ?_
    refine mRun.go (q_aload_n dX9_readsItem_68 rfl rfl) ?_
    have hK0 : Nrm (mup I 144 27 (s + 1)) := (nrm_mup hI (by omega))
    have hA0 : FrA I (mup I 144 27 (s + 1)) := fra_27 fra_rf
    obtain ⟨v1, h1, hc1, b, K, rfl, rfl, hK, hfK, hpos, hir⟩ := m_readsRow (s := s + 1) hK0 hD (hT.fr (frm_fa hA0)) mup_self (by omega) (hRd.fa hA0) hok
    refine mRun.go (q_callVi (r := 144) [] [] dX9_readsItem_69 co_X9_150 ⟨Nat.le_of_ble_eq_true rfl, Nat.le_of_ble_eq_true rfl⟩ gw_879 gs_31 rfl hD.1 rfl rfl rfl (Nat.le_of_ble_eq_true rfl) hc1) ?_
    refine r_zret dX9_readsItem_72 rfl (ir_01 hir) ?_
    have ho := hr_or hT s
    have e : itm c R s = itR c R (s + 1) := by unfold itm; rw [if_pos (by omega)]
    exact ⟨b, K, rfl, rfl, hK, frm_tr (frm_fa hA0) hfK, by omega, by rw [e]; exact hir⟩
  · refine mRun.go (q_lsw (off := 67) (tgt := 83) dX9_readsItem_16 (hr_rng hT) (by decide) (by rw [s16]; rfl) (by decide)) ?_
    refine mRun.go (q_aload_n dX9_readsItem_83 rfl rfl) ?_
    have hK0 : Nrm (mup I 144 27 (s + 1)) := (nrm_mup hI (by omega))
    have hA0 : FrA I (mup I 144 27 (s + 1)) := fra_27 fra_rf
    obtain ⟨v1, h1, hc1, b, K, rfl, rfl, hK, hfK, hpos, hir⟩ := m_readsTraveller (s := s + 1) hK0 hD (hT.fr (frm_fa hA0)) mup_self (by omega) (hRd.fa hA0) hok
    refine mRun.go (q_callVi (r := 144) [] [] dX9_readsItem_84 co_X9_160 ⟨Nat.le_of_ble_eq_true rfl, Nat.le_of_ble_eq_true rfl⟩ gw_906 gs_36 rfl hD.1 rfl rfl rfl (Nat.le_of_ble_eq_true rfl) hc1) ?_
    refine r_zret dX9_readsItem_87 rfl (ir_01 hir) ?_
    have ho := hr_or hT s
    have e : itm c R s = itT c R (s + 1) := by unfold itm; rw [if_neg (by omega), if_neg (by omega), if_neg (by omega), if_pos (by omega)]
    exact ⟨b, K, rfl, rfl, hK, frm_tr (frm_fa hA0) hfK, by omega, by rw [e]; exact hir⟩
  · refine mRun.go (q_lsw (off := 72) (tgt := 88) dX9_readsItem_16 (hr_rng hT) (by decide) (by rw [s16]; rfl) (by decide)) ?_
    refine mRun.go (q_aload_n dX9_readsItem_88 rfl rfl) ?_
    have hK0 : Nrm (mup I 144 27 (s + 1)) := (nrm_mup hI (by omega))
    have hA0 : FrA I (mup I 144 27 (s + 1)) := fra_27 fra_rf
    obtain ⟨v1, h1, hc1, b, K, rfl, rfl, hK, hfK, hpos, hir⟩ := m_readsWet (s := s + 1) hK0 hD (hT.fr (frm_fa hA0)) mup_self (by omega) (hRd.fa hA0) hok
    refine mRun.go (q_callVi (r := 144) [] [] dX9_readsItem_89 co_X9_163 ⟨Nat.le_of_ble_eq_true rfl, Nat.le_of_ble_eq_true rfl⟩ gw_910 gs_37 rfl hD.1 rfl rfl rfl (Nat.le_of_ble_eq_true rfl) hc1) ?_
    refine r_zret dX9_readsItem_92 rfl (ir_01 hir) ?_
    have ho := hr_or hT s
    have e : itm c R s = itW c R (s + 1) := by unfold itm; rw [if_neg (by omega), if_neg (by omega), if_neg (by omega), if_neg (by omega), if_pos (by omega)]
    exact ⟨b, K, rfl, rfl, hK, frm_tr (frm_fa hA0) hfK, by omega, by rw [e]; exact hir⟩
  · refine mRun.go (q_lsw (off := 62) (tgt := 78) dX9_readsItem_16 (hr_rng hT) (by decide) (by rw [s16]; rfl) (by decide)) ?_
    refine mRun.go (q_aload_n dX9_readsItem_78 rfl rfl) ?_
    have hK0 : Nrm (mup I 144 27 (s + 1)) := (nrm_mup hI (by omega))
    have hA0 : FrA I (mup I 144 27 (s + 1)) := fra_27 fra_rf
    obtain ⟨v1, h1, hc1, b, K, rfl, rfl, hK, hfK, hpos, hir⟩ := m_readsOther (s := s + 1) hK0 hD (hT.fr (frm_fa hA0)) mup_self (by omega) (hRd.fa hA0) hok
    refine mRun.go (q_callVi (r := 144) [] [] dX9_readsItem_79 co_X9_157 ⟨Nat.le_of_ble_eq_true rfl, Nat.le_of_ble_eq_true rfl⟩ gw_898 gs_34 rfl hD.1 rfl rfl rfl (Nat.le_of_ble_eq_true rfl) hc1) ?_
    refine r_zret dX9_readsItem_82 rfl (ir_01 hir) ?_
    have ho := hr_or hT s
    have e : itm c R s = itX c R (s + 1) := by unfold itm; rw [if_neg (by omega), if_neg (by omega), if_pos (by omega)]
    exact ⟨b, K, rfl, rfl, hK, frm_tr (frm_fa hA0) hfK, by omega, by rw [e]; exact hir⟩
  · refine mRun.go (q_lsw (off := 77) (tgt := 93) dX9_readsItem_16 (hr_rng hT) (by decide) (by simp [Op.lookupswitch.offset]; rw [if_neg (by omega), if_neg (by omega), if_neg (by omega), if_neg (by omega), if_neg (by omega)]) (by decide)) ?_
    refine mRun.go (q_iconst dX9_readsItem_93) ?_
    refine r_zret dX9_readsItem_94 rfl (by simp) ?_
    have ho := hr_or hT s
    have e : itm c R s = (-1, R) := by unfold itm; rw [if_neg (by omega), if_neg (by omega), if_neg (by omega), if_neg (by omega), if_neg (by omega)]
    exact ⟨0, _, rfl, rfl, (nrm_mup hI (by omega)), frm_fa (fra_27 fra_rf), by rw [mup_self]; omega, ir_no (by rw [e])⟩

set_option maxRecDepth 100000 in
theorem m_reads_loop {σ : List mC} {I : mI} {c : Int → Int} {Ln : Int} (hD : IsMd σ) (hT : TM I c Ln) : ∀ (n : Nat) (s : Int) (R : Rd) (K : mI) {o1 : Option mV}, Ln < s + (n : Int) → 0 ≤ s ∧ s ≤ Ln → Nrm K → FrM I K → K 144 27 = s → RdM K R → RdOk R → mRun mZt mX9_reads 9 [some (mr 144), o1] [] (σ, K) (fun v h => v = some (mi (prs c Ln n s R).1) ∧ ∃ K, h = (σ, K) ∧ Nrm K ∧ FrM I K ∧ ((prs c Ln n s R).1 = -4 → RdM K (prs c Ln n s R).2)) := by
  intro n
  induction n with
  | zero => intro s R K o1 h h2; omega
  | succ n ih =>
    intro s R K o1 hn hs hK hfr hatK hRd hok
    have hLr := hT.2.1
    refine mRun.go (q_aload_n dX9_reads_9 rfl rfl) ?_
    refine mRun.go (q_getE (x := s) dX9_reads_10 fo_X9_121 hD.1 rfl hatK) ?_
    refine mRun.go (q_aload_n dX9_reads_13 rfl rfl) ?_
    refine mRun.go (q_getE (x := Ln) dX9_reads_14 fo_X9_118 hD.1 rfl (hT.fr hfr).1) ?_
    refine r_icmp_ge (tgt := 46) dX9_reads_17 (by decide) (by omega) (by omega) (fun c17 => ?_) (fun c17 => ?_)
    · refine mRun.go (q_bipush dX9_reads_46 (by decide)) ?_
      refine r_iret dX9_reads_48 rfl ?_
      have e : prs c Ln (n + 1) s R = (-4, R) := by simp only [prs]; rw [if_neg (by omega)]
      rw [e]
      exact ⟨rfl, K, rfl, hK, hfr, fun _ => hRd⟩
    · refine mRun.go (q_aload_n dX9_reads_20 rfl rfl) ?_
      refine mRun.go (q_getE (x := s) dX9_reads_21 fo_X9_121 hD.1 rfl hatK) ?_
      refine mRun.go (q_istore_n (ls' := [some (mr 144), some (mi s)]) dX9_reads_24 rfl (Nat.le_of_ble_eq_true rfl) rfl) ?_
      refine mRun.go (q_aload_n dX9_reads_25 rfl rfl) ?_
      obtain ⟨v1, h1, hc1, b, K1, rfl, rfl, hK1, hfK1, hpos, hir⟩ := m_readsItem (s := s) hK hD (hT.fr hfr) hatK (by omega) hRd hok
      have hb01 := ir_01 hir
      have hfr1 := frm_tr hfr hfK1
      refine mRun.go (q_callVi (r := 144) [] [] dX9_reads_26 co_X9_166 ⟨Nat.le_of_ble_eq_true rfl, Nat.le_of_ble_eq_true rfl⟩ gw_871 gs_29 rfl hD.1 rfl rfl rfl (Nat.le_of_ble_eq_true rfl) hc1) ?_
      refine r_if_eq (tgt := 41) dX9_reads_29 (by decide) (by omega) (fun c29 => ?_) (fun c29 => ?_)
      · refine mRun.go (q_iload_n dX9_reads_41 rfl rfl) ?_
        refine r_iret dX9_reads_42 rfl ?_
        have hm1 : (itm c R s).1 = -1 := by
          rcases hir with ⟨-, q⟩ | ⟨q, -, -⟩
          · exact q
          · omega
        have e : prs c Ln (n + 1) s R = (s, R) := by simp only [prs]; rw [if_pos (by omega), if_pos hm1]
        rw [e]
        exact ⟨rfl, K1, rfl, hK1, hfr1, fun q => absurd q (by show ¬ s = -4; omega)⟩
      · refine mRun.go (q_aload_n dX9_reads_32 rfl rfl) ?_
        refine mRun.go (q_bipush dX9_reads_33 (by decide)) ?_
        obtain ⟨v2, h2, hc2, rfl, K2, rfl, hK2, hA2, hat2, hq2⟩ := m_takes2 (s := K1 144 27) (a := 59) hK1 hD (hT.fr hfr1) rfl (by omega) (Or.inr rfl)
        refine mRun.go (q_callVi (r := 144) [mi 59] [] dX9_reads_35 co_X9_147 ⟨Nat.le_of_ble_eq_true rfl, Nat.le_of_ble_eq_true rfl⟩ gw_902 gs_35 rfl hD.1 rfl rfl rfl (Nat.le_of_ble_eq_true rfl) hc2) ?_
        refine r_if_ne (tgt := 43) dX9_reads_38 (by decide) (by split <;> omega) (fun c38 => ?_) (fun c38 => ?_)
        · have h38 := ite01 c38
          refine mRun.go (q_goto (tgt := 9) dX9_reads_43 (by decide)) ?_
          rcases hir with ⟨q, -⟩ | ⟨-, hy, -⟩
          · omega
          have hy := hy h38
          have hlt : K1 144 27 < Ln := Classical.byContradiction fun q => by have := hT.2.2.2.1 (K1 144 27) (by omega); omega
          have hnx := @itm_next c R s (by omega)
          have e : prs c Ln (n + 1) s R = prs c Ln n (itm c R s).1 (itm c R s).2 := by simp only [prs]; rw [if_pos (by omega), if_neg (by omega)]
          rw [e]
          exact ih (itm c R s).1 (itm c R s).2 K2 (by omega) (by omega) hK2 (frm_tr hfr1 (frm_fa hA2)) (by rw [hat2, if_pos h38]; omega) (hy.2.fa hA2) (itm_ok hok)
        · have h38 := ite00 (Classical.not_not.mp c38)
          refine mRun.go (q_iload_n dX9_reads_41 rfl rfl) ?_
          refine r_iret dX9_reads_42 rfl ?_
          have hm1 : (itm c R s).1 = -1 := by
            rcases hir with ⟨-, q⟩ | ⟨-, -, q⟩
            · exact q
            · exact q h38
          have e : prs c Ln (n + 1) s R = (s, R) := by simp only [prs]; rw [if_pos (by omega), if_pos hm1]
          rw [e]
          exact ⟨rfl, K2, rfl, hK2, (frm_tr hfr1 (frm_fa hA2)), fun q => absurd q (by show ¬ s = -4; omega)⟩

set_option maxRecDepth 100000 in
theorem m_reads {σ : List mC} {I : mI} {c : Int → Int} {Ln : Int} (hI : Nrm I) (hD : IsMd σ) (hT : TM I c Ln)  : mMt mX9_reads [mr 144] (σ, I) (fun v h => v = some (mi (prs c Ln 201 0 rd0).1) ∧ ∃ K, h = (σ, K) ∧ Nrm K ∧ FrM I K ∧ ((prs c Ln 201 0 rd0).1 = -4 → RdM K (prs c Ln 201 0 rd0).2)) := by
  refine mMt.of pl_9 (Nat.le_of_ble_eq_true rfl) ?_
  show mRun mZt mX9_reads 0 [some (mr 144), none] [] (σ, I) _
  refine mRun.go (q_aload_n dX9_reads_0 rfl rfl) ?_
  obtain ⟨v0, h0, hc0, rfl, K, rfl, hK, hRd, hf1, hf2⟩ := m_forgetsRead hI hD
  refine mRun.go (q_callVv (r := 144) [] [] dX9_reads_1 co_X9_55 ⟨Nat.le_of_ble_eq_true rfl, Nat.le_of_ble_eq_true rfl⟩ gw_740 gs_24 rfl hD.1 rfl rfl rfl (Nat.le_of_ble_eq_true rfl) hc0) ?_
  refine mRun.go (q_aload_n dX9_reads_4 rfl rfl) ?_
  refine mRun.go (q_iconst dX9_reads_5) ?_
  refine mRun.go (q_putI dX9_reads_6 fo_X9_121 fp_9_27 hD.1 rfl) ?_
  have hA : FrA K (mup K 144 27 0) := fra_27 fra_rf
  have hfr : FrM I (mup K 144 27 0) := frm_tr ⟨fun r a b d => hf1 r a (by omega), fun k hk => hf2 k (by omega) (by omega) (by omega) (by omega) (by omega)⟩ (frm_fa hA)
  have hLr := hT.2.1
  exact m_reads_loop hD hT 201 0 rd0 (mup K 144 27 0) (by omega) (by omega) (nrm_mup hK (by omega)) hfr mup_self (hRd.fa hA) rd0_ok

theorem tm_of {I : mI} {S : Sx} {B : Int} (h : RM I S) (hS : SxOk B S) : TM I (sC S) (sLn S) := ⟨h.1, hS.2.2.2.2.2.2.2.2, h.2.1, h.2.2.1, h.2.2.2.1⟩

set_option maxRecDepth 100000 in
theorem g_fault {σ : List mC} {I : mI} {S : Sx} {B : Int} (hM : MS σ I S) (hS : SxOk B S)  : mMt mX9_fault [mr 144] (σ, I) (OutM σ I S (a_fault S)) := by
  refine mMt.of pl_9 (Nat.le_of_ble_eq_true rfl) ?_
  show mRun mZt mX9_fault 0 [some (mr 144)] [] (σ, I) _
  have hI := hM.1
  have hD := hM.2.1
  have hL := hS.1
  have hsz := hM.2.2.1
  have hLR := hM.2.2.2.2.2.2.1
  have hF := hM.2.2.2.2.2.2.2.1
  have hun := hM.2.2.2.2.2.2.2.2.1
  have hpa := hM.2.2.2.2.2.2.2.2.2.1
  have hkm := hM.2.2.2.2.2.2.2.2.2.2.1
  have hke := hM.2.2.2.2.2.2.2.2.2.2.2.1
  have hhm := hM.2.2.2.2.2.2.2.2.2.2.2.2.1
  have hhe := hM.2.2.2.2.2.2.2.2.2.2.2.2.2.1
  have hN := hM.2.2.2.2.2.2.2.2.2.2.2.2.2.2
  have hpr := lp_rng hL
  have hqe := lq_eq hL
  have hwr := hL.2.1
  have hrr := hL.1
  have hdr := hL.2.2.1
  have hnt := hL.2.2.2.1
  have hwF := hS.2.1.1
  have hhF := hS.2.1.2.1
  have hvF := hS.2.1.2.2.2
  have hH8 := hS.2.2.2.2.2.2.1
  have hU8 := hS.2.2.1
  have hK2 := hS.2.2.2.2.1
  have hLn := hS.2.2.2.2.2.2.2.2
  refine mRun.go (q_aload_n dX9_fault_0 rfl rfl) ?_
  have hT := tm_of hM.2.2 hS
  have hpr9 := @prs_rng (sC S) (sLn S) 201 0 rd0 (by decide)
  obtain ⟨v0, h0, hc0, rfl, K, rfl, hK, hfK, hRdK⟩ := m_reads hI hD hT
  refine mRun.go (q_callVi (r := 144) [] [] dX9_fault_1 co_X9_169 ⟨Nat.le_of_ble_eq_true rfl, Nat.le_of_ble_eq_true rfl⟩ gw_867 gs_28 rfl hD.1 rfl rfl rfl (Nat.le_of_ble_eq_true rfl) hc0) ?_
  refine r_iret dX9_fault_4 rfl ?_
  exact outm_q hM hS hK hfK
