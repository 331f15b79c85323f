/-! ===== the reference: the best change ===== -/
set_option maxRecDepth 100000 in
theorem g_tune_loop {σ : List mC} {S : Sx} {B t as : Int} (hS : SxOk B S) (htt : isT S t) : ∀ (n x : Nat) (I : mI) (o7 : Option mV), lQ (sL S) - x < n → x ≤ lQ (sL S) → MS σ I S → mRun mZt mX9_tune 70 [some (mr 144), some (mi t), some (mi as), some (mi (bst (tunF S (tvS S t)) (tun0 S (tvS S t)) x).2), some (mi (bst (tunF S (tvS S t)) (tun0 S (tvS S t)) x).1), some (mi (2 + 36 * (tvS S t).2.2.1)), some (mi (x : Int)), o7] [] (σ, I) (OutM σ I S (bst (tunF S (tvS S t)) (tun0 S (tvS S t)) (lQ (sL S))).1) := by
  intro n
  induction n with
  | zero => intro x I o7 h; omega
  | succ n ih =>
    intro x I o7 hn hx0 hM
    have hI := hM.1
    have hD := hM.2.1
    have hL := hS.1
    have hsz := hM.2.2.1
    have hLR := hM.2.2.2.2.2.2.1
    have hF := hM.2.2.2.2.2.2.2.1
    have hun := hM.2.2.2.2.2.2.2.2.1
    have hpa := hM.2.2.2.2.2.2.2.2.2.1
    have hkm := hM.2.2.2.2.2.2.2.2.2.2.1
    have hke := hM.2.2.2.2.2.2.2.2.2.2.2.1
    have hhm := hM.2.2.2.2.2.2.2.2.2.2.2.2.1
    have hhe := hM.2.2.2.2.2.2.2.2.2.2.2.2.2.1
    have hN := hM.2.2.2.2.2.2.2.2.2.2.2.2.2.2
    have hpr := lp_rng hL
    have hqe := lq_eq hL
    have hwr := hL.2.1
    have hrr := hL.1
    have hdr := hL.2.2.1
    have hnt := hL.2.2.2.1
    have hwF := hS.2.1.1
    have hhF := hS.2.1.2.1
    have hvF := hS.2.1.2.2.2
    have hH8 := hS.2.2.2.2.2.2.1
    have hU8 := hS.2.2.1
    have hK2 := hS.2.2.2.2.1
    have hLn := hS.2.2.2.2.2.2.2.2
    have htt : 0 ≤ t ∧ t < lTv (sL S) := htt
    have hdd : 0 ≤ (tvS S t).2.2.1 ∧ (tvS S t).2.2.1 < lD (sL S) := (hvF t.toNat (by omega)).2.2.1
    have hb := @bst_rng (tunF S (tvS S t)) (tun0 S (tvS S t)) (by unfold tun0; have := @anS_rng S 1 (tvS S t); split <;> omega) (fun k => by unfold tunF; have := @ansU_rng (sL S) (iup (fT (sF S)) (36 * (tvS S t).2.2.1 + (k : Int)) (lG (sL S) (k : Int))) (fW (sF S)) 1 (tvS S t); split <;> omega) x
    refine mRun.go (q_iload dX9_tune_70 rfl) ?_
    refine mRun.go (q_aload_n dX9_tune_72 rfl rfl) ?_
    refine mRun.go (q_getE (x := lR (sL S)) dX9_tune_73 fo_X9_85 hD.1 rfl hLR.1) ?_
    refine mRun.go (q_aload_n dX9_tune_76 rfl rfl) ?_
    refine mRun.go (q_getE (x := lW (sL S)) dX9_tune_77 fo_X9_88 hD.1 rfl hLR.2.1) ?_
    refine mRun.go (q_imul dX9_tune_80) ?_
    refine r_icmp_ge (tgt := 193) dX9_tune_81 (by decide) (by omega) (by have : lR (sL S) * lW (sL S) = lP (sL S) := rfl; omega) (fun c81 => ?_) (fun c81 => ?_)
    · refine mRun.go (q_iload dX9_tune_193 rfl) ?_
      refine r_iret dX9_tune_195 rfl ?_
      have hxe : x = lQ (sL S) := by have : lR (sL S) * lW (sL S) = lP (sL S) := rfl; omega
      subst hxe
      exact outm_q hM hS hI frm_rf
    · have hxp : (x : Int) < lP (sL S) := by have : lR (sL S) * lW (sL S) = lP (sL S) := rfl; omega
      refine mRun.go (q_aload_n dX9_tune_84 rfl rfl) ?_
      refine mRun.go (q_getR dX9_tune_85 fo_X9_16 hD.1 rfl) ?_
      refine mRun.go (q_iload dX9_tune_88 rfl) ?_
      refine mRun.go (q_iload dX9_tune_90 rfl) ?_
      refine mRun.go (q_iadd dX9_tune_92) ?_
      refine mRun.go (q_ialdE (x := fT (sF S) (36 * (tvS S t).2.2.1 + (x : Int))) dX9_tune_93 hD.2.2.2.1 (by omega) (by omega) (by rw [show (2 + 36 * (tvS S t).2.2.1 + (x : Int)).toNat = 0 + 2 + (36 * (tvS S t).2.2.1 + (x : Int)).toNat by omega]; exact hF.2.2.1 _ _ (by omega) (by omega) (by omega) (by omega))) ?_
      refine mRun.go (q_aload_n dX9_tune_94 rfl rfl) ?_
      refine mRun.go (q_getR dX9_tune_95 fo_X9_7 hD.1 rfl) ?_
      refine mRun.go (q_iload dX9_tune_98 rfl) ?_
      refine mRun.go (q_ialdE (x := lG (sL S) (x : Int)) dX9_tune_100 hD.2.1 (by omega) (by omega) (lrm_g hLR (by omega))) ?_
      refine r_icmp_eq (tgt := 187) dX9_tune_101 (by decide) (tellsM_rng hI hF (by omega) (by omega)) (by have := hL.2.2.2.2.1 (x : Int) (by omega) (by omega); omega) (fun c101 => ?_) (fun c101 => ?_)
      · refine mRun.go (q_iinc (ls' := [some (mr 144), some (mi t), some (mi as), some (mi ((bst (tunF S (tvS S t)) (tun0 S (tvS S t)) x).2)), some (mi ((bst (tunF S (tvS S t)) (tun0 S (tvS S t)) x).1)), some (mi (2 + 36 * (tvS S t).2.2.1)), some (mi ((x : Int) + 1)), o7]) dX9_tune_187 rfl (Nat.le_of_ble_eq_true rfl) rfl) ?_
        refine mRun.go (q_goto (tgt := 70) dX9_tune_190 (by decide)) ?_
        have e1 : ((x : Int) + 1) = ((x + 1 : Nat) : Int) := by omega
        rw [e1]
        have ef : tunF S (tvS S t) x = -4 := by unfold tunF; rw [if_pos c101]
        have h := ih (x + 1) I o7 (by have : lR (sL S) * lW (sL S) = lP (sL S) := rfl; omega) (by have : lR (sL S) * lW (sL S) = lP (sL S) := rfl; omega) hM
        have e2 : bst (tunF S (tvS S t)) (tun0 S (tvS S t)) (x + 1) = bst (tunF S (tvS S t)) (tun0 S (tvS S t)) x := by simp only [bst]; rw [ef, if_neg (fun q => q.1 rfl)]
        rw [e2] at h
        exact h
      · refine mRun.go (q_aload_n dX9_tune_104 rfl rfl) ?_
        refine mRun.go (q_getR dX9_tune_105 fo_X9_16 hD.1 rfl) ?_
        refine mRun.go (q_iconst dX9_tune_108) ?_
        refine mRun.go (q_aload_n dX9_tune_109 rfl rfl) ?_
        refine mRun.go (q_getR dX9_tune_110 fo_X9_19 hD.1 rfl) ?_
        refine mRun.go (q_iconst dX9_tune_113) ?_
        refine mRun.go (q_sipush dX9_tune_114 (by decide)) ?_
        refine mRun.go (q_callSv [mr 147, mi 0, mr 148, mi 0, mi 170] [] dX9_tune_117 co_X9_97 ⟨Nat.le_of_ble_eq_true rfl, Nat.le_of_ble_eq_true rfl⟩ gw_755 rfl rfl (Nat.le_of_ble_eq_true rfl) (m_copies (i := 0) (j := 0) (m := 170) hI hD.2.2.2.1 hD.2.2.2.2.1 (by decide) (by decide) (by decide) (by decide) (by decide))) ?_
        refine mRun.go (q_aload_n dX9_tune_120 rfl rfl) ?_
        refine mRun.go (q_getR dX9_tune_121 fo_X9_19 hD.1 rfl) ?_
        refine mRun.go (q_iload dX9_tune_124 rfl) ?_
        refine mRun.go (q_iload dX9_tune_126 rfl) ?_
        refine mRun.go (q_iadd dX9_tune_128) ?_
        refine mRun.go (q_aload_n dX9_tune_129 rfl rfl) ?_
        refine mRun.go (q_getR dX9_tune_130 fo_X9_7 hD.1 rfl) ?_
        refine mRun.go (q_iload dX9_tune_133 rfl) ?_
        refine mRun.go (q_ialdE (x := lG (sL S) (x : Int)) dX9_tune_135 hD.2.1 (by omega) (by omega) ((congrFun (asd_r (I := I) (r := 145) (by decide)) _).trans (lrm_g hLR (by omega)))) ?_
        refine mRun.go (q_iast dX9_tune_136 hD.2.2.2.2.1 (by omega) (by omega)) ?_
        refine mRun.go (q_aload_n dX9_tune_137 rfl rfl) ?_
        refine mRun.go (q_iload_n dX9_tune_138 rfl rfl) ?_
        refine mRun.go (q_iconst dX9_tune_139) ?_
        have hgr := hL.2.2.2.2.1 (x : Int) (by omega) (by omega)
        have hFd : FRM (mup (asd I) 148 (2 + 36 * (tvS S t).2.2.1 + (x : Int)).toNat (lG (sL S) (x : Int))) 148 0 (sL S) (setTl (sF S) (36 * (tvS S t).2.2.1 + (x : Int)) (lG (sL S) (x : Int))) := frm_tl (asd_f hF hL) hL (by omega) (by omega)
        obtain ⟨v0, h0, hc0, rfl, K, rfl, hK, hfK⟩ := m_untilSo (t := t.toNat) (s := 1) (nrm_mup (show Nrm (asd I) from nrm_mcp hI) (by omega)) hD hL ((hLR.frm asd_m).frm (frm_a (fun r p q => mup_nf q))) hFd (by omega) hwF (hvF _ (by omega)) (by decide)
        rw [show ((t.toNat : Nat) : Int) = t by omega] at hc0
        have hfQ : FrM I K := frm_tr asd_m (frm_a (fun r p q => (hfK r p q).trans (mup_nf q)))
        have har := @ansU_rng (sL S) (iup (fT (sF S)) (36 * (tvS S t).2.2.1 + (x : Int)) (lG (sL S) (x : Int))) (fW (sF S)) 1 (tvS S t)
        have ef : tunF S (tvS S t) x = ansU (sL S) (iup (fT (sF S)) (36 * (tvS S t).2.2.1 + (x : Int)) (lG (sL S) (x : Int))) (fW (sF S)) 1 (tvS S t) := by unfold tunF; rw [if_neg c101]
        refine mRun.go (q_callVi (r := 144) [mi t, mi 1] [] dX9_tune_140 co_X9_232 ⟨Nat.le_of_ble_eq_true rfl, Nat.le_of_ble_eq_true rfl⟩ gw_1036 gs_51 rfl hD.1 rfl rfl rfl (Nat.le_of_ble_eq_true rfl) hc0) ?_
        refine mRun.go (q_istore (ls' := [some (mr 144), some (mi t), some (mi as), some (mi ((bst (tunF S (tvS S t)) (tun0 S (tvS S t)) x).2)), some (mi ((bst (tunF S (tvS S t)) (tun0 S (tvS S t)) x).1)), some (mi (2 + 36 * (tvS S t).2.2.1)), some (mi (x : Int)), some (mi (ansU (sL S) (iup (fT (sF S)) (36 * (tvS S t).2.2.1 + (x : Int)) (lG (sL S) (x : Int))) (fW (sF S)) 1 (tvS S t)))]) dX9_tune_143 (Nat.le_of_ble_eq_true rfl) rfl) ?_
        refine mRun.go (q_iload dX9_tune_145 rfl) ?_
        refine mRun.go (q_bipush dX9_tune_147 (by decide)) ?_
        have j149 : ∀ {post : Option mV → mH → Prop}, mRun mZt mX9_tune 165 [some (mr 144), some (mi t), some (mi as), some (mi ((bst (tunF S (tvS S t)) (tun0 S (tvS S t)) x).2)), some (mi ((bst (tunF S (tvS S t)) (tun0 S (tvS S t)) x).1)), some (mi (2 + 36 * (tvS S t).2.2.1)), some (mi (x : Int)), some (mi (ansU (sL S) (iup (fT (sF S)) (36 * (tvS S t).2.2.1 + (x : Int)) (lG (sL S) (x : Int))) (fW (sF S)) 1 (tvS S t)))] [mi (if ansU (sL S) (iup (fT (sF S)) (36 * (tvS S t).2.2.1 + (x : Int)) (lG (sL S) (x : Int))) (fW (sF S)) 1 (tvS S t) ≠ -4 ∧ ansU (sL S) (iup (fT (sF S)) (36 * (tvS S t).2.2.1 + (x : Int)) (lG (sL S) (x : Int))) (fW (sF S)) 1 (tvS S t) < (bst (tunF S (tvS S t)) (tun0 S (tvS S t)) x).2 then (x : Int) else (bst (tunF S (tvS S t)) (tun0 S (tvS S t)) x).1)] (σ, K) post → mRun mZt mX9_tune 149 [some (mr 144), some (mi t), some (mi as), some (mi ((bst (tunF S (tvS S t)) (tun0 S (tvS S t)) x).2)), some (mi ((bst (tunF S (tvS S t)) (tun0 S (tvS S t)) x).1)), some (mi (2 + 36 * (tvS S t).2.2.1)), some (mi (x : Int)), some (mi (ansU (sL S) (iup (fT (sF S)) (36 * (tvS S t).2.2.1 + (x : Int)) (lG (sL S) (x : Int))) (fW (sF S)) 1 (tvS S t)))] [mi (-4), mi (ansU (sL S) (iup (fT (sF S)) (36 * (tvS S t).2.2.1 + (x : Int)) (lG (sL S) (x : Int))) (fW (sF S)) 1 (tvS S t))] (σ, K) post := by
          intro post k
          refine r_icmp_eq (tgt := 163) dX9_tune_149 (by decide) (by omega) (by omega) (fun c149 => ?_) (fun c149 => ?_)
          · refine mRun.go (q_iload dX9_tune_163 rfl) ?_
            first | (rw [if_pos (show ansU (sL S) (iup (fT (sF S)) (36 * (tvS S t).2.2.1 + (x : Int)) (lG (sL S) (x : Int))) (fW (sF S)) 1 (tvS S t) ≠ -4 ∧ ansU (sL S) (iup (fT (sF S)) (36 * (tvS S t).2.2.1 + (x : Int)) (lG (sL S) (x : Int))) (fW (sF S)) 1 (tvS S t) < (bst (tunF S (tvS S t)) (tun0 S (tvS S t)) x).2 from ⟨by omega, by omega⟩)] at k; exact k) | (rw [if_neg (show ¬ (ansU (sL S) (iup (fT (sF S)) (36 * (tvS S t).2.2.1 + (x : Int)) (lG (sL S) (x : Int))) (fW (sF S)) 1 (tvS S t) ≠ -4 ∧ ansU (sL S) (iup (fT (sF S)) (36 * (tvS S t).2.2.1 + (x : Int)) (lG (sL S) (x : Int))) (fW (sF S)) 1 (tvS S t) < (bst (tunF S (tvS S t)) (tun0 S (tvS S t)) x).2) from fun q => by omega)] at k; exact k)
          · refine mRun.go (q_iload dX9_tune_152 rfl) ?_
            refine mRun.go (q_iload_n dX9_tune_154 rfl rfl) ?_
            refine r_icmp_ge (tgt := 163) dX9_tune_155 (by decide) (by omega) (by omega) (fun c155 => ?_) (fun c155 => ?_)
            · refine mRun.go (q_iload dX9_tune_163 rfl) ?_
              first | (rw [if_pos (show ansU (sL S) (iup (fT (sF S)) (36 * (tvS S t).2.2.1 + (x : Int)) (lG (sL S) (x : Int))) (fW (sF S)) 1 (tvS S t) ≠ -4 ∧ ansU (sL S) (iup (fT (sF S)) (36 * (tvS S t).2.2.1 + (x : Int)) (lG (sL S) (x : Int))) (fW (sF S)) 1 (tvS S t) < (bst (tunF S (tvS S t)) (tun0 S (tvS S t)) x).2 from ⟨by omega, by omega⟩)] at k; exact k) | (rw [if_neg (show ¬ (ansU (sL S) (iup (fT (sF S)) (36 * (tvS S t).2.2.1 + (x : Int)) (lG (sL S) (x : Int))) (fW (sF S)) 1 (tvS S t) ≠ -4 ∧ ansU (sL S) (iup (fT (sF S)) (36 * (tvS S t).2.2.1 + (x : Int)) (lG (sL S) (x : Int))) (fW (sF S)) 1 (tvS S t) < (bst (tunF S (tvS S t)) (tun0 S (tvS S t)) x).2) from fun q => by omega)] at k; exact k)
            · refine mRun.go (q_iload dX9_tune_158 rfl) ?_
              refine mRun.go (q_goto (tgt := 165) dX9_tune_160 (by decide)) ?_
              first | (rw [if_pos (show ansU (sL S) (iup (fT (sF S)) (36 * (tvS S t).2.2.1 + (x : Int)) (lG (sL S) (x : Int))) (fW (sF S)) 1 (tvS S t) ≠ -4 ∧ ansU (sL S) (iup (fT (sF S)) (36 * (tvS S t).2.2.1 + (x : Int)) (lG (sL S) (x : Int))) (fW (sF S)) 1 (tvS S t) < (bst (tunF S (tvS S t)) (tun0 S (tvS S t)) x).2 from ⟨by omega, by omega⟩)] at k; exact k) | (rw [if_neg (show ¬ (ansU (sL S) (iup (fT (sF S)) (36 * (tvS S t).2.2.1 + (x : Int)) (lG (sL S) (x : Int))) (fW (sF S)) 1 (tvS S t) ≠ -4 ∧ ansU (sL S) (iup (fT (sF S)) (36 * (tvS S t).2.2.1 + (x : Int)) (lG (sL S) (x : Int))) (fW (sF S)) 1 (tvS S t) < (bst (tunF S (tvS S t)) (tun0 S (tvS S t)) x).2) from fun q => by omega)] at k; exact k)
        refine j149 ?_
        refine mRun.go (q_istore (ls' := [some (mr 144), some (mi t), some (mi as), some (mi ((bst (tunF S (tvS S t)) (tun0 S (tvS S t)) x).2)), some (mi (if ansU (sL S) (iup (fT (sF S)) (36 * (tvS S t).2.2.1 + (x : Int)) (lG (sL S) (x : Int))) (fW (sF S)) 1 (tvS S t) ≠ -4 ∧ ansU (sL S) (iup (fT (sF S)) (36 * (tvS S t).2.2.1 + (x : Int)) (lG (sL S) (x : Int))) (fW (sF S)) 1 (tvS S t) < (bst (tunF S (tvS S t)) (tun0 S (tvS S t)) x).2 then (x : Int) else (bst (tunF S (tvS S t)) (tun0 S (tvS S t)) x).1)), some (mi (2 + 36 * (tvS S t).2.2.1)), some (mi (x : Int)), some (mi (ansU (sL S) (iup (fT (sF S)) (36 * (tvS S t).2.2.1 + (x : Int)) (lG (sL S) (x : Int))) (fW (sF S)) 1 (tvS S t)))]) dX9_tune_165 (Nat.le_of_ble_eq_true rfl) rfl) ?_
        refine mRun.go (q_iload dX9_tune_167 rfl) ?_
        refine mRun.go (q_bipush dX9_tune_169 (by decide)) ?_
        have j171 : ∀ {post : Option mV → mH → Prop}, mRun mZt mX9_tune 186 [some (mr 144), some (mi t), some (mi as), some (mi ((bst (tunF S (tvS S t)) (tun0 S (tvS S t)) x).2)), some (mi (if ansU (sL S) (iup (fT (sF S)) (36 * (tvS S t).2.2.1 + (x : Int)) (lG (sL S) (x : Int))) (fW (sF S)) 1 (tvS S t) ≠ -4 ∧ ansU (sL S) (iup (fT (sF S)) (36 * (tvS S t).2.2.1 + (x : Int)) (lG (sL S) (x : Int))) (fW (sF S)) 1 (tvS S t) < (bst (tunF S (tvS S t)) (tun0 S (tvS S t)) x).2 then (x : Int) else (bst (tunF S (tvS S t)) (tun0 S (tvS S t)) x).1)), some (mi (2 + 36 * (tvS S t).2.2.1)), some (mi (x : Int)), some (mi (ansU (sL S) (iup (fT (sF S)) (36 * (tvS S t).2.2.1 + (x : Int)) (lG (sL S) (x : Int))) (fW (sF S)) 1 (tvS S t)))] [mi (if ansU (sL S) (iup (fT (sF S)) (36 * (tvS S t).2.2.1 + (x : Int)) (lG (sL S) (x : Int))) (fW (sF S)) 1 (tvS S t) ≠ -4 ∧ ansU (sL S) (iup (fT (sF S)) (36 * (tvS S t).2.2.1 + (x : Int)) (lG (sL S) (x : Int))) (fW (sF S)) 1 (tvS S t) < (bst (tunF S (tvS S t)) (tun0 S (tvS S t)) x).2 then ansU (sL S) (iup (fT (sF S)) (36 * (tvS S t).2.2.1 + (x : Int)) (lG (sL S) (x : Int))) (fW (sF S)) 1 (tvS S t) else (bst (tunF S (tvS S t)) (tun0 S (tvS S t)) x).2)] (σ, K) post → mRun mZt mX9_tune 171 [some (mr 144), some (mi t), some (mi as), some (mi ((bst (tunF S (tvS S t)) (tun0 S (tvS S t)) x).2)), some (mi (if ansU (sL S) (iup (fT (sF S)) (36 * (tvS S t).2.2.1 + (x : Int)) (lG (sL S) (x : Int))) (fW (sF S)) 1 (tvS S t) ≠ -4 ∧ ansU (sL S) (iup (fT (sF S)) (36 * (tvS S t).2.2.1 + (x : Int)) (lG (sL S) (x : Int))) (fW (sF S)) 1 (tvS S t) < (bst (tunF S (tvS S t)) (tun0 S (tvS S t)) x).2 then (x : Int) else (bst (tunF S (tvS S t)) (tun0 S (tvS S t)) x).1)), some (mi (2 + 36 * (tvS S t).2.2.1)), some (mi (x : Int)), some (mi (ansU (sL S) (iup (fT (sF S)) (36 * (tvS S t).2.2.1 + (x : Int)) (lG (sL S) (x : Int))) (fW (sF S)) 1 (tvS S t)))] [mi (-4), mi (ansU (sL S) (iup (fT (sF S)) (36 * (tvS S t).2.2.1 + (x : Int)) (lG (sL S) (x : Int))) (fW (sF S)) 1 (tvS S t))] (σ, K) post := by
          intro post k
          refine r_icmp_eq (tgt := 185) dX9_tune_171 (by decide) (by omega) (by omega) (fun c171 => ?_) (fun c171 => ?_)
          · refine mRun.go (q_iload_n dX9_tune_185 rfl rfl) ?_
            first | (rw [if_pos (show ansU (sL S) (iup (fT (sF S)) (36 * (tvS S t).2.2.1 + (x : Int)) (lG (sL S) (x : Int))) (fW (sF S)) 1 (tvS S t) ≠ -4 ∧ ansU (sL S) (iup (fT (sF S)) (36 * (tvS S t).2.2.1 + (x : Int)) (lG (sL S) (x : Int))) (fW (sF S)) 1 (tvS S t) < (bst (tunF S (tvS S t)) (tun0 S (tvS S t)) x).2 from ⟨by omega, by omega⟩), if_pos (show ansU (sL S) (iup (fT (sF S)) (36 * (tvS S t).2.2.1 + (x : Int)) (lG (sL S) (x : Int))) (fW (sF S)) 1 (tvS S t) ≠ -4 ∧ ansU (sL S) (iup (fT (sF S)) (36 * (tvS S t).2.2.1 + (x : Int)) (lG (sL S) (x : Int))) (fW (sF S)) 1 (tvS S t) < (bst (tunF S (tvS S t)) (tun0 S (tvS S t)) x).2 from ⟨by omega, by omega⟩)] at k; rw [if_pos (show ansU (sL S) (iup (fT (sF S)) (36 * (tvS S t).2.2.1 + (x : Int)) (lG (sL S) (x : Int))) (fW (sF S)) 1 (tvS S t) ≠ -4 ∧ ansU (sL S) (iup (fT (sF S)) (36 * (tvS S t).2.2.1 + (x : Int)) (lG (sL S) (x : Int))) (fW (sF S)) 1 (tvS S t) < (bst (tunF S (tvS S t)) (tun0 S (tvS S t)) x).2 from ⟨by omega, by omega⟩)]; exact k) | (rw [if_neg (show ¬ (ansU (sL S) (iup (fT (sF S)) (36 * (tvS S t).2.2.1 + (x : Int)) (lG (sL S) (x : Int))) (fW (sF S)) 1 (tvS S t) ≠ -4 ∧ ansU (sL S) (iup (fT (sF S)) (36 * (tvS S t).2.2.1 + (x : Int)) (lG (sL S) (x : Int))) (fW (sF S)) 1 (tvS S t) < (bst (tunF S (tvS S t)) (tun0 S (tvS S t)) x).2) from fun q => by omega), if_neg (show ¬ (ansU (sL S) (iup (fT (sF S)) (36 * (tvS S t).2.2.1 + (x : Int)) (lG (sL S) (x : Int))) (fW (sF S)) 1 (tvS S t) ≠ -4 ∧ ansU (sL S) (iup (fT (sF S)) (36 * (tvS S t).2.2.1 + (x : Int)) (lG (sL S) (x : Int))) (fW (sF S)) 1 (tvS S t) < (bst (tunF S (tvS S t)) (tun0 S (tvS S t)) x).2) from fun q => by omega)] at k; rw [if_neg (show ¬ (ansU (sL S) (iup (fT (sF S)) (36 * (tvS S t).2.2.1 + (x : Int)) (lG (sL S) (x : Int))) (fW (sF S)) 1 (tvS S t) ≠ -4 ∧ ansU (sL S) (iup (fT (sF S)) (36 * (tvS S t).2.2.1 + (x : Int)) (lG (sL S) (x : Int))) (fW (sF S)) 1 (tvS S t) < (bst (tunF S (tvS S t)) (tun0 S (tvS S t)) x).2) from fun q => by omega)]; exact k)
          · refine mRun.go (q_iload dX9_tune_174 rfl) ?_
            refine mRun.go (q_iload_n dX9_tune_176 rfl rfl) ?_
            refine r_icmp_ge (tgt := 185) dX9_tune_177 (by decide) (by omega) (by omega) (fun c177 => ?_) (fun c177 => ?_)
            · refine mRun.go (q_iload_n dX9_tune_185 rfl rfl) ?_
              first | (rw [if_pos (show ansU (sL S) (iup (fT (sF S)) (36 * (tvS S t).2.2.1 + (x : Int)) (lG (sL S) (x : Int))) (fW (sF S)) 1 (tvS S t) ≠ -4 ∧ ansU (sL S) (iup (fT (sF S)) (36 * (tvS S t).2.2.1 + (x : Int)) (lG (sL S) (x : Int))) (fW (sF S)) 1 (tvS S t) < (bst (tunF S (tvS S t)) (tun0 S (tvS S t)) x).2 from ⟨by omega, by omega⟩), if_pos (show ansU (sL S) (iup (fT (sF S)) (36 * (tvS S t).2.2.1 + (x : Int)) (lG (sL S) (x : Int))) (fW (sF S)) 1 (tvS S t) ≠ -4 ∧ ansU (sL S) (iup (fT (sF S)) (36 * (tvS S t).2.2.1 + (x : Int)) (lG (sL S) (x : Int))) (fW (sF S)) 1 (tvS S t) < (bst (tunF S (tvS S t)) (tun0 S (tvS S t)) x).2 from ⟨by omega, by omega⟩)] at k; rw [if_pos (show ansU (sL S) (iup (fT (sF S)) (36 * (tvS S t).2.2.1 + (x : Int)) (lG (sL S) (x : Int))) (fW (sF S)) 1 (tvS S t) ≠ -4 ∧ ansU (sL S) (iup (fT (sF S)) (36 * (tvS S t).2.2.1 + (x : Int)) (lG (sL S) (x : Int))) (fW (sF S)) 1 (tvS S t) < (bst (tunF S (tvS S t)) (tun0 S (tvS S t)) x).2 from ⟨by omega, by omega⟩)]; exact k) | (rw [if_neg (show ¬ (ansU (sL S) (iup (fT (sF S)) (36 * (tvS S t).2.2.1 + (x : Int)) (lG (sL S) (x : Int))) (fW (sF S)) 1 (tvS S t) ≠ -4 ∧ ansU (sL S) (iup (fT (sF S)) (36 * (tvS S t).2.2.1 + (x : Int)) (lG (sL S) (x : Int))) (fW (sF S)) 1 (tvS S t) < (bst (tunF S (tvS S t)) (tun0 S (tvS S t)) x).2) from fun q => by omega), if_neg (show ¬ (ansU (sL S) (iup (fT (sF S)) (36 * (tvS S t).2.2.1 + (x : Int)) (lG (sL S) (x : Int))) (fW (sF S)) 1 (tvS S t) ≠ -4 ∧ ansU (sL S) (iup (fT (sF S)) (36 * (tvS S t).2.2.1 + (x : Int)) (lG (sL S) (x : Int))) (fW (sF S)) 1 (tvS S t) < (bst (tunF S (tvS S t)) (tun0 S (tvS S t)) x).2) from fun q => by omega)] at k; rw [if_neg (show ¬ (ansU (sL S) (iup (fT (sF S)) (36 * (tvS S t).2.2.1 + (x : Int)) (lG (sL S) (x : Int))) (fW (sF S)) 1 (tvS S t) ≠ -4 ∧ ansU (sL S) (iup (fT (sF S)) (36 * (tvS S t).2.2.1 + (x : Int)) (lG (sL S) (x : Int))) (fW (sF S)) 1 (tvS S t) < (bst (tunF S (tvS S t)) (tun0 S (tvS S t)) x).2) from fun q => by omega)]; exact k)
            · refine mRun.go (q_iload dX9_tune_180 rfl) ?_
              refine mRun.go (q_goto (tgt := 186) dX9_tune_182 (by decide)) ?_
              first | (rw [if_pos (show ansU (sL S) (iup (fT (sF S)) (36 * (tvS S t).2.2.1 + (x : Int)) (lG (sL S) (x : Int))) (fW (sF S)) 1 (tvS S t) ≠ -4 ∧ ansU (sL S) (iup (fT (sF S)) (36 * (tvS S t).2.2.1 + (x : Int)) (lG (sL S) (x : Int))) (fW (sF S)) 1 (tvS S t) < (bst (tunF S (tvS S t)) (tun0 S (tvS S t)) x).2 from ⟨by omega, by omega⟩), if_pos (show ansU (sL S) (iup (fT (sF S)) (36 * (tvS S t).2.2.1 + (x : Int)) (lG (sL S) (x : Int))) (fW (sF S)) 1 (tvS S t) ≠ -4 ∧ ansU (sL S) (iup (fT (sF S)) (36 * (tvS S t).2.2.1 + (x : Int)) (lG (sL S) (x : Int))) (fW (sF S)) 1 (tvS S t) < (bst (tunF S (tvS S t)) (tun0 S (tvS S t)) x).2 from ⟨by omega, by omega⟩)] at k; rw [if_pos (show ansU (sL S) (iup (fT (sF S)) (36 * (tvS S t).2.2.1 + (x : Int)) (lG (sL S) (x : Int))) (fW (sF S)) 1 (tvS S t) ≠ -4 ∧ ansU (sL S) (iup (fT (sF S)) (36 * (tvS S t).2.2.1 + (x : Int)) (lG (sL S) (x : Int))) (fW (sF S)) 1 (tvS S t) < (bst (tunF S (tvS S t)) (tun0 S (tvS S t)) x).2 from ⟨by omega, by omega⟩)]; exact k) | (rw [if_neg (show ¬ (ansU (sL S) (iup (fT (sF S)) (36 * (tvS S t).2.2.1 + (x : Int)) (lG (sL S) (x : Int))) (fW (sF S)) 1 (tvS S t) ≠ -4 ∧ ansU (sL S) (iup (fT (sF S)) (36 * (tvS S t).2.2.1 + (x : Int)) (lG (sL S) (x : Int))) (fW (sF S)) 1 (tvS S t) < (bst (tunF S (tvS S t)) (tun0 S (tvS S t)) x).2) from fun q => by omega), if_neg (show ¬ (ansU (sL S) (iup (fT (sF S)) (36 * (tvS S t).2.2.1 + (x : Int)) (lG (sL S) (x : Int))) (fW (sF S)) 1 (tvS S t) ≠ -4 ∧ ansU (sL S) (iup (fT (sF S)) (36 * (tvS S t).2.2.1 + (x : Int)) (lG (sL S) (x : Int))) (fW (sF S)) 1 (tvS S t) < (bst (tunF S (tvS S t)) (tun0 S (tvS S t)) x).2) from fun q => by omega)] at k; rw [if_neg (show ¬ (ansU (sL S) (iup (fT (sF S)) (36 * (tvS S t).2.2.1 + (x : Int)) (lG (sL S) (x : Int))) (fW (sF S)) 1 (tvS S t) ≠ -4 ∧ ansU (sL S) (iup (fT (sF S)) (36 * (tvS S t).2.2.1 + (x : Int)) (lG (sL S) (x : Int))) (fW (sF S)) 1 (tvS S t) < (bst (tunF S (tvS S t)) (tun0 S (tvS S t)) x).2) from fun q => by omega)]; exact k)
        refine j171 ?_
        refine mRun.go (q_istore_n (ls' := [some (mr 144), some (mi t), some (mi as), some (mi (if ansU (sL S) (iup (fT (sF S)) (36 * (tvS S t).2.2.1 + (x : Int)) (lG (sL S) (x : Int))) (fW (sF S)) 1 (tvS S t) ≠ -4 ∧ ansU (sL S) (iup (fT (sF S)) (36 * (tvS S t).2.2.1 + (x : Int)) (lG (sL S) (x : Int))) (fW (sF S)) 1 (tvS S t) < (bst (tunF S (tvS S t)) (tun0 S (tvS S t)) x).2 then ansU (sL S) (iup (fT (sF S)) (36 * (tvS S t).2.2.1 + (x : Int)) (lG (sL S) (x : Int))) (fW (sF S)) 1 (tvS S t) else (bst (tunF S (tvS S t)) (tun0 S (tvS S t)) x).2)), some (mi (if ansU (sL S) (iup (fT (sF S)) (36 * (tvS S t).2.2.1 + (x : Int)) (lG (sL S) (x : Int))) (fW (sF S)) 1 (tvS S t) ≠ -4 ∧ ansU (sL S) (iup (fT (sF S)) (36 * (tvS S t).2.2.1 + (x : Int)) (lG (sL S) (x : Int))) (fW (sF S)) 1 (tvS S t) < (bst (tunF S (tvS S t)) (tun0 S (tvS S t)) x).2 then (x : Int) else (bst (tunF S (tvS S t)) (tun0 S (tvS S t)) x).1)), some (mi (2 + 36 * (tvS S t).2.2.1)), some (mi (x : Int)), some (mi (ansU (sL S) (iup (fT (sF S)) (36 * (tvS S t).2.2.1 + (x : Int)) (lG (sL S) (x : Int))) (fW (sF S)) 1 (tvS S t)))]) dX9_tune_186 rfl (Nat.le_of_ble_eq_true rfl) rfl) ?_
        refine mRun.go (q_iinc (ls' := [some (mr 144), some (mi t), some (mi as), some (mi (if ansU (sL S) (iup (fT (sF S)) (36 * (tvS S t).2.2.1 + (x : Int)) (lG (sL S) (x : Int))) (fW (sF S)) 1 (tvS S t) ≠ -4 ∧ ansU (sL S) (iup (fT (sF S)) (36 * (tvS S t).2.2.1 + (x : Int)) (lG (sL S) (x : Int))) (fW (sF S)) 1 (tvS S t) < (bst (tunF S (tvS S t)) (tun0 S (tvS S t)) x).2 then ansU (sL S) (iup (fT (sF S)) (36 * (tvS S t).2.2.1 + (x : Int)) (lG (sL S) (x : Int))) (fW (sF S)) 1 (tvS S t) else (bst (tunF S (tvS S t)) (tun0 S (tvS S t)) x).2)), some (mi (if ansU (sL S) (iup (fT (sF S)) (36 * (tvS S t).2.2.1 + (x : Int)) (lG (sL S) (x : Int))) (fW (sF S)) 1 (tvS S t) ≠ -4 ∧ ansU (sL S) (iup (fT (sF S)) (36 * (tvS S t).2.2.1 + (x : Int)) (lG (sL S) (x : Int))) (fW (sF S)) 1 (tvS S t) < (bst (tunF S (tvS S t)) (tun0 S (tvS S t)) x).2 then (x : Int) else (bst (tunF S (tvS S t)) (tun0 S (tvS S t)) x).1)), some (mi (2 + 36 * (tvS S t).2.2.1)), some (mi ((x : Int) + 1)), some (mi (ansU (sL S) (iup (fT (sF S)) (36 * (tvS S t).2.2.1 + (x : Int)) (lG (sL S) (x : Int))) (fW (sF S)) 1 (tvS S t)))]) dX9_tune_187 rfl (Nat.le_of_ble_eq_true rfl) rfl) ?_
        refine mRun.go (q_goto (tgt := 70) dX9_tune_190 (by decide)) ?_
        have e1 : ((x : Int) + 1) = ((x + 1 : Nat) : Int) := by omega
        rw [e1]
        have h := ih (x + 1) K (some (mi (ansU (sL S) (iup (fT (sF S)) (36 * (tvS S t).2.2.1 + (x : Int)) (lG (sL S) (x : Int))) (fW (sF S)) 1 (tvS S t)))) (by have : lR (sL S) * lW (sL S) = lP (sL S) := rfl; omega) (by have : lR (sL S) * lW (sL S) = lP (sL S) := rfl; omega) (ms_q hM hS hK hfQ)
        have e2 : bst (tunF S (tvS S t)) (tun0 S (tvS S t)) (x + 1) = (if ansU (sL S) (iup (fT (sF S)) (36 * (tvS S t).2.2.1 + (x : Int)) (lG (sL S) (x : Int))) (fW (sF S)) 1 (tvS S t) ≠ -4 ∧ ansU (sL S) (iup (fT (sF S)) (36 * (tvS S t).2.2.1 + (x : Int)) (lG (sL S) (x : Int))) (fW (sF S)) 1 (tvS S t) < (bst (tunF S (tvS S t)) (tun0 S (tvS S t)) x).2 then (x : Int) else (bst (tunF S (tvS S t)) (tun0 S (tvS S t)) x).1, if ansU (sL S) (iup (fT (sF S)) (36 * (tvS S t).2.2.1 + (x : Int)) (lG (sL S) (x : Int))) (fW (sF S)) 1 (tvS S t) ≠ -4 ∧ ansU (sL S) (iup (fT (sF S)) (36 * (tvS S t).2.2.1 + (x : Int)) (lG (sL S) (x : Int))) (fW (sF S)) 1 (tvS S t) < (bst (tunF S (tvS S t)) (tun0 S (tvS S t)) x).2 then ansU (sL S) (iup (fT (sF S)) (36 * (tvS S t).2.2.1 + (x : Int)) (lG (sL S) (x : Int))) (fW (sF S)) 1 (tvS S t) else (bst (tunF S (tvS S t)) (tun0 S (tvS S t)) x).2) := by
          simp only [bst]
          rw [ef]
          by_cases q : ansU (sL S) (iup (fT (sF S)) (36 * (tvS S t).2.2.1 + (x : Int)) (lG (sL S) (x : Int))) (fW (sF S)) 1 (tvS S t) ≠ -4 ∧ ansU (sL S) (iup (fT (sF S)) (36 * (tvS S t).2.2.1 + (x : Int)) (lG (sL S) (x : Int))) (fW (sF S)) 1 (tvS S t) < (bst (tunF S (tvS S t)) (tun0 S (tvS S t)) x).2
          · rw [if_pos q, if_pos q, if_pos q]
          · rw [if_neg q, if_neg q, if_neg q]
        rw [e2] at h
        exact mRun.im h (fun v h => outm_tr (frm_lo hfQ))

set_option maxRecDepth 100000 in
theorem g_tune {σ : List mC} {I : mI} {S : Sx} {B : Int} {t : Int} (hM : MS σ I S) (hS : SxOk B S) (ht : -2147483648 ≤ t ∧ t < 2147483648) : mMt mX9_tune [mr 144, mi t] (σ, I) (OutM σ I S (a_tune S t)) := by
  refine mMt.of pl_9 (Nat.le_of_ble_eq_true rfl) ?_
  show mRun mZt mX9_tune 0 [some (mr 144), some (mi t), none, none, none, none, none, none] [] (σ, I) _
  have hI := hM.1
  have hD := hM.2.1
  have hL := hS.1
  have hsz := hM.2.2.1
  have hLR := hM.2.2.2.2.2.2.1
  have hF := hM.2.2.2.2.2.2.2.1
  have hun := hM.2.2.2.2.2.2.2.2.1
  have hpa := hM.2.2.2.2.2.2.2.2.2.1
  have hkm := hM.2.2.2.2.2.2.2.2.2.2.1
  have hke := hM.2.2.2.2.2.2.2.2.2.2.2.1
  have hhm := hM.2.2.2.2.2.2.2.2.2.2.2.2.1
  have hhe := hM.2.2.2.2.2.2.2.2.2.2.2.2.2.1
  have hN := hM.2.2.2.2.2.2.2.2.2.2.2.2.2.2
  have hpr := lp_rng hL
  have hqe := lq_eq hL
  have hwr := hL.2.1
  have hrr := hL.1
  have hdr := hL.2.2.1
  have hnt := hL.2.2.2.1
  have hwF := hS.2.1.1
  have hhF := hS.2.1.2.1
  have hvF := hS.2.1.2.2.2
  have hH8 := hS.2.2.2.2.2.2.1
  have hU8 := hS.2.2.1
  have hK2 := hS.2.2.2.2.1
  have hLn := hS.2.2.2.2.2.2.2.2
  refine mRun.go (q_aload_n dX9_tune_0 rfl rfl) ?_
  refine mRun.go (q_iload_n dX9_tune_1 rfl rfl) ?_
  refine mRun.go (q_callVi (r := 144) [mi t] [] dX9_tune_2 co_X9_203 ⟨Nat.le_of_ble_eq_true rfl, Nat.le_of_ble_eq_true rfl⟩ gw_950 gs_41 rfl hD.1 rfl rfl rfl (Nat.le_of_ble_eq_true rfl) (m_isTraveller hI hD hL hLR hN ht)) ?_
  refine r_if_ne (tgt := 10) dX9_tune_5 (by decide) (by split <;> omega) (fun c5 => ?_) (fun c5 => ?_)
  · have h5 := ite01 c5
    refine mRun.go (q_aload_n dX9_tune_10 rfl rfl) ?_
    refine mRun.go (q_getR dX9_tune_11 fo_X9_16 hD.1 rfl) ?_
    refine mRun.go (q_sipush dX9_tune_14 (by decide)) ?_
    refine mRun.go (q_iload_n dX9_tune_17 rfl rfl) ?_
    refine mRun.go (q_iadd dX9_tune_18) ?_
    refine mRun.go (q_ialdE (x := (fV (sF S) t.toNat).2.2.2.1) dX9_tune_19 hD.2.2.2.1 (by omega) (by omega) (by have h := (tv6i (hF.2.2.2 t.toNat (by omega))).2.2.2.1; rw [show ((t.toNat : Nat) : Int) = t by omega] at h; exact h)) ?_
    refine r_if_eq (tgt := 26) dX9_tune_20 (by decide) (by rw [← (tv6i (hF.2.2.2 t.toNat (by omega))).2.2.2.1]; exact hI _ _) (fun c20 => ?_) (fun c20 => ?_)
    · refine mRun.go (q_aload_n dX9_tune_26 rfl rfl) ?_
      refine mRun.go (q_iload_n dX9_tune_27 rfl rfl) ?_
      refine mRun.go (q_iconst dX9_tune_28) ?_
      obtain ⟨v0, h0, hc0, rfl, K, rfl, hK, hfK⟩ := m_untilNow (t := t) (s := 1) hM hS (by omega) (by omega) (by decide)
      have har := @anS_rng S 1 (tvS S t)
      have hdd : 0 ≤ (tvS S t).2.2.1 ∧ (tvS S t).2.2.1 < lD (sL S) := (hvF t.toNat (by omega)).2.2.1
      refine mRun.go (q_callVi (r := 144) [mi t, mi 1] [] dX9_tune_29 co_X9_235 ⟨Nat.le_of_ble_eq_true rfl, Nat.le_of_ble_eq_true rfl⟩ gw_1032 gs_50 rfl hD.1 rfl rfl rfl (Nat.le_of_ble_eq_true rfl) hc0) ?_
      refine mRun.go (q_istore_n (ls' := [some (mr 144), some (mi t), some (mi (anS S 1 (tvS S t))), none, none, none, none, none]) dX9_tune_32 rfl (Nat.le_of_ble_eq_true rfl) rfl) ?_
      refine mRun.go (q_iload_n dX9_tune_33 rfl rfl) ?_
      refine mRun.go (q_bipush dX9_tune_34 (by decide)) ?_
      have j36 : ∀ {post : Option mV → mH → Prop}, mRun mZt mX9_tune 45 [some (mr 144), some (mi t), some (mi (anS S 1 (tvS S t))), none, none, none, none, none] [mi (tun0 S (tvS S t))] (σ, K) post → mRun mZt mX9_tune 36 [some (mr 144), some (mi t), some (mi (anS S 1 (tvS S t))), none, none, none, none, none] [mi (-4), mi (anS S 1 (tvS S t))] (σ, K) post := by
        intro post k
        refine r_icmp_ne (tgt := 44) dX9_tune_36 (by decide) (by omega) (by omega) (fun c36 => ?_) (fun c36 => ?_)
        · refine mRun.go (q_iload_n dX9_tune_44 rfl rfl) ?_
          first | (unfold tun0 at k; rw [if_pos (Classical.not_not.mp c36)] at k; exact k) | (unfold tun0 at k; rw [if_neg c36] at k; exact k)
        · refine mRun.go (q_ldc (a := 1000000) dX9_tune_39 gw_965) ?_
          refine mRun.go (q_goto (tgt := 45) dX9_tune_41 (by decide)) ?_
          first | (unfold tun0 at k; rw [if_pos (Classical.not_not.mp c36)] at k; exact k) | (unfold tun0 at k; rw [if_neg c36] at k; exact k)
      refine j36 ?_
      refine mRun.go (q_istore_n (ls' := [some (mr 144), some (mi t), some (mi (anS S 1 (tvS S t))), some (mi (tun0 S (tvS S t))), none, none, none, none]) dX9_tune_45 rfl (Nat.le_of_ble_eq_true rfl) rfl) ?_
      refine mRun.go (q_bipush dX9_tune_46 (by decide)) ?_
      refine mRun.go (q_istore (ls' := [some (mr 144), some (mi t), some (mi (anS S 1 (tvS S t))), some (mi (tun0 S (tvS S t))), some (mi (-4)), none, none, none]) dX9_tune_48 (Nat.le_of_ble_eq_true rfl) rfl) ?_
      refine mRun.go (q_iconst dX9_tune_50) ?_
      refine mRun.go (q_bipush dX9_tune_51 (by decide)) ?_
      refine mRun.go (q_aload_n dX9_tune_53 rfl rfl) ?_
      refine mRun.go (q_getR dX9_tune_54 fo_X9_16 hD.1 rfl) ?_
      refine mRun.go (q_sipush dX9_tune_57 (by decide)) ?_
      refine mRun.go (q_iload_n dX9_tune_60 rfl rfl) ?_
      refine mRun.go (q_iadd dX9_tune_61) ?_
      refine mRun.go (q_ialdE (x := (tvS S t).2.2.1) dX9_tune_62 hD.2.2.2.1 (by omega) (by omega) (by rw [hfK.1 147 (by decide) (by decide) (by decide)]; have h := (tv6i (hF.2.2.2 t.toNat (by omega))).2.2.1; rw [show ((t.toNat : Nat) : Int) = t by omega] at h; exact h)) ?_
      refine mRun.go (q_imul dX9_tune_63) ?_
      refine mRun.go (q_iadd dX9_tune_64) ?_
      refine mRun.go (q_istore (ls' := [some (mr 144), some (mi t), some (mi (anS S 1 (tvS S t))), some (mi (tun0 S (tvS S t))), some (mi (-4)), some (mi (2 + (36 * ((tvS S t).2.2.1)))), none, none]) dX9_tune_65 (Nat.le_of_ble_eq_true rfl) rfl) ?_
      refine mRun.go (q_iconst dX9_tune_67) ?_
      refine mRun.go (q_istore (ls' := [some (mr 144), some (mi t), some (mi (anS S 1 (tvS S t))), some (mi (tun0 S (tvS S t))), some (mi (-4)), some (mi (2 + (36 * ((tvS S t).2.2.1)))), some (mi 0), none]) dX9_tune_68 (Nat.le_of_ble_eq_true rfl) rfl) ?_
      have e0 : a_tune S t = (bst (tunF S (tvS S t)) (tun0 S (tvS S t)) (lQ (sL S))).1 := by simp only [a_tune, isT]; rw [if_pos (by omega), if_pos c20]
      rw [e0]
      exact mRun.im (g_tune_loop hS (by omega) (lQ (sL S) + 1) 0 K none (by omega) (by omega) (ms_q hM hS hK hfK)) (fun v h => outm_tr (frm_lo hfK))
    · refine mRun.go (q_bipush dX9_tune_23 (by decide)) ?_
      refine r_iret dX9_tune_25 rfl ?_
      have e0 : a_tune S t = (-2) := by simp only [a_tune, isT]; rw [if_pos (by omega), if_neg c20]
      rw [e0]
      exact outm_q hM hS hI frm_rf
  · have h5 := ite00 (Classical.not_not.mp c5)
    refine mRun.go (q_iconst dX9_tune_8) ?_
    refine r_iret dX9_tune_9 rfl ?_
    have e0 : a_tune S t = (-1) := by simp only [a_tune, isT]; rw [if_neg (by omega)]
    rw [e0]
    exact outm_q hM hS hI frm_rf
