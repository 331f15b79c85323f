/-! ===== the reference remembers ===== -/
set_option maxRecDepth 100000 in
theorem m_shift {σ : List mC} {I : mI} (hI : Nrm I) (hD : IsMd σ) {post : Option mV → mH → Prop} (kk : ∀ K : mI, Nrm K → (∀ r, r ≠ 149 → K r = I r) → (∀ j, K 149 j = if j < 1190 then I 149 (j + 170) else I 149 j) → mRun mZt mX9_remember 40 [some (mr 144), some (mi ((1190 : Nat) : Int))] [] (σ, K) post) : ∀ (n k : Nat) (K : mI), 1190 - k < n → k ≤ 1190 → Nrm K → (∀ r, r ≠ 149 → K r = I r) → (∀ j, K 149 j = if j < k then I 149 (j + 170) else I 149 j) → mRun mZt mX9_remember 11 [some (mr 144), some (mi (k : Int))] [] (σ, K) post := by
  intro n
  induction n with
  | zero => intro k K h; omega
  | succ n ih =>
    intro k K hn hk hK hfr hs
    refine mRun.go (q_iload_n dX9_remember_11 rfl rfl) ?_
    refine mRun.go (q_sipush dX9_remember_12 (by decide)) ?_
    refine r_icmp_ge (tgt := 40) dX9_remember_15 (by decide) (by omega) (by omega) (fun c15 => ?_) (fun c15 => ?_)
    · have hke : k = 1190 := by omega
      subst hke
      exact kk K hK hfr hs
    · refine mRun.go (q_aload_n dX9_remember_18 rfl rfl) ?_
      refine mRun.go (q_getR dX9_remember_19 fo_X9_22 hD.1 rfl) ?_
      refine mRun.go (q_iload_n dX9_remember_22 rfl rfl) ?_
      refine mRun.go (q_aload_n dX9_remember_23 rfl rfl) ?_
      refine mRun.go (q_getR dX9_remember_24 fo_X9_22 hD.1 rfl) ?_
      refine mRun.go (q_iload_n dX9_remember_27 rfl rfl) ?_
      refine mRun.go (q_sipush dX9_remember_28 (by decide)) ?_
      refine mRun.go (q_iadd dX9_remember_31) ?_
      refine mRun.go (q_ialdE (x := I 149 (k + 170)) dX9_remember_32 hD.2.2.2.2.2.1 (by omega) (by omega) (by rw [show ((k : Int) + 170).toNat = k + 170 by omega, hs (k + 170), if_neg (by omega)])) ?_
      refine mRun.go (q_iast dX9_remember_33 hD.2.2.2.2.2.1 (by omega) (by omega)) ?_
      refine mRun.go (q_iinc (ls' := [some (mr 144), some (mi ((k : Int) + 1))]) dX9_remember_34 rfl (Nat.le_of_ble_eq_true rfl) rfl) ?_
      refine mRun.go (q_goto (tgt := 11) dX9_remember_37 (by decide)) ?_
      have e1 : ((k : Int) + 1) = ((k + 1 : Nat) : Int) := by omega
      rw [e1]
      refine ih (k + 1) _ (by omega) (by omega) (nrm_mup hK (hI _ _)) (fun r q => by rw [mup_nf q]; exact hfr r q) (fun j => ?_)
      rw [show (k : Int).toNat = k by omega]
      by_cases z : j = k
      · rw [z, mup_self, if_pos (by omega)]
      · rw [mup_ne2 z, hs j]
        by_cases q : j < k
        · rw [if_pos q, if_pos (by omega)]
        · rw [if_neg q, if_neg (by omega)]
