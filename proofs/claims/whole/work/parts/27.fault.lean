/-! ===== rows, items, the first fault ===== -/
theorem fig_dig {x : Int} : (0 ≤ fig x ∧ fig x ≤ 3) ↔ (48 ≤ x ∧ x ≤ 51) := by unfold fig; split <;> omega
theorem fig_val {x : Int} (h : 48 ≤ x ∧ x ≤ 51) : fig x = x - 48 := by unfold fig; rw [if_pos (by omega)]
/-- while a row is read -/
def RowI (J K : mI) (c : Int → Int) (s pl : Int) (m : Nat) : Prop := (∀ r, r ≠ 4 + 1 + 1 → K r = J r) ∧ (∀ j, j < m → 48 ≤ c (s + j) ∧ c (s + j) ≤ 51) ∧ ∀ i : Nat, i < 36 → K (4 + 1 + 1) i = if pl ≤ (i : Int) ∧ (i : Int) < pl + m then c (s + ((i : Int) - pl)) - 48 else J (4 + 1 + 1) i

set_option maxRecDepth 100000 in
theorem k_readRow_loop {σ : List mC} {J : mI} {c : Int → Int} {L s : Int} {R : Rd} (hR : IsRd σ) (hJ : Nrm J) (hT : TXt J c L) (hs : 0 ≤ s ∧ s ≤ 500) (hr : RepC J R) (hk : RdOk R) {post : Option mV → mH → Prop} (kk : ∀ (K : mI) (m : Nat) (o4 : Option mV), Nrm K → RowI J K c s (rPl R) m → m ≤ 6 → (m = 6 ∨ ¬ (48 ≤ c (s + m) ∧ c (s + m) ≤ 51)) → mRun mZt mX2_readRow 61 [some (mr 3), some (mr 1), some (mi s), some (mi (m : Int)), o4] [] (σ, K) post) : ∀ (n m : Nat) (K : mI) (o4 : Option mV), 6 - m < n → m ≤ 6 → Nrm K → RowI J K c s (rPl R) m → mRun mZt mX2_readRow 2 [some (mr 3), some (mr 1), some (mi s), some (mi (m : Int)), o4] [] (σ, K) post := by
  intro n
  induction n with
  | zero => intro m K o4 h; omega
  | succ n ih =>
    intro m K o4 hn hm hK hin
    have hTK : TXt K c L := hT.fr (hin.1 1 (by decide)) (hin.1 2 (by decide))
    have hpl := pl_rng hk
    refine mRun.go (q_iload_n dX2_readRow_2 rfl rfl) ?_
    refine mRun.go (q_bipush dX2_readRow_3 (by decide)) ?_
    refine r_icmp_ge (tgt := 61) dX2_readRow_5 (by decide) (by omega) (by omega) (fun c5 => ?_) (fun c5 => ?_)
    · exact kk K m _ hK hin (by omega) (Or.inl (by omega))
    · refine mRun.go (q_aload_n dX2_readRow_8 rfl rfl) ?_
      refine mRun.go (q_iload_n dX2_readRow_9 rfl rfl) ?_
      refine mRun.go (q_iload_n dX2_readRow_10 rfl rfl) ?_
      refine mRun.go (q_iadd dX2_readRow_11) ?_
      refine mRun.go (q_callVi (r := 1) [mi (s + (m : Int))] [] dX2_readRow_12 co_X2_48 ⟨Nat.le_of_ble_eq_true rfl, Nat.le_of_ble_eq_true rfl⟩ gw_297 gw_298 rfl hR.1.1 rfl rfl rfl (Nat.le_of_ble_eq_true rfl) (k_letC hR hK hTK (by omega))) ?_
      refine mRun.go (q_callSi [mi (c (s + (m : Int)))] [] dX2_readRow_15 co_X2_67 ⟨Nat.le_of_ble_eq_true rfl, Nat.le_of_ble_eq_true rfl⟩ gw_305 rfl rfl (Nat.le_of_ble_eq_true rfl) (k_figureOf (hTK.2.2.2 _))) ?_
      refine mRun.go (q_iconst dX2_readRow_18) ?_
      refine mRun.go (q_iconst dX2_readRow_19) ?_
      refine mRun.go (q_callSi [mi (fig (c (s + (m : Int)))), mi 0, mi 3] [] dX2_readRow_20 co_X2_70 ⟨Nat.le_of_ble_eq_true rfl, Nat.le_of_ble_eq_true rfl⟩ gw_308 rfl rfl (Nat.le_of_ble_eq_true rfl) (k_within (by have := fig_rng (c (s + (m : Int))); omega) (by omega) (by omega))) ?_
      refine r_if_eq (tgt := 61) dX2_readRow_23 (by decide) (by split <;> omega) (fun c23 => ?_) (fun c23 => ?_)
      · exact kk K m _ hK hin (by omega) (Or.inr (fun z => by rw [if_pos (fig_dig.mpr z)] at c23; omega))
      · refine mRun.go (q_aload_n dX2_readRow_26 rfl rfl) ?_
        refine mRun.go (q_getR dX2_readRow_27 fo_X2_12 hR.2.1 rfl) ?_
        refine mRun.go (q_getR dX2_readRow_30 fo_X2_74 hR.2.2.1.1 rfl) ?_
        refine mRun.go (q_aload_n dX2_readRow_33 rfl rfl) ?_
        refine mRun.go (q_getR dX2_readRow_34 fo_X2_12 hR.2.1 rfl) ?_
        refine mRun.go (q_getE (x := rPl R) dX2_readRow_37 fo_X2_77 hR.2.2.1.1 rfl (by rw [hin.1 4 (by decide)]; exact hr.1)) ?_
        refine mRun.go (q_iload_n dX2_readRow_40 rfl rfl) ?_
        refine mRun.go (q_iadd dX2_readRow_41) ?_
        refine mRun.go (q_aload_n dX2_readRow_42 rfl rfl) ?_
        refine mRun.go (q_iload_n dX2_readRow_43 rfl rfl) ?_
        refine mRun.go (q_iload_n dX2_readRow_44 rfl rfl) ?_
        refine mRun.go (q_iadd dX2_readRow_45) ?_
        refine mRun.go (q_callVi (r := 1) [mi (s + (m : Int))] [mi ((rPl R) + (m : Int)), mr (4 + 1)] dX2_readRow_46 co_X2_48 ⟨Nat.le_of_ble_eq_true rfl, Nat.le_of_ble_eq_true rfl⟩ gw_297 gw_298 rfl hR.1.1 rfl rfl rfl (Nat.le_of_ble_eq_true rfl) (k_letC hR hK hTK (by omega))) ?_
        refine mRun.go (q_callSi [mi (c (s + (m : Int)))] [mi ((rPl R) + (m : Int)), mr (4 + 1)] dX2_readRow_49 co_X2_67 ⟨Nat.le_of_ble_eq_true rfl, Nat.le_of_ble_eq_true rfl⟩ gw_305 rfl rfl (Nat.le_of_ble_eq_true rfl) (k_figureOf (hTK.2.2.2 _))) ?_
        refine mRun.go (q_callVv (r := 4 + 1) [mi ((rPl R) + (m : Int)), mi (fig (c (s + (m : Int))))] [] dX2_readRow_52 co_X2_80 ⟨Nat.le_of_ble_eq_true rfl, Nat.le_of_ble_eq_true rfl⟩ gw_311 gw_312 rfl hR.2.2.1.2.1.1 rfl rfl rfl (Nat.le_of_ble_eq_true rfl) (k_put hR.2.2.1.2.1 (by omega) (by decide))) ?_
        refine mRun.go (q_iinc (ls' := [some (mr 3), some (mr 1), some (mi s), some (mi ((m : Int) + 1)), o4]) dX2_readRow_55 rfl (Nat.le_of_ble_eq_true rfl) rfl) ?_
        refine mRun.go (q_goto (tgt := 2) dX2_readRow_58 (by decide)) ?_
        have hdg : 48 ≤ c (s + (m : Int)) ∧ c (s + (m : Int)) ≤ 51 := fig_dig.mp (by split at c23 <;> first | omega | assumption | (exfalso; exact c23 rfl))
        have e1 : ((m : Int) + 1) = ((m + 1 : Nat) : Int) := by omega
        rw [e1]
        refine ih (m + 1) _ _ (by omega) (by omega) (nrm_rput hK (by have := fig_rng (c (s + (m : Int))); omega)) ⟨fun r h => ?_, fun j hj => ?_, fun i hi => ?_⟩
        · rw [← hin.1 r h]; unfold rput; split
          · exact mup_nf h
          · rfl
        · by_cases hjm : j = m
          · subst hjm; exact hdg
          · exact hin.2.1 j (by omega)
        · have hii := hin.2.2 i hi
          by_cases him : (i : Int) = rPl R + (m : Int)
          · rw [rput_nat (k := i) him.symm hi, mup_self, if_pos ⟨by omega, by omega⟩, show s + ((i : Int) - rPl R) = s + (m : Int) by omega]
            exact fig_val hdg
          · have e3 : rput K (4 + 1) 36 (rPl R + (m : Int)) (fig (c (s + (m : Int)))) (4 + 1 + 1) i = K (4 + 1 + 1) i := by
              unfold rput; split
              · exact mup_ne2 (by omega)
              · rfl
            rw [e3, hii]
            by_cases hc : rPl R ≤ (i : Int) ∧ (i : Int) < rPl R + (m : Int)
            · rw [if_pos hc, if_pos ⟨by omega, by omega⟩]
            · rw [if_neg hc, if_neg (by omega)]

set_option maxRecDepth 100000 in
theorem k_readRow {σ : List mC} {J : mI} {c : Int → Int} {L s : Int} {R : Rd} (hR : IsRd σ) (hJ : Nrm J) (hT : TXt J c L) (hs : 0 ≤ s ∧ s ≤ 500) (hr : RepC J R) (hk : RdOk R) : mMt mX2_readRow [mr 3, mr 1, mi s] (σ, J) (fun v h => v = some (mi (itR c R s).1) ∧ ∃ K, h = (σ, K) ∧ Nrm K ∧ Fr25 J K ∧ ((itR c R s).1 ≠ -1 → RepC K (itR c R s).2)) := by
  refine mMt.of pl_2 (Nat.le_of_ble_eq_true rfl) ?_
  show mRun mZt mX2_readRow 0 [some (mr 3), some (mr 1), some (mi s), none, none] [] (σ, J) _
  refine mRun.go (q_iconst dX2_readRow_0) ?_
  refine mRun.go (q_istore_n (ls' := [some (mr 3), some (mr 1), some (mi s), some (mi 0), none]) dX2_readRow_1 rfl (Nat.le_of_ble_eq_true rfl) rfl) ?_
  refine k_readRow_loop hR hJ hT hs hr hk ?_ 7 0 J none (by omega) (by omega) hJ ⟨fun _ _ => rfl, fun j hj => by omega, fun i hi => by rw [if_neg (by omega)]⟩
  intro K m o4 hK hin hm6 hstop
  have hTK : TXt K c L := hT.fr (hin.1 1 (by decide)) (hin.1 2 (by decide))
  have hmrc := rc_uniq hm6 hin.2.1 hstop
  have hpl := pl_rng hk
  obtain ⟨k1, k2, k3, k4, k5, k6, k7, k8, k9, k10⟩ := id hk
  obtain ⟨h1, h2, h3, h4, h5, h6, h7, h8, h9, h10, h11⟩ := id hr
  refine mRun.go (q_iload_n dX2_readRow_61 rfl rfl) ?_
  have j62 : ∀ {post : Option mV → mH → Prop}, mRun mZt mX2_readRow 91 [some (mr 3), some (mr 1), some (mi s), some (mi (m : Int)), o4] [mi (if 1 ≤ m ∧ (rRows R = 0 ∨ (m : Int) = rWid R) then 1 else 0)] (σ, K) post → mRun mZt mX2_readRow 62 [some (mr 3), some (mr 1), some (mi s), some (mi (m : Int)), o4] [mi (m : Int)] (σ, K) post := by
    intro post k
    refine r_if_le (tgt := 90) dX2_readRow_62 (by decide) (by omega) (fun c62 => ?_) (fun c62 => ?_)
    · refine mRun.go (q_iconst dX2_readRow_90) ?_
      first | (rw [if_pos (by omega)] at k; exact k) | (rw [if_neg (by omega)] at k; exact k)
    · refine mRun.go (q_aload_n dX2_readRow_65 rfl rfl) ?_
      refine mRun.go (q_getR dX2_readRow_66 fo_X2_12 hR.2.1 rfl) ?_
      refine mRun.go (q_getE (x := rRows R) dX2_readRow_69 fo_X2_84 hR.2.2.1.1 rfl (by rw [hin.1 4 (by decide)]; exact hr.2.2.1)) ?_
      refine r_if_eq (tgt := 86) dX2_readRow_72 (by decide) (by omega) (fun c72 => ?_) (fun c72 => ?_)
      · refine mRun.go (q_iconst dX2_readRow_86) ?_
        refine mRun.go (q_goto (tgt := 91) dX2_readRow_87 (by decide)) ?_
        first | (rw [if_pos (by omega)] at k; exact k) | (rw [if_neg (by omega)] at k; exact k)
      · refine mRun.go (q_iload_n dX2_readRow_75 rfl rfl) ?_
        refine mRun.go (q_aload_n dX2_readRow_76 rfl rfl) ?_
        refine mRun.go (q_getR dX2_readRow_77 fo_X2_12 hR.2.1 rfl) ?_
        refine mRun.go (q_getE (x := rWid R) dX2_readRow_80 fo_X2_87 hR.2.2.1.1 rfl (by rw [hin.1 4 (by decide)]; exact hr.2.1)) ?_
        refine r_icmp_ne (tgt := 90) dX2_readRow_83 (by decide) (by omega) (by omega) (fun c83 => ?_) (fun c83 => ?_)
        · refine mRun.go (q_iconst dX2_readRow_90) ?_
          first | (rw [if_pos (by omega)] at k; exact k) | (rw [if_neg (by omega)] at k; exact k)
        · refine mRun.go (q_iconst dX2_readRow_86) ?_
          refine mRun.go (q_goto (tgt := 91) dX2_readRow_87 (by decide)) ?_
          first | (rw [if_pos (by omega)] at k; exact k) | (rw [if_neg (by omega)] at k; exact k)
  refine j62 ?_
  refine mRun.go (q_istore (ls' := [some (mr 3), some (mr 1), some (mi s), some (mi (m : Int)), some (mi (if 1 ≤ m ∧ (rRows R = 0 ∨ (m : Int) = rWid R) then 1 else 0))]) dX2_readRow_91 (Nat.le_of_ble_eq_true rfl) rfl) ?_
  refine mRun.go (q_iload dX2_readRow_93 rfl) ?_
  refine r_if_eq (tgt := 122) dX2_readRow_95 (by decide) (by split <;> omega) (fun c95 => ?_) (fun c95 => ?_)
  · refine mRun.go (q_iconst dX2_readRow_122) ?_
    refine r_iret dX2_readRow_123 rfl ?_
    have hno : itR c R s = (-1, R) := by
      unfold itR
      rw [← hmrc, if_neg (fun z => ?_)]
      (try split at *) <;> omega
    rw [hno]
    exact ⟨rfl, K, rfl, hK, fun r h => hin.1 r (by omega), fun z => absurd rfl z⟩
  · refine mRun.go (q_aload_n dX2_readRow_98 rfl rfl) ?_
    refine mRun.go (q_getR dX2_readRow_99 fo_X2_12 hR.2.1 rfl) ?_
    refine mRun.go (q_getE (x := rRows R) dX2_readRow_102 fo_X2_84 hR.2.2.1.1 rfl (by rw [hin.1 4 (by decide)]; exact hr.2.2.1)) ?_
    refine mRun.go (q_bipush dX2_readRow_105 (by decide)) ?_
    refine r_icmp_ge (tgt := 122) dX2_readRow_107 (by decide) (by omega) (by omega) (fun c107 => ?_) (fun c107 => ?_)
    · refine mRun.go (q_iconst dX2_readRow_122) ?_
      refine r_iret dX2_readRow_123 rfl ?_
      have hno : itR c R s = (-1, R) := by
        unfold itR
        rw [← hmrc, if_neg (fun z => ?_)]
        (try split at *) <;> omega
      rw [hno]
      exact ⟨rfl, K, rfl, hK, fun r h => hin.1 r (by omega), fun z => absurd rfl z⟩
    · refine mRun.go (q_aload_n dX2_readRow_110 rfl rfl) ?_
      refine mRun.go (q_iload_n dX2_readRow_111 rfl rfl) ?_
      refine mRun.go (q_iload_n dX2_readRow_112 rfl rfl) ?_
      refine mRun.go (q_iadd dX2_readRow_113) ?_
      refine mRun.go (q_callVi (r := 1) [mi (s + (m : Int))] [] dX2_readRow_114 co_X2_48 ⟨Nat.le_of_ble_eq_true rfl, Nat.le_of_ble_eq_true rfl⟩ gw_297 gw_298 rfl hR.1.1 rfl rfl rfl (Nat.le_of_ble_eq_true rfl) (k_letC hR hK hTK (by omega))) ?_
      refine mRun.go (q_bipush dX2_readRow_117 (by decide)) ?_
      refine r_icmp_eq (tgt := 124) dX2_readRow_119 (by decide) (hTK.2.2.2 _) (by omega) (fun c119 => ?_) (fun c119 => ?_)
      · refine mRun.go (q_aload_n dX2_readRow_124 rfl rfl) ?_
        refine mRun.go (q_getR dX2_readRow_125 fo_X2_12 hR.2.1 rfl) ?_
        refine mRun.go (q_iload_n dX2_readRow_128 rfl rfl) ?_
        refine mRun.go (q_putI dX2_readRow_129 fo_X2_87 fp_1_4 hR.2.2.1.1 rfl) ?_
        refine mRun.go (q_aload_n dX2_readRow_132 rfl rfl) ?_
        refine mRun.go (q_getR dX2_readRow_133 fo_X2_12 hR.2.1 rfl) ?_
        refine mRun.go (q_dup dX2_readRow_136 rfl) ?_
        refine mRun.go (q_getE (x := rPl R) dX2_readRow_137 fo_X2_77 hR.2.2.1.1 rfl (by rw [mup_ne2 (by decide), hin.1 4 (by decide)]; exact hr.1)) ?_
        refine mRun.go (q_iload_n dX2_readRow_140 rfl rfl) ?_
        refine mRun.go (q_iadd dX2_readRow_141) ?_
        refine mRun.go (q_putI dX2_readRow_142 fo_X2_77 fp_1_3 hR.2.2.1.1 rfl) ?_
        refine mRun.go (q_aload_n dX2_readRow_145 rfl rfl) ?_
        refine mRun.go (q_getR dX2_readRow_146 fo_X2_12 hR.2.1 rfl) ?_
        refine mRun.go (q_dup dX2_readRow_149 rfl) ?_
        refine mRun.go (q_getE (x := rRows R) dX2_readRow_150 fo_X2_84 hR.2.2.1.1 rfl (by rw [mup_ne2 (by decide), mup_ne2 (by decide), hin.1 4 (by decide)]; exact hr.2.2.1)) ?_
        refine mRun.go (q_iconst dX2_readRow_153) ?_
        refine mRun.go (q_iadd dX2_readRow_154) ?_
        refine mRun.go (q_putI dX2_readRow_155 fo_X2_84 fp_1_5 hR.2.2.1.1 rfl) ?_
        refine mRun.go (q_iload_n dX2_readRow_158 rfl rfl) ?_
        refine mRun.go (q_iload_n dX2_readRow_159 rfl rfl) ?_
        refine mRun.go (q_iadd dX2_readRow_160) ?_
        refine mRun.go (q_iconst dX2_readRow_161) ?_
        refine mRun.go (q_iadd dX2_readRow_162) ?_
        refine r_iret dX2_readRow_163 rfl ?_
        have hyes : 1 ≤ m ∧ (rRows R = 0 ∨ (m : Int) = rWid R) ∧ rRows R < 6 ∧ c (s + (m : Int)) = 59 := by
          by_cases z : 1 ≤ m ∧ (rRows R = 0 ∨ (m : Int) = rWid R)
          · exact ⟨z.1, z.2, by omega, by omega⟩
          · rw [if_neg z] at c95; omega
        have hpm : (rRows R + 1) * (m : Int) = rPl R + (m : Int) := by
          show _ = rRows R * rWid R + _
          rw [Int.add_mul, Int.one_mul]
          rcases hyes.2.1 with q | q
          · rw [q, Int.zero_mul, Int.zero_mul]
          · rw [q]
        have hle : rPl R + (m : Int) ≤ 36 := by
          rw [← hpm]
          have := Int.mul_le_mul (show rRows R + 1 ≤ 6 by omega) (show (m : Int) ≤ 6 by omega) (by omega) (by decide)
          omega
        unfold itR
        rw [← hmrc, if_pos hyes]
        refine ⟨rfl, _, rfl, (nrm_mup (nrm_mup (nrm_mup hK (by omega)) (by omega)) (by omega)), fun r h => ?_, fun _ => ?_⟩
        · rw [mup_nf (by omega), mup_nf (by omega), mup_nf (by omega)]; exact hin.1 r (by omega)
        · have e4 : ∀ k, k ≠ 3 → k ≠ 4 → k ≠ 5 → mup (mup (mup K 4 4 (m : Int)) 4 3 (rPl R + (m : Int))) 4 5 (rRows R + 1) 4 k = J 4 k := fun k q1 q2 q3 => by rw [mup_ne2 q3, mup_ne2 q1, mup_ne2 q2, hin.1 4 (by decide)]
          have eo : ∀ r, r ≠ 4 → r ≠ 4 + 1 + 1 → mup (mup (mup K 4 4 (m : Int)) 4 3 (rPl R + (m : Int))) 4 5 (rRows R + 1) r = J r := fun r q1 q2 => by rw [mup_nf q1, mup_nf q1, mup_nf q1, hin.1 r q2]
          refine ⟨?_, by simp [mup], by simp [mup], by rw [e4 6 (by decide) (by decide) (by decide)]; exact h4, by rw [e4 7 (by decide) (by decide) (by decide)]; exact h5, fun i hi => ?_, fun i hi => by rw [eo 8 (by decide) (by decide)]; exact h7 i hi, fun i hi => by rw [eo 13 (by decide) (by decide)]; exact h8 i hi, fun t ht => ?_, by rw [eo 11 (by decide) (by decide)]; exact h10, by rw [eo 11 (by decide) (by decide)]; exact h11⟩
          · show _ = (rRows R + 1) * (m : Int)
            rw [hpm]; simp [mup]
          · have hi : (i : Int) < (rRows R + 1) * (m : Int) := hi
            rw [hpm] at hi
            show _ = if rPl R ≤ (i : Int) ∧ (i : Int) < rPl R + (m : Int) then c (s + ((i : Int) - rPl R)) - 48 else rGr R i
            rw [mup_ne (by decide), mup_ne (by decide), mup_ne (by decide), hin.2.2 i (by omega)]
            by_cases hc : rPl R ≤ (i : Int) ∧ (i : Int) < rPl R + (m : Int)
            · rw [if_pos hc, if_pos hc]
            · rw [if_neg hc, if_neg hc]; exact h6 i (by omega)
          · rw [← h9 t ht]; simp only [tget]; rw [eo (15 + t) (by omega) (by omega)]
      · refine mRun.go (q_iconst dX2_readRow_122) ?_
        refine r_iret dX2_readRow_123 rfl ?_
        have hno : itR c R s = (-1, R) := by
          unfold itR
          rw [← hmrc, if_neg (fun z => ?_)]
          (try split at *) <;> omega
        rw [hno]
        exact ⟨rfl, K, rfl, hK, fun r h => hin.1 r (by omega), fun z => absurd rfl z⟩

set_option maxRecDepth 100000 in
theorem k_readItem {σ : List mC} {J : mI} {c : Int → Int} {L s : Int} {R : Rd} (hR : IsRd σ) (hJ : Nrm J) (hT : TXt J c L) (hs : 0 ≤ s ∧ s ≤ 400) (hr : RepC J R) (hk : RdOk R) : mMt mX2_readItem [mr 3, mr 1, mi s] (σ, J) (fun v h => v = some (mi (itm c R s).1) ∧ ∃ K, h = (σ, K) ∧ Nrm K ∧ Fr25 J K ∧ ((itm c R s).1 ≠ -1 → RepC K (itm c R s).2)) := by
  refine mMt.of pl_2 (Nat.le_of_ble_eq_true rfl) ?_
  show mRun mZt mX2_readItem 0 [some (mr 3), some (mr 1), some (mi s)] [] (σ, J) _
  refine mRun.go (q_aload_n dX2_readItem_0 rfl rfl) ?_
  refine mRun.go (q_iload_n dX2_readItem_1 rfl rfl) ?_
  refine mRun.go (q_callVi (r := 1) [mi s] [] dX2_readItem_2 co_X2_48 ⟨Nat.le_of_ble_eq_true rfl, Nat.le_of_ble_eq_true rfl⟩ gw_297 gw_298 rfl hR.1.1 rfl rfl rfl (Nat.le_of_ble_eq_true rfl) (k_letC hR hJ hT (by omega))) ?_
  rcases (show (c s) = 100 ∨ (c s) = 114 ∨ (c s) = 116 ∨ (c s) = 119 ∨ (c s) = 120 ∨ (¬ (c s) = 100 ∧ ¬ (c s) = 114 ∧ ¬ (c s) = 116 ∧ ¬ (c s) = 119 ∧ ¬ (c s) = 120) by omega) with s5 | s5 | s5 | s5 | s5 | s5
  · refine mRun.go (q_lsw (off := 60) (tgt := 65) dX2_readItem_5 (hT.2.2.2 _) (by decide) (by rw [s5]; rfl) (by decide)) ?_
    refine mRun.go (q_aload_n dX2_readItem_65 rfl rfl) ?_
    refine mRun.go (q_aload_n dX2_readItem_66 rfl rfl) ?_
    refine mRun.go (q_iload_n dX2_readItem_67 rfl rfl) ?_
    refine mRun.go (q_iconst dX2_readItem_68) ?_
    refine mRun.go (q_iadd dX2_readItem_69) ?_
    obtain ⟨v0, h0, hc0, rfl, K, rfl, hK, hfK, hrK⟩ := @k_readDrum σ J c L (s + 1) R hR hJ hT (by omega) hr hk
    refine mRun.go (q_callVi (r := 3) [mr 1, mi (s + 1)] [] dX2_readItem_70 co_X2_55 ⟨Nat.le_of_ble_eq_true rfl, Nat.le_of_ble_eq_true rfl⟩ gw_316 gs_3 rfl hR.2.1 rfl rfl rfl (Nat.le_of_ble_eq_true rfl) hc0) ?_
    refine r_iret dX2_readItem_73 rfl ?_
    have e : itm c R s = itD c R (s + 1) := by unfold itm; rw [if_neg (by omega), if_pos (by omega)]
    rw [e]
    exact ⟨rfl, K, rfl, hK, hfK, hrK⟩
  · refine mRun.go (q_lsw (off := 51) (tgt := 56) dX2_readItem_5 (hT.2.2.2 _) (by decide) (by rw [s5]; rfl) (by decide)) ?_
    refine mRun.go (q_aload_n dX2_readItem_56 rfl rfl) ?_
    refine mRun.go (q_aload_n dX2_readItem_57 rfl rfl) ?_
    refine mRun.go (q_iload_n dX2_readItem_58 rfl rfl) ?_
    refine mRun.go (q_iconst dX2_readItem_59) ?_
    refine mRun.go (q_iadd dX2_readItem_60) ?_
    obtain ⟨v0, h0, hc0, rfl, K, rfl, hK, hfK, hrK⟩ := @k_readRow σ J c L (s + 1) R hR hJ hT (by omega) hr hk
    refine mRun.go (q_callVi (r := 3) [mr 1, mi (s + 1)] [] dX2_readItem_61 co_X2_52 ⟨Nat.le_of_ble_eq_true rfl, Nat.le_of_ble_eq_true rfl⟩ gw_302 gs_2 rfl hR.2.1 rfl rfl rfl (Nat.le_of_ble_eq_true rfl) hc0) ?_
    refine r_iret dX2_readItem_64 rfl ?_
    have e : itm c R s = itR c R (s + 1) := by unfold itm; rw [if_pos (by omega)]
    rw [e]
    exact ⟨rfl, K, rfl, hK, hfK, hrK⟩
  · refine mRun.go (q_lsw (off := 78) (tgt := 83) dX2_readItem_5 (hT.2.2.2 _) (by decide) (by rw [s5]; rfl) (by decide)) ?_
    refine mRun.go (q_aload_n dX2_readItem_83 rfl rfl) ?_
    refine mRun.go (q_aload_n dX2_readItem_84 rfl rfl) ?_
    refine mRun.go (q_iload_n dX2_readItem_85 rfl rfl) ?_
    refine mRun.go (q_iconst dX2_readItem_86) ?_
    refine mRun.go (q_iadd dX2_readItem_87) ?_
    obtain ⟨v0, h0, hc0, rfl, K, rfl, hK, hfK, hrK⟩ := @k_readTraveller σ J c L (s + 1) R hR hJ hT (by omega) hr hk
    refine mRun.go (q_callVi (r := 3) [mr 1, mi (s + 1)] [] dX2_readItem_88 co_X2_61 ⟨Nat.le_of_ble_eq_true rfl, Nat.le_of_ble_eq_true rfl⟩ gw_345 gs_6 rfl hR.2.1 rfl rfl rfl (Nat.le_of_ble_eq_true rfl) hc0) ?_
    refine r_iret dX2_readItem_91 rfl ?_
    have e : itm c R s = itT c R (s + 1) := by unfold itm; rw [if_neg (by omega), if_neg (by omega), if_neg (by omega), if_pos (by omega)]
    rw [e]
    exact ⟨rfl, K, rfl, hK, hfK, hrK⟩
  · refine mRun.go (q_lsw (off := 87) (tgt := 92) dX2_readItem_5 (hT.2.2.2 _) (by decide) (by rw [s5]; rfl) (by decide)) ?_
    refine mRun.go (q_aload_n dX2_readItem_92 rfl rfl) ?_
    refine mRun.go (q_aload_n dX2_readItem_93 rfl rfl) ?_
    refine mRun.go (q_iload_n dX2_readItem_94 rfl rfl) ?_
    refine mRun.go (q_iconst dX2_readItem_95) ?_
    refine mRun.go (q_iadd dX2_readItem_96) ?_
    obtain ⟨v0, h0, hc0, rfl, K, rfl, hK, hfK, hrK⟩ := @k_readWet σ J c L (s + 1) R hR hJ hT (by omega) hr hk
    refine mRun.go (q_callVi (r := 3) [mr 1, mi (s + 1)] [] dX2_readItem_97 co_X2_64 ⟨Nat.le_of_ble_eq_true rfl, Nat.le_of_ble_eq_true rfl⟩ gw_361 gs_7 rfl hR.2.1 rfl rfl rfl (Nat.le_of_ble_eq_true rfl) hc0) ?_
    refine r_iret dX2_readItem_100 rfl ?_
    have e : itm c R s = itW c R (s + 1) := by unfold itm; rw [if_neg (by omega), if_neg (by omega), if_neg (by omega), if_neg (by omega), if_pos (by omega)]
    rw [e]
    exact ⟨rfl, K, rfl, hK, hfK, hrK⟩
  · refine mRun.go (q_lsw (off := 69) (tgt := 74) dX2_readItem_5 (hT.2.2.2 _) (by decide) (by rw [s5]; rfl) (by decide)) ?_
    refine mRun.go (q_aload_n dX2_readItem_74 rfl rfl) ?_
    refine mRun.go (q_aload_n dX2_readItem_75 rfl rfl) ?_
    refine mRun.go (q_iload_n dX2_readItem_76 rfl rfl) ?_
    refine mRun.go (q_iconst dX2_readItem_77) ?_
    refine mRun.go (q_iadd dX2_readItem_78) ?_
    obtain ⟨v0, h0, hc0, rfl, K, rfl, hK, hfK, hrK⟩ := @k_readTold σ J c L (s + 1) R hR hJ hT (by omega) hr hk
    refine mRun.go (q_callVi (r := 3) [mr 1, mi (s + 1)] [] dX2_readItem_79 co_X2_58 ⟨Nat.le_of_ble_eq_true rfl, Nat.le_of_ble_eq_true rfl⟩ gw_328 gs_5 rfl hR.2.1 rfl rfl rfl (Nat.le_of_ble_eq_true rfl) hc0) ?_
    refine r_iret dX2_readItem_82 rfl ?_
    have e : itm c R s = itX c R (s + 1) := by unfold itm; rw [if_neg (by omega), if_neg (by omega), if_pos (by omega)]
    rw [e]
    exact ⟨rfl, K, rfl, hK, hfK, hrK⟩
  · refine mRun.go (q_lsw (off := 96) (tgt := 101) dX2_readItem_5 (hT.2.2.2 _) (by decide) (by simp [Op.lookupswitch.offset]; rw [if_neg (by omega), if_neg (by omega), if_neg (by omega), if_neg (by omega), if_neg (by omega)]) (by decide)) ?_
    refine mRun.go (q_iconst dX2_readItem_101) ?_
    refine r_iret dX2_readItem_102 rfl ?_
    have e : itm c R s = (-1, R) := by unfold itm; rw [if_neg (by omega), if_neg (by omega), if_neg (by omega), if_neg (by omega), if_neg (by omega)]
    rw [e]
    exact ⟨rfl, J, rfl, hJ, fr25_rf, fun z => absurd rfl z⟩

theorem itm_hi (c : Int → Int) (R : Rd) (s : Int) : (itm c R s).1 = -1 ∨ (itm c R s).1 ≤ s + 10 := by
  have a1 := nxt_rng c (s + 1) 59
  have a2 := nxt_rng c (s + 1) 44
  have a3 : (n2 c (s + 1)).1 ≠ -1 → (nxt c (s + 1) 44).2 + 2 ≤ (n2 c (s + 1)).2 ∧ (n2 c (s + 1)).2 ≤ (nxt c (s + 1) 44).2 + 3 := (nxt_rng c (nxt c (s + 1) 44).2 44).2.2.1
  have a4 : (n3 c (s + 1)).1 ≠ -1 → (n2 c (s + 1)).2 + 2 ≤ (n3 c (s + 1)).2 ∧ (n3 c (s + 1)).2 ≤ (n2 c (s + 1)).2 + 3 := (nxt_rng c (n2 c (s + 1)).2 59).2.2.1
  have a5 := rc_le c 6 (s + 1)
  unfold itm
  split
  · unfold itR
    split
    · exact Or.inr (by simp only; omega)
    · exact Or.inl rfl
  · split
    · unfold itD
      split
      · next z => have := a1.2.2.1 z.1; exact Or.inr (by simp only; omega)
      · exact Or.inl rfl
    · split
      · unfold itX
        split
        · next z =>
          have b1 := a2.2.2.1 z.1.1
          have b2 := a3 z.1.2.1
          have b3 := a4 z.1.2.2
          exact Or.inr (by simp only; omega)
        · exact Or.inl rfl
      · split
        · unfold itT
          split
          · next z =>
            have b1 := a2.2.2.1 z.1.1
            have b2 := a3 z.1.2.1
            have b3 := a4 z.1.2.2
            exact Or.inr (by simp only; omega)
          · exact Or.inl rfl
        · split
          · unfold itW
            split
            · next z => have := a1.2.2.1 z.1; exact Or.inr (by simp only; omega)
            · exact Or.inl rfl
          · exact Or.inl rfl

set_option maxRecDepth 100000 in
theorem k_firstFault_loop {σ : List mC} {J : mI} {c : Int → Int} {L : Int} (hR : IsRd σ) (hT : TXt J c L) : ∀ (n i : Nat) (s : Int) (K : mI) (R : Rd) (o4 : Option mV), 201 - i < n → i ≤ 200 → (i : Int) * 3 ≤ s → s ≤ 210 → Nrm K → Fr25 J K → RepC K R → RdOk R → prs c L 201 0 rd0 = prs c L (201 - i) s R → mRun mZt mX2_firstFault 18 [some (mr 3), some (mr 1), some (mi s), some (mi (i : Int)), o4] [] (σ, K) (fun v h => v = some (mi (prs c L 201 0 rd0).1) ∧ ∃ K, h = (σ, K) ∧ Nrm K ∧ Fr25 J K ∧ ((prs c L 201 0 rd0).1 = -4 → RepC K (prs c L 201 0 rd0).2)) := by
  intro n
  induction n with
  | zero => intro i s K R o4 h; omega
  | succ n ih =>
    intro i s K R o4 hn hi hs3 hs2 hK hfr hr hk hgoal
    have hTK : TXt K c L := hT.fr (hfr 1 (by omega)) (hfr 2 (by omega))
    have hL := hTK.1
    have hE : -2147483648 ≤ (itm c R s).1 ∧ (itm c R s).1 < 2147483648 := by
      have h1 := itm_hi c R s
      by_cases q : (itm c R s).1 = -1
      · omega
      · have := itm_next q
        omega
    refine mRun.go (q_iload_n dX2_firstFault_18 rfl rfl) ?_
    refine mRun.go (q_sipush dX2_firstFault_19 (by decide)) ?_
    refine r_icmp_ge (tgt := 58) dX2_firstFault_22 (by decide) (by omega) (by omega) (fun c22 => ?_) (fun c22 => ?_)
    · refine mRun.go (q_bipush dX2_firstFault_58 (by decide)) ?_
      refine r_iret dX2_firstFault_60 rfl ?_
      have hge : L ≤ s := by omega
      have e2 : prs c L (201 - i) s R = (-4, R) := by
        rw [show 201 - i = (201 - (i + 1)) + 1 by omega]
        simp only [prs]
        rw [if_neg (by omega)]
      rw [e2] at hgoal
      rw [hgoal]
      exact ⟨rfl, K, rfl, hK, hfr, fun _ => hr⟩
    · refine mRun.go (q_iload_n dX2_firstFault_25 rfl rfl) ?_
      refine mRun.go (q_aload_n dX2_firstFault_26 rfl rfl) ?_
      refine mRun.go (q_getE (x := L) dX2_firstFault_27 fo_X2_38 hR.1.1 rfl hTK.2.1) ?_
      refine r_icmp_ge (tgt := 58) dX2_firstFault_30 (by decide) (by omega) (by have := hTK.1; omega) (fun c30 => ?_) (fun c30 => ?_)
      · refine mRun.go (q_bipush dX2_firstFault_58 (by decide)) ?_
        refine r_iret dX2_firstFault_60 rfl ?_
        have hge : L ≤ s := by omega
        have e2 : prs c L (201 - i) s R = (-4, R) := by
          rw [show 201 - i = (201 - (i + 1)) + 1 by omega]
          simp only [prs]
          rw [if_neg (by omega)]
        rw [e2] at hgoal
        rw [hgoal]
        exact ⟨rfl, K, rfl, hK, hfr, fun _ => hr⟩
      · refine mRun.go (q_aload_n dX2_firstFault_33 rfl rfl) ?_
        refine mRun.go (q_aload_n dX2_firstFault_34 rfl rfl) ?_
        refine mRun.go (q_iload_n dX2_firstFault_35 rfl rfl) ?_
        obtain ⟨v0, h0, hc0, rfl, K2, rfl, hK2, hfK2, hrK2⟩ := @k_readItem σ K c L s R hR hK hTK (by omega) hr hk
        have hin := @itm_next c R s
        have hrg : -2147483648 ≤ (itm c R s).1 ∧ (itm c R s).1 < 2147483648 := hE
        refine mRun.go (q_callVi (r := 3) [mr 1, mi s] [] dX2_firstFault_36 co_X2_44 ⟨Nat.le_of_ble_eq_true rfl, Nat.le_of_ble_eq_true rfl⟩ gw_294 gs_1 rfl hR.2.1 rfl rfl rfl (Nat.le_of_ble_eq_true rfl) hc0) ?_
        refine mRun.go (q_istore (ls' := [some (mr 3), some (mr 1), some (mi s), some (mi (i : Int)), some (mi ((itm c R s).1))]) dX2_firstFault_39 (Nat.le_of_ble_eq_true rfl) rfl) ?_
        refine mRun.go (q_iload dX2_firstFault_41 rfl) ?_
        refine mRun.go (q_iload_n dX2_firstFault_43 rfl rfl) ?_
        refine r_icmp_gt (tgt := 49) dX2_firstFault_44 (by decide) hrg (by omega) (fun c44 => ?_) (fun c44 => ?_)
        · refine mRun.go (q_iload dX2_firstFault_49 rfl) ?_
          refine mRun.go (q_istore_n (ls' := [some (mr 3), some (mr 1), some (mi ((itm c R s).1)), some (mi (i : Int)), some (mi ((itm c R s).1))]) dX2_firstFault_51 rfl (Nat.le_of_ble_eq_true rfl) rfl) ?_
          refine mRun.go (q_iinc (ls' := [some (mr 3), some (mr 1), some (mi ((itm c R s).1)), some (mi ((i : Int) + 1)), some (mi ((itm c R s).1))]) dX2_firstFault_52 rfl (Nat.le_of_ble_eq_true rfl) rfl) ?_
          refine mRun.go (q_goto (tgt := 18) dX2_firstFault_55 (by decide)) ?_
          have hne : ¬ (itm c R s).1 = -1 := by omega
          have hm3 := hin hne
          have e1 : ((i : Int) + 1) = ((i + 1 : Nat) : Int) := by omega
          rw [e1]
          have e2 : prs c L (201 - i) s R = prs c L (201 - (i + 1)) (itm c R s).1 (itm c R s).2 := by
            rw [show 201 - i = (201 - (i + 1)) + 1 by omega]
            simp only [prs]
            rw [if_pos (by omega), if_neg hne]
          rw [e2] at hgoal
          exact ih (i + 1) _ K2 _ _ (by omega) (by omega) (by omega) (by have := itm_hi c R s; omega) hK2 (fr25_tr hfr hfK2) (hrK2 hne) (itm_ok hk) hgoal
        · refine mRun.go (q_iload_n dX2_firstFault_47 rfl rfl) ?_
          refine r_iret dX2_firstFault_48 rfl ?_
          have hno : (itm c R s).1 = -1 := Classical.byContradiction fun q => by have := hin q; omega
          have e2 : prs c L (201 - i) s R = (s, R) := by
            rw [show 201 - i = (201 - (i + 1)) + 1 by omega]
            simp only [prs]
            rw [if_pos (by omega), if_pos hno]
          rw [e2] at hgoal
          rw [hgoal]
          exact ⟨rfl, K2, rfl, hK2, fr25_tr hfr hfK2, fun z => absurd z (show ¬ s = -4 by omega)⟩

set_option maxRecDepth 100000 in
theorem k_firstFault {σ : List mC} {J : mI} {c : Int → Int} {L : Int} (hR : IsRd σ) (hJ : Nrm J) (hT : TXt J c L) : mMt mX2_firstFault [mr 3, mr 1] (σ, J) (fun v h => v = some (mi (prs c L 201 0 rd0).1) ∧ ∃ K, h = (σ, K) ∧ Nrm K ∧ Fr25 J K ∧ ((prs c L 201 0 rd0).1 = -4 → RepC K (prs c L 201 0 rd0).2)) := by
  refine mMt.of pl_2 (Nat.le_of_ble_eq_true rfl) ?_
  show mRun mZt mX2_firstFault 0 [some (mr 3), some (mr 1), none, none, none] [] (σ, J) _
  refine mRun.go (q_aload_n dX2_firstFault_0 rfl rfl) ?_
  refine mRun.go (q_getR dX2_firstFault_1 fo_X2_12 hR.2.1 rfl) ?_
  refine mRun.go (q_callVv (r := 4) [] [] dX2_firstFault_4 co_X2_34 ⟨Nat.le_of_ble_eq_true rfl, Nat.le_of_ble_eq_true rfl⟩ gw_281 gw_282 rfl hR.2.2.1.1 rfl rfl rfl (Nat.le_of_ble_eq_true rfl) (k_lclear hR.2.2.1 hJ)) ?_
  refine mRun.go (q_aload_n dX2_firstFault_7 rfl rfl) ?_
  refine mRun.go (q_getR dX2_firstFault_8 fo_X2_21 hR.2.1 rfl) ?_
  refine mRun.go (q_callVv (r := 11) [] [] dX2_firstFault_11 co_X2_37 ⟨Nat.le_of_ble_eq_true rfl, Nat.le_of_ble_eq_true rfl⟩ gw_285 gw_286 rfl hR.2.2.2.1.1 rfl rfl rfl (Nat.le_of_ble_eq_true rfl) (k_fclear hR.2.2.2.1 (nrm_mup (nrm_mup (nrm_mup (nrm_mup (nrm_mup hJ (by decide)) (by decide)) (by decide)) (by decide)) (by decide)))) ?_
  refine mRun.go (q_iconst dX2_firstFault_14) ?_
  refine mRun.go (q_istore_n (ls' := [some (mr 3), some (mr 1), some (mi 0), none, none]) dX2_firstFault_15 rfl (Nat.le_of_ble_eq_true rfl) rfl) ?_
  refine mRun.go (q_iconst dX2_firstFault_16) ?_
  refine mRun.go (q_istore_n (ls' := [some (mr 3), some (mr 1), some (mi 0), some (mi 0), none]) dX2_firstFault_17 rfl (Nat.le_of_ble_eq_true rfl) rfl) ?_
  refine k_firstFault_loop hR hT 202 0 0 _ rd0 _ (by omega) (by omega) (by omega) (by omega) (nrm_mup (nrm_mup (nrm_rfil (nrm_mup (nrm_mup (nrm_mup (nrm_mup (nrm_mup hJ (by decide)) (by decide)) (by decide)) (by decide)) (by decide)) (by decide)) (by decide)) (by decide)) (fun r h => ?_) ?_ rd0_ok rfl
  · funext k; rw [mup_ne (by omega), mup_ne (by omega)]; simp only [rfil]; rw [if_neg (by omega), mup_ne (by omega), mup_ne (by omega), mup_ne (by omega), mup_ne (by omega), mup_ne (by omega)]
  · refine ⟨by simp [mup, rfil, rd0, rPl], by simp [mup, rfil, rd0], by simp [mup, rfil, rd0], by simp [mup, rfil, rd0], by simp [mup, rfil, rd0], fun i hi => ?_, fun i hi => ?_, fun i hi => by simp [mup, rfil, rd0, hi], fun t ht => ?_, by simp [mup, rfil, rd0], by simp [mup, rfil, rd0]⟩
    · have hi : (i : Int) < 0 * 0 := hi
      omega
    · have hi : (i : Int) < 0 := hi
      omega
    · have ht : (t : Int) < 0 := ht
      omega
