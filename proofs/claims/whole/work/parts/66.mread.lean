/-! ===== the reference reads: its letters, its numbers ===== -/
def TM (I : mI) (c : Int → Int) (Ln : Int) : Prop := I 144 15 = Ln ∧ (0 ≤ Ln ∧ Ln ≤ 200) ∧ (∀ k : Nat, (k : Int) < Ln → I 152 k = c k) ∧ (∀ i : Int, ¬ (0 ≤ i ∧ i < Ln) → c i = 0) ∧ ∀ i : Int, -2147483648 ≤ c i ∧ c i < 2147483648
theorem TM.fr {I K : mI} {c : Int → Int} {Ln : Int} (h : TM I c Ln) (hf : FrM I K) : TM K c Ln := ⟨(hf.2 15 (by decide)).trans h.1, h.2.1, fun k hk => by rw [hf.1 152 (by decide) (by decide) (by decide)]; exact h.2.2.1 k hk, h.2.2.2⟩
/-- where it reads, and what number: nothing else is changed -/
def FrA (I K : mI) : Prop := (∀ r, r ≠ 144 → K r = I r) ∧ ∀ k, k ≠ 27 → k ≠ 28 → K 144 k = I 144 k
theorem fra_rf {I : mI} : FrA I I := ⟨fun _ _ => rfl, fun _ _ _ => rfl⟩
theorem fra_tr {I J K : mI} (a : FrA I J) (b : FrA J K) : FrA I K := ⟨fun r p => (b.1 r p).trans (a.1 r p), fun k p q => (b.2 k p q).trans (a.2 k p q)⟩
theorem fra_27 {I K : mI} {x : Int} (a : FrA I K) : FrA I (mup K 144 27 x) := ⟨fun r p => (mup_nf p).trans (a.1 r p), fun k p q => (mup_ne2 p).trans (a.2 k p q)⟩
theorem fra_28 {I K : mI} {x : Int} (a : FrA I K) : FrA I (mup K 144 28 x) := ⟨fun r p => (mup_nf p).trans (a.1 r p), fun k p q => (mup_ne2 q).trans (a.2 k p q)⟩
theorem frm_fa {I K : mI} (a : FrA I K) : FrM I K := ⟨fun r p _ _ => a.1 r p, fun k hk => a.2 k (by omega) (by omega)⟩
def RdM (K : mI) (R : Rd) : Prop := K 144 16 = rRows R ∧ K 144 17 = rWid R ∧ (∀ j : Nat, (j : Int) < rPl R → K 153 j = rGr R j) ∧ K 144 19 = rDr R ∧ (∀ d : Nat, (d : Int) < rDr R → K 154 d = rKd R d) ∧ (∀ i : Nat, i < 144 → K 155 i = (if rOd R i = -1 then -4 else rOd R i)) ∧ K 144 22 = rNt R ∧ (∀ t : Nat, (t : Int) < rNt R → K 156 t = (rTv R t).1 ∧ K 157 t = (rTv R t).2.1 ∧ K 158 t = (rTv R t).2.2) ∧ K 144 26 = rWet R
theorem RdM.fa {I K : mI} {R : Rd} (h : RdM I R) (a : FrA I K) : RdM K R := by
  obtain ⟨h1, h2, h3, h4, h5, h6, h7, h8, h9⟩ := h
  exact ⟨(a.2 16 (by decide) (by decide)).trans h1, (a.2 17 (by decide) (by decide)).trans h2, fun j hj => by rw [a.1 153 (by decide)]; exact h3 j hj, (a.2 19 (by decide) (by decide)).trans h4, fun j hj => by rw [a.1 154 (by decide)]; exact h5 j hj, fun j hj => by rw [a.1 155 (by decide)]; exact h6 j hj, (a.2 22 (by decide) (by decide)).trans h7, fun j hj => by rw [a.1 156 (by decide), a.1 157 (by decide), a.1 158 (by decide)]; exact h8 j hj, (a.2 26 (by decide) (by decide)).trans h9⟩
def hrC (c : Int → Int) (Ln s : Int) : Int := if s < Ln then c s else -1
theorem hr_or {I : mI} {c : Int → Int} {Ln : Int} (hT : TM I c Ln) (s : Int) : hrC c Ln s = c s ∨ (hrC c Ln s = -1 ∧ c s = 0) := by
  unfold hrC
  by_cases h : s < Ln
  · rw [if_pos h]; exact Or.inl rfl
  · rw [if_neg h]; exact Or.inr ⟨rfl, hT.2.2.2.1 s (by omega)⟩
theorem hr_rng {I : mI} {c : Int → Int} {Ln s : Int} (hT : TM I c Ln) : -2147483648 ≤ hrC c Ln s ∧ hrC c Ln s < 2147483648 := by
  rcases hr_or hT s with q | q
  · rw [q]; exact hT.2.2.2.2 s
  · rw [q.1]; omega
theorem fig_or (x : Int) : ((48 ≤ x ∧ x ≤ 57) ∧ fig x = x - 48) ∨ (¬ (48 ≤ x ∧ x ≤ 57) ∧ fig x = -1) := by
  unfold fig
  by_cases h : 48 ≤ x ∧ x ≤ 57
  · rw [if_pos h]; exact Or.inl ⟨h, rfl⟩
  · rw [if_neg h]; exact Or.inr ⟨h, rfl⟩

set_option maxRecDepth 100000 in
theorem m_here {σ : List mC} {I : mI} {c : Int → Int} {Ln s : Int} (hI : Nrm I) (hD : IsMd σ) (hT : TM I c Ln) (hat : I 144 27 = s) (hs : 0 ≤ s ∧ s ≤ 1000)  : mCt mX9_here [mr 144] (σ, I) (some (mi (hrC c Ln s))) (σ, I) := by
  refine mCt.eq ?_
  refine mMt.of pl_9 (Nat.le_of_ble_eq_true rfl) ?_
  show mRun mZt mX9_here 0 [some (mr 144)] [] (σ, I) _
  have hLr := hT.2.1
  refine mRun.go (q_aload_n dX9_here_0 rfl rfl) ?_
  refine mRun.go (q_getE (x := s) dX9_here_1 fo_X9_121 hD.1 rfl hat) ?_
  refine mRun.go (q_aload_n dX9_here_4 rfl rfl) ?_
  refine mRun.go (q_getE (x := Ln) dX9_here_5 fo_X9_118 hD.1 rfl hT.1) ?_
  refine r_icmp_ge (tgt := 23) dX9_here_8 (by decide) (by omega) (by omega) (fun c8 => ?_) (fun c8 => ?_)
  · refine mRun.go (q_iconst dX9_here_23) ?_
    refine r_iret dX9_here_24 rfl ?_
    have e : hrC c Ln s = (-1) := by unfold hrC; first | (rw [if_pos (by omega)]; done) | (rw [if_neg (by omega)]; done)
    rw [e]
    exact ⟨rfl, rfl⟩
  · refine mRun.go (q_aload_n dX9_here_11 rfl rfl) ?_
    refine mRun.go (q_getR dX9_here_12 fo_X9_31 hD.1 rfl) ?_
    refine mRun.go (q_aload_n dX9_here_15 rfl rfl) ?_
    refine mRun.go (q_getE (x := s) dX9_here_16 fo_X9_121 hD.1 rfl hat) ?_
    refine mRun.go (q_ialdE (x := c s) dX9_here_19 hD.2.2.2.2.2.2.2.2.1 (by omega) (by omega) (by have h := hT.2.2.1 s.toNat (by omega); rw [show ((s.toNat : Nat) : Int) = s by omega] at h; exact h)) ?_
    refine mRun.go (q_goto (tgt := 24) dX9_here_20 (by decide)) ?_
    refine r_iret dX9_here_24 rfl ?_
    have e : hrC c Ln s = c s := by unfold hrC; first | (rw [if_pos (by omega)]; done) | (rw [if_neg (by omega)]; done)
    rw [e]
    exact ⟨rfl, rfl⟩

set_option maxRecDepth 100000 in
theorem m_isFigure {h : mH} {x : Int} (hx : -2147483648 ≤ x ∧ x < 2147483648) : mCt mX9_isFigure [mi x] h (some (mi (if 48 ≤ x ∧ x ≤ 57 then 1 else 0))) h := by
  refine mCt.eq ?_
  refine mMt.of pl_9 (Nat.le_of_ble_eq_true rfl) ?_
  show mRun mZt mX9_isFigure 0 [some (mi x)] [] h _
  refine mRun.go (q_iload_n dX9_isFigure_0 rfl rfl) ?_
  refine mRun.go (q_i2l dX9_isFigure_1 hx) ?_
  refine mRun.go (q_ldc2 (a := 48) dX9_isFigure_2 gw_881) ?_
  refine mRun.go (q_ldc2 (a := 57) dX9_isFigure_5 gw_895) ?_
  refine mRun.go (q_callSi [ml x, ml 48, ml 57] [] dX9_isFigure_8 co_X9_114 ⟨Nat.le_of_ble_eq_true rfl, Nat.le_of_ble_eq_true rfl⟩ gw_855 rfl rfl (Nat.le_of_ble_eq_true rfl) (k_in (by omega) (by omega) (by omega))) ?_
  refine r_zret dX9_isFigure_11 rfl (by split <;> simp) ?_
  exact ⟨rfl, rfl⟩

set_option maxRecDepth 100000 in
theorem m_takes {σ : List mC} {I : mI} {c : Int → Int} {Ln s : Int} (hI : Nrm I) (hD : IsMd σ) (hT : TM I c Ln) (hat : I 144 27 = s) (hs : 0 ≤ s ∧ s ≤ 500) {a : Int} (ha : a = 44 ∨ a = 59)  : mCt mX9_takes [mr 144, mi a] (σ, I) (some (mi (if c s = a then 1 else 0))) (σ, mup I 144 27 (if c s = a then s + 1 else s)) := by
  refine mCt.eq ?_
  refine mMt.of pl_9 (Nat.le_of_ble_eq_true rfl) ?_
  show mRun mZt mX9_takes 0 [some (mr 144), some (mi a), none] [] (σ, I) _
  refine mRun.go (q_aload_n dX9_takes_0 rfl rfl) ?_
  refine mRun.go (q_callVi (r := 144) [] [] dX9_takes_1 co_X9_124 ⟨Nat.le_of_ble_eq_true rfl, Nat.le_of_ble_eq_true rfl⟩ gw_875 gs_30 rfl hD.1 rfl rfl rfl (Nat.le_of_ble_eq_true rfl) (m_here (s := s) hI hD hT hat (by omega))) ?_
  refine mRun.go (q_iload_n dX9_takes_4 rfl rfl) ?_
  refine r_icmp_ne (tgt := 12) dX9_takes_5 (by decide) (hr_rng hT) (by omega) (fun c5 => ?_) (fun c5 => ?_)
  · refine mRun.go (q_iconst dX9_takes_12) ?_
    refine mRun.go (q_istore_n (ls' := [some (mr 144), some (mi a), some (mi 0)]) dX9_takes_13 rfl (Nat.le_of_ble_eq_true rfl) rfl) ?_
    refine mRun.go (q_aload_n dX9_takes_14 rfl rfl) ?_
    refine mRun.go (q_dup dX9_takes_15 rfl) ?_
    refine mRun.go (q_getE (x := s) dX9_takes_16 fo_X9_121 hD.1 rfl hat) ?_
    refine mRun.go (q_iload_n dX9_takes_19 rfl rfl) ?_
    refine mRun.go (q_if_eq_t (tgt := 27) dX9_takes_20 (by decide) (by omega) rfl) ?_
    refine mRun.go (q_iconst dX9_takes_27) ?_
    refine mRun.go (q_iadd dX9_takes_28) ?_
    refine mRun.go (q_putI dX9_takes_29 fo_X9_121 fp_9_27 hD.1 rfl) ?_
    refine mRun.go (q_iload_n dX9_takes_32 rfl rfl) ?_
    refine r_zret dX9_takes_33 rfl (by simp) ?_
    have ho := hr_or hT s
    rw [if_neg (by omega), if_neg (by omega), show s + 0 = s by omega]
    exact ⟨rfl, rfl⟩
  · refine mRun.go (q_iconst dX9_takes_8) ?_
    refine mRun.go (q_goto (tgt := 13) dX9_takes_9 (by decide)) ?_
    refine mRun.go (q_istore_n (ls' := [some (mr 144), some (mi a), some (mi 1)]) dX9_takes_13 rfl (Nat.le_of_ble_eq_true rfl) rfl) ?_
    refine mRun.go (q_aload_n dX9_takes_14 rfl rfl) ?_
    refine mRun.go (q_dup dX9_takes_15 rfl) ?_
    refine mRun.go (q_getE (x := s) dX9_takes_16 fo_X9_121 hD.1 rfl hat) ?_
    refine mRun.go (q_iload_n dX9_takes_19 rfl rfl) ?_
    refine mRun.go (q_if_eq_f (tgt := 27) dX9_takes_20 (by decide) (by omega) (by decide)) ?_
    refine mRun.go (q_iconst dX9_takes_23) ?_
    refine mRun.go (q_goto (tgt := 28) dX9_takes_24 (by decide)) ?_
    refine mRun.go (q_iadd dX9_takes_28) ?_
    refine mRun.go (q_putI dX9_takes_29 fo_X9_121 fp_9_27 hD.1 rfl) ?_
    refine mRun.go (q_iload_n dX9_takes_32 rfl rfl) ?_
    refine r_zret dX9_takes_33 rfl (by simp) ?_
    have ho := hr_or hT s
    rw [if_pos (by omega), if_pos (by omega)]
    exact ⟨rfl, rfl⟩

set_option maxRecDepth 100000 in
theorem m_number {σ : List mC} {I : mI} {c : Int → Int} {Ln s : Int} (hI : Nrm I) (hD : IsMd σ) (hT : TM I c Ln) (hat : I 144 27 = s) (hs : 0 ≤ s ∧ s ≤ 500) {most : Int} (hm : -2147483648 ≤ most ∧ most < 2147483648)  : mMt mX9_number [mr 144, mi 0, mi most] (σ, I) (fun v h => v = some (mi (if 0 ≤ (num c s).1 ∧ (num c s).1 ≤ most then 1 else 0)) ∧ ∃ K, h = (σ, K) ∧ Nrm K ∧ FrA I K ∧ K 144 27 = (num c s).2 ∧ ((num c s).1 ≠ -1 → K 144 28 = (num c s).1)) := by
  refine mMt.of pl_9 (Nat.le_of_ble_eq_true rfl) ?_
  show mRun mZt mX9_number 0 [some (mr 144), some (mi 0), some (mi most)] [] (σ, I) _
  refine mRun.go (q_aload_n dX9_number_0 rfl rfl) ?_
  refine mRun.go (q_callVi (r := 144) [] [] dX9_number_1 co_X9_124 ⟨Nat.le_of_ble_eq_true rfl, Nat.le_of_ble_eq_true rfl⟩ gw_875 gs_30 rfl hD.1 rfl rfl rfl (Nat.le_of_ble_eq_true rfl) (m_here (s := s) hI hD hT hat (by omega))) ?_
  refine mRun.go (q_callSi [mi (hrC c Ln s)] [] dX9_number_4 co_X9_132 ⟨Nat.le_of_ble_eq_true rfl, Nat.le_of_ble_eq_true rfl⟩ gw_893 rfl rfl (Nat.le_of_ble_eq_true rfl) (m_isFigure (hr_rng hT))) ?_
  refine r_if_ne (tgt := 12) dX9_number_7 (by decide) (by split <;> omega) (fun c7 => ?_) (fun c7 => ?_)
  · have h7 := ite01 c7
    refine mRun.go (q_aload_n dX9_number_12 rfl rfl) ?_
    refine mRun.go (q_aload_n dX9_number_13 rfl rfl) ?_
    refine mRun.go (q_callVi (r := 144) [] [mr 144] dX9_number_14 co_X9_124 ⟨Nat.le_of_ble_eq_true rfl, Nat.le_of_ble_eq_true rfl⟩ gw_875 gs_30 rfl hD.1 rfl rfl rfl (Nat.le_of_ble_eq_true rfl) (m_here (s := s) hI hD hT hat (by omega))) ?_
    refine mRun.go (q_bipush dX9_number_17 (by decide)) ?_
    refine mRun.go (q_isub dX9_number_19) ?_
    refine mRun.go (q_putI dX9_number_20 fo_X9_136 fp_9_28 hD.1 rfl) ?_
    refine mRun.go (q_aload_n dX9_number_23 rfl rfl) ?_
    refine mRun.go (q_dup dX9_number_24 rfl) ?_
    refine mRun.go (q_getE (x := s) dX9_number_25 fo_X9_121 hD.1 rfl (by rw [mup_ne2 (by decide)]; exact hat)) ?_
    refine mRun.go (q_iconst dX9_number_28) ?_
    refine mRun.go (q_iadd dX9_number_29) ?_
    refine mRun.go (q_putI dX9_number_30 fo_X9_121 fp_9_27 hD.1 rfl) ?_
    refine mRun.go (q_aload_n dX9_number_33 rfl rfl) ?_
    have hN2 : Nrm (mup (mup I 144 28 ((hrC c Ln s) - 48)) 144 27 (s + 1)) := (nrm_mup (nrm_mup hI (by omega)) (by omega))
    have hA2 : FrA I (mup (mup I 144 28 ((hrC c Ln s) - 48)) 144 27 (s + 1)) := fra_27 (fra_28 fra_rf)
    have hT2 := hT.fr (frm_fa hA2)
    refine mRun.go (q_callVi (r := 144) [] [] dX9_number_34 co_X9_124 ⟨Nat.le_of_ble_eq_true rfl, Nat.le_of_ble_eq_true rfl⟩ gw_875 gs_30 rfl hD.1 rfl rfl rfl (Nat.le_of_ble_eq_true rfl) (m_here (s := s + 1) hN2 hD hT2 mup_self (by omega))) ?_
    refine mRun.go (q_callSi [mi (hrC c Ln (s + 1))] [] dX9_number_37 co_X9_132 ⟨Nat.le_of_ble_eq_true rfl, Nat.le_of_ble_eq_true rfl⟩ gw_893 rfl rfl (Nat.le_of_ble_eq_true rfl) (m_isFigure (hr_rng hT))) ?_
    refine r_if_eq (tgt := 72) dX9_number_40 (by decide) (by split <;> omega) (fun c40 => ?_) (fun c40 => ?_)
    · have h40 := ite00 c40
      refine mRun.go (q_aload_n dX9_number_72 rfl rfl) ?_
      refine mRun.go (q_getE (x := (hrC c Ln s) - 48) dX9_number_73 fo_X9_136 hD.1 rfl (by rw [mup_ne2 (by decide), mup_self])) ?_
      refine mRun.go (q_i2l dX9_number_76 (by omega)) ?_
      refine mRun.go (q_iload_n dX9_number_77 rfl rfl) ?_
      refine mRun.go (q_i2l dX9_number_78 (by omega)) ?_
      refine mRun.go (q_iload_n dX9_number_79 rfl rfl) ?_
      refine mRun.go (q_i2l dX9_number_80 hm) ?_
      refine mRun.go (q_callSi [ml ((hrC c Ln s) - 48), ml 0, ml most] [] dX9_number_81 co_X9_114 ⟨Nat.le_of_ble_eq_true rfl, Nat.le_of_ble_eq_true rfl⟩ gw_855 rfl rfl (Nat.le_of_ble_eq_true rfl) (k_in (by omega) (by omega) (by omega))) ?_
      refine r_zret dX9_number_84 rfl (by split <;> simp) ?_
      have ho := hr_or hT s
      have ho1 := hr_or hT (s + 1)
      have hf := fig_or (c s)
      have hf1 := fig_or (c (s + 1))
      have hn : num c s = ((hrC c Ln s - 48), s + 1) := by unfold num; rw [if_neg (by omega), if_pos (by omega), show fig (c s) = (hrC c Ln s - 48) by omega]
      rw [hn]
      exact ⟨rfl, _, rfl, (nrm_mup (nrm_mup hI (by omega)) (by omega)), (fra_27 (fra_28 fra_rf)), mup_self, fun _ => (by rw [mup_ne2 (by decide), mup_self])⟩
    · have h40 := ite01 c40
      refine mRun.go (q_aload_n dX9_number_43 rfl rfl) ?_
      refine mRun.go (q_bipush dX9_number_44 (by decide)) ?_
      refine mRun.go (q_aload_n dX9_number_46 rfl rfl) ?_
      refine mRun.go (q_getE (x := (hrC c Ln s) - 48) dX9_number_47 fo_X9_136 hD.1 rfl (by rw [mup_ne2 (by decide), mup_self])) ?_
      refine mRun.go (q_imul dX9_number_50) ?_
      refine mRun.go (q_aload_n dX9_number_51 rfl rfl) ?_
      refine mRun.go (q_callVi (r := 144) [] [mi (10 * ((hrC c Ln s) - 48)), mr 144] dX9_number_52 co_X9_124 ⟨Nat.le_of_ble_eq_true rfl, Nat.le_of_ble_eq_true rfl⟩ gw_875 gs_30 rfl hD.1 rfl rfl rfl (Nat.le_of_ble_eq_true rfl) (m_here (s := s + 1) hN2 hD hT2 mup_self (by omega))) ?_
      refine mRun.go (q_iadd dX9_number_55) ?_
      refine mRun.go (q_bipush dX9_number_56 (by decide)) ?_
      refine mRun.go (q_isub dX9_number_58) ?_
      refine mRun.go (q_putI dX9_number_59 fo_X9_136 fp_9_28 hD.1 rfl) ?_
      refine mRun.go (q_aload_n dX9_number_62 rfl rfl) ?_
      refine mRun.go (q_dup dX9_number_63 rfl) ?_
      refine mRun.go (q_getE (x := s + 1) dX9_number_64 fo_X9_121 hD.1 rfl (by rw [mup_ne2 (by decide), mup_self])) ?_
      refine mRun.go (q_iconst dX9_number_67) ?_
      refine mRun.go (q_iadd dX9_number_68) ?_
      refine mRun.go (q_putI dX9_number_69 fo_X9_121 fp_9_27 hD.1 rfl) ?_
      refine mRun.go (q_aload_n dX9_number_72 rfl rfl) ?_
      refine mRun.go (q_getE (x := ((10 * ((hrC c Ln s) - 48)) + (hrC c Ln (s + 1))) - 48) dX9_number_73 fo_X9_136 hD.1 rfl (by rw [mup_ne2 (by decide), mup_self])) ?_
      refine mRun.go (q_i2l dX9_number_76 (by omega)) ?_
      refine mRun.go (q_iload_n dX9_number_77 rfl rfl) ?_
      refine mRun.go (q_i2l dX9_number_78 (by omega)) ?_
      refine mRun.go (q_iload_n dX9_number_79 rfl rfl) ?_
      refine mRun.go (q_i2l dX9_number_80 hm) ?_
      refine mRun.go (q_callSi [ml (((10 * ((hrC c Ln s) - 48)) + (hrC c Ln (s + 1))) - 48), ml 0, ml most] [] dX9_number_81 co_X9_114 ⟨Nat.le_of_ble_eq_true rfl, Nat.le_of_ble_eq_true rfl⟩ gw_855 rfl rfl (Nat.le_of_ble_eq_true rfl) (k_in (by omega) (by omega) (by omega))) ?_
      refine r_zret dX9_number_84 rfl (by split <;> simp) ?_
      have ho := hr_or hT s
      have ho1 := hr_or hT (s + 1)
      have hf := fig_or (c s)
      have hf1 := fig_or (c (s + 1))
      have hn : num c s = (((10 * (hrC c Ln s - 48)) + (hrC c Ln (s + 1))) - 48, (s + 1) + 1) := by unfold num; rw [if_neg (by omega), if_neg (by omega), show fig (c s) * 10 + fig (c (s + 1)) = ((10 * (hrC c Ln s - 48)) + (hrC c Ln (s + 1))) - 48 by omega, show s + 2 = (s + 1) + 1 by omega]
      rw [hn]
      exact ⟨rfl, _, rfl, (nrm_mup (nrm_mup (nrm_mup (nrm_mup hI (by omega)) (by omega)) (by omega)) (by omega)), (fra_27 (fra_28 (fra_27 (fra_28 fra_rf)))), mup_self, fun _ => (by rw [mup_ne2 (by decide), mup_self])⟩
  · have h7 := ite00 (Classical.not_not.mp c7)
    refine mRun.go (q_iconst dX9_number_10) ?_
    refine r_zret dX9_number_11 rfl (by simp) ?_
    have ho := hr_or hT s
    have ho1 := hr_or hT (s + 1)
    have hf := fig_or (c s)
    have hf1 := fig_or (c (s + 1))
    have hn : num c s = (-1, s) := by unfold num; rw [if_pos (by omega)]
    rw [hn]
    refine ⟨?_, I, rfl, hI, fra_rf, hat, fun q => absurd rfl q⟩
    rw [if_neg (show ¬ ((0 : Int) ≤ -1 ∧ (-1 : Int) ≤ most) by omega)]

/-- nothing told otherwise, up to k -/
def fil4 (K : mI) (j : Nat) : mI := fun r k => if r = 155 ∧ k < j then -4 else K r k
theorem fil4_0 {K : mI} : fil4 K 0 = K := by
  funext r k
  unfold fil4
  rw [if_neg (by omega)]
theorem fil4_s {K : mI} {j : Nat} : mup (fil4 K j) 155 j (-4) = fil4 K (j + 1) := by
  funext r k
  unfold mup fil4
  by_cases h : r = 155 ∧ k = j
  · rw [if_pos h, if_pos (by omega)]
  · rw [if_neg h]
    by_cases h2 : r = 155 ∧ k < j
    · rw [if_pos h2, if_pos (by omega)]
    · rw [if_neg h2, if_neg (by omega)]
theorem fil4_nf {K : mI} {j r : Nat} (h : r ≠ 155) : fil4 K j r = K r := by
  funext k
  unfold fil4
  rw [if_neg (fun q => h q.1)]
theorem nrm_fil4 {K : mI} {j : Nat} (h : Nrm K) : Nrm (fil4 K j) := by
  intro r k
  unfold fil4
  split
  · exact ⟨by decide, by decide⟩
  · exact h r k

set_option maxRecDepth 100000 in
theorem m_forgets_loop {σ : List mC} {K : mI} (hK : Nrm K) (hD : IsMd σ) : ∀ (n k : Nat), 144 - k < n → k ≤ 144 → mRun mZt mX9_forgetsRead 27 [some (mr 144), some (mi (k : Int))] [] (σ, fil4 K k) (fun v h => v = none ∧ h = (σ, fil4 K 144)) := by
  intro n
  induction n with
  | zero => intro k h; omega
  | succ n ih =>
    intro k hn hk
    refine mRun.go (q_iload_n dX9_forgetsRead_27 rfl rfl) ?_
    refine mRun.go (q_sipush dX9_forgetsRead_28 (by decide)) ?_
    refine r_icmp_ge (tgt := 48) dX9_forgetsRead_31 (by decide) (by omega) (by omega) (fun c31 => ?_) (fun c31 => ?_)
    · refine r_ret dX9_forgetsRead_48 rfl ?_
      rw [show k = 144 by omega]
      exact ⟨rfl, rfl⟩
    · refine mRun.go (q_aload_n dX9_forgetsRead_34 rfl rfl) ?_
      refine mRun.go (q_getR dX9_forgetsRead_35 fo_X9_40 hD.1 rfl) ?_
      refine mRun.go (q_iload_n dX9_forgetsRead_38 rfl rfl) ?_
      refine mRun.go (q_bipush dX9_forgetsRead_39 (by decide)) ?_
      refine mRun.go (q_iast dX9_forgetsRead_41 hD.2.2.2.2.2.2.2.2.2.2.2.1 (by omega) (by omega)) ?_
      refine mRun.go (q_iinc (ls' := [some (mr 144), some (mi ((k : Int) + 1))]) dX9_forgetsRead_42 rfl (Nat.le_of_ble_eq_true rfl) rfl) ?_
      refine mRun.go (q_goto (tgt := 27) dX9_forgetsRead_45 (by decide)) ?_
      have e1 : ((k : Int) + 1) = ((k + 1 : Nat) : Int) := by omega
      rw [e1, show ((k : Int)).toNat = k by omega, fil4_s]
      exact ih (k + 1) (by omega) (by omega)

set_option maxRecDepth 100000 in
theorem m_forgetsRead0 {σ : List mC} {I : mI} (hI : Nrm I) (hD : IsMd σ)  : mCt mX9_forgetsRead [mr 144] (σ, I) none (σ, fil4 (mup (mup (mup (mup (mup I 144 16 0) 144 17 0) 144 19 0) 144 22 0) 144 26 0) 144) := by
  refine mCt.eq ?_
  refine mMt.of pl_9 (Nat.le_of_ble_eq_true rfl) ?_
  show mRun mZt mX9_forgetsRead 0 [some (mr 144), none] [] (σ, I) _
  refine mRun.go (q_aload_n dX9_forgetsRead_0 rfl rfl) ?_
  refine mRun.go (q_iconst dX9_forgetsRead_1) ?_
  refine mRun.go (q_putI dX9_forgetsRead_2 fo_X9_76 fp_9_16 hD.1 rfl) ?_
  refine mRun.go (q_aload_n dX9_forgetsRead_5 rfl rfl) ?_
  refine mRun.go (q_iconst dX9_forgetsRead_6) ?_
  refine mRun.go (q_putI dX9_forgetsRead_7 fo_X9_79 fp_9_17 hD.1 rfl) ?_
  refine mRun.go (q_aload_n dX9_forgetsRead_10 rfl rfl) ?_
  refine mRun.go (q_iconst dX9_forgetsRead_11) ?_
  refine mRun.go (q_putI dX9_forgetsRead_12 fo_X9_62 fp_9_19 hD.1 rfl) ?_
  refine mRun.go (q_aload_n dX9_forgetsRead_15 rfl rfl) ?_
  refine mRun.go (q_iconst dX9_forgetsRead_16) ?_
  refine mRun.go (q_putI dX9_forgetsRead_17 fo_X9_82 fp_9_22 hD.1 rfl) ?_
  refine mRun.go (q_aload_n dX9_forgetsRead_20 rfl rfl) ?_
  refine mRun.go (q_iconst dX9_forgetsRead_21) ?_
  refine mRun.go (q_putI dX9_forgetsRead_22 fo_X9_70 fp_9_26 hD.1 rfl) ?_
  refine mRun.go (q_iconst dX9_forgetsRead_25) ?_
  refine mRun.go (q_istore_n (ls' := [some (mr 144), some (mi 0)]) dX9_forgetsRead_26 rfl (Nat.le_of_ble_eq_true rfl) rfl) ?_
  have hN5 : Nrm (mup (mup (mup (mup (mup I 144 16 0) 144 17 0) 144 19 0) 144 22 0) 144 26 0) := (nrm_mup (nrm_mup (nrm_mup (nrm_mup (nrm_mup hI (by omega)) (by omega)) (by omega)) (by omega)) (by omega))
  have h := m_forgets_loop hN5 hD 145 0 (by decide) (by decide)
  rw [fil4_0] at h
  exact h

theorem fgt_rd {I : mI} : RdM (fil4 (mup (mup (mup (mup (mup I 144 16 0) 144 17 0) 144 19 0) 144 22 0) 144 26 0) 144) rd0 := by
  have h144 : ∀ k, fil4 (mup (mup (mup (mup (mup I 144 16 0) 144 17 0) 144 19 0) 144 22 0) 144 26 0) 144 144 k = (mup (mup (mup (mup (mup I 144 16 0) 144 17 0) 144 19 0) 144 22 0) 144 26 0) 144 k := fun k => by rw [fil4_nf (by decide)]
  refine ⟨by rw [h144]; simp [mup, rd0], by rw [h144]; simp [mup, rd0], fun j hj => ?_, by rw [h144]; simp [mup, rd0], fun d hd => ?_, fun i hi => ?_, by rw [h144]; simp [mup, rd0], fun t ht => ?_, by rw [h144]; simp [mup, rd0]⟩
  · have hj : (j : Int) < 0 * 0 := hj
    omega
  · have hd : (d : Int) < 0 := hd
    omega
  · unfold fil4
    rw [if_pos ⟨rfl, hi⟩]
    rfl
  · have ht : (t : Int) < 0 := ht
    omega
theorem fgt_fr {I : mI} : (∀ r, r ≠ 144 → r ≠ 155 → fil4 (mup (mup (mup (mup (mup I 144 16 0) 144 17 0) 144 19 0) 144 22 0) 144 26 0) 144 r = I r) ∧ ∀ k, k ≠ 16 → k ≠ 17 → k ≠ 19 → k ≠ 22 → k ≠ 26 → fil4 (mup (mup (mup (mup (mup I 144 16 0) 144 17 0) 144 19 0) 144 22 0) 144 26 0) 144 144 k = I 144 k := by
  refine ⟨fun r a b => ?_, fun k a b c d e => ?_⟩
  · rw [fil4_nf b, mup_nf a, mup_nf a, mup_nf a, mup_nf a, mup_nf a]
  · rw [fil4_nf (by decide), mup_ne2 e, mup_ne2 d, mup_ne2 c, mup_ne2 b, mup_ne2 a]
theorem m_forgetsRead {σ : List mC} {I : mI} (hI : Nrm I) (hD : IsMd σ) : mMt mX9_forgetsRead [mr 144] (σ, I) (fun v h => v = none ∧ ∃ K, h = (σ, K) ∧ Nrm K ∧ RdM K rd0 ∧ (∀ r, r ≠ 144 → r ≠ 155 → K r = I r) ∧ ∀ k, k ≠ 16 → k ≠ 17 → k ≠ 19 → k ≠ 22 → k ≠ 26 → K 144 k = I 144 k) :=
  ⟨none, _, m_forgetsRead0 hI hD, rfl, _, rfl, nrm_fil4 (nrm_mup (nrm_mup (nrm_mup (nrm_mup (nrm_mup hI (by decide)) (by decide)) (by decide)) (by decide)) (by decide)), fgt_rd, fgt_fr⟩

/-- a row of figures as one number -/
def dcm (f : Nat → Int) : Nat → Int
  | 0 => 0
  | n + 1 => 10 * dcm f n + f n
theorem dcm_rng {f : Nat → Int} : ∀ n : Nat, (∀ k, k < n → 0 ≤ f k ∧ f k ≤ 9) → 0 ≤ dcm f n ∧ dcm f n < 10 ^ n := by
  intro n
  induction n with
  | zero => intro _; exact ⟨Int.le_refl 0, (by decide : (0 : Int) < 10 ^ 0)⟩
  | succ n ih =>
    intro h
    have a := ih (fun k hk => h k (by omega))
    have b := h n (by omega)
    have e : (10 : Int) ^ (n + 1) = 10 ^ n * 10 := Int.pow_succ 10 n
    show 0 ≤ 10 * dcm f n + f n ∧ 10 * dcm f n + f n < 10 ^ (n + 1)
    rw [e]
    omega
theorem dcm_7 {f : Nat → Int} {n : Nat} (hn : n ≤ 7) (h : ∀ k, k < n → 0 ≤ f k ∧ f k ≤ 9) : 0 ≤ dcm f n ∧ dcm f n ≤ 10000000 := by
  have a := dcm_rng n h
  have b := p10 (show n ≤ 8 by omega)
  have c : (10 : Int) ^ n ≤ 10000000 := by
    rcases (show n = 0 ∨ n = 1 ∨ n = 2 ∨ n = 3 ∨ n = 4 ∨ n = 5 ∨ n = 6 ∨ n = 7 by omega) with q | q | q | q | q | q | q | q <;> subst q <;> decide
  omega
theorem dcm_md {f : Nat → Int} {j : Nat} (hj : 1 ≤ j) (h : 0 ≤ f (j - 1) ∧ f (j - 1) ≤ 9) : dcm f j % 10 = f (j - 1) ∧ dcm f j / 10 = dcm f (j - 1) := by
  obtain ⟨i, rfl⟩ : ∃ i, j = i + 1 := ⟨j - 1, by omega⟩
  rw [Nat.add_sub_cancel] at h ⊢
  show (10 * dcm f i + f i) % 10 = f i ∧ (10 * dcm f i + f i) / 10 = dcm f i
  omega
def rwp (K : mI) (o : Nat) (f : Nat → Int) (j m : Nat) : mI := fun r q => if r = 153 ∧ o + j ≤ q ∧ q < o + m then f (q - o) else K r q
theorem rwp_0 {K : mI} {o m : Nat} {f : Nat → Int} : rwp K o f m m = K := by
  funext r q
  unfold rwp
  rw [if_neg (by omega)]
theorem rwp_s {K : mI} {o j m : Nat} {f : Nat → Int} (hj : 1 ≤ j) (hm : j ≤ m) : mup (rwp K o f j m) 153 (o + (j - 1)) (f (j - 1)) = rwp K o f (j - 1) m := by
  funext r q
  unfold mup rwp
  by_cases h : r = 153 ∧ q = o + (j - 1)
  · rw [if_pos h, if_pos (by omega), h.2, Nat.add_sub_cancel_left]
  · rw [if_neg h]
    by_cases h2 : r = 153 ∧ o + j ≤ q ∧ q < o + m
    · rw [if_pos h2, if_pos (by omega)]
    · rw [if_neg h2, if_neg (by omega)]
theorem rwp_nf {K : mI} {o j m r : Nat} {f : Nat → Int} (h : r ≠ 153) : rwp K o f j m r = K r := by
  funext k
  unfold rwp
  rw [if_neg (fun q => h q.1)]
theorem nrm_rwp {K : mI} {o j m : Nat} {f : Nat → Int} (h : Nrm K) (hf : ∀ k, k < m → 0 ≤ f k ∧ f k ≤ 9) : Nrm (rwp K o f j m) := by
  intro r k
  unfold rwp
  split
  · next q => have := hf (k - o) (by omega); omega
  · exact h r k

set_option maxRecDepth 100000 in
theorem m_laysRow_loop {σ : List mC} {I : mI} (hI : Nrm I) (hD : IsMd σ) {f : Nat → Int} {m o : Nat} {rw : Int} (hm : m ≤ 6) (hf : ∀ k, k < m → 0 ≤ f k ∧ f k ≤ 9) (hrw : I 144 16 = rw) (hr5 : 0 ≤ rw ∧ rw ≤ 1000) (ho : (m : Int) * rw = (o : Int)) (ho2 : o + m ≤ 36) {figs : Int} : ∀ (n j : Nat), j < n → j ≤ m → mRun mZt mX9_laysRow 7 [some (mr 144), some (mi figs), some (mi (m : Int)), some (mi (dcm f j)), some (mi ((j : Int) - 1))] [] (σ, rwp I o f j m) (fun v h => v = none ∧ h = (σ, mup (mup (rwp I o f 0 m) 144 17 (m : Int)) 144 16 (rw + 1))) := by
  intro n
  induction n with
  | zero => intro j h; omega
  | succ n ih =>
    intro j hn hj
    have hdr := dcm_7 (f := f) (n := j) (by omega) (fun k hk => hf k (by omega))
    refine mRun.go (q_iload dX9_laysRow_7 rfl) ?_
    refine r_if_lt (tgt := 41) dX9_laysRow_9 (by decide) (by omega) (fun c9 => ?_) (fun c9 => ?_)
    · refine mRun.go (q_aload_n dX9_laysRow_41 rfl rfl) ?_
      refine mRun.go (q_iload_n dX9_laysRow_42 rfl rfl) ?_
      refine mRun.go (q_putI dX9_laysRow_43 fo_X9_79 fp_9_17 hD.1 rfl) ?_
      refine mRun.go (q_aload_n dX9_laysRow_46 rfl rfl) ?_
      refine mRun.go (q_dup dX9_laysRow_47 rfl) ?_
      refine mRun.go (q_getE (x := rw) dX9_laysRow_48 fo_X9_76 hD.1 rfl (by rw [mup_ne2 (by decide), rwp_nf (by decide)]; exact hrw)) ?_
      refine mRun.go (q_iconst dX9_laysRow_51) ?_
      refine mRun.go (q_iadd dX9_laysRow_52) ?_
      refine mRun.go (q_putI dX9_laysRow_53 fo_X9_76 fp_9_16 hD.1 rfl) ?_
      refine r_ret dX9_laysRow_56 rfl ?_
      rw [show j = 0 by omega]
      exact ⟨rfl, rfl⟩
    · have hdm := dcm_md (f := f) (j := j) (by omega) (hf (j - 1) (by omega))
      have hfj := hf (j - 1) (by omega)
      refine mRun.go (q_aload_n dX9_laysRow_12 rfl rfl) ?_
      refine mRun.go (q_getR dX9_laysRow_13 fo_X9_34 hD.1 rfl) ?_
      refine mRun.go (q_iload_n dX9_laysRow_16 rfl rfl) ?_
      refine mRun.go (q_aload_n dX9_laysRow_17 rfl rfl) ?_
      refine mRun.go (q_getE (x := rw) dX9_laysRow_18 fo_X9_76 hD.1 rfl (by rw [rwp_nf (by decide)]; exact hrw)) ?_
      refine mRun.go (q_imul dX9_laysRow_21) ?_
      refine mRun.go (q_iload dX9_laysRow_22 rfl) ?_
      refine mRun.go (q_iadd dX9_laysRow_24) ?_
      refine mRun.go (q_iload_n dX9_laysRow_25 rfl rfl) ?_
      refine mRun.go (q_bipush dX9_laysRow_26 (by decide)) ?_
      refine mRun.go (q_irem dX9_laysRow_28 (by omega) (by omega)) ?_
      refine mRun.go (q_iast dX9_laysRow_29 hD.2.2.2.2.2.2.2.2.2.1 (by omega) (by omega)) ?_
      refine mRun.go (q_iload_n dX9_laysRow_30 rfl rfl) ?_
      refine mRun.go (q_bipush dX9_laysRow_31 (by decide)) ?_
      refine mRun.go (q_idiv dX9_laysRow_33 (by omega) (by omega)) ?_
      refine mRun.go (q_istore_n (ls' := [some (mr 144), some (mi figs), some (mi (m : Int)), some (mi ((dcm f j) / 10)), some (mi ((j : Int) - 1))]) dX9_laysRow_34 rfl (Nat.le_of_ble_eq_true rfl) rfl) ?_
      refine mRun.go (q_iinc (ls' := [some (mr 144), some (mi figs), some (mi (m : Int)), some (mi ((dcm f j) / 10)), some (mi (((j : Int) - 1) + (-1)))]) dX9_laysRow_35 rfl (Nat.le_of_ble_eq_true rfl) rfl) ?_
      refine mRun.go (q_goto (tgt := 7) dX9_laysRow_38 (by decide)) ?_
      rw [hdm.1, hdm.2, show ((m : Int) * rw + ((j : Int) - 1)).toNat = o + (j - 1) by omega, rwp_s (by omega) hj, show (j : Int) - 1 + (-1) = ((j - 1 : Nat) : Int) - 1 by omega]
      exact ih (j - 1) (by omega) (by omega)

set_option maxRecDepth 100000 in
theorem m_laysRow {σ : List mC} {I : mI} (hI : Nrm I) (hD : IsMd σ) {f : Nat → Int} {m o : Nat} {rw : Int} (hm : m ≤ 6) (hf : ∀ k, k < m → 0 ≤ f k ∧ f k ≤ 9) (hrw : I 144 16 = rw) (hr5 : 0 ≤ rw ∧ rw ≤ 1000) (ho : (m : Int) * rw = (o : Int)) (ho2 : o + m ≤ 36)  : mCt mX9_laysRow [mr 144, mi (dcm f m), mi (m : Int)] (σ, I) none (σ, mup (mup (rwp I o f 0 m) 144 17 (m : Int)) 144 16 (rw + 1)) := by
  refine mCt.eq ?_
  refine mMt.of pl_9 (Nat.le_of_ble_eq_true rfl) ?_
  show mRun mZt mX9_laysRow 0 [some (mr 144), some (mi (dcm f m)), some (mi (m : Int)), none, none] [] (σ, I) _
  refine mRun.go (q_iload_n dX9_laysRow_0 rfl rfl) ?_
  refine mRun.go (q_istore_n (ls' := [some (mr 144), some (mi (dcm f m)), some (mi (m : Int)), some (mi (dcm f m)), none]) dX9_laysRow_1 rfl (Nat.le_of_ble_eq_true rfl) rfl) ?_
  refine mRun.go (q_iload_n dX9_laysRow_2 rfl rfl) ?_
  refine mRun.go (q_iconst dX9_laysRow_3) ?_
  refine mRun.go (q_isub dX9_laysRow_4) ?_
  refine mRun.go (q_istore (ls' := [some (mr 144), some (mi (dcm f m)), some (mi (m : Int)), some (mi (dcm f m)), some (mi ((m : Int) - 1))]) dX9_laysRow_5 (Nat.le_of_ble_eq_true rfl) rfl) ?_
  have h := m_laysRow_loop hI hD hm hf hrw hr5 ho ho2 (figs := dcm f m) (m + 1) m (by omega) (Nat.le_refl m)
  rw [rwp_0] at h
  exact h

set_option maxRecDepth 100000 in
theorem m_laysTraveller {σ : List mC} {I : mI} (hI : Nrm I) (hD : IsMd σ) {n x y d : Int} (hn : I 144 22 = n) (hn3 : 0 ≤ n ∧ n < 4) (hx : -2147483648 ≤ x ∧ x < 2147483648) (hy : -2147483648 ≤ y ∧ y < 2147483648) (hd : -2147483648 ≤ d ∧ d < 2147483648)  : mCt mX9_laysTraveller [mr 144, mi x, mi y, mi d] (σ, I) none (σ, mup (mup (mup (mup I 156 n.toNat x) 157 n.toNat y) 158 n.toNat d) 144 22 (n + 1)) := by
  refine mCt.eq ?_
  refine mMt.of pl_9 (Nat.le_of_ble_eq_true rfl) ?_
  show mRun mZt mX9_laysTraveller 0 [some (mr 144), some (mi x), some (mi y), some (mi d)] [] (σ, I) _
  refine mRun.go (q_aload_n dX9_laysTraveller_0 rfl rfl) ?_
  refine mRun.go (q_getR dX9_laysTraveller_1 fo_X9_43 hD.1 rfl) ?_
  refine mRun.go (q_aload_n dX9_laysTraveller_4 rfl rfl) ?_
  refine mRun.go (q_getE (x := n) dX9_laysTraveller_5 fo_X9_82 hD.1 rfl hn) ?_
  refine mRun.go (q_iload_n dX9_laysTraveller_8 rfl rfl) ?_
  refine mRun.go (q_iast dX9_laysTraveller_9 hD.2.2.2.2.2.2.2.2.2.2.2.2.1 (by omega) (by omega)) ?_
  refine mRun.go (q_aload_n dX9_laysTraveller_10 rfl rfl) ?_
  refine mRun.go (q_getR dX9_laysTraveller_11 fo_X9_46 hD.1 rfl) ?_
  refine mRun.go (q_aload_n dX9_laysTraveller_14 rfl rfl) ?_
  refine mRun.go (q_getE (x := n) dX9_laysTraveller_15 fo_X9_82 hD.1 rfl (by rw [mup_ne (by decide)]; exact hn)) ?_
  refine mRun.go (q_iload_n dX9_laysTraveller_18 rfl rfl) ?_
  refine mRun.go (q_iast dX9_laysTraveller_19 hD.2.2.2.2.2.2.2.2.2.2.2.2.2.1 (by omega) (by omega)) ?_
  refine mRun.go (q_aload_n dX9_laysTraveller_20 rfl rfl) ?_
  refine mRun.go (q_getR dX9_laysTraveller_21 fo_X9_49 hD.1 rfl) ?_
  refine mRun.go (q_aload_n dX9_laysTraveller_24 rfl rfl) ?_
  refine mRun.go (q_getE (x := n) dX9_laysTraveller_25 fo_X9_82 hD.1 rfl (by rw [mup_ne (by decide), mup_ne (by decide)]; exact hn)) ?_
  refine mRun.go (q_iload_n dX9_laysTraveller_28 rfl rfl) ?_
  refine mRun.go (q_iast dX9_laysTraveller_29 hD.2.2.2.2.2.2.2.2.2.2.2.2.2.2.1 (by omega) (by omega)) ?_
  refine mRun.go (q_aload_n dX9_laysTraveller_30 rfl rfl) ?_
  refine mRun.go (q_dup dX9_laysTraveller_31 rfl) ?_
  refine mRun.go (q_getE (x := n) dX9_laysTraveller_32 fo_X9_82 hD.1 rfl (by rw [mup_ne (by decide), mup_ne (by decide), mup_ne (by decide)]; exact hn)) ?_
  refine mRun.go (q_iconst dX9_laysTraveller_35) ?_
  refine mRun.go (q_iadd dX9_laysTraveller_36) ?_
  refine mRun.go (q_putI dX9_laysTraveller_37 fo_X9_82 fp_9_22 hD.1 rfl) ?_
  refine r_ret dX9_laysTraveller_40 rfl ?_
  exact ⟨rfl, rfl⟩
