/-! ===== the reference reads: items ===== -/
def IR (c : Int → Int) (p : Int × Rd) (b : Int) (K : mI) : Prop := (b = 0 ∧ p.1 = -1) ∨ (b = 1 ∧ (c (K 144 27) = 59 → p.1 = K 144 27 + 1 ∧ RdM K p.2) ∧ (c (K 144 27) ≠ 59 → p.1 = -1))
theorem ir_no {c : Int → Int} {p : Int × Rd} {K : mI} (h : p.1 = -1) : IR c p 0 K := Or.inl ⟨rfl, h⟩
theorem ir_yes {c : Int → Int} {p : Int × Rd} {K : mI} {e : Int} (h27 : K 144 27 = e) (h1 : c e = 59 → p.1 = e + 1 ∧ RdM K p.2) (h2 : c e ≠ 59 → p.1 = -1) : IR c p 1 K := Or.inr ⟨rfl, fun q => by rw [h27] at q ⊢; exact h1 q, fun q => by rw [h27] at q; exact h2 q⟩
theorem nxt_or (c : Int → Int) (s sep : Int) : ((nxt c s sep).1 = -1 ∧ ((num c s).1 = -1 ∨ ¬ c (num c s).2 = sep)) ∨ ((nxt c s sep).1 = (num c s).1 ∧ (nxt c s sep).2 = (num c s).2 + 1 ∧ ¬ (num c s).1 = -1 ∧ c (num c s).2 = sep) := by
  unfold nxt
  by_cases h : (num c s).1 = -1 ∨ c (num c s).2 ≠ sep
  · rw [if_pos h]; exact Or.inl ⟨rfl, h⟩
  · rw [if_neg h]; exact Or.inr ⟨rfl, rfl, fun q => h (Or.inl q), Classical.not_not.mp fun q => h (Or.inr q)⟩
theorem rc67 (c : Int → Int) (s : Int) : (rc c s 7 ≤ 6 → rc c s 6 = rc c s 7) ∧ (rc c s 7 = 7 → rc c s 6 = 6 ∧ 48 ≤ c (s + (rc c s 6 : Int)) ∧ c (s + (rc c s 6 : Int)) ≤ 51) := by
  refine ⟨fun h => ?_, fun h => ?_⟩
  · exact (rc_uniq h (fun j hj => rc_dig c 7 s j hj) (Or.inr (rc_stop c 7 s (by omega)))).symm
  · have e : rc c s 6 = 6 := (rc_uniq (Nat.le_refl 6) (fun j hj => rc_dig c 7 s j (by omega)) (Or.inl rfl)).symm
    rw [e]
    exact ⟨rfl, rc_dig c 7 s 6 (by omega)⟩
theorem m_takes2 {σ : List mC} {I : mI} {c : Int → Int} {Ln s : Int} (hI : Nrm I) (hD : IsMd σ) (hT : TM I c Ln) (hat : I 144 27 = s) (hs : 0 ≤ s ∧ s ≤ 500) {a : Int} (ha : a = 44 ∨ a = 59) : mMt mX9_takes [mr 144, mi a] (σ, I) (fun v h => v = some (mi (if c s = a then 1 else 0)) ∧ ∃ K, h = (σ, K) ∧ Nrm K ∧ FrA I K ∧ K 144 27 = (if c s = a then s + 1 else s) ∧ K 144 28 = I 144 28) :=
  ⟨_, _, m_takes hI hD hT hat hs ha, rfl, _, rfl, nrm_mup hI (by split <;> omega), fra_27 fra_rf, mup_self, mup_ne2 (by decide)⟩
theorem rd_row {K : mI} {R : Rd} {c : Int → Int} {s : Int} {m o : Nat} (h : RdM K R) (ho : (m : Int) * rRows R = (o : Int)) (hpl : rPl R = (o : Int)) : RdM (mup (mup (rwp K o (fun k : Nat => c (s + (k : Int)) - 48) 0 m) 144 17 (m : Int)) 144 16 (rRows R + 1)) (rRows R + 1, (m : Int), (fun j => if rPl R ≤ j ∧ j < rPl R + (m : Int) then c (s + (j - rPl R)) - 48 else rGr R j), rDr R, rKd R, rOd R, rNt R, rTv R, rWet R) := by
  obtain ⟨h1, h2, h3, h4, h5, h6, h7, h8, h9⟩ := h
  refine ⟨mup_self, by rw [mup_ne2 (by decide), mup_self], fun j hj => ?_, by rw [mup_ne2 (by decide), mup_ne2 (by decide), rwp_nf (by decide)]; exact h4, fun d hd => by rw [mup_nf (by decide), mup_nf (by decide), rwp_nf (by decide)]; exact h5 d hd, fun d hd => by rw [mup_nf (by decide), mup_nf (by decide), rwp_nf (by decide)]; exact h6 d hd, by rw [mup_ne2 (by decide), mup_ne2 (by decide), rwp_nf (by decide)]; exact h7, fun d hd => ?_, by rw [mup_ne2 (by decide), mup_ne2 (by decide), rwp_nf (by decide)]; exact h9⟩
  · have hj : (j : Int) < (rRows R + 1) * (m : Int) := hj
    rw [Int.add_mul, Int.one_mul, Int.mul_comm (rRows R), ho] at hj
    show _ = if rPl R ≤ (j : Int) ∧ (j : Int) < rPl R + (m : Int) then c (s + ((j : Int) - rPl R)) - 48 else rGr R j
    rw [mup_nf (by decide), mup_nf (by decide)]
    unfold rwp
    by_cases q : o ≤ j
    · rw [if_pos ⟨rfl, by omega, by omega⟩, if_pos (by omega)]
      show c (s + ((j - o : Nat) : Int)) - 48 = _
      rw [show ((j - o : Nat) : Int) = (j : Int) - rPl R by omega]
    · rw [if_neg (by omega), if_neg (by omega)]
      exact h3 j (by omega)
  · rw [mup_nf (by decide), mup_nf (by decide), rwp_nf (by decide), mup_nf (by decide), mup_nf (by decide), rwp_nf (by decide), mup_nf (by decide), mup_nf (by decide), rwp_nf (by decide)]
    exact h8 d hd
theorem rd_drum {K : mI} {R : Rd} {v : Int} (h : RdM K R) (hd0 : 0 ≤ rDr R) : RdM (mup (mup K 154 (rDr R).toNat v) 144 19 (rDr R + 1)) (rRows R, rWid R, rGr R, rDr R + 1, iup (rKd R) (rDr R) v, rOd R, rNt R, rTv R, rWet R) := by
  obtain ⟨h1, h2, h3, h4, h5, h6, h7, h8, h9⟩ := h
  refine ⟨by rw [mup_ne2 (by decide), mup_ne (by decide)]; exact h1, by rw [mup_ne2 (by decide), mup_ne (by decide)]; exact h2, fun j hj => by rw [mup_ne (by decide), mup_ne (by decide)]; exact h3 j hj, mup_self, fun d hd => ?_, fun d hd => by rw [mup_ne (by decide), mup_ne (by decide)]; exact h6 d hd, by rw [mup_ne2 (by decide), mup_ne (by decide)]; exact h7, fun d hd => by rw [mup_ne (by decide), mup_ne (by decide), mup_ne (by decide), mup_ne (by decide), mup_ne (by decide), mup_ne (by decide)]; exact h8 d hd, by rw [mup_ne2 (by decide), mup_ne (by decide)]; exact h9⟩
  have hd : (d : Int) < rDr R + 1 := hd
  show _ = iup (rKd R) (rDr R) v (d : Int)
  unfold iup
  rw [mup_ne (by decide)]
  by_cases q : (d : Int) = rDr R
  · rw [if_pos q, show (rDr R).toNat = d by omega, mup_self]
  · rw [if_neg q, mup_ne2 (by omega)]
    exact h5 d (by omega)
theorem rd_other {K : mI} {R : Rd} {d x v : Int} (h : RdM K R) (hd : 0 ≤ d) (hx : 0 ≤ x) (hv : 0 ≤ v) : RdM (mup K 155 (36 * d + x).toNat v) (rRows R, rWid R, rGr R, rDr R, rKd R, iup (rOd R) (d * 36 + x) v, rNt R, rTv R, rWet R) := by
  obtain ⟨h1, h2, h3, h4, h5, h6, h7, h8, h9⟩ := h
  refine ⟨by rw [mup_ne (by decide)]; exact h1, by rw [mup_ne (by decide)]; exact h2, fun j hj => by rw [mup_ne (by decide)]; exact h3 j hj, by rw [mup_ne (by decide)]; exact h4, fun d hd => by rw [mup_ne (by decide)]; exact h5 d hd, fun i hi => ?_, by rw [mup_ne (by decide)]; exact h7, fun d hd => by rw [mup_ne (by decide), mup_ne (by decide), mup_ne (by decide)]; exact h8 d hd, by rw [mup_ne (by decide)]; exact h9⟩
  show _ = if iup (rOd R) (d * 36 + x) v (i : Int) = -1 then -4 else iup (rOd R) (d * 36 + x) v (i : Int)
  unfold iup
  by_cases q : (i : Int) = d * 36 + x
  · rw [if_pos q, if_neg (by omega), show (36 * d + x).toNat = i by omega, mup_self]
  · rw [if_neg q, mup_ne2 (by omega)]
    exact h6 i hi
theorem rd_trav {K : mI} {R : Rd} {x y d : Int} (h : RdM K R) (hn : 0 ≤ rNt R) : RdM (mup (mup (mup (mup K 156 (rNt R).toNat x) 157 (rNt R).toNat y) 158 (rNt R).toNat d) 144 22 (rNt R + 1)) (rRows R, rWid R, rGr R, rDr R, rKd R, rOd R, rNt R + 1, iup (rTv R) (rNt R) (x, y, d), rWet R) := by
  obtain ⟨h1, h2, h3, h4, h5, h6, h7, h8, h9⟩ := h
  refine ⟨by rw [mup_ne2 (by decide), mup_ne (by decide), mup_ne (by decide), mup_ne (by decide)]; exact h1, by rw [mup_ne2 (by decide), mup_ne (by decide), mup_ne (by decide), mup_ne (by decide)]; exact h2, fun j hj => by rw [mup_ne (by decide), mup_ne (by decide), mup_ne (by decide), mup_ne (by decide)]; exact h3 j hj, by rw [mup_ne2 (by decide), mup_ne (by decide), mup_ne (by decide), mup_ne (by decide)]; exact h4, fun j hj => by rw [mup_ne (by decide), mup_ne (by decide), mup_ne (by decide), mup_ne (by decide)]; exact h5 j hj, fun j hj => by rw [mup_ne (by decide), mup_ne (by decide), mup_ne (by decide), mup_ne (by decide)]; exact h6 j hj, mup_self, fun t ht => ?_, by rw [mup_ne2 (by decide), mup_ne (by decide), mup_ne (by decide), mup_ne (by decide)]; exact h9⟩
  have ht : (t : Int) < rNt R + 1 := ht
  show _ = (iup (rTv R) (rNt R) (x, y, d) (t : Int)).1 ∧ _ = (iup (rTv R) (rNt R) (x, y, d) (t : Int)).2.1 ∧ _ = (iup (rTv R) (rNt R) (x, y, d) (t : Int)).2.2
  unfold iup
  by_cases q : (t : Int) = rNt R
  · rw [if_pos q, show (rNt R).toNat = t by omega]
    refine ⟨?_, ?_, ?_⟩
    · rw [mup_ne (by decide), mup_ne (by decide), mup_ne (by decide), mup_self]
    · rw [mup_ne (by decide), mup_ne (by decide), mup_self]
    · rw [mup_ne (by decide), mup_self]
  · rw [if_neg q]
    refine ⟨?_, ?_, ?_⟩
    · rw [mup_ne (by decide), mup_ne (by decide), mup_ne (by decide), mup_ne2 (by omega)]
      exact (h8 t (by omega)).1
    · rw [mup_ne (by decide), mup_ne (by decide), mup_ne2 (by omega), mup_ne (by decide)]
      exact (h8 t (by omega)).2.1
    · rw [mup_ne (by decide), mup_ne2 (by omega), mup_ne (by decide), mup_ne (by decide)]
      exact (h8 t (by omega)).2.2
theorem rd_wet {K : mI} {R : Rd} {v : Int} (h : RdM K R) : RdM (mup K 144 26 v) (rRows R, rWid R, rGr R, rDr R, rKd R, rOd R, rNt R, rTv R, v) := by
  obtain ⟨h1, h2, h3, h4, h5, h6, h7, h8, h9⟩ := h
  exact ⟨by rw [mup_ne2 (by decide)]; exact h1, by rw [mup_ne2 (by decide)]; exact h2, fun j hj => by rw [mup_ne (by decide)]; exact h3 j hj, by rw [mup_ne2 (by decide)]; exact h4, fun j hj => by rw [mup_ne (by decide)]; exact h5 j hj, fun j hj => by rw [mup_ne (by decide)]; exact h6 j hj, by rw [mup_ne2 (by decide)]; exact h7, fun j hj => by rw [mup_ne (by decide), mup_ne (by decide), mup_ne (by decide)]; exact h8 j hj, mup_self⟩

set_option maxRecDepth 100000 in
theorem m_row_loop {σ : List mC} {I : mI} {c : Int → Int} {Ln s : Int} (hD : IsMd σ) (hT : TM I c Ln) (hs : 0 ≤ s ∧ s ≤ 300) {post : Option mV → mH → Prop} (kk : ∀ K : mI, Nrm K → FrA I K → K 144 27 = s + (rc c s 7 : Int) → mRun mZt mX9_readsRow 56 [some (mr 144), some (mi (dcm (fun k : Nat => c (s + (k : Int)) - 48) (rc c s 7))), some (mi (rc c s 7 : Int))] [] (σ, K) post) : ∀ (n j : Nat) (K : mI), 8 - j < n → j ≤ 7 → Nrm K → FrA I K → K 144 27 = s + (j : Int) → (∀ i, i < j → 48 ≤ c (s + (i : Int)) ∧ c (s + (i : Int)) ≤ 51) → mRun mZt mX9_readsRow 4 [some (mr 144), some (mi (dcm (fun k : Nat => c (s + (k : Int)) - 48) j)), some (mi (j : Int))] [] (σ, K) post := by
  intro n
  induction n with
  | zero => intro j K h; omega
  | succ n ih =>
    intro j K hn hj hK hA hatK hd
    have hTK := hT.fr (frm_fa hA)
    have hhr := hr_rng hT (s := s + (j : Int))
    refine mRun.go (q_aload_n dX9_readsRow_4 rfl rfl) ?_
    refine mRun.go (q_callVi (r := 144) [] [] dX9_readsRow_5 co_X9_124 ⟨Nat.le_of_ble_eq_true rfl, Nat.le_of_ble_eq_true rfl⟩ gw_875 gs_30 rfl hD.1 rfl rfl rfl (Nat.le_of_ble_eq_true rfl) (m_here (s := s + (j : Int)) hK hD hTK hatK (by omega))) ?_
    refine mRun.go (q_i2l dX9_readsRow_8 (hr_rng hT)) ?_
    refine mRun.go (q_ldc2 (a := 48) dX9_readsRow_9 gw_881) ?_
    refine mRun.go (q_ldc2 (a := 51) dX9_readsRow_12 gw_882) ?_
    refine mRun.go (q_callSi [ml (hrC c Ln (s + (j : Int))), ml 48, ml 51] [] dX9_readsRow_15 co_X9_114 ⟨Nat.le_of_ble_eq_true rfl, Nat.le_of_ble_eq_true rfl⟩ gw_855 rfl rfl (Nat.le_of_ble_eq_true rfl) (k_in (by omega) (by omega) (by omega))) ?_
    refine r_if_eq (tgt := 56) dX9_readsRow_18 (by decide) (by split <;> omega) (fun c18 => ?_) (fun c18 => ?_)
    · have h18 := ite00 c18
      have ho := hr_or hT (s + (j : Int))
      have hme : j = rc c s 7 := rc_uniq (by omega) hd (by omega)
      rw [hme]
      exact kk K hK hA (by rw [← hme]; exact hatK)
    · have h18 := ite01 c18
      refine mRun.go (q_iload_n dX9_readsRow_21 rfl rfl) ?_
      refine mRun.go (q_bipush dX9_readsRow_22 (by decide)) ?_
      refine r_icmp_ge (tgt := 56) dX9_readsRow_24 (by decide) (by omega) (by omega) (fun c24 => ?_) (fun c24 => ?_)
      · have ho := hr_or hT (s + (j : Int))
        have hme : j = rc c s 7 := rc_uniq (by omega) hd (by omega)
        rw [hme]
        exact kk K hK hA (by rw [← hme]; exact hatK)
      · refine mRun.go (q_bipush dX9_readsRow_27 (by decide)) ?_
        refine mRun.go (q_iload_n dX9_readsRow_29 rfl rfl) ?_
        refine mRun.go (q_imul dX9_readsRow_30) ?_
        refine mRun.go (q_aload_n dX9_readsRow_31 rfl rfl) ?_
        refine mRun.go (q_callVi (r := 144) [] [mi (10 * (dcm (fun k : Nat => c (s + (k : Int)) - 48) j))] dX9_readsRow_32 co_X9_124 ⟨Nat.le_of_ble_eq_true rfl, Nat.le_of_ble_eq_true rfl⟩ gw_875 gs_30 rfl hD.1 rfl rfl rfl (Nat.le_of_ble_eq_true rfl) (m_here (s := s + (j : Int)) hK hD hTK hatK (by omega))) ?_
        refine mRun.go (q_iadd dX9_readsRow_35) ?_
        refine mRun.go (q_bipush dX9_readsRow_36 (by decide)) ?_
        refine mRun.go (q_isub dX9_readsRow_38) ?_
        refine mRun.go (q_istore_n (ls' := [some (mr 144), some (mi (((10 * (dcm (fun k : Nat => c (s + (k : Int)) - 48) j)) + (hrC c Ln (s + (j : Int)))) - 48)), some (mi (j : Int))]) dX9_readsRow_39 rfl (Nat.le_of_ble_eq_true rfl) rfl) ?_
        refine mRun.go (q_iinc (ls' := [some (mr 144), some (mi (((10 * (dcm (fun k : Nat => c (s + (k : Int)) - 48) j)) + (hrC c Ln (s + (j : Int)))) - 48)), some (mi ((j : Int) + 1))]) dX9_readsRow_40 rfl (Nat.le_of_ble_eq_true rfl) rfl) ?_
        refine mRun.go (q_aload_n dX9_readsRow_43 rfl rfl) ?_
        refine mRun.go (q_dup dX9_readsRow_44 rfl) ?_
        refine mRun.go (q_getE (x := s + (j : Int)) dX9_readsRow_45 fo_X9_121 hD.1 rfl hatK) ?_
        refine mRun.go (q_iconst dX9_readsRow_48) ?_
        refine mRun.go (q_iadd dX9_readsRow_49) ?_
        refine mRun.go (q_putI dX9_readsRow_50 fo_X9_121 fp_9_27 hD.1 rfl) ?_
        refine mRun.go (q_goto (tgt := 4) dX9_readsRow_53 (by decide)) ?_
        have ho := hr_or hT (s + (j : Int))
        have e1 : ((j : Int) + 1) = ((j + 1 : Nat) : Int) := by omega
        have e2 : ((10 * (dcm (fun k : Nat => c (s + (k : Int)) - 48) j)) + (hrC c Ln (s + (j : Int)))) - 48 = dcm (fun k : Nat => c (s + (k : Int)) - 48) (j + 1) := by show _ = 10 * dcm (fun k : Nat => c (s + (k : Int)) - 48) j + (c (s + (j : Int)) - 48); omega
        rw [e1, e2]
        refine ih (j + 1) _ (by omega) (by omega) (nrm_mup hK (by omega)) (fra_27 hA) (mup_self.trans (by omega)) (fun i hi => ?_)
        by_cases z : i = j
        · rw [z]; omega
        · exact hd i (by omega)

set_option maxRecDepth 100000 in
theorem m_row_end {σ : List mC} {I : mI} {c : Int → Int} {Ln s : Int} {R : Rd} (hI : Nrm I) (hD : IsMd σ) (hT : TM I c Ln) (hat : I 144 27 = s) (hs : 0 ≤ s ∧ s ≤ 300) (hRd : RdM I R) (hok : RdOk R) {m : Nat} (hm : m = rc c s 7) {K : mI} (hK : Nrm K) (hA : FrA I K) (hatK : K 144 27 = s + (m : Int)) : mRun mZt mX9_readsRow 56 [some (mr 144), some (mi (dcm (fun k : Nat => c (s + (k : Int)) - 48) m)), some (mi (m : Int))] [] (σ, K) (fun v h => ∃ (b : Int) (K : mI), v = some (mi b) ∧ h = (σ, K) ∧ Nrm K ∧ FrM I K ∧ (0 ≤ K 144 27 ∧ K 144 27 ≤ s + 12) ∧ IR c (itR c R s) b K) := by
  have hm7 := rc_le c 7 s
  have h67 := rc67 c s
  rw [← hm] at hm7 h67
  have hRdK := hRd.fa hA
  have hpl := pl_rng hok
  have hpq : rRows R * rWid R = rPl R := rfl
  obtain ⟨ok1, ok2, ok3, ok4, ok5, ok6, ok7, ok8, ok9, ok10⟩ := id hok
  refine mRun.go (q_iload_n dX9_readsRow_56 rfl rfl) ?_
  refine mRun.go (q_i2l dX9_readsRow_57 (by omega)) ?_
  refine mRun.go (q_lconst (a := 1) dX9_readsRow_58 (by decide)) ?_
  refine mRun.go (q_ldc2 (a := 6) dX9_readsRow_59 gw_883) ?_
  refine mRun.go (q_callSi [ml (m : Int), ml 1, ml 6] [] dX9_readsRow_62 co_X9_114 ⟨Nat.le_of_ble_eq_true rfl, Nat.le_of_ble_eq_true rfl⟩ gw_855 rfl rfl (Nat.le_of_ble_eq_true rfl) (k_in (by omega) (by omega) (by omega))) ?_
  refine r_if_eq (tgt := 92) dX9_readsRow_65 (by decide) (by split <;> omega) (fun c65 => ?_) (fun c65 => ?_)
  · have h65 := ite00 c65
    refine mRun.go (q_iconst dX9_readsRow_92) ?_
    refine r_zret dX9_readsRow_93 rfl (by simp) ?_
    have e : itR c R s = (-1, R) := by
      unfold itR
      rw [if_neg]
      rcases (show m ≤ 6 ∨ m = 7 by omega) with q | q
      · rw [h67.1 q]; omega
      · have := h67.2 q; omega
    exact ⟨0, K, rfl, rfl, hK, frm_fa hA, by omega, ir_no (by rw [e])⟩
  · have h65 := ite01 c65
    refine mRun.go (q_aload_n dX9_readsRow_68 rfl rfl) ?_
    refine mRun.go (q_getE (x := rRows R) dX9_readsRow_69 fo_X9_76 hD.1 rfl hRdK.1) ?_
    refine mRun.go (q_bipush dX9_readsRow_72 (by decide)) ?_
    refine r_icmp_eq (tgt := 92) dX9_readsRow_74 (by decide) (by omega) (by omega) (fun c74 => ?_) (fun c74 => ?_)
    · refine mRun.go (q_iconst dX9_readsRow_92) ?_
      refine r_zret dX9_readsRow_93 rfl (by simp) ?_
      have e : itR c R s = (-1, R) := by
        unfold itR
        rw [if_neg]
        rcases (show m ≤ 6 ∨ m = 7 by omega) with q | q
        · rw [h67.1 q]; omega
        · have := h67.2 q; omega
      exact ⟨0, K, rfl, rfl, hK, frm_fa hA, by omega, ir_no (by rw [e])⟩
    · refine mRun.go (q_aload_n dX9_readsRow_77 rfl rfl) ?_
      refine mRun.go (q_getE (x := rRows R) dX9_readsRow_78 fo_X9_76 hD.1 rfl hRdK.1) ?_
      refine r_if_le (tgt := 94) dX9_readsRow_81 (by decide) (by omega) (fun c81 => ?_) (fun c81 => ?_)
      · refine mRun.go (q_aload_n dX9_readsRow_94 rfl rfl) ?_
        refine mRun.go (q_iload_n dX9_readsRow_95 rfl rfl) ?_
        refine mRun.go (q_iload_n dX9_readsRow_96 rfl rfl) ?_
        have hmr0 : 0 ≤ (m : Int) * rRows R := Int.mul_nonneg (by omega) (by omega)
        have hmr1 : (m : Int) * rRows R ≤ 6 * 5 := Int.mul_le_mul (by omega) (by omega) (by omega) (by decide)
        have hof : (m : Int) * rRows R = ((((m : Int) * rRows R).toNat : Nat) : Int) := by omega
        have hfr : ∀ k, k < m → 0 ≤ (fun k : Nat => c (s + (k : Int)) - 48) k ∧ (fun k : Nat => c (s + (k : Int)) - 48) k ≤ 9 := fun k hk => by have := rc_dig c 7 s k (by omega); show 0 ≤ c (s + (k : Int)) - 48 ∧ c (s + (k : Int)) - 48 ≤ 9; omega
        have hNR : Nrm (mup (mup (rwp K (((m : Int) * rRows R).toNat) (fun k : Nat => c (s + (k : Int)) - 48) 0 m) 144 17 (m : Int)) 144 16 (rRows R + 1)) := nrm_mup (nrm_mup (nrm_rwp hK hfr) (by omega)) (by omega)
        refine mRun.go (q_callVv (r := 144) [mi (dcm (fun k : Nat => c (s + (k : Int)) - 48) m), mi (m : Int)] [] dX9_readsRow_97 co_X9_58 ⟨Nat.le_of_ble_eq_true rfl, Nat.le_of_ble_eq_true rfl⟩ gw_744 gs_25 rfl hD.1 rfl rfl rfl (Nat.le_of_ble_eq_true rfl) (m_laysRow hK hD (by omega) hfr hRdK.1 (by omega) hof (by omega))) ?_
        refine mRun.go (q_iconst dX9_readsRow_100) ?_
        refine r_zret dX9_readsRow_101 rfl (by simp) ?_
        have hpo : rPl R = ((((m : Int) * rRows R).toNat : Nat) : Int) := by
          rw [← hof]
          rcases (show rRows R = 0 ∨ (m : Int) = rWid R by omega) with q | q
          · show rRows R * rWid R = _
            rw [q, Int.zero_mul, Int.mul_zero]
          · rw [q, Int.mul_comm]
        have e27 : (mup (mup (rwp K (((m : Int) * rRows R).toNat) (fun k : Nat => c (s + (k : Int)) - 48) 0 m) 144 17 (m : Int)) 144 16 (rRows R + 1)) 144 27 = s + (m : Int) := by rw [mup_ne2 (by decide), mup_ne2 (by decide), rwp_nf (by decide)]; exact hatK
        refine ⟨1, _, rfl, rfl, hNR, ⟨fun r a b d => ?_, fun k hk => ?_⟩, by rw [e27]; omega, ir_yes e27 (fun q => ?_) (fun q => ?_)⟩
        · rw [mup_nf a, mup_nf a, rwp_nf (by omega)]; exact hA.1 r a
        · rw [mup_ne2 (by omega), mup_ne2 (by omega), rwp_nf (by decide)]; exact hA.2 k (by omega) (by omega)
        · unfold itR
          rw [h67.1 (by omega), if_pos (by omega)]
          exact ⟨rfl, rd_row hRdK hof hpo⟩
        · unfold itR
          rw [h67.1 (by omega), if_neg (by omega)]
      · refine mRun.go (q_iload_n dX9_readsRow_84 rfl rfl) ?_
        refine mRun.go (q_aload_n dX9_readsRow_85 rfl rfl) ?_
        refine mRun.go (q_getE (x := rWid R) dX9_readsRow_86 fo_X9_79 hD.1 rfl hRdK.2.1) ?_
        refine r_icmp_eq (tgt := 94) dX9_readsRow_89 (by decide) (by omega) (by omega) (fun c89 => ?_) (fun c89 => ?_)
        · refine mRun.go (q_aload_n dX9_readsRow_94 rfl rfl) ?_
          refine mRun.go (q_iload_n dX9_readsRow_95 rfl rfl) ?_
          refine mRun.go (q_iload_n dX9_readsRow_96 rfl rfl) ?_
          have hmr0 : 0 ≤ (m : Int) * rRows R := Int.mul_nonneg (by omega) (by omega)
          have hmr1 : (m : Int) * rRows R ≤ 6 * 5 := Int.mul_le_mul (by omega) (by omega) (by omega) (by decide)
          have hof : (m : Int) * rRows R = ((((m : Int) * rRows R).toNat : Nat) : Int) := by omega
          have hfr : ∀ k, k < m → 0 ≤ (fun k : Nat => c (s + (k : Int)) - 48) k ∧ (fun k : Nat => c (s + (k : Int)) - 48) k ≤ 9 := fun k hk => by have := rc_dig c 7 s k (by omega); show 0 ≤ c (s + (k : Int)) - 48 ∧ c (s + (k : Int)) - 48 ≤ 9; omega
          have hNR : Nrm (mup (mup (rwp K (((m : Int) * rRows R).toNat) (fun k : Nat => c (s + (k : Int)) - 48) 0 m) 144 17 (m : Int)) 144 16 (rRows R + 1)) := nrm_mup (nrm_mup (nrm_rwp hK hfr) (by omega)) (by omega)
          refine mRun.go (q_callVv (r := 144) [mi (dcm (fun k : Nat => c (s + (k : Int)) - 48) m), mi (m : Int)] [] dX9_readsRow_97 co_X9_58 ⟨Nat.le_of_ble_eq_true rfl, Nat.le_of_ble_eq_true rfl⟩ gw_744 gs_25 rfl hD.1 rfl rfl rfl (Nat.le_of_ble_eq_true rfl) (m_laysRow hK hD (by omega) hfr hRdK.1 (by omega) hof (by omega))) ?_
          refine mRun.go (q_iconst dX9_readsRow_100) ?_
          refine r_zret dX9_readsRow_101 rfl (by simp) ?_
          have hpo : rPl R = ((((m : Int) * rRows R).toNat : Nat) : Int) := by
            rw [← hof]
            rcases (show rRows R = 0 ∨ (m : Int) = rWid R by omega) with q | q
            · show rRows R * rWid R = _
              rw [q, Int.zero_mul, Int.mul_zero]
            · rw [q, Int.mul_comm]
          have e27 : (mup (mup (rwp K (((m : Int) * rRows R).toNat) (fun k : Nat => c (s + (k : Int)) - 48) 0 m) 144 17 (m : Int)) 144 16 (rRows R + 1)) 144 27 = s + (m : Int) := by rw [mup_ne2 (by decide), mup_ne2 (by decide), rwp_nf (by decide)]; exact hatK
          refine ⟨1, _, rfl, rfl, hNR, ⟨fun r a b d => ?_, fun k hk => ?_⟩, by rw [e27]; omega, ir_yes e27 (fun q => ?_) (fun q => ?_)⟩
          · rw [mup_nf a, mup_nf a, rwp_nf (by omega)]; exact hA.1 r a
          · rw [mup_ne2 (by omega), mup_ne2 (by omega), rwp_nf (by decide)]; exact hA.2 k (by omega) (by omega)
          · unfold itR
            rw [h67.1 (by omega), if_pos (by omega)]
            exact ⟨rfl, rd_row hRdK hof hpo⟩
          · unfold itR
            rw [h67.1 (by omega), if_neg (by omega)]
        · refine mRun.go (q_iconst dX9_readsRow_92) ?_
          refine r_zret dX9_readsRow_93 rfl (by simp) ?_
          have e : itR c R s = (-1, R) := by
            unfold itR
            rw [if_neg]
            rcases (show m ≤ 6 ∨ m = 7 by omega) with q | q
            · rw [h67.1 q]; omega
            · have := h67.2 q; omega
          exact ⟨0, K, rfl, rfl, hK, frm_fa hA, by omega, ir_no (by rw [e])⟩

set_option maxRecDepth 100000 in
theorem m_readsRow {σ : List mC} {I : mI} {c : Int → Int} {Ln s : Int} {R : Rd} (hI : Nrm I) (hD : IsMd σ) (hT : TM I c Ln) (hat : I 144 27 = s) (hs : 0 ≤ s ∧ s ≤ 300) (hRd : RdM I R) (hok : RdOk R)  : mMt mX9_readsRow [mr 144] (σ, I) (fun v h => ∃ (b : Int) (K : mI), v = some (mi b) ∧ h = (σ, K) ∧ Nrm K ∧ FrM I K ∧ (0 ≤ K 144 27 ∧ K 144 27 ≤ s + 12) ∧ IR c (itR c R s) b K) := by
  refine mMt.of pl_9 (Nat.le_of_ble_eq_true rfl) ?_
  show mRun mZt mX9_readsRow 0 [some (mr 144), none, none] [] (σ, I) _
  refine mRun.go (q_iconst dX9_readsRow_0) ?_
  refine mRun.go (q_istore_n (ls' := [some (mr 144), some (mi 0), none]) dX9_readsRow_1 rfl (Nat.le_of_ble_eq_true rfl) rfl) ?_
  refine mRun.go (q_iconst dX9_readsRow_2) ?_
  refine mRun.go (q_istore_n (ls' := [some (mr 144), some (mi 0), some (mi 0)]) dX9_readsRow_3 rfl (Nat.le_of_ble_eq_true rfl) rfl) ?_
  exact m_row_loop hD hT hs (fun K hK hA h => m_row_end hI hD hT hat hs hRd hok rfl hK hA h) 9 0 I (by decide) (by decide) hI fra_rf (by rw [hat]; omega) (fun i hi => absurd hi (Nat.not_lt_zero i))

set_option maxRecDepth 100000 in
theorem m_readsDrum {σ : List mC} {I : mI} {c : Int → Int} {Ln s : Int} {R : Rd} (hI : Nrm I) (hD : IsMd σ) (hT : TM I c Ln) (hat : I 144 27 = s) (hs : 0 ≤ s ∧ s ≤ 300) (hRd : RdM I R) (hok : RdOk R)  : mMt mX9_readsDrum [mr 144] (σ, I) (fun v h => ∃ (b : Int) (K : mI), v = some (mi b) ∧ h = (σ, K) ∧ Nrm K ∧ FrM I K ∧ (0 ≤ K 144 27 ∧ K 144 27 ≤ s + 12) ∧ IR c (itD c R s) b K) := by
  refine mMt.of pl_9 (Nat.le_of_ble_eq_true rfl) ?_
  show mRun mZt mX9_readsDrum 0 [some (mr 144)] [] (σ, I) _
  have hpl := pl_rng hok
  have hpq : rRows R * rWid R = rPl R := rfl
  obtain ⟨ok1, ok2, ok3, ok4, ok5, ok6, ok7, ok8, ok9, ok10⟩ := id hok
  refine mRun.go (q_aload_n dX9_readsDrum_0 rfl rfl) ?_
  refine mRun.go (q_getE (x := rDr R) dX9_readsDrum_1 fo_X9_62 hD.1 rfl hRd.2.2.2.1) ?_
  refine mRun.go (q_iconst dX9_readsDrum_4) ?_
  refine r_icmp_eq (tgt := 17) dX9_readsDrum_5 (by decide) (by omega) (by omega) (fun c5 => ?_) (fun c5 => ?_)
  · refine mRun.go (q_iconst dX9_readsDrum_17) ?_
    refine r_zret dX9_readsDrum_18 rfl (by simp) ?_
    have hx := nxt_or c s 59
    have e : (itD c R s).1 = -1 := by unfold itD; rw [if_neg (by omega)]
    exact ⟨0, I, rfl, rfl, hI, frm_rf, by omega, ir_no e⟩
  · refine mRun.go (q_aload_n dX9_readsDrum_8 rfl rfl) ?_
    refine mRun.go (q_iconst dX9_readsDrum_9) ?_
    refine mRun.go (q_iconst dX9_readsDrum_10) ?_
    have hnr0 := num_rng c s
    obtain ⟨v1, h1, hc1, rfl, K1, rfl, hK1, hA1, hat11, hval1⟩ := m_number (s := s) (most := 3) hI hD hT hat (by omega) (by omega)
    have hB1 := fra_tr fra_rf hA1
    refine mRun.go (q_callVi (r := 144) [mi 0, mi 3] [] dX9_readsDrum_11 co_X9_143 ⟨Nat.le_of_ble_eq_true rfl, Nat.le_of_ble_eq_true rfl⟩ gw_890 gs_33 rfl hD.1 rfl rfl rfl (Nat.le_of_ble_eq_true rfl) hc1) ?_
    refine r_if_ne (tgt := 19) dX9_readsDrum_14 (by decide) (by split <;> omega) (fun c14 => ?_) (fun c14 => ?_)
    · have h14 := ite01 c14
      refine mRun.go (q_aload_n dX9_readsDrum_19 rfl rfl) ?_
      refine mRun.go (q_getR dX9_readsDrum_20 fo_X9_37 hD.1 rfl) ?_
      refine mRun.go (q_aload_n dX9_readsDrum_23 rfl rfl) ?_
      refine mRun.go (q_getE (x := rDr R) dX9_readsDrum_24 fo_X9_62 hD.1 rfl (hRd.fa hB1).2.2.2.1) ?_
      refine mRun.go (q_aload_n dX9_readsDrum_27 rfl rfl) ?_
      refine mRun.go (q_getE (x := (num c s).1) dX9_readsDrum_28 fo_X9_136 hD.1 rfl (hval1 (by omega))) ?_
      refine mRun.go (q_iast dX9_readsDrum_31 hD.2.2.2.2.2.2.2.2.2.2.1 (by omega) (by omega)) ?_
      refine mRun.go (q_aload_n dX9_readsDrum_32 rfl rfl) ?_
      refine mRun.go (q_dup dX9_readsDrum_33 rfl) ?_
      refine mRun.go (q_getE (x := rDr R) dX9_readsDrum_34 fo_X9_62 hD.1 rfl (by rw [mup_ne (by decide)]; exact (hRd.fa hB1).2.2.2.1)) ?_
      refine mRun.go (q_iconst dX9_readsDrum_37) ?_
      refine mRun.go (q_iadd dX9_readsDrum_38) ?_
      refine mRun.go (q_putI dX9_readsDrum_39 fo_X9_62 fp_9_19 hD.1 rfl) ?_
      refine mRun.go (q_iconst dX9_readsDrum_42) ?_
      refine r_zret dX9_readsDrum_43 rfl (by simp) ?_
      have hx := nxt_or c s 59
      have e27 : (mup (mup K1 154 ((rDr R).toNat) ((num c s).1)) 144 19 ((rDr R) + 1)) 144 27 = (num c s).2 := by rw [mup_ne2 (by decide), mup_ne (by decide)]; exact hat11
      refine ⟨1, _, rfl, rfl, (nrm_mup (nrm_mup hK1 (by omega)) (by omega)), frm_tr (frm_fa hB1) ⟨fun r a b d => by rw [mup_nf a, mup_nf (by omega)], fun k hk => by rw [mup_ne2 (by omega), mup_ne (by decide)]⟩, by rw [e27]; omega, ir_yes e27 (fun q => ?_) (fun q => ?_)⟩
      · unfold itD
        rw [if_pos (by omega), show (nxt c s 59).1 = (num c s).1 by omega, show (nxt c s 59).2 = (num c s).2 + 1 by omega]
        exact ⟨rfl, rd_drum (hRd.fa hB1) (by omega)⟩
      · unfold itD
        rw [if_neg (by omega)]
    · have h14 := ite00 (Classical.not_not.mp c14)
      refine mRun.go (q_iconst dX9_readsDrum_17) ?_
      refine r_zret dX9_readsDrum_18 rfl (by simp) ?_
      have hx := nxt_or c s 59
      have e : (itD c R s).1 = -1 := by unfold itD; rw [if_neg (by omega)]
      exact ⟨0, K1, rfl, rfl, hK1, frm_fa hB1, by first | omega | (rw [hat11]; split <;> omega), ir_no e⟩

set_option maxRecDepth 100000 in
theorem m_readsWet {σ : List mC} {I : mI} {c : Int → Int} {Ln s : Int} {R : Rd} (hI : Nrm I) (hD : IsMd σ) (hT : TM I c Ln) (hat : I 144 27 = s) (hs : 0 ≤ s ∧ s ≤ 300) (hRd : RdM I R) (hok : RdOk R)  : mMt mX9_readsWet [mr 144] (σ, I) (fun v h => ∃ (b : Int) (K : mI), v = some (mi b) ∧ h = (σ, K) ∧ Nrm K ∧ FrM I K ∧ (0 ≤ K 144 27 ∧ K 144 27 ≤ s + 12) ∧ IR c (itW c R s) b K) := by
  refine mMt.of pl_9 (Nat.le_of_ble_eq_true rfl) ?_
  show mRun mZt mX9_readsWet 0 [some (mr 144)] [] (σ, I) _
  have hpl := pl_rng hok
  have hpq : rRows R * rWid R = rPl R := rfl
  obtain ⟨ok1, ok2, ok3, ok4, ok5, ok6, ok7, ok8, ok9, ok10⟩ := id hok
  refine mRun.go (q_aload_n dX9_readsWet_0 rfl rfl) ?_
  refine mRun.go (q_iconst dX9_readsWet_1) ?_
  refine mRun.go (q_iconst dX9_readsWet_2) ?_
  have hnr0 := num_rng c s
  obtain ⟨v1, h1, hc1, rfl, K1, rfl, hK1, hA1, hat11, hval1⟩ := m_number (s := s) (most := 3) hI hD hT hat (by omega) (by omega)
  have hB1 := fra_tr fra_rf hA1
  refine mRun.go (q_callVi (r := 144) [mi 0, mi 3] [] dX9_readsWet_3 co_X9_143 ⟨Nat.le_of_ble_eq_true rfl, Nat.le_of_ble_eq_true rfl⟩ gw_890 gs_33 rfl hD.1 rfl rfl rfl (Nat.le_of_ble_eq_true rfl) hc1) ?_
  refine r_if_ne (tgt := 11) dX9_readsWet_6 (by decide) (by split <;> omega) (fun c6 => ?_) (fun c6 => ?_)
  · have h6 := ite01 c6
    refine mRun.go (q_aload_n dX9_readsWet_11 rfl rfl) ?_
    refine mRun.go (q_aload_n dX9_readsWet_12 rfl rfl) ?_
    refine mRun.go (q_getE (x := (num c s).1) dX9_readsWet_13 fo_X9_136 hD.1 rfl (hval1 (by omega))) ?_
    refine mRun.go (q_putI dX9_readsWet_16 fo_X9_70 fp_9_26 hD.1 rfl) ?_
    refine mRun.go (q_iconst dX9_readsWet_19) ?_
    refine r_zret dX9_readsWet_20 rfl (by simp) ?_
    have hx := nxt_or c s 59
    have e27 : (mup K1 144 26 ((num c s).1)) 144 27 = (num c s).2 := by rw [mup_ne2 (by decide)]; exact hat11
    refine ⟨1, _, rfl, rfl, (nrm_mup hK1 (by omega)), frm_tr (frm_fa hB1) ⟨fun r a b d => by rw [mup_nf a], fun k hk => by rw [mup_ne2 (by omega)]⟩, by rw [e27]; omega, ir_yes e27 (fun q => ?_) (fun q => ?_)⟩
    · unfold itW
      rw [if_pos (by omega), show (nxt c s 59).1 = (num c s).1 by omega, show (nxt c s 59).2 = (num c s).2 + 1 by omega]
      exact ⟨rfl, rd_wet (hRd.fa hB1)⟩
    · unfold itW
      rw [if_neg (by omega)]
  · have h6 := ite00 (Classical.not_not.mp c6)
    refine mRun.go (q_iconst dX9_readsWet_9) ?_
    refine r_zret dX9_readsWet_10 rfl (by simp) ?_
    have hx := nxt_or c s 59
    have e : (itW c R s).1 = -1 := by unfold itW; rw [if_neg (by omega)]
    exact ⟨0, K1, rfl, rfl, hK1, frm_fa hB1, by first | omega | (rw [hat11]; split <;> omega), ir_no e⟩

set_option maxRecDepth 100000 in
theorem m_readsOther {σ : List mC} {I : mI} {c : Int → Int} {Ln s : Int} {R : Rd} (hI : Nrm I) (hD : IsMd σ) (hT : TM I c Ln) (hat : I 144 27 = s) (hs : 0 ≤ s ∧ s ≤ 300) (hRd : RdM I R) (hok : RdOk R)  : mMt mX9_readsOther [mr 144] (σ, I) (fun v h => ∃ (b : Int) (K : mI), v = some (mi b) ∧ h = (σ, K) ∧ Nrm K ∧ FrM I K ∧ (0 ≤ K 144 27 ∧ K 144 27 ≤ s + 12) ∧ IR c (itX c R s) b K) := by
  refine mMt.of pl_9 (Nat.le_of_ble_eq_true rfl) ?_
  show mRun mZt mX9_readsOther 0 [some (mr 144), none, none] [] (σ, I) _
  have hpl := pl_rng hok
  have hpq : rRows R * rWid R = rPl R := rfl
  obtain ⟨ok1, ok2, ok3, ok4, ok5, ok6, ok7, ok8, ok9, ok10⟩ := id hok
  refine mRun.go (q_aload_n dX9_readsOther_0 rfl rfl) ?_
  refine mRun.go (q_iconst dX9_readsOther_1) ?_
  refine mRun.go (q_aload_n dX9_readsOther_2 rfl rfl) ?_
  refine mRun.go (q_getE (x := rDr R) dX9_readsOther_3 fo_X9_62 hD.1 rfl hRd.2.2.2.1) ?_
  refine mRun.go (q_iconst dX9_readsOther_6) ?_
  refine mRun.go (q_isub dX9_readsOther_7) ?_
  have hnr0 := num_rng c s
  obtain ⟨v1, h1, hc1, rfl, K1, rfl, hK1, hA1, hat11, hval1⟩ := m_number (s := s) (most := (rDr R) - 1) hI hD hT hat (by omega) (by omega)
  have hB1 := fra_tr fra_rf hA1
  refine mRun.go (q_callVi (r := 144) [mi 0, mi ((rDr R) - 1)] [] dX9_readsOther_8 co_X9_143 ⟨Nat.le_of_ble_eq_true rfl, Nat.le_of_ble_eq_true rfl⟩ gw_890 gs_33 rfl hD.1 rfl rfl rfl (Nat.le_of_ble_eq_true rfl) hc1) ?_
  refine r_if_eq (tgt := 23) dX9_readsOther_11 (by decide) (by split <;> omega) (fun c11 => ?_) (fun c11 => ?_)
  · have h11 := ite00 c11
    refine mRun.go (q_iconst dX9_readsOther_23) ?_
    refine r_zret dX9_readsOther_24 rfl (by simp) ?_
    have hx1 := nxt_or c s 44
    have hx2 : ((n2 c s).1 = -1 ∧ ((num c (nxt c s 44).2).1 = -1 ∨ ¬ c (num c (nxt c s 44).2).2 = 44)) ∨ ((n2 c s).1 = (num c (nxt c s 44).2).1 ∧ (n2 c s).2 = (num c (nxt c s 44).2).2 + 1 ∧ ¬ (num c (nxt c s 44).2).1 = -1 ∧ c (num c (nxt c s 44).2).2 = 44) := nxt_or c (nxt c s 44).2 44
    have hx3 : ((n3 c s).1 = -1 ∧ ((num c (n2 c s).2).1 = -1 ∨ ¬ c (num c (n2 c s).2).2 = 59)) ∨ ((n3 c s).1 = (num c (n2 c s).2).1 ∧ (n3 c s).2 = (num c (n2 c s).2).2 + 1 ∧ ¬ (num c (n2 c s).2).1 = -1 ∧ c (num c (n2 c s).2).2 = 59) := nxt_or c (n2 c s).2 59
    have e : (itX c R s).1 = -1 := by unfold itX; rw [if_neg (by omega)]
    exact ⟨0, K1, rfl, rfl, hK1, frm_fa hB1, by first | omega | (rw [hat11]; split <;> omega), ir_no e⟩
  · have h11 := ite01 c11
    refine mRun.go (q_aload_n dX9_readsOther_14 rfl rfl) ?_
    refine mRun.go (q_bipush dX9_readsOther_15 (by decide)) ?_
    obtain ⟨v2, h2, hc2, rfl, K2, rfl, hK2, hA2, hat12, hq2⟩ := m_takes2 (s := (num c s).2) (a := 44) hK1 hD (hT.fr (frm_fa hB1)) hat11 (by omega) (Or.inl rfl)
    have hB2 := fra_tr hB1 hA2
    refine mRun.go (q_callVi (r := 144) [mi 44] [] dX9_readsOther_17 co_X9_147 ⟨Nat.le_of_ble_eq_true rfl, Nat.le_of_ble_eq_true rfl⟩ gw_902 gs_35 rfl hD.1 rfl rfl rfl (Nat.le_of_ble_eq_true rfl) hc2) ?_
    refine r_if_ne (tgt := 25) dX9_readsOther_20 (by decide) (by split <;> omega) (fun c20 => ?_) (fun c20 => ?_)
    · have h20 := ite01 c20
      have hx1 := nxt_or c s 44
      have hat1 : K2 144 27 = (nxt c s 44).2 := by rw [hat12, if_pos (by omega)]; omega
      have hv1 : K2 144 28 = (num c s).1 := hq2.trans (hval1 (by omega))
      refine mRun.go (q_aload_n dX9_readsOther_25 rfl rfl) ?_
      refine mRun.go (q_getE (x := (num c s).1) dX9_readsOther_26 fo_X9_136 hD.1 rfl hv1) ?_
      refine mRun.go (q_istore_n (ls' := [some (mr 144), some (mi ((num c s).1)), none]) dX9_readsOther_29 rfl (Nat.le_of_ble_eq_true rfl) rfl) ?_
      refine mRun.go (q_aload_n dX9_readsOther_30 rfl rfl) ?_
      refine mRun.go (q_iconst dX9_readsOther_31) ?_
      refine mRun.go (q_aload_n dX9_readsOther_32 rfl rfl) ?_
      refine mRun.go (q_getE (x := rRows R) dX9_readsOther_33 fo_X9_76 hD.1 rfl (hRd.fa hB2).1) ?_
      refine mRun.go (q_aload_n dX9_readsOther_36 rfl rfl) ?_
      refine mRun.go (q_getE (x := rWid R) dX9_readsOther_37 fo_X9_79 hD.1 rfl (hRd.fa hB2).2.1) ?_
      refine mRun.go (q_imul dX9_readsOther_40) ?_
      refine mRun.go (q_iconst dX9_readsOther_41) ?_
      refine mRun.go (q_isub dX9_readsOther_42) ?_
      have hnr1 := num_rng c ((nxt c s 44).2)
      obtain ⟨v3, h3, hc3, rfl, K3, rfl, hK3, hA3, hat13, hval3⟩ := m_number (s := (nxt c s 44).2) (most := ((rRows R) * (rWid R)) - 1) hK2 hD (hT.fr (frm_fa hB2)) hat1 (by omega) (by omega)
      have hB3 := fra_tr hB2 hA3
      refine mRun.go (q_callVi (r := 144) [mi 0, mi (((rRows R) * (rWid R)) - 1)] [] dX9_readsOther_43 co_X9_143 ⟨Nat.le_of_ble_eq_true rfl, Nat.le_of_ble_eq_true rfl⟩ gw_890 gs_33 rfl hD.1 rfl rfl rfl (Nat.le_of_ble_eq_true rfl) hc3) ?_
      refine r_if_eq (tgt := 58) dX9_readsOther_46 (by decide) (by split <;> omega) (fun c46 => ?_) (fun c46 => ?_)
      · have h46 := ite00 c46
        refine mRun.go (q_iconst dX9_readsOther_58) ?_
        refine r_zret dX9_readsOther_59 rfl (by simp) ?_
        have hx1 := nxt_or c s 44
        have hx2 : ((n2 c s).1 = -1 ∧ ((num c (nxt c s 44).2).1 = -1 ∨ ¬ c (num c (nxt c s 44).2).2 = 44)) ∨ ((n2 c s).1 = (num c (nxt c s 44).2).1 ∧ (n2 c s).2 = (num c (nxt c s 44).2).2 + 1 ∧ ¬ (num c (nxt c s 44).2).1 = -1 ∧ c (num c (nxt c s 44).2).2 = 44) := nxt_or c (nxt c s 44).2 44
        have hx3 : ((n3 c s).1 = -1 ∧ ((num c (n2 c s).2).1 = -1 ∨ ¬ c (num c (n2 c s).2).2 = 59)) ∨ ((n3 c s).1 = (num c (n2 c s).2).1 ∧ (n3 c s).2 = (num c (n2 c s).2).2 + 1 ∧ ¬ (num c (n2 c s).2).1 = -1 ∧ c (num c (n2 c s).2).2 = 59) := nxt_or c (n2 c s).2 59
        have e : (itX c R s).1 = -1 := by unfold itX; rw [if_neg (by omega)]
        exact ⟨0, K3, rfl, rfl, hK3, frm_fa hB3, by first | omega | (rw [hat13]; split <;> omega), ir_no e⟩
      · have h46 := ite01 c46
        refine mRun.go (q_aload_n dX9_readsOther_49 rfl rfl) ?_
        refine mRun.go (q_bipush dX9_readsOther_50 (by decide)) ?_
        obtain ⟨v4, h4, hc4, rfl, K4, rfl, hK4, hA4, hat14, hq4⟩ := m_takes2 (s := (num c ((nxt c s 44).2)).2) (a := 44) hK3 hD (hT.fr (frm_fa hB3)) hat13 (by omega) (Or.inl rfl)
        have hB4 := fra_tr hB3 hA4
        refine mRun.go (q_callVi (r := 144) [mi 44] [] dX9_readsOther_52 co_X9_147 ⟨Nat.le_of_ble_eq_true rfl, Nat.le_of_ble_eq_true rfl⟩ gw_902 gs_35 rfl hD.1 rfl rfl rfl (Nat.le_of_ble_eq_true rfl) hc4) ?_
        refine r_if_ne (tgt := 60) dX9_readsOther_55 (by decide) (by split <;> omega) (fun c55 => ?_) (fun c55 => ?_)
        · have h55 := ite01 c55
          have hx2 : ((n2 c s).1 = -1 ∧ ((num c (nxt c s 44).2).1 = -1 ∨ ¬ c (num c (nxt c s 44).2).2 = 44)) ∨ ((n2 c s).1 = (num c (nxt c s 44).2).1 ∧ (n2 c s).2 = (num c (nxt c s 44).2).2 + 1 ∧ ¬ (num c (nxt c s 44).2).1 = -1 ∧ c (num c (nxt c s 44).2).2 = 44) := nxt_or c (nxt c s 44).2 44
          have hat2 : K4 144 27 = (n2 c s).2 := by rw [hat14, if_pos (by omega)]; omega
          have hv2 : K4 144 28 = (num c ((nxt c s 44).2)).1 := hq4.trans (hval3 (by omega))
          refine mRun.go (q_aload_n dX9_readsOther_60 rfl rfl) ?_
          refine mRun.go (q_getE (x := (num c ((nxt c s 44).2)).1) dX9_readsOther_61 fo_X9_136 hD.1 rfl hv2) ?_
          refine mRun.go (q_istore_n (ls' := [some (mr 144), some (mi ((num c s).1)), some (mi ((num c ((nxt c s 44).2)).1))]) dX9_readsOther_64 rfl (Nat.le_of_ble_eq_true rfl) rfl) ?_
          refine mRun.go (q_aload_n dX9_readsOther_65 rfl rfl) ?_
          refine mRun.go (q_iconst dX9_readsOther_66) ?_
          refine mRun.go (q_iconst dX9_readsOther_67) ?_
          have hnr2 := num_rng c ((n2 c s).2)
          obtain ⟨v5, h5, hc5, rfl, K5, rfl, hK5, hA5, hat15, hval5⟩ := m_number (s := (n2 c s).2) (most := 3) hK4 hD (hT.fr (frm_fa hB4)) hat2 (by omega) (by omega)
          have hB5 := fra_tr hB4 hA5
          refine mRun.go (q_callVi (r := 144) [mi 0, mi 3] [] dX9_readsOther_68 co_X9_143 ⟨Nat.le_of_ble_eq_true rfl, Nat.le_of_ble_eq_true rfl⟩ gw_890 gs_33 rfl hD.1 rfl rfl rfl (Nat.le_of_ble_eq_true rfl) hc5) ?_
          refine r_if_ne (tgt := 76) dX9_readsOther_71 (by decide) (by split <;> omega) (fun c71 => ?_) (fun c71 => ?_)
          · have h71 := ite01 c71
            refine mRun.go (q_aload_n dX9_readsOther_76 rfl rfl) ?_
            refine mRun.go (q_getR dX9_readsOther_77 fo_X9_40 hD.1 rfl) ?_
            refine mRun.go (q_bipush dX9_readsOther_80 (by decide)) ?_
            refine mRun.go (q_iload_n dX9_readsOther_82 rfl rfl) ?_
            refine mRun.go (q_imul dX9_readsOther_83) ?_
            refine mRun.go (q_iload_n dX9_readsOther_84 rfl rfl) ?_
            refine mRun.go (q_iadd dX9_readsOther_85) ?_
            refine mRun.go (q_aload_n dX9_readsOther_86 rfl rfl) ?_
            refine mRun.go (q_getE (x := (num c ((n2 c s).2)).1) dX9_readsOther_87 fo_X9_136 hD.1 rfl (hval5 (by omega))) ?_
            refine mRun.go (q_iast dX9_readsOther_90 hD.2.2.2.2.2.2.2.2.2.2.2.1 (by omega) (by omega)) ?_
            refine mRun.go (q_iconst dX9_readsOther_91) ?_
            refine r_zret dX9_readsOther_92 rfl (by simp) ?_
            have hx3 : ((n3 c s).1 = -1 ∧ ((num c (n2 c s).2).1 = -1 ∨ ¬ c (num c (n2 c s).2).2 = 59)) ∨ ((n3 c s).1 = (num c (n2 c s).2).1 ∧ (n3 c s).2 = (num c (n2 c s).2).2 + 1 ∧ ¬ (num c (n2 c s).2).1 = -1 ∧ c (num c (n2 c s).2).2 = 59) := nxt_or c (n2 c s).2 59
            have e27 : (mup K5 155 (((36 * ((num c s).1)) + ((num c ((nxt c s 44).2)).1)).toNat) ((num c ((n2 c s).2)).1)) 144 27 = (num c ((n2 c s).2)).2 := by rw [mup_ne (by decide)]; exact hat15
            refine ⟨1, _, rfl, rfl, (nrm_mup hK5 (by omega)), frm_tr (frm_fa hB5) ⟨fun r a b d => by rw [mup_nf (by omega)], fun k hk => by rw [mup_ne (by decide)]⟩, by rw [e27]; omega, ir_yes e27 (fun q => ?_) (fun q => ?_)⟩
            · unfold itX
              rw [if_pos (by omega), show (nxt c s 44).1 = (num c s).1 by omega, show (n2 c s).1 = (num c (nxt c s 44).2).1 by omega, show (n3 c s).1 = (num c (n2 c s).2).1 by omega, show (n3 c s).2 = (num c (n2 c s).2).2 + 1 by omega]
              exact ⟨rfl, rd_other (hRd.fa hB5) (by omega) (by omega) (by omega)⟩
            · unfold itX
              rw [if_neg (by omega)]
          · have h71 := ite00 (Classical.not_not.mp c71)
            refine mRun.go (q_iconst dX9_readsOther_74) ?_
            refine r_zret dX9_readsOther_75 rfl (by simp) ?_
            have hx1 := nxt_or c s 44
            have hx2 : ((n2 c s).1 = -1 ∧ ((num c (nxt c s 44).2).1 = -1 ∨ ¬ c (num c (nxt c s 44).2).2 = 44)) ∨ ((n2 c s).1 = (num c (nxt c s 44).2).1 ∧ (n2 c s).2 = (num c (nxt c s 44).2).2 + 1 ∧ ¬ (num c (nxt c s 44).2).1 = -1 ∧ c (num c (nxt c s 44).2).2 = 44) := nxt_or c (nxt c s 44).2 44
            have hx3 : ((n3 c s).1 = -1 ∧ ((num c (n2 c s).2).1 = -1 ∨ ¬ c (num c (n2 c s).2).2 = 59)) ∨ ((n3 c s).1 = (num c (n2 c s).2).1 ∧ (n3 c s).2 = (num c (n2 c s).2).2 + 1 ∧ ¬ (num c (n2 c s).2).1 = -1 ∧ c (num c (n2 c s).2).2 = 59) := nxt_or c (n2 c s).2 59
            have e : (itX c R s).1 = -1 := by unfold itX; rw [if_neg (by omega)]
            exact ⟨0, K5, rfl, rfl, hK5, frm_fa hB5, by first | omega | (rw [hat15]; split <;> omega), ir_no e⟩
        · have h55 := ite00 (Classical.not_not.mp c55)
          refine mRun.go (q_iconst dX9_readsOther_58) ?_
          refine r_zret dX9_readsOther_59 rfl (by simp) ?_
          have hx1 := nxt_or c s 44
          have hx2 : ((n2 c s).1 = -1 ∧ ((num c (nxt c s 44).2).1 = -1 ∨ ¬ c (num c (nxt c s 44).2).2 = 44)) ∨ ((n2 c s).1 = (num c (nxt c s 44).2).1 ∧ (n2 c s).2 = (num c (nxt c s 44).2).2 + 1 ∧ ¬ (num c (nxt c s 44).2).1 = -1 ∧ c (num c (nxt c s 44).2).2 = 44) := nxt_or c (nxt c s 44).2 44
          have hx3 : ((n3 c s).1 = -1 ∧ ((num c (n2 c s).2).1 = -1 ∨ ¬ c (num c (n2 c s).2).2 = 59)) ∨ ((n3 c s).1 = (num c (n2 c s).2).1 ∧ (n3 c s).2 = (num c (n2 c s).2).2 + 1 ∧ ¬ (num c (n2 c s).2).1 = -1 ∧ c (num c (n2 c s).2).2 = 59) := nxt_or c (n2 c s).2 59
          have e : (itX c R s).1 = -1 := by unfold itX; rw [if_neg (by omega)]
          exact ⟨0, K4, rfl, rfl, hK4, frm_fa hB4, by first | omega | (rw [hat14]; split <;> omega), ir_no e⟩
    · have h20 := ite00 (Classical.not_not.mp c20)
      refine mRun.go (q_iconst dX9_readsOther_23) ?_
      refine r_zret dX9_readsOther_24 rfl (by simp) ?_
      have hx1 := nxt_or c s 44
      have hx2 : ((n2 c s).1 = -1 ∧ ((num c (nxt c s 44).2).1 = -1 ∨ ¬ c (num c (nxt c s 44).2).2 = 44)) ∨ ((n2 c s).1 = (num c (nxt c s 44).2).1 ∧ (n2 c s).2 = (num c (nxt c s 44).2).2 + 1 ∧ ¬ (num c (nxt c s 44).2).1 = -1 ∧ c (num c (nxt c s 44).2).2 = 44) := nxt_or c (nxt c s 44).2 44
      have hx3 : ((n3 c s).1 = -1 ∧ ((num c (n2 c s).2).1 = -1 ∨ ¬ c (num c (n2 c s).2).2 = 59)) ∨ ((n3 c s).1 = (num c (n2 c s).2).1 ∧ (n3 c s).2 = (num c (n2 c s).2).2 + 1 ∧ ¬ (num c (n2 c s).2).1 = -1 ∧ c (num c (n2 c s).2).2 = 59) := nxt_or c (n2 c s).2 59
      have e : (itX c R s).1 = -1 := by unfold itX; rw [if_neg (by omega)]
      exact ⟨0, K2, rfl, rfl, hK2, frm_fa hB2, by first | omega | (rw [hat12]; split <;> omega), ir_no e⟩

set_option maxRecDepth 100000 in
theorem m_readsTraveller {σ : List mC} {I : mI} {c : Int → Int} {Ln s : Int} {R : Rd} (hI : Nrm I) (hD : IsMd σ) (hT : TM I c Ln) (hat : I 144 27 = s) (hs : 0 ≤ s ∧ s ≤ 300) (hRd : RdM I R) (hok : RdOk R)  : mMt mX9_readsTraveller [mr 144] (σ, I) (fun v h => ∃ (b : Int) (K : mI), v = some (mi b) ∧ h = (σ, K) ∧ Nrm K ∧ FrM I K ∧ (0 ≤ K 144 27 ∧ K 144 27 ≤ s + 12) ∧ IR c (itT c R s) b K) := by
  refine mMt.of pl_9 (Nat.le_of_ble_eq_true rfl) ?_
  show mRun mZt mX9_readsTraveller 0 [some (mr 144), none, none] [] (σ, I) _
  have hpl := pl_rng hok
  have hpq : rRows R * rWid R = rPl R := rfl
  obtain ⟨ok1, ok2, ok3, ok4, ok5, ok6, ok7, ok8, ok9, ok10⟩ := id hok
  refine mRun.go (q_aload_n dX9_readsTraveller_0 rfl rfl) ?_
  refine mRun.go (q_getE (x := rNt R) dX9_readsTraveller_1 fo_X9_82 hD.1 rfl hRd.2.2.2.2.2.2.1) ?_
  refine mRun.go (q_iconst dX9_readsTraveller_4) ?_
  refine r_icmp_eq (tgt := 36) dX9_readsTraveller_5 (by decide) (by omega) (by omega) (fun c5 => ?_) (fun c5 => ?_)
  · refine mRun.go (q_iconst dX9_readsTraveller_36) ?_
    refine r_zret dX9_readsTraveller_37 rfl (by simp) ?_
    have hx1 := nxt_or c s 44
    have hx2 : ((n2 c s).1 = -1 ∧ ((num c (nxt c s 44).2).1 = -1 ∨ ¬ c (num c (nxt c s 44).2).2 = 44)) ∨ ((n2 c s).1 = (num c (nxt c s 44).2).1 ∧ (n2 c s).2 = (num c (nxt c s 44).2).2 + 1 ∧ ¬ (num c (nxt c s 44).2).1 = -1 ∧ c (num c (nxt c s 44).2).2 = 44) := nxt_or c (nxt c s 44).2 44
    have hx3 : ((n3 c s).1 = -1 ∧ ((num c (n2 c s).2).1 = -1 ∨ ¬ c (num c (n2 c s).2).2 = 59)) ∨ ((n3 c s).1 = (num c (n2 c s).2).1 ∧ (n3 c s).2 = (num c (n2 c s).2).2 + 1 ∧ ¬ (num c (n2 c s).2).1 = -1 ∧ c (num c (n2 c s).2).2 = 59) := nxt_or c (n2 c s).2 59
    have e : (itT c R s).1 = -1 := by unfold itT; rw [if_neg (by omega)]
    exact ⟨0, I, rfl, rfl, hI, frm_rf, by omega, ir_no e⟩
  · refine mRun.go (q_aload_n dX9_readsTraveller_8 rfl rfl) ?_
    refine mRun.go (q_iconst dX9_readsTraveller_9) ?_
    refine mRun.go (q_aload_n dX9_readsTraveller_10 rfl rfl) ?_
    refine mRun.go (q_getE (x := rRows R) dX9_readsTraveller_11 fo_X9_76 hD.1 rfl hRd.1) ?_
    refine mRun.go (q_aload_n dX9_readsTraveller_14 rfl rfl) ?_
    refine mRun.go (q_getE (x := rWid R) dX9_readsTraveller_15 fo_X9_79 hD.1 rfl hRd.2.1) ?_
    refine mRun.go (q_imul dX9_readsTraveller_18) ?_
    refine mRun.go (q_iconst dX9_readsTraveller_19) ?_
    refine mRun.go (q_isub dX9_readsTraveller_20) ?_
    have hnr0 := num_rng c s
    obtain ⟨v1, h1, hc1, rfl, K1, rfl, hK1, hA1, hat11, hval1⟩ := m_number (s := s) (most := ((rRows R) * (rWid R)) - 1) hI hD hT hat (by omega) (by omega)
    have hB1 := fra_tr fra_rf hA1
    refine mRun.go (q_callVi (r := 144) [mi 0, mi (((rRows R) * (rWid R)) - 1)] [] dX9_readsTraveller_21 co_X9_143 ⟨Nat.le_of_ble_eq_true rfl, Nat.le_of_ble_eq_true rfl⟩ gw_890 gs_33 rfl hD.1 rfl rfl rfl (Nat.le_of_ble_eq_true rfl) hc1) ?_
    refine r_if_eq (tgt := 36) dX9_readsTraveller_24 (by decide) (by split <;> omega) (fun c24 => ?_) (fun c24 => ?_)
    · have h24 := ite00 c24
      refine mRun.go (q_iconst dX9_readsTraveller_36) ?_
      refine r_zret dX9_readsTraveller_37 rfl (by simp) ?_
      have hx1 := nxt_or c s 44
      have hx2 : ((n2 c s).1 = -1 ∧ ((num c (nxt c s 44).2).1 = -1 ∨ ¬ c (num c (nxt c s 44).2).2 = 44)) ∨ ((n2 c s).1 = (num c (nxt c s 44).2).1 ∧ (n2 c s).2 = (num c (nxt c s 44).2).2 + 1 ∧ ¬ (num c (nxt c s 44).2).1 = -1 ∧ c (num c (nxt c s 44).2).2 = 44) := nxt_or c (nxt c s 44).2 44
      have hx3 : ((n3 c s).1 = -1 ∧ ((num c (n2 c s).2).1 = -1 ∨ ¬ c (num c (n2 c s).2).2 = 59)) ∨ ((n3 c s).1 = (num c (n2 c s).2).1 ∧ (n3 c s).2 = (num c (n2 c s).2).2 + 1 ∧ ¬ (num c (n2 c s).2).1 = -1 ∧ c (num c (n2 c s).2).2 = 59) := nxt_or c (n2 c s).2 59
      have e : (itT c R s).1 = -1 := by unfold itT; rw [if_neg (by omega)]
      exact ⟨0, K1, rfl, rfl, hK1, frm_fa hB1, by first | omega | (rw [hat11]; split <;> omega), ir_no e⟩
    · have h24 := ite01 c24
      refine mRun.go (q_aload_n dX9_readsTraveller_27 rfl rfl) ?_
      refine mRun.go (q_bipush dX9_readsTraveller_28 (by decide)) ?_
      obtain ⟨v2, h2, hc2, rfl, K2, rfl, hK2, hA2, hat12, hq2⟩ := m_takes2 (s := (num c s).2) (a := 44) hK1 hD (hT.fr (frm_fa hB1)) hat11 (by omega) (Or.inl rfl)
      have hB2 := fra_tr hB1 hA2
      refine mRun.go (q_callVi (r := 144) [mi 44] [] dX9_readsTraveller_30 co_X9_147 ⟨Nat.le_of_ble_eq_true rfl, Nat.le_of_ble_eq_true rfl⟩ gw_902 gs_35 rfl hD.1 rfl rfl rfl (Nat.le_of_ble_eq_true rfl) hc2) ?_
      refine r_if_ne (tgt := 38) dX9_readsTraveller_33 (by decide) (by split <;> omega) (fun c33 => ?_) (fun c33 => ?_)
      · have h33 := ite01 c33
        have hx1 := nxt_or c s 44
        have hat1 : K2 144 27 = (nxt c s 44).2 := by rw [hat12, if_pos (by omega)]; omega
        have hv1 : K2 144 28 = (num c s).1 := hq2.trans (hval1 (by omega))
        refine mRun.go (q_aload_n dX9_readsTraveller_38 rfl rfl) ?_
        refine mRun.go (q_getE (x := (num c s).1) dX9_readsTraveller_39 fo_X9_136 hD.1 rfl hv1) ?_
        refine mRun.go (q_istore_n (ls' := [some (mr 144), some (mi ((num c s).1)), none]) dX9_readsTraveller_42 rfl (Nat.le_of_ble_eq_true rfl) rfl) ?_
        refine mRun.go (q_aload_n dX9_readsTraveller_43 rfl rfl) ?_
        refine mRun.go (q_iconst dX9_readsTraveller_44) ?_
        refine mRun.go (q_aload_n dX9_readsTraveller_45 rfl rfl) ?_
        refine mRun.go (q_getE (x := rRows R) dX9_readsTraveller_46 fo_X9_76 hD.1 rfl (hRd.fa hB2).1) ?_
        refine mRun.go (q_aload_n dX9_readsTraveller_49 rfl rfl) ?_
        refine mRun.go (q_getE (x := rWid R) dX9_readsTraveller_50 fo_X9_79 hD.1 rfl (hRd.fa hB2).2.1) ?_
        refine mRun.go (q_imul dX9_readsTraveller_53) ?_
        refine mRun.go (q_iconst dX9_readsTraveller_54) ?_
        refine mRun.go (q_isub dX9_readsTraveller_55) ?_
        have hnr1 := num_rng c ((nxt c s 44).2)
        obtain ⟨v3, h3, hc3, rfl, K3, rfl, hK3, hA3, hat13, hval3⟩ := m_number (s := (nxt c s 44).2) (most := ((rRows R) * (rWid R)) - 1) hK2 hD (hT.fr (frm_fa hB2)) hat1 (by omega) (by omega)
        have hB3 := fra_tr hB2 hA3
        refine mRun.go (q_callVi (r := 144) [mi 0, mi (((rRows R) * (rWid R)) - 1)] [] dX9_readsTraveller_56 co_X9_143 ⟨Nat.le_of_ble_eq_true rfl, Nat.le_of_ble_eq_true rfl⟩ gw_890 gs_33 rfl hD.1 rfl rfl rfl (Nat.le_of_ble_eq_true rfl) hc3) ?_
        refine r_if_eq (tgt := 71) dX9_readsTraveller_59 (by decide) (by split <;> omega) (fun c59 => ?_) (fun c59 => ?_)
        · have h59 := ite00 c59
          refine mRun.go (q_iconst dX9_readsTraveller_71) ?_
          refine r_zret dX9_readsTraveller_72 rfl (by simp) ?_
          have hx1 := nxt_or c s 44
          have hx2 : ((n2 c s).1 = -1 ∧ ((num c (nxt c s 44).2).1 = -1 ∨ ¬ c (num c (nxt c s 44).2).2 = 44)) ∨ ((n2 c s).1 = (num c (nxt c s 44).2).1 ∧ (n2 c s).2 = (num c (nxt c s 44).2).2 + 1 ∧ ¬ (num c (nxt c s 44).2).1 = -1 ∧ c (num c (nxt c s 44).2).2 = 44) := nxt_or c (nxt c s 44).2 44
          have hx3 : ((n3 c s).1 = -1 ∧ ((num c (n2 c s).2).1 = -1 ∨ ¬ c (num c (n2 c s).2).2 = 59)) ∨ ((n3 c s).1 = (num c (n2 c s).2).1 ∧ (n3 c s).2 = (num c (n2 c s).2).2 + 1 ∧ ¬ (num c (n2 c s).2).1 = -1 ∧ c (num c (n2 c s).2).2 = 59) := nxt_or c (n2 c s).2 59
          have e : (itT c R s).1 = -1 := by unfold itT; rw [if_neg (by omega)]
          exact ⟨0, K3, rfl, rfl, hK3, frm_fa hB3, by first | omega | (rw [hat13]; split <;> omega), ir_no e⟩
        · have h59 := ite01 c59
          refine mRun.go (q_aload_n dX9_readsTraveller_62 rfl rfl) ?_
          refine mRun.go (q_bipush dX9_readsTraveller_63 (by decide)) ?_
          obtain ⟨v4, h4, hc4, rfl, K4, rfl, hK4, hA4, hat14, hq4⟩ := m_takes2 (s := (num c ((nxt c s 44).2)).2) (a := 44) hK3 hD (hT.fr (frm_fa hB3)) hat13 (by omega) (Or.inl rfl)
          have hB4 := fra_tr hB3 hA4
          refine mRun.go (q_callVi (r := 144) [mi 44] [] dX9_readsTraveller_65 co_X9_147 ⟨Nat.le_of_ble_eq_true rfl, Nat.le_of_ble_eq_true rfl⟩ gw_902 gs_35 rfl hD.1 rfl rfl rfl (Nat.le_of_ble_eq_true rfl) hc4) ?_
          refine r_if_ne (tgt := 73) dX9_readsTraveller_68 (by decide) (by split <;> omega) (fun c68 => ?_) (fun c68 => ?_)
          · have h68 := ite01 c68
            have hx2 : ((n2 c s).1 = -1 ∧ ((num c (nxt c s 44).2).1 = -1 ∨ ¬ c (num c (nxt c s 44).2).2 = 44)) ∨ ((n2 c s).1 = (num c (nxt c s 44).2).1 ∧ (n2 c s).2 = (num c (nxt c s 44).2).2 + 1 ∧ ¬ (num c (nxt c s 44).2).1 = -1 ∧ c (num c (nxt c s 44).2).2 = 44) := nxt_or c (nxt c s 44).2 44
            have hat2 : K4 144 27 = (n2 c s).2 := by rw [hat14, if_pos (by omega)]; omega
            have hv2 : K4 144 28 = (num c ((nxt c s 44).2)).1 := hq4.trans (hval3 (by omega))
            refine mRun.go (q_aload_n dX9_readsTraveller_73 rfl rfl) ?_
            refine mRun.go (q_getE (x := (num c ((nxt c s 44).2)).1) dX9_readsTraveller_74 fo_X9_136 hD.1 rfl hv2) ?_
            refine mRun.go (q_istore_n (ls' := [some (mr 144), some (mi ((num c s).1)), some (mi ((num c ((nxt c s 44).2)).1))]) dX9_readsTraveller_77 rfl (Nat.le_of_ble_eq_true rfl) rfl) ?_
            refine mRun.go (q_aload_n dX9_readsTraveller_78 rfl rfl) ?_
            refine mRun.go (q_iconst dX9_readsTraveller_79) ?_
            refine mRun.go (q_aload_n dX9_readsTraveller_80 rfl rfl) ?_
            refine mRun.go (q_getE (x := rDr R) dX9_readsTraveller_81 fo_X9_62 hD.1 rfl (hRd.fa hB4).2.2.2.1) ?_
            refine mRun.go (q_iconst dX9_readsTraveller_84) ?_
            refine mRun.go (q_isub dX9_readsTraveller_85) ?_
            have hnr2 := num_rng c ((n2 c s).2)
            obtain ⟨v5, h5, hc5, rfl, K5, rfl, hK5, hA5, hat15, hval5⟩ := m_number (s := (n2 c s).2) (most := (rDr R) - 1) hK4 hD (hT.fr (frm_fa hB4)) hat2 (by omega) (by omega)
            have hB5 := fra_tr hB4 hA5
            refine mRun.go (q_callVi (r := 144) [mi 0, mi ((rDr R) - 1)] [] dX9_readsTraveller_86 co_X9_143 ⟨Nat.le_of_ble_eq_true rfl, Nat.le_of_ble_eq_true rfl⟩ gw_890 gs_33 rfl hD.1 rfl rfl rfl (Nat.le_of_ble_eq_true rfl) hc5) ?_
            refine r_if_ne (tgt := 94) dX9_readsTraveller_89 (by decide) (by split <;> omega) (fun c89 => ?_) (fun c89 => ?_)
            · have h89 := ite01 c89
              refine mRun.go (q_aload_n dX9_readsTraveller_94 rfl rfl) ?_
              refine mRun.go (q_iload_n dX9_readsTraveller_95 rfl rfl) ?_
              refine mRun.go (q_iload_n dX9_readsTraveller_96 rfl rfl) ?_
              refine mRun.go (q_aload_n dX9_readsTraveller_97 rfl rfl) ?_
              refine mRun.go (q_getE (x := (num c ((n2 c s).2)).1) dX9_readsTraveller_98 fo_X9_136 hD.1 rfl (hval5 (by omega))) ?_
              have hNT : Nrm (mup (mup (mup (mup K5 156 (rNt R).toNat ((num c s).1)) 157 (rNt R).toNat ((num c ((nxt c s 44).2)).1)) 158 (rNt R).toNat ((num c ((n2 c s).2)).1)) 144 22 (rNt R + 1)) := nrm_mup (nrm_mup (nrm_mup (nrm_mup hK5 (by omega)) (by omega)) (by omega)) (by omega)
              refine mRun.go (q_callVv (r := 144) [mi ((num c s).1), mi ((num c ((nxt c s 44).2)).1), mi ((num c ((n2 c s).2)).1)] [] dX9_readsTraveller_101 co_X9_66 ⟨Nat.le_of_ble_eq_true rfl, Nat.le_of_ble_eq_true rfl⟩ gw_748 gs_26 rfl hD.1 rfl rfl rfl (Nat.le_of_ble_eq_true rfl) (m_laysTraveller hK5 hD (hRd.fa hB5).2.2.2.2.2.2.1 (by omega) (by omega) (by omega) (by omega))) ?_
              refine mRun.go (q_iconst dX9_readsTraveller_104) ?_
              refine r_zret dX9_readsTraveller_105 rfl (by simp) ?_
              have hx3 : ((n3 c s).1 = -1 ∧ ((num c (n2 c s).2).1 = -1 ∨ ¬ c (num c (n2 c s).2).2 = 59)) ∨ ((n3 c s).1 = (num c (n2 c s).2).1 ∧ (n3 c s).2 = (num c (n2 c s).2).2 + 1 ∧ ¬ (num c (n2 c s).2).1 = -1 ∧ c (num c (n2 c s).2).2 = 59) := nxt_or c (n2 c s).2 59
              have e27 : (mup (mup (mup (mup K5 156 ((rNt R).toNat) ((num c s).1)) 157 ((rNt R).toNat) ((num c ((nxt c s 44).2)).1)) 158 ((rNt R).toNat) ((num c ((n2 c s).2)).1)) 144 22 (rNt R + 1)) 144 27 = (num c ((n2 c s).2)).2 := by rw [mup_ne2 (by decide), mup_ne (by decide), mup_ne (by decide), mup_ne (by decide)]; exact hat15
              refine ⟨1, _, rfl, rfl, hNT, frm_tr (frm_fa hB5) ⟨fun r a b d => by rw [mup_nf a, mup_nf (by omega), mup_nf (by omega), mup_nf (by omega)], fun k hk => by rw [mup_ne2 (by omega), mup_ne (by decide), mup_ne (by decide), mup_ne (by decide)]⟩, by rw [e27]; omega, ir_yes e27 (fun q => ?_) (fun q => ?_)⟩
              · unfold itT
                rw [if_pos (by omega), show (nxt c s 44).1 = (num c s).1 by omega, show (n2 c s).1 = (num c (nxt c s 44).2).1 by omega, show (n3 c s).1 = (num c (n2 c s).2).1 by omega, show (n3 c s).2 = (num c (n2 c s).2).2 + 1 by omega]
                exact ⟨rfl, rd_trav (hRd.fa hB5) (by omega)⟩
              · unfold itT
                rw [if_neg (by omega)]
            · have h89 := ite00 (Classical.not_not.mp c89)
              refine mRun.go (q_iconst dX9_readsTraveller_92) ?_
              refine r_zret dX9_readsTraveller_93 rfl (by simp) ?_
              have hx1 := nxt_or c s 44
              have hx2 : ((n2 c s).1 = -1 ∧ ((num c (nxt c s 44).2).1 = -1 ∨ ¬ c (num c (nxt c s 44).2).2 = 44)) ∨ ((n2 c s).1 = (num c (nxt c s 44).2).1 ∧ (n2 c s).2 = (num c (nxt c s 44).2).2 + 1 ∧ ¬ (num c (nxt c s 44).2).1 = -1 ∧ c (num c (nxt c s 44).2).2 = 44) := nxt_or c (nxt c s 44).2 44
              have hx3 : ((n3 c s).1 = -1 ∧ ((num c (n2 c s).2).1 = -1 ∨ ¬ c (num c (n2 c s).2).2 = 59)) ∨ ((n3 c s).1 = (num c (n2 c s).2).1 ∧ (n3 c s).2 = (num c (n2 c s).2).2 + 1 ∧ ¬ (num c (n2 c s).2).1 = -1 ∧ c (num c (n2 c s).2).2 = 59) := nxt_or c (n2 c s).2 59
              have e : (itT c R s).1 = -1 := by unfold itT; rw [if_neg (by omega)]
              exact ⟨0, K5, rfl, rfl, hK5, frm_fa hB5, by first | omega | (rw [hat15]; split <;> omega), ir_no e⟩
          · have h68 := ite00 (Classical.not_not.mp c68)
            refine mRun.go (q_iconst dX9_readsTraveller_71) ?_
            refine r_zret dX9_readsTraveller_72 rfl (by simp) ?_
            have hx1 := nxt_or c s 44
            have hx2 : ((n2 c s).1 = -1 ∧ ((num c (nxt c s 44).2).1 = -1 ∨ ¬ c (num c (nxt c s 44).2).2 = 44)) ∨ ((n2 c s).1 = (num c (nxt c s 44).2).1 ∧ (n2 c s).2 = (num c (nxt c s 44).2).2 + 1 ∧ ¬ (num c (nxt c s 44).2).1 = -1 ∧ c (num c (nxt c s 44).2).2 = 44) := nxt_or c (nxt c s 44).2 44
            have hx3 : ((n3 c s).1 = -1 ∧ ((num c (n2 c s).2).1 = -1 ∨ ¬ c (num c (n2 c s).2).2 = 59)) ∨ ((n3 c s).1 = (num c (n2 c s).2).1 ∧ (n3 c s).2 = (num c (n2 c s).2).2 + 1 ∧ ¬ (num c (n2 c s).2).1 = -1 ∧ c (num c (n2 c s).2).2 = 59) := nxt_or c (n2 c s).2 59
            have e : (itT c R s).1 = -1 := by unfold itT; rw [if_neg (by omega)]
            exact ⟨0, K4, rfl, rfl, hK4, frm_fa hB4, by first | omega | (rw [hat14]; split <;> omega), ir_no e⟩
      · have h33 := ite00 (Classical.not_not.mp c33)
        refine mRun.go (q_iconst dX9_readsTraveller_36) ?_
        refine r_zret dX9_readsTraveller_37 rfl (by simp) ?_
        have hx1 := nxt_or c s 44
        have hx2 : ((n2 c s).1 = -1 ∧ ((num c (nxt c s 44).2).1 = -1 ∨ ¬ c (num c (nxt c s 44).2).2 = 44)) ∨ ((n2 c s).1 = (num c (nxt c s 44).2).1 ∧ (n2 c s).2 = (num c (nxt c s 44).2).2 + 1 ∧ ¬ (num c (nxt c s 44).2).1 = -1 ∧ c (num c (nxt c s 44).2).2 = 44) := nxt_or c (nxt c s 44).2 44
        have hx3 : ((n3 c s).1 = -1 ∧ ((num c (n2 c s).2).1 = -1 ∨ ¬ c (num c (n2 c s).2).2 = 59)) ∨ ((n3 c s).1 = (num c (n2 c s).2).1 ∧ (n3 c s).2 = (num c (n2 c s).2).2 + 1 ∧ ¬ (num c (n2 c s).2).1 = -1 ∧ c (num c (n2 c s).2).2 = 59) := nxt_or c (n2 c s).2 59
        have e : (itT c R s).1 = -1 := by unfold itT; rw [if_neg (by omega)]
        exact ⟨0, K2, rfl, rfl, hK2, frm_fa hB2, by first | omega | (rw [hat12]; split <;> omega), ir_no e⟩
