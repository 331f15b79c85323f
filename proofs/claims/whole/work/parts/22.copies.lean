/-! ===== copies ===== -/
theorem nrm_tget {I J : mI} {r q : Nat} (h : Nrm J) (hI : Nrm I) : Nrm (tset J r (tget I q)) := nrm_tset h (hI _ _) (hI _ _) (hI _ _) (hI _ _) (hI _ _) (hI _ _)
theorem k_whoE {σ : List mC} {I : mI} {f t : Nat} {i : Int} (hf : IsForest σ f) (ht : t < 4) (e : i = (t : Int)) : mCt mX0_who [mr f, mi i] (σ, I) (some (mr (f + 4 + t))) (σ, I) := by
  subst e
  exact k_whoN hf ht
theorem k_tcopyE {σ : List mC} {I : mI} {r o : Nat} {tv : Tv} (hr : IsTrv σ r) (ho : IsTrv σ o) (hne : o ≠ r) (hI : Nrm I) (e : tget I o = tv) : mCt mX6_copyFrom [mr r, mr o] (σ, I) none (σ, tset I r tv) := by
  subst e
  exact k_tcopy hr ho hne hI
theorem tget_mcp_ne {I : mI} {r1 r0 sp dp n q : Nat} (h : q ≠ r1) : tget (mcp I r1 r0 sp dp n) q = tget I q := by simp [tget, mcp, h]
theorem tget_mup_ne {I : mI} {r k q : Nat} {x : Int} (h : q ≠ r) : tget (mup I r k x) q = tget I q := by simp [tget, mup, h]
/-- a forest copied: g into f -/
def fcp (I : mI) (f g : Nat) : mI := fun r k => if f ≤ r ∧ ((r = f ∧ (k = 2 ∨ k = 3)) ∨ (r = f + 1 + 1 ∧ k < 144) ∨ (f + 4 ≤ r ∧ r ≤ f + 7 ∧ k < 6)) then I (g + (r - f)) k else I r k
theorem nrm_fcp {I : mI} {f g : Nat} (h : Nrm I) : Nrm (fcp I f g) := by
  intro r k
  unfold fcp
  split
  · exact h _ _
  · exact h _ _
theorem fcp_fr {I : mI} {f g r : Nat} (h : r < f ∨ f + 7 < r) : fcp I f g r = I r := by
  funext k
  unfold fcp
  rw [if_neg (by omega)]
theorem fcp_eq {I : mI} {f g : Nat} (hd : f + 8 ≤ g ∨ g + 8 ≤ f) : mup (mup (tset (tset (tset (tset (mcp I (f + 1 + 1) (g + 1 + 1) 0 0 144) (f + 4 + 0) (tget I (g + 4 + 0))) (f + 4 + 1) (tget I (g + 4 + 1))) (f + 4 + 2) (tget I (g + 4 + 2))) (f + 4 + 3) (tget I (g + 4 + 3))) f 2 (I g 2)) f 3 (I g 3) = fcp I f g := by
  funext r k
  by_cases h0 : r = f
  · subst h0
    unfold fcp
    by_cases h2 : k = 2
    · subst h2; simp [mup]
    · by_cases h3 : k = 3
      · subst h3; simp [mup]
      · rw [if_neg (by omega)]
        simp only [mup]
        rw [if_neg (by omega), if_neg (by omega), tset_ne (by omega), tset_ne (by omega), tset_ne (by omega), tset_ne (by omega), mcp_ne (by omega)]
  · have e1 : ∀ (J : mI) (j : Nat) (x : Int), mup J f j x r k = J r k := fun J j x => mup_ne h0
    rw [e1, e1]
    by_cases h7 : r = f + 4 + 3
    · subst h7
      unfold fcp
      match k with
      | 0 => (simp [tset, tget, show f + 4 + 3 - f = 7 by omega]; try (intro h; omega))
      | 1 => (simp [tset, tget, show f + 4 + 3 - f = 7 by omega]; try (intro h; omega))
      | 2 => (simp [tset, tget, show f + 4 + 3 - f = 7 by omega]; try (intro h; omega))
      | 3 => (simp [tset, tget, show f + 4 + 3 - f = 7 by omega]; try (intro h; omega))
      | 4 => (simp [tset, tget, show f + 4 + 3 - f = 7 by omega]; try (intro h; omega))
      | 5 => (simp [tset, tget, show f + 4 + 3 - f = 7 by omega]; try (intro h; omega))
      | n + 6 => rw [if_neg (by omega)]; simp [tset, mcp]
    · rw [tset_ne h7]
      by_cases h6 : r = f + 4 + 2
      · subst h6
        unfold fcp
        match k with
        | 0 => (simp [tset, tget, show f + 4 + 2 - f = 6 by omega]; try (intro h; omega))
        | 1 => (simp [tset, tget, show f + 4 + 2 - f = 6 by omega]; try (intro h; omega))
        | 2 => (simp [tset, tget, show f + 4 + 2 - f = 6 by omega]; try (intro h; omega))
        | 3 => (simp [tset, tget, show f + 4 + 2 - f = 6 by omega]; try (intro h; omega))
        | 4 => (simp [tset, tget, show f + 4 + 2 - f = 6 by omega]; try (intro h; omega))
        | 5 => (simp [tset, tget, show f + 4 + 2 - f = 6 by omega]; try (intro h; omega))
        | n + 6 => rw [if_neg (by omega)]; simp [tset, mcp]
      · rw [tset_ne h6]
        by_cases h5 : r = f + 4 + 1
        · subst h5
          unfold fcp
          match k with
          | 0 => (simp [tset, tget, show f + 4 + 1 - f = 5 by omega]; try (intro h; omega))
          | 1 => (simp [tset, tget, show f + 4 + 1 - f = 5 by omega]; try (intro h; omega))
          | 2 => (simp [tset, tget, show f + 4 + 1 - f = 5 by omega]; try (intro h; omega))
          | 3 => (simp [tset, tget, show f + 4 + 1 - f = 5 by omega]; try (intro h; omega))
          | 4 => (simp [tset, tget, show f + 4 + 1 - f = 5 by omega]; try (intro h; omega))
          | 5 => (simp [tset, tget, show f + 4 + 1 - f = 5 by omega]; try (intro h; omega))
          | n + 6 => rw [if_neg (by omega)]; simp [tset, mcp]
        · rw [tset_ne h5]
          by_cases h4 : r = f + 4 + 0
          · subst h4
            unfold fcp
            match k with
            | 0 => (simp [tset, tget, show f + 4 - f = 4 by omega]; try (intro h; omega))
            | 1 => (simp [tset, tget, show f + 4 - f = 4 by omega]; try (intro h; omega))
            | 2 => (simp [tset, tget, show f + 4 - f = 4 by omega]; try (intro h; omega))
            | 3 => (simp [tset, tget, show f + 4 - f = 4 by omega]; try (intro h; omega))
            | 4 => (simp [tset, tget, show f + 4 - f = 4 by omega]; try (intro h; omega))
            | 5 => (simp [tset, tget, show f + 4 - f = 4 by omega]; try (intro h; omega))
            | n + 6 => rw [if_neg (by omega)]; simp [tset, mcp]
          · rw [tset_ne h4]
            by_cases h1 : r = f + 1 + 1
            · subst h1
              unfold fcp mcp
              by_cases hk : k < 144
              · rw [if_pos rfl, if_pos ⟨by omega, by omega⟩, if_pos ⟨by omega, Or.inr (Or.inl ⟨rfl, hk⟩)⟩]
                rw [show 0 + (k - 0) = k by omega, show g + (f + 1 + 1 - f) = g + 1 + 1 by omega]
              · rw [if_pos rfl, if_neg (by omega), if_neg (by omega)]
            · rw [mcp_ne h1]
              unfold fcp
              rw [if_neg (by omega)]

set_option maxRecDepth 100000 in
theorem k_fcopy {σ : List mC} {I : mI} {f g : Nat} (hf : IsForest σ f) (hg : IsForest σ g) (hI : Nrm I) (hd : f + 8 ≤ g ∨ g + 8 ≤ f) : mCt mX0_copyFrom [mr f, mr g] (σ, I) none (σ, fcp I f g) := by
  refine mCt.eq ?_
  refine mMt.of pl_0 (Nat.le_of_ble_eq_true rfl) ?_
  show mRun mZt mX0_copyFrom 0 [some (mr f), some (mr g), none] [] (σ, I) _
  refine mRun.go (q_aload_n dX0_copyFrom_0 rfl rfl) ?_
  refine mRun.go (q_getR dX0_copyFrom_1 fo_X0_14 hf.1 rfl) ?_
  refine mRun.go (q_aload_n dX0_copyFrom_4 rfl rfl) ?_
  refine mRun.go (q_getR dX0_copyFrom_5 fo_X0_14 hg.1 rfl) ?_
  refine mRun.go (q_callVv (r := f + 1) [mr (g + 1)] [] dX0_copyFrom_8 co_X0_66 ⟨Nat.le_of_ble_eq_true rfl, Nat.le_of_ble_eq_true rfl⟩ gw_368 gw_369 rfl hf.2.1.1 rfl rfl rfl (Nat.le_of_ble_eq_true rfl) (k_rcopy hf.2.1 hg.2.1 (by omega) (by decide) (by decide))) ?_
  refine mRun.go (q_iconst dX0_copyFrom_11) ?_
  refine mRun.go (q_istore_n (ls' := [some (mr f), some (mr g), some (mi 0)]) dX0_copyFrom_12 rfl (Nat.le_of_ble_eq_true rfl) rfl) ?_
  refine mRun.go (q_iload_n dX0_copyFrom_13 rfl rfl) ?_
  refine mRun.go (q_iconst dX0_copyFrom_14) ?_
  refine mRun.go (q_icmp_ge_f (tgt := 37) dX0_copyFrom_15 (by decide) (by omega) (by omega) (by omega)) ?_
  refine mRun.go (q_aload_n dX0_copyFrom_18 rfl rfl) ?_
  refine mRun.go (q_iload_n dX0_copyFrom_19 rfl rfl) ?_
  refine mRun.go (q_callVi (r := f) [mi 0] [] dX0_copyFrom_20 co_X0_59 ⟨Nat.le_of_ble_eq_true rfl, Nat.le_of_ble_eq_true rfl⟩ gw_348 gw_349 rfl hf.1 rfl rfl rfl (Nat.le_of_ble_eq_true rfl) (k_whoE (t := 0) hf (by omega) (by omega))) ?_
  refine mRun.go (q_aload_n dX0_copyFrom_23 rfl rfl) ?_
  refine mRun.go (q_iload_n dX0_copyFrom_24 rfl rfl) ?_
  refine mRun.go (q_callVi (r := g) [mi 0] [mr (f + 4 + 0)] dX0_copyFrom_25 co_X0_59 ⟨Nat.le_of_ble_eq_true rfl, Nat.le_of_ble_eq_true rfl⟩ gw_348 gw_349 rfl hg.1 rfl rfl rfl (Nat.le_of_ble_eq_true rfl) (k_whoE (t := 0) hg (by omega) (by omega))) ?_
  refine mRun.go (q_callVv (r := f + 4 + 0) [mr (g + 4 + 0)] [] dX0_copyFrom_28 co_X0_70 ⟨Nat.le_of_ble_eq_true rfl, Nat.le_of_ble_eq_true rfl⟩ gw_392 gw_393 rfl (hf.2.2.2 0 (by omega)) rfl rfl rfl (Nat.le_of_ble_eq_true rfl) (k_tcopyE (hf.2.2.2 0 (by omega)) (hg.2.2.2 0 (by omega)) (by omega) (nrm_mcp hI) (by rw [tget_mcp_ne (by omega)]))) ?_
  refine mRun.go (q_iinc (ls' := [some (mr f), some (mr g), some (mi (0 + 1))]) dX0_copyFrom_31 rfl (Nat.le_of_ble_eq_true rfl) rfl) ?_
  refine mRun.go (q_goto (tgt := 13) dX0_copyFrom_34 (by decide)) ?_
  refine mRun.go (q_iload_n dX0_copyFrom_13 rfl rfl) ?_
  refine mRun.go (q_iconst dX0_copyFrom_14) ?_
  refine mRun.go (q_icmp_ge_f (tgt := 37) dX0_copyFrom_15 (by decide) (by omega) (by omega) (by omega)) ?_
  refine mRun.go (q_aload_n dX0_copyFrom_18 rfl rfl) ?_
  refine mRun.go (q_iload_n dX0_copyFrom_19 rfl rfl) ?_
  refine mRun.go (q_callVi (r := f) [mi (0 + 1)] [] dX0_copyFrom_20 co_X0_59 ⟨Nat.le_of_ble_eq_true rfl, Nat.le_of_ble_eq_true rfl⟩ gw_348 gw_349 rfl hf.1 rfl rfl rfl (Nat.le_of_ble_eq_true rfl) (k_whoE (t := 1) hf (by omega) (by omega))) ?_
  refine mRun.go (q_aload_n dX0_copyFrom_23 rfl rfl) ?_
  refine mRun.go (q_iload_n dX0_copyFrom_24 rfl rfl) ?_
  refine mRun.go (q_callVi (r := g) [mi (0 + 1)] [mr (f + 4 + 1)] dX0_copyFrom_25 co_X0_59 ⟨Nat.le_of_ble_eq_true rfl, Nat.le_of_ble_eq_true rfl⟩ gw_348 gw_349 rfl hg.1 rfl rfl rfl (Nat.le_of_ble_eq_true rfl) (k_whoE (t := 1) hg (by omega) (by omega))) ?_
  refine mRun.go (q_callVv (r := f + 4 + 1) [mr (g + 4 + 1)] [] dX0_copyFrom_28 co_X0_70 ⟨Nat.le_of_ble_eq_true rfl, Nat.le_of_ble_eq_true rfl⟩ gw_392 gw_393 rfl (hf.2.2.2 1 (by omega)) rfl rfl rfl (Nat.le_of_ble_eq_true rfl) (k_tcopyE (hf.2.2.2 1 (by omega)) (hg.2.2.2 1 (by omega)) (by omega) (nrm_tget (nrm_mcp hI) hI) (by rw [tget_tset_ne (by omega), tget_mcp_ne (by omega)]))) ?_
  refine mRun.go (q_iinc (ls' := [some (mr f), some (mr g), some (mi ((0 + 1) + 1))]) dX0_copyFrom_31 rfl (Nat.le_of_ble_eq_true rfl) rfl) ?_
  refine mRun.go (q_goto (tgt := 13) dX0_copyFrom_34 (by decide)) ?_
  refine mRun.go (q_iload_n dX0_copyFrom_13 rfl rfl) ?_
  refine mRun.go (q_iconst dX0_copyFrom_14) ?_
  refine mRun.go (q_icmp_ge_f (tgt := 37) dX0_copyFrom_15 (by decide) (by omega) (by omega) (by omega)) ?_
  refine mRun.go (q_aload_n dX0_copyFrom_18 rfl rfl) ?_
  refine mRun.go (q_iload_n dX0_copyFrom_19 rfl rfl) ?_
  refine mRun.go (q_callVi (r := f) [mi ((0 + 1) + 1)] [] dX0_copyFrom_20 co_X0_59 ⟨Nat.le_of_ble_eq_true rfl, Nat.le_of_ble_eq_true rfl⟩ gw_348 gw_349 rfl hf.1 rfl rfl rfl (Nat.le_of_ble_eq_true rfl) (k_whoE (t := 2) hf (by omega) (by omega))) ?_
  refine mRun.go (q_aload_n dX0_copyFrom_23 rfl rfl) ?_
  refine mRun.go (q_iload_n dX0_copyFrom_24 rfl rfl) ?_
  refine mRun.go (q_callVi (r := g) [mi ((0 + 1) + 1)] [mr (f + 4 + 2)] dX0_copyFrom_25 co_X0_59 ⟨Nat.le_of_ble_eq_true rfl, Nat.le_of_ble_eq_true rfl⟩ gw_348 gw_349 rfl hg.1 rfl rfl rfl (Nat.le_of_ble_eq_true rfl) (k_whoE (t := 2) hg (by omega) (by omega))) ?_
  refine mRun.go (q_callVv (r := f + 4 + 2) [mr (g + 4 + 2)] [] dX0_copyFrom_28 co_X0_70 ⟨Nat.le_of_ble_eq_true rfl, Nat.le_of_ble_eq_true rfl⟩ gw_392 gw_393 rfl (hf.2.2.2 2 (by omega)) rfl rfl rfl (Nat.le_of_ble_eq_true rfl) (k_tcopyE (hf.2.2.2 2 (by omega)) (hg.2.2.2 2 (by omega)) (by omega) (nrm_tget (nrm_tget (nrm_mcp hI) hI) hI) (by rw [tget_tset_ne (by omega), tget_tset_ne (by omega), tget_mcp_ne (by omega)]))) ?_
  refine mRun.go (q_iinc (ls' := [some (mr f), some (mr g), some (mi (((0 + 1) + 1) + 1))]) dX0_copyFrom_31 rfl (Nat.le_of_ble_eq_true rfl) rfl) ?_
  refine mRun.go (q_goto (tgt := 13) dX0_copyFrom_34 (by decide)) ?_
  refine mRun.go (q_iload_n dX0_copyFrom_13 rfl rfl) ?_
  refine mRun.go (q_iconst dX0_copyFrom_14) ?_
  refine mRun.go (q_icmp_ge_f (tgt := 37) dX0_copyFrom_15 (by decide) (by omega) (by omega) (by omega)) ?_
  refine mRun.go (q_aload_n dX0_copyFrom_18 rfl rfl) ?_
  refine mRun.go (q_iload_n dX0_copyFrom_19 rfl rfl) ?_
  refine mRun.go (q_callVi (r := f) [mi (((0 + 1) + 1) + 1)] [] dX0_copyFrom_20 co_X0_59 ⟨Nat.le_of_ble_eq_true rfl, Nat.le_of_ble_eq_true rfl⟩ gw_348 gw_349 rfl hf.1 rfl rfl rfl (Nat.le_of_ble_eq_true rfl) (k_whoE (t := 3) hf (by omega) (by omega))) ?_
  refine mRun.go (q_aload_n dX0_copyFrom_23 rfl rfl) ?_
  refine mRun.go (q_iload_n dX0_copyFrom_24 rfl rfl) ?_
  refine mRun.go (q_callVi (r := g) [mi (((0 + 1) + 1) + 1)] [mr (f + 4 + 3)] dX0_copyFrom_25 co_X0_59 ⟨Nat.le_of_ble_eq_true rfl, Nat.le_of_ble_eq_true rfl⟩ gw_348 gw_349 rfl hg.1 rfl rfl rfl (Nat.le_of_ble_eq_true rfl) (k_whoE (t := 3) hg (by omega) (by omega))) ?_
  refine mRun.go (q_callVv (r := f + 4 + 3) [mr (g + 4 + 3)] [] dX0_copyFrom_28 co_X0_70 ⟨Nat.le_of_ble_eq_true rfl, Nat.le_of_ble_eq_true rfl⟩ gw_392 gw_393 rfl (hf.2.2.2 3 (by omega)) rfl rfl rfl (Nat.le_of_ble_eq_true rfl) (k_tcopyE (hf.2.2.2 3 (by omega)) (hg.2.2.2 3 (by omega)) (by omega) (nrm_tget (nrm_tget (nrm_tget (nrm_mcp hI) hI) hI) hI) (by rw [tget_tset_ne (by omega), tget_tset_ne (by omega), tget_tset_ne (by omega), tget_mcp_ne (by omega)]))) ?_
  refine mRun.go (q_iinc (ls' := [some (mr f), some (mr g), some (mi ((((0 + 1) + 1) + 1) + 1))]) dX0_copyFrom_31 rfl (Nat.le_of_ble_eq_true rfl) rfl) ?_
  refine mRun.go (q_goto (tgt := 13) dX0_copyFrom_34 (by decide)) ?_
  refine mRun.go (q_iload_n dX0_copyFrom_13 rfl rfl) ?_
  refine mRun.go (q_iconst dX0_copyFrom_14) ?_
  refine mRun.go (q_icmp_ge_t (tgt := 37) dX0_copyFrom_15 (by decide) (by omega) (by omega) (by omega)) ?_
  refine mRun.go (q_aload_n dX0_copyFrom_37 rfl rfl) ?_
  refine mRun.go (q_aload_n dX0_copyFrom_38 rfl rfl) ?_
  refine mRun.go (q_getE (x := I g 2) dX0_copyFrom_39 fo_X0_30 hg.1 rfl (by rw [tset_ne (by omega), tset_ne (by omega), tset_ne (by omega), tset_ne (by omega), mcp_ne (by omega)])) ?_
  refine mRun.go (q_putI dX0_copyFrom_42 fo_X0_30 fp_0_2 hf.1 rfl) ?_
  refine mRun.go (q_aload_n dX0_copyFrom_45 rfl rfl) ?_
  refine mRun.go (q_aload_n dX0_copyFrom_46 rfl rfl) ?_
  refine mRun.go (q_getE (x := I g 3) dX0_copyFrom_47 fo_X0_34 hg.1 rfl (by rw [mup_ne (by omega), tset_ne (by omega), tset_ne (by omega), tset_ne (by omega), tset_ne (by omega), mcp_ne (by omega)])) ?_
  refine mRun.go (q_putI dX0_copyFrom_50 fo_X0_34 fp_0_3 hf.1 rfl) ?_
  refine r_ret dX0_copyFrom_53 rfl ?_
  exact ⟨rfl, congrArg (Prod.mk σ) (fcp_eq hd)⟩

def lcp (I : mI) (l m : Nat) : mI := mup (mup (mup (mup (mup (mcp (mcp I (l + 1 + 1) (m + 1 + 1) 0 0 36) (l + 3 + 1) (m + 3 + 1) 0 0 4) l 3 (I m 3)) l 4 (I m 4)) l 5 (I m 5)) l 6 (I m 6)) l 7 (I m 7)
theorem nrm_lcp {I : mI} {l m : Nat} (h : Nrm I) : Nrm (lcp I l m) := nrm_mup (nrm_mup (nrm_mup (nrm_mup (nrm_mup (nrm_mcp (nrm_mcp h)) (h _ _)) (h _ _)) (h _ _)) (h _ _)) (h _ _)

set_option maxRecDepth 100000 in
theorem k_lcopy {σ : List mC} {I : mI} {l m : Nat} (hl : IsLand σ l) (hm : IsLand σ m) (hI : Nrm I) (hd : l + 7 ≤ m ∨ m + 7 ≤ l) : mCt mX1_copyFrom [mr l, mr m] (σ, I) none (σ, lcp I l m) := by
  refine mCt.eq ?_
  refine mMt.of pl_1 (Nat.le_of_ble_eq_true rfl) ?_
  show mRun mZt mX1_copyFrom 0 [some (mr l), some (mr m)] [] (σ, I) _
  refine mRun.go (q_aload_n dX1_copyFrom_0 rfl rfl) ?_
  refine mRun.go (q_getR dX1_copyFrom_1 fo_X1_14 hl.1 rfl) ?_
  refine mRun.go (q_aload_n dX1_copyFrom_4 rfl rfl) ?_
  refine mRun.go (q_getR dX1_copyFrom_5 fo_X1_14 hm.1 rfl) ?_
  refine mRun.go (q_callVv (r := l + 1) [mr (m + 1)] [] dX1_copyFrom_8 co_X1_42 ⟨Nat.le_of_ble_eq_true rfl, Nat.le_of_ble_eq_true rfl⟩ gw_368 gw_369 rfl hl.2.1.1 rfl rfl rfl (Nat.le_of_ble_eq_true rfl) (k_rcopy hl.2.1 hm.2.1 (by omega) (by decide) (by decide))) ?_
  refine mRun.go (q_aload_n dX1_copyFrom_11 rfl rfl) ?_
  refine mRun.go (q_getR dX1_copyFrom_12 fo_X1_20 hl.1 rfl) ?_
  refine mRun.go (q_aload_n dX1_copyFrom_15 rfl rfl) ?_
  refine mRun.go (q_getR dX1_copyFrom_16 fo_X1_20 hm.1 rfl) ?_
  refine mRun.go (q_callVv (r := l + 3) [mr (m + 3)] [] dX1_copyFrom_19 co_X1_42 ⟨Nat.le_of_ble_eq_true rfl, Nat.le_of_ble_eq_true rfl⟩ gw_368 gw_369 rfl hl.2.2.1.1 rfl rfl rfl (Nat.le_of_ble_eq_true rfl) (k_rcopy hl.2.2.1 hm.2.2.1 (by omega) (by decide) (by decide))) ?_
  refine mRun.go (q_aload_n dX1_copyFrom_22 rfl rfl) ?_
  refine mRun.go (q_aload_n dX1_copyFrom_23 rfl rfl) ?_
  refine mRun.go (q_getE (x := I m 3) dX1_copyFrom_24 fo_X1_26 hm.1 rfl (by rw [mcp_ne (by omega), mcp_ne (by omega)])) ?_
  refine mRun.go (q_putI dX1_copyFrom_27 fo_X1_26 fp_1_3 hl.1 rfl) ?_
  refine mRun.go (q_aload_n dX1_copyFrom_30 rfl rfl) ?_
  refine mRun.go (q_aload_n dX1_copyFrom_31 rfl rfl) ?_
  refine mRun.go (q_getE (x := I m 4) dX1_copyFrom_32 fo_X1_36 hm.1 rfl (by rw [mup_ne (by omega), mcp_ne (by omega), mcp_ne (by omega)])) ?_
  refine mRun.go (q_putI dX1_copyFrom_35 fo_X1_36 fp_1_4 hl.1 rfl) ?_
  refine mRun.go (q_aload_n dX1_copyFrom_38 rfl rfl) ?_
  refine mRun.go (q_aload_n dX1_copyFrom_39 rfl rfl) ?_
  refine mRun.go (q_getE (x := I m 5) dX1_copyFrom_40 fo_X1_39 hm.1 rfl (by rw [mup_ne (by omega), mup_ne (by omega), mcp_ne (by omega), mcp_ne (by omega)])) ?_
  refine mRun.go (q_putI dX1_copyFrom_43 fo_X1_39 fp_1_5 hl.1 rfl) ?_
  refine mRun.go (q_aload_n dX1_copyFrom_46 rfl rfl) ?_
  refine mRun.go (q_aload_n dX1_copyFrom_47 rfl rfl) ?_
  refine mRun.go (q_getE (x := I m 6) dX1_copyFrom_48 fo_X1_30 hm.1 rfl (by rw [mup_ne (by omega), mup_ne (by omega), mup_ne (by omega), mcp_ne (by omega), mcp_ne (by omega)])) ?_
  refine mRun.go (q_putI dX1_copyFrom_51 fo_X1_30 fp_1_6 hl.1 rfl) ?_
  refine mRun.go (q_aload_n dX1_copyFrom_54 rfl rfl) ?_
  refine mRun.go (q_aload_n dX1_copyFrom_55 rfl rfl) ?_
  refine mRun.go (q_getE (x := I m 7) dX1_copyFrom_56 fo_X1_33 hm.1 rfl (by rw [mup_ne (by omega), mup_ne (by omega), mup_ne (by omega), mup_ne (by omega), mcp_ne (by omega), mcp_ne (by omega)])) ?_
  refine mRun.go (q_putI dX1_copyFrom_59 fo_X1_33 fp_1_7 hl.1 rfl) ?_
  refine r_ret dX1_copyFrom_62 rfl ?_
  exact ⟨rfl, rfl⟩

/-! ===== linking places ===== -/
def nbs (W P : Int) (x s : Nat) : Int := if s = 0 then (if (x : Int) < W then -4 else (x : Int) - W) else if s = 1 then (if 0 < (x : Int) % W then (x : Int) - 1 else -4) else if s = 2 then (if (x : Int) % W + 1 < W then (x : Int) + 1 else -4) else (if (x : Int) + W < P then (x : Int) + W else -4)

set_option maxRecDepth 100000 in
set_option maxHeartbeats 1000000 in
theorem k_link_loop {σ : List mC} {I : mI} {l P : Nat} {W : Int} (hl : IsLand σ l) (hP : P ≤ 36) (hPl : I l 3 = (P : Int)) (hWl : I l 4 = W) (hW : 0 < W ∧ W ≤ 6) : ∀ (n x : Nat) (J : mI) (o2 : Option mV), P - x < n → x ≤ P → Nrm J → (∀ r, r ≠ l + 5 + 1 → J r = I r) → (∀ y, y < x → ∀ s, s < 4 → nbC J l y s = nbs W P y s) → mRun mZt mX1_linkPlaces 2 [some (mr l), some (mi (x : Int)), o2] [] (σ, J) (fun v h => v = none ∧ ∃ J, h = (σ, J) ∧ Nrm J ∧ (∀ r, r ≠ l + 5 + 1 → J r = I r) ∧ ∀ y, y < P → ∀ s, s < 4 → nbC J l y s = nbs W P y s) := by
  intro n
  induction n with
  | zero => intro x J o2 h; omega
  | succ n ih =>
    intro x J o2 hn hx hJ hfr0 hnb
    refine mRun.go (q_iload_n dX1_linkPlaces_2 rfl rfl) ?_
    refine mRun.go (q_aload_n dX1_linkPlaces_3 rfl rfl) ?_
    refine mRun.go (q_getE (x := (P : Int)) dX1_linkPlaces_4 fo_X1_26 hl.1 rfl (by rw [hfr0 l (by omega)]; exact hPl)) ?_
    refine r_icmp_ge (tgt := 144) dX1_linkPlaces_7 (by decide) (by omega) (by omega) (fun c7 => ?_) (fun c7 => ?_)
    · refine r_ret dX1_linkPlaces_144 rfl ?_
      have hxP : x = P := by omega
      subst hxP
      exact ⟨rfl, J, rfl, hJ, hfr0, hnb⟩
    · refine mRun.go (q_iload_n dX1_linkPlaces_10 rfl rfl) ?_
      refine mRun.go (q_aload_n dX1_linkPlaces_11 rfl rfl) ?_
      refine mRun.go (q_getE (x := W) dX1_linkPlaces_12 fo_X1_36 hl.1 rfl (by rw [hfr0 l (by omega)]; exact hWl)) ?_
      have hmd : mdl (x : Int) W = (x : Int) % W := by unfold mdl; rw [if_pos (by omega)]
      have hm1 : 0 ≤ (x : Int) % W ∧ (x : Int) % W < W := ⟨Int.emod_nonneg _ (by omega), Int.emod_lt_of_pos _ (by omega)⟩
      have hkm := @k_modulo (σ, J) (x : Int) W (by omega) (by omega)
      rw [hmd] at hkm
      refine mRun.go (q_callSi [mi (x : Int), mi W] [] dX1_linkPlaces_15 co_X1_46 ⟨Nat.le_of_ble_eq_true rfl, Nat.le_of_ble_eq_true rfl⟩ gw_382 rfl rfl (Nat.le_of_ble_eq_true rfl) hkm) ?_
      refine mRun.go (q_istore_n (ls' := [some (mr l), some (mi (x : Int)), some (mi ((x : Int) % W))]) dX1_linkPlaces_18 rfl (Nat.le_of_ble_eq_true rfl) rfl) ?_
      refine mRun.go (q_aload_n dX1_linkPlaces_19 rfl rfl) ?_
      refine mRun.go (q_getR dX1_linkPlaces_20 fo_X1_23 hl.1 rfl) ?_
      refine mRun.go (q_iload_n dX1_linkPlaces_23 rfl rfl) ?_
      refine mRun.go (q_iconst dX1_linkPlaces_24) ?_
      refine mRun.go (q_imul dX1_linkPlaces_25) ?_
      refine mRun.go (q_iload_n dX1_linkPlaces_26 rfl rfl) ?_
      refine mRun.go (q_aload_n dX1_linkPlaces_27 rfl rfl) ?_
      refine mRun.go (q_getE (x := W) dX1_linkPlaces_28 fo_X1_36 hl.1 rfl (by rw [hfr0 l (by omega)]; exact hWl)) ?_
      have j31 : ∀ {post : Option mV → mH → Prop}, mRun mZt mX1_linkPlaces 45 [some (mr l), some (mi (x : Int)), some (mi ((x : Int) % W))] [mi (if (x : Int) < W then -4 else (x : Int) - W), mi ((x : Int) * 4), mr (l + 5)] (σ, J) post → mRun mZt mX1_linkPlaces 31 [some (mr l), some (mi (x : Int)), some (mi ((x : Int) % W))] [mi W, mi (x : Int), mi ((x : Int) * 4), mr (l + 5)] (σ, J) post := by
        intro post k
        refine r_icmp_lt (tgt := 43) dX1_linkPlaces_31 (by decide) (by omega) (by omega) (fun c31 => ?_) (fun c31 => ?_)
        · refine mRun.go (q_bipush dX1_linkPlaces_43 (by decide)) ?_
          first | (rw [if_pos (by omega)] at k; exact k) | (rw [if_neg (by omega)] at k; exact k)
        · refine mRun.go (q_iload_n dX1_linkPlaces_34 rfl rfl) ?_
          refine mRun.go (q_aload_n dX1_linkPlaces_35 rfl rfl) ?_
          refine mRun.go (q_getE (x := W) dX1_linkPlaces_36 fo_X1_36 hl.1 rfl (by rw [hfr0 l (by omega)]; exact hWl)) ?_
          refine mRun.go (q_isub dX1_linkPlaces_39) ?_
          refine mRun.go (q_goto (tgt := 45) dX1_linkPlaces_40 (by decide)) ?_
          first | (rw [if_pos (by omega)] at k; exact k) | (rw [if_neg (by omega)] at k; exact k)
      refine j31 ?_
      refine mRun.go (q_callVv (r := l + 5) [mi ((x : Int) * 4), mi (if (x : Int) < W then -4 else (x : Int) - W)] [] dX1_linkPlaces_45 co_X1_50 ⟨Nat.le_of_ble_eq_true rfl, Nat.le_of_ble_eq_true rfl⟩ gw_311 gw_312 rfl hl.2.2.2.1 rfl rfl rfl (Nat.le_of_ble_eq_true rfl) (k_putE (J := mup J (l + 5 + 1) (4 * x + 0) (if (x : Int) < W then -4 else (x : Int) - W)) hl.2.2.2 (by omega) (by decide) (rput_nat (k := 4 * x + 0) (by omega) (by omega)))) ?_
      refine mRun.go (q_aload_n dX1_linkPlaces_48 rfl rfl) ?_
      refine mRun.go (q_getR dX1_linkPlaces_49 fo_X1_23 hl.1 rfl) ?_
      refine mRun.go (q_iload_n dX1_linkPlaces_52 rfl rfl) ?_
      refine mRun.go (q_iconst dX1_linkPlaces_53) ?_
      refine mRun.go (q_imul dX1_linkPlaces_54) ?_
      refine mRun.go (q_iconst dX1_linkPlaces_55) ?_
      refine mRun.go (q_iadd dX1_linkPlaces_56) ?_
      refine mRun.go (q_iload_n dX1_linkPlaces_57 rfl rfl) ?_
      have j58 : ∀ {post : Option mV → mH → Prop}, mRun mZt mX1_linkPlaces 69 [some (mr l), some (mi (x : Int)), some (mi ((x : Int) % W))] [mi (if 0 < (x : Int) % W then (x : Int) - 1 else -4), mi (((x : Int) * 4) + 1), mr (l + 5)] (σ, mup J (l + 5 + 1) (4 * x + 0) (if (x : Int) < W then -4 else (x : Int) - W)) post → mRun mZt mX1_linkPlaces 58 [some (mr l), some (mi (x : Int)), some (mi ((x : Int) % W))] [mi ((x : Int) % W), mi (((x : Int) * 4) + 1), mr (l + 5)] (σ, mup J (l + 5 + 1) (4 * x + 0) (if (x : Int) < W then -4 else (x : Int) - W)) post := by
        intro post k
        refine r_if_le (tgt := 67) dX1_linkPlaces_58 (by decide) (by omega) (fun c58 => ?_) (fun c58 => ?_)
        · refine mRun.go (q_bipush dX1_linkPlaces_67 (by decide)) ?_
          first | (rw [if_pos (by omega)] at k; exact k) | (rw [if_neg (by omega)] at k; exact k)
        · refine mRun.go (q_iload_n dX1_linkPlaces_61 rfl rfl) ?_
          refine mRun.go (q_iconst dX1_linkPlaces_62) ?_
          refine mRun.go (q_isub dX1_linkPlaces_63) ?_
          refine mRun.go (q_goto (tgt := 69) dX1_linkPlaces_64 (by decide)) ?_
          first | (rw [if_pos (by omega)] at k; exact k) | (rw [if_neg (by omega)] at k; exact k)
      refine j58 ?_
      refine mRun.go (q_callVv (r := l + 5) [mi (((x : Int) * 4) + 1), mi (if 0 < (x : Int) % W then (x : Int) - 1 else -4)] [] dX1_linkPlaces_69 co_X1_50 ⟨Nat.le_of_ble_eq_true rfl, Nat.le_of_ble_eq_true rfl⟩ gw_311 gw_312 rfl hl.2.2.2.1 rfl rfl rfl (Nat.le_of_ble_eq_true rfl) (k_putE (J := mup (mup J (l + 5 + 1) (4 * x + 0) (if (x : Int) < W then -4 else (x : Int) - W)) (l + 5 + 1) (4 * x + 1) (if 0 < (x : Int) % W then (x : Int) - 1 else -4)) hl.2.2.2 (by omega) (by decide) (rput_nat (k := 4 * x + 1) (by omega) (by omega)))) ?_
      refine mRun.go (q_aload_n dX1_linkPlaces_72 rfl rfl) ?_
      refine mRun.go (q_getR dX1_linkPlaces_73 fo_X1_23 hl.1 rfl) ?_
      refine mRun.go (q_iload_n dX1_linkPlaces_76 rfl rfl) ?_
      refine mRun.go (q_iconst dX1_linkPlaces_77) ?_
      refine mRun.go (q_imul dX1_linkPlaces_78) ?_
      refine mRun.go (q_iconst dX1_linkPlaces_79) ?_
      refine mRun.go (q_iadd dX1_linkPlaces_80) ?_
      refine mRun.go (q_iload_n dX1_linkPlaces_81 rfl rfl) ?_
      refine mRun.go (q_iconst dX1_linkPlaces_82) ?_
      refine mRun.go (q_iadd dX1_linkPlaces_83) ?_
      refine mRun.go (q_aload_n dX1_linkPlaces_84 rfl rfl) ?_
      refine mRun.go (q_getE (x := W) dX1_linkPlaces_85 fo_X1_36 hl.1 rfl (by rw [mup_ne (by omega), mup_ne (by omega), hfr0 l (by omega)]; exact hWl)) ?_
      have j88 : ∀ {post : Option mV → mH → Prop}, mRun mZt mX1_linkPlaces 99 [some (mr l), some (mi (x : Int)), some (mi ((x : Int) % W))] [mi (if (x : Int) % W + 1 < W then (x : Int) + 1 else -4), mi (((x : Int) * 4) + 2), mr (l + 5)] (σ, mup (mup J (l + 5 + 1) (4 * x + 0) (if (x : Int) < W then -4 else (x : Int) - W)) (l + 5 + 1) (4 * x + 1) (if 0 < (x : Int) % W then (x : Int) - 1 else -4)) post → mRun mZt mX1_linkPlaces 88 [some (mr l), some (mi (x : Int)), some (mi ((x : Int) % W))] [mi W, mi (((x : Int) % W) + 1), mi (((x : Int) * 4) + 2), mr (l + 5)] (σ, mup (mup J (l + 5 + 1) (4 * x + 0) (if (x : Int) < W then -4 else (x : Int) - W)) (l + 5 + 1) (4 * x + 1) (if 0 < (x : Int) % W then (x : Int) - 1 else -4)) post := by
        intro post k
        refine r_icmp_ge (tgt := 97) dX1_linkPlaces_88 (by decide) (by omega) (by omega) (fun c88 => ?_) (fun c88 => ?_)
        · refine mRun.go (q_bipush dX1_linkPlaces_97 (by decide)) ?_
          first | (rw [if_pos (by omega)] at k; exact k) | (rw [if_neg (by omega)] at k; exact k)
        · refine mRun.go (q_iload_n dX1_linkPlaces_91 rfl rfl) ?_
          refine mRun.go (q_iconst dX1_linkPlaces_92) ?_
          refine mRun.go (q_iadd dX1_linkPlaces_93) ?_
          refine mRun.go (q_goto (tgt := 99) dX1_linkPlaces_94 (by decide)) ?_
          first | (rw [if_pos (by omega)] at k; exact k) | (rw [if_neg (by omega)] at k; exact k)
      refine j88 ?_
      refine mRun.go (q_callVv (r := l + 5) [mi (((x : Int) * 4) + 2), mi (if (x : Int) % W + 1 < W then (x : Int) + 1 else -4)] [] dX1_linkPlaces_99 co_X1_50 ⟨Nat.le_of_ble_eq_true rfl, Nat.le_of_ble_eq_true rfl⟩ gw_311 gw_312 rfl hl.2.2.2.1 rfl rfl rfl (Nat.le_of_ble_eq_true rfl) (k_putE (J := mup (mup (mup J (l + 5 + 1) (4 * x + 0) (if (x : Int) < W then -4 else (x : Int) - W)) (l + 5 + 1) (4 * x + 1) (if 0 < (x : Int) % W then (x : Int) - 1 else -4)) (l + 5 + 1) (4 * x + 2) (if (x : Int) % W + 1 < W then (x : Int) + 1 else -4)) hl.2.2.2 (by omega) (by decide) (rput_nat (k := 4 * x + 2) (by omega) (by omega)))) ?_
      refine mRun.go (q_aload_n dX1_linkPlaces_102 rfl rfl) ?_
      refine mRun.go (q_getR dX1_linkPlaces_103 fo_X1_23 hl.1 rfl) ?_
      refine mRun.go (q_iload_n dX1_linkPlaces_106 rfl rfl) ?_
      refine mRun.go (q_iconst dX1_linkPlaces_107) ?_
      refine mRun.go (q_imul dX1_linkPlaces_108) ?_
      refine mRun.go (q_iconst dX1_linkPlaces_109) ?_
      refine mRun.go (q_iadd dX1_linkPlaces_110) ?_
      refine mRun.go (q_iload_n dX1_linkPlaces_111 rfl rfl) ?_
      refine mRun.go (q_aload_n dX1_linkPlaces_112 rfl rfl) ?_
      refine mRun.go (q_getE (x := W) dX1_linkPlaces_113 fo_X1_36 hl.1 rfl (by rw [mup_ne (by omega), mup_ne (by omega), mup_ne (by omega), hfr0 l (by omega)]; exact hWl)) ?_
      refine mRun.go (q_iadd dX1_linkPlaces_116) ?_
      refine mRun.go (q_aload_n dX1_linkPlaces_117 rfl rfl) ?_
      refine mRun.go (q_getE (x := (P : Int)) dX1_linkPlaces_118 fo_X1_26 hl.1 rfl (by rw [mup_ne (by omega), mup_ne (by omega), mup_ne (by omega), hfr0 l (by omega)]; exact hPl)) ?_
      have j121 : ∀ {post : Option mV → mH → Prop}, mRun mZt mX1_linkPlaces 135 [some (mr l), some (mi (x : Int)), some (mi ((x : Int) % W))] [mi (if (x : Int) + W < (P : Int) then (x : Int) + W else -4), mi (((x : Int) * 4) + 3), mr (l + 5)] (σ, mup (mup (mup J (l + 5 + 1) (4 * x + 0) (if (x : Int) < W then -4 else (x : Int) - W)) (l + 5 + 1) (4 * x + 1) (if 0 < (x : Int) % W then (x : Int) - 1 else -4)) (l + 5 + 1) (4 * x + 2) (if (x : Int) % W + 1 < W then (x : Int) + 1 else -4)) post → mRun mZt mX1_linkPlaces 121 [some (mr l), some (mi (x : Int)), some (mi ((x : Int) % W))] [mi (P : Int), mi ((x : Int) + W), mi (((x : Int) * 4) + 3), mr (l + 5)] (σ, mup (mup (mup J (l + 5 + 1) (4 * x + 0) (if (x : Int) < W then -4 else (x : Int) - W)) (l + 5 + 1) (4 * x + 1) (if 0 < (x : Int) % W then (x : Int) - 1 else -4)) (l + 5 + 1) (4 * x + 2) (if (x : Int) % W + 1 < W then (x : Int) + 1 else -4)) post := by
        intro post k
        refine r_icmp_ge (tgt := 133) dX1_linkPlaces_121 (by decide) (by omega) (by omega) (fun c121 => ?_) (fun c121 => ?_)
        · refine mRun.go (q_bipush dX1_linkPlaces_133 (by decide)) ?_
          first | (rw [if_pos (by omega)] at k; exact k) | (rw [if_neg (by omega)] at k; exact k)
        · refine mRun.go (q_iload_n dX1_linkPlaces_124 rfl rfl) ?_
          refine mRun.go (q_aload_n dX1_linkPlaces_125 rfl rfl) ?_
          refine mRun.go (q_getE (x := W) dX1_linkPlaces_126 fo_X1_36 hl.1 rfl (by rw [mup_ne (by omega), mup_ne (by omega), mup_ne (by omega), hfr0 l (by omega)]; exact hWl)) ?_
          refine mRun.go (q_iadd dX1_linkPlaces_129) ?_
          refine mRun.go (q_goto (tgt := 135) dX1_linkPlaces_130 (by decide)) ?_
          first | (rw [if_pos (by omega)] at k; exact k) | (rw [if_neg (by omega)] at k; exact k)
      refine j121 ?_
      refine mRun.go (q_callVv (r := l + 5) [mi (((x : Int) * 4) + 3), mi (if (x : Int) + W < (P : Int) then (x : Int) + W else -4)] [] dX1_linkPlaces_135 co_X1_50 ⟨Nat.le_of_ble_eq_true rfl, Nat.le_of_ble_eq_true rfl⟩ gw_311 gw_312 rfl hl.2.2.2.1 rfl rfl rfl (Nat.le_of_ble_eq_true rfl) (k_putE (J := mup (mup (mup (mup J (l + 5 + 1) (4 * x + 0) (if (x : Int) < W then -4 else (x : Int) - W)) (l + 5 + 1) (4 * x + 1) (if 0 < (x : Int) % W then (x : Int) - 1 else -4)) (l + 5 + 1) (4 * x + 2) (if (x : Int) % W + 1 < W then (x : Int) + 1 else -4)) (l + 5 + 1) (4 * x + 3) (if (x : Int) + W < (P : Int) then (x : Int) + W else -4)) hl.2.2.2 (by omega) (by decide) (rput_nat (k := 4 * x + 3) (by omega) (by omega)))) ?_
      refine mRun.go (q_iinc (ls' := [some (mr l), some (mi ((x : Int) + 1)), some (mi ((x : Int) % W))]) dX1_linkPlaces_138 rfl (Nat.le_of_ble_eq_true rfl) rfl) ?_
      refine mRun.go (q_goto (tgt := 2) dX1_linkPlaces_141 (by decide)) ?_
      have e1 : ((x : Int) + 1) = ((x + 1 : Nat) : Int) := by omega
      rw [e1]
      refine ih (x + 1) _ _ (by omega) (by omega) (nrm_mup (nrm_mup (nrm_mup (nrm_mup hJ (by split <;> omega)) (by split <;> omega)) (by split <;> omega)) (by split <;> omega)) (fun r hr => by rw [mup_nf hr, mup_nf hr, mup_nf hr, mup_nf hr]; exact hfr0 r hr) (fun y hy s hs => ?_)
      by_cases hyx : y = x
      · subst hyx
        rcases (show s = 0 ∨ s = 1 ∨ s = 2 ∨ s = 3 by omega) with q | q | q | q <;> subst q <;> simp [nbC, mup, nbs]
      · rw [← hnb y (by omega) s hs]
        simp only [nbC]
        simp only [mup]
        rw [if_neg (by omega), if_neg (by omega), if_neg (by omega), if_neg (by omega)]

set_option maxRecDepth 100000 in
theorem k_link {σ : List mC} {I : mI} {l P : Nat} {W : Int} (hI : Nrm I) (hl : IsLand σ l) (hP : P ≤ 36) (hPl : I l 3 = (P : Int)) (hWl : I l 4 = W) (hW : 0 < W ∧ W ≤ 6)  : mMt mX1_linkPlaces [mr l] (σ, I) (fun v h => v = none ∧ ∃ J, h = (σ, J) ∧ Nrm J ∧ (∀ r, r ≠ l + 5 + 1 → J r = I r) ∧ ∀ y, y < P → ∀ s, s < 4 → nbC J l y s = nbs W P y s) := by
  refine mMt.of pl_1 (Nat.le_of_ble_eq_true rfl) ?_
  show mRun mZt mX1_linkPlaces 0 [some (mr l), none, none] [] (σ, I) _
  refine mRun.go (q_iconst dX1_linkPlaces_0) ?_
  refine mRun.go (q_istore_n (ls' := [some (mr l), some (mi 0), none]) dX1_linkPlaces_1 rfl (Nat.le_of_ble_eq_true rfl) rfl) ?_
  exact k_link_loop hl hP hPl hWl hW (P + 1) 0 I none (by omega) (by omega) hI (fun _ _ => rfl) (fun y hy => by omega)

theorem nbs_rng {W : Int} {P : Nat} {x s : Nat} (hW : 0 < W) (hx : x < P) (hd : W ∣ (P : Int)) : nbs W P x s = -4 ∨ (0 ≤ nbs W P x s ∧ nbs W P x s < P) := by
  have h0 : 0 ≤ (x : Int) % W := Int.emod_nonneg _ (by omega)
  have h1 := Int.emod_lt_of_pos (x : Int) hW
  have h2 := Int.mul_ediv_add_emod (x : Int) W
  unfold nbs
  split
  · split <;> omega
  · split
    · split
      · have h3 : (x : Int) ≠ 0 := by
          intro q
          rw [q] at h0
          have : (0 : Int) % W = 0 := Int.zero_emod W
          have : (x : Int) % W = 0 := by rw [q]; exact Int.zero_emod W
          omega
        omega
      · omega
    · split
      · split
        · next q =>
          right
          refine ⟨by omega, ?_⟩
          obtain ⟨c, hc⟩ := hd
          have h4 : (x : Int) / W < c := by
            by_cases h5 : c ≤ (x : Int) / W
            · have h6 : W * c ≤ W * ((x : Int) / W) := Int.mul_le_mul_of_nonneg_left h5 (by omega)
              omega
            · omega
          have h7 : W * ((x : Int) / W + 1) ≤ W * c := Int.mul_le_mul_of_nonneg_left (by omega) (by omega)
          rw [Int.mul_add, Int.mul_one] at h7
          omega
        · omega
      · split <;> omega
