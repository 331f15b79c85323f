/-! ===== the rows, the text, the travellers of the class ===== -/
/-- a row of n numbers at r -/
def IsRow (σ : List mC) (r n : Nat) : Prop := σ[r]? = some (.inl (3, [some (some (r + 1))])) ∧ σ[r + 1]? = some (.inr (.inl n))
def rat (I : mI) (r n : Nat) (i : Int) : Int := if 0 ≤ i ∧ i < (n : Int) then I (r + 1) i.toNat else 0
def rput (I : mI) (r n : Nat) (i x : Int) : mI := if 0 ≤ i ∧ i < (n : Int) then mup I (r + 1) i.toNat x else I
def rfil (I : mI) (r n : Nat) (x : Int) : mI := fun r' k => if r' = r + 1 ∧ k < n then x else I r' k
def IsText (σ : List mC) (t : Nat) : Prop := σ[t]? = some (.inl (5, [some (some (t + 1)), none])) ∧ σ[t + 1]? = some (.inr (.inl 200))
def IsTrv (σ : List mC) (r : Nat) : Prop := σ[r]? = some (.inl (6, [none, none, none, none, none, none]))

set_option maxRecDepth 100000 in
theorem k_at {σ : List mC} {I : mI} {r n : Nat} {i : Int} (hr : IsRow σ r n) (hi : -2147483648 ≤ i ∧ i < 2147483648) (hn : n < 100000) : mCt mX3_at [mr r, mi i] (σ, I) (some (mi (rat I r n i))) (σ, I) := by
  refine mCt.eq ?_
  refine mMt.of pl_3 (Nat.le_of_ble_eq_true rfl) ?_
  show mRun mZt mX3_at 0 [some (mr r), some (mi i)] [] (σ, I) _
  refine mRun.go (q_iload_n dX3_at_0 rfl rfl) ?_
  refine r_if_lt (tgt := 22) dX3_at_1 (by decide) (by omega) (fun c1 => ?_) (fun c1 => ?_)
  · refine mRun.go (q_iconst dX3_at_22) ?_
    refine r_iret dX3_at_23 rfl ?_
    refine ⟨congrArg some (congrArg mi ?_), rfl⟩
    unfold rat
    first | rw [if_pos ⟨by omega, by omega⟩] | rw [if_neg (by omega)]
  · refine mRun.go (q_iload_n dX3_at_4 rfl rfl) ?_
    refine mRun.go (q_aload_n dX3_at_5 rfl rfl) ?_
    refine mRun.go (q_getR dX3_at_6 fo_X3_7 hr.1 rfl) ?_
    refine mRun.go (q_alen dX3_at_9 hr.2) ?_
    refine r_icmp_ge (tgt := 22) dX3_at_10 (by decide) (by omega) (by omega) (fun c10 => ?_) (fun c10 => ?_)
    · refine mRun.go (q_iconst dX3_at_22) ?_
      refine r_iret dX3_at_23 rfl ?_
      refine ⟨congrArg some (congrArg mi ?_), rfl⟩
      unfold rat
      first | rw [if_pos ⟨by omega, by omega⟩] | rw [if_neg (by omega)]
    · refine mRun.go (q_aload_n dX3_at_13 rfl rfl) ?_
      refine mRun.go (q_getR dX3_at_14 fo_X3_7 hr.1 rfl) ?_
      refine mRun.go (q_iload_n dX3_at_17 rfl rfl) ?_
      refine mRun.go (q_iald dX3_at_18 hr.2 (by omega) (by omega)) ?_
      refine mRun.go (q_goto (tgt := 23) dX3_at_19 (by decide)) ?_
      refine r_iret dX3_at_23 rfl ?_
      refine ⟨congrArg some (congrArg mi ?_), rfl⟩
      unfold rat
      first | rw [if_pos ⟨by omega, by omega⟩] | rw [if_neg (by omega)]

set_option maxRecDepth 100000 in
theorem k_put {σ : List mC} {I : mI} {r n : Nat} {i x : Int} (hr : IsRow σ r n) (hi : -2147483648 ≤ i ∧ i < 2147483648) (hn : n < 100000) : mCt mX3_put [mr r, mi i, mi x] (σ, I) none (σ, rput I r n i x) := by
  refine mCt.eq ?_
  refine mMt.of pl_3 (Nat.le_of_ble_eq_true rfl) ?_
  show mRun mZt mX3_put 0 [some (mr r), some (mi i), some (mi x)] [] (σ, I) _
  refine mRun.go (q_iload_n dX3_put_0 rfl rfl) ?_
  refine r_if_lt (tgt := 20) dX3_put_1 (by decide) (by omega) (fun c1 => ?_) (fun c1 => ?_)
  · refine r_ret dX3_put_20 rfl ?_
    refine ⟨rfl, congrArg (Prod.mk σ) ?_⟩
    unfold rput
    first | rw [if_pos ⟨by omega, by omega⟩] | rw [if_neg (by omega)]
  · refine mRun.go (q_iload_n dX3_put_4 rfl rfl) ?_
    refine mRun.go (q_aload_n dX3_put_5 rfl rfl) ?_
    refine mRun.go (q_getR dX3_put_6 fo_X3_7 hr.1 rfl) ?_
    refine mRun.go (q_alen dX3_put_9 hr.2) ?_
    refine r_icmp_ge (tgt := 20) dX3_put_10 (by decide) (by omega) (by omega) (fun c10 => ?_) (fun c10 => ?_)
    · refine r_ret dX3_put_20 rfl ?_
      refine ⟨rfl, congrArg (Prod.mk σ) ?_⟩
      unfold rput
      first | rw [if_pos ⟨by omega, by omega⟩] | rw [if_neg (by omega)]
    · refine mRun.go (q_aload_n dX3_put_13 rfl rfl) ?_
      refine mRun.go (q_getR dX3_put_14 fo_X3_7 hr.1 rfl) ?_
      refine mRun.go (q_iload_n dX3_put_17 rfl rfl) ?_
      refine mRun.go (q_iload_n dX3_put_18 rfl rfl) ?_
      refine mRun.go (q_iast dX3_put_19 hr.2 (by omega) (by omega)) ?_
      refine r_ret dX3_put_20 rfl ?_
      refine ⟨rfl, congrArg (Prod.mk σ) ?_⟩
      unfold rput
      first | rw [if_pos ⟨by omega, by omega⟩] | rw [if_neg (by omega)]

theorem rfil_0 {I : mI} {r : Nat} {x : Int} : rfil I r 0 x = I := by
  funext r' k; simp [rfil]
theorem rfil_s {I : mI} {r n : Nat} {x : Int} : mup (rfil I r n x) (r + 1) n x = rfil I r (n + 1) x := by
  funext r' k
  simp only [mup, rfil]
  by_cases h1 : r' = r + 1
  · by_cases h2 : k = n
    · rw [if_pos ⟨h1, h2⟩, if_pos ⟨h1, by omega⟩]
    · rw [if_neg (fun q => h2 q.2)]
      by_cases h3 : k < n
      · rw [if_pos ⟨h1, h3⟩, if_pos ⟨h1, by omega⟩]
      · rw [if_neg (fun q => h3 q.2), if_neg (fun q => by omega)]
  · rw [if_neg (fun q => h1 q.1), if_neg (fun q => h1 q.1), if_neg (fun q => h1 q.1)]

set_option maxRecDepth 100000 in
theorem k_fill_loop {σ : List mC} {I : mI} {r n : Nat} {x : Int} (hr : IsRow σ r n) (hn : n < 100000) : ∀ (f i : Nat), n - i < f → i ≤ n → mRun mZt mX3_fill 2 [some (mr r), some (mi x), some (mi (i : Int))] [] (σ, rfil I r i x) (fun v h => v = none ∧ h = (σ, rfil I r n x)) := by
  intro f
  induction f with
  | zero => intro i h; omega
  | succ f ih =>
    intro i hf hi
    refine mRun.go (q_iload_n dX3_fill_2 rfl rfl) ?_
    refine mRun.go (q_aload_n dX3_fill_3 rfl rfl) ?_
    refine mRun.go (q_getR dX3_fill_4 fo_X3_7 hr.1 rfl) ?_
    refine mRun.go (q_alen dX3_fill_7 hr.2) ?_
    refine r_icmp_ge (tgt := 24) dX3_fill_8 (by decide) (by omega) (by omega) (fun c8 => ?_) (fun c8 => ?_)
    · refine r_ret dX3_fill_24 rfl ?_
      have : i = n := by omega
      subst this
      exact ⟨rfl, rfl⟩
    · refine mRun.go (q_aload_n dX3_fill_11 rfl rfl) ?_
      refine mRun.go (q_getR dX3_fill_12 fo_X3_7 hr.1 rfl) ?_
      refine mRun.go (q_iload_n dX3_fill_15 rfl rfl) ?_
      refine mRun.go (q_iload_n dX3_fill_16 rfl rfl) ?_
      refine mRun.go (q_iast dX3_fill_17 hr.2 (by omega) (by omega)) ?_
      refine mRun.go (q_iinc (ls' := [some (mr r), some (mi x), some (mi ((i : Int) + 1))]) dX3_fill_18 rfl (Nat.le_of_ble_eq_true rfl) rfl) ?_
      refine mRun.go (q_goto (tgt := 2) dX3_fill_21 (by decide)) ?_
      have e1 : ((i : Int) + 1) = ((i + 1 : Nat) : Int) := by omega
      have e2 : mup (rfil I r i x) (r + 1) ((i : Int)).toNat x = rfil I r (i + 1) x := rfil_s
      rw [e1, e2]
      exact ih (i + 1) (by omega) (by omega)

set_option maxRecDepth 100000 in
theorem k_fill {σ : List mC} {I : mI} {r n : Nat} {x : Int} (hr : IsRow σ r n) (hn : n < 100000) : mCt mX3_fill [mr r, mi x] (σ, I) none (σ, rfil I r n x) := by
  refine mCt.eq ?_
  refine mMt.of pl_3 (Nat.le_of_ble_eq_true rfl) ?_
  show mRun mZt mX3_fill 0 [some (mr r), some (mi x), none] [] (σ, I) _
  refine mRun.go (q_iconst dX3_fill_0) ?_
  refine mRun.go (q_istore_n (ls' := [some (mr r), some (mi x), some (mi 0)]) dX3_fill_1 rfl (Nat.le_of_ble_eq_true rfl) rfl) ?_
  have := k_fill_loop (I := I) (x := x) hr hn (n + 1) 0 (by omega) (by omega)
  rw [rfil_0] at this
  exact this

set_option maxRecDepth 100000 in
theorem k_rcopy {σ : List mC} {I : mI} {r n o n2 : Nat} (hr : IsRow σ r n) (ho : IsRow σ o n2) (hne : o + 1 ≠ r + 1) (hn : n < 100000) (hn2 : n2 < 100000) : mCt mX3_copyFrom [mr r, mr o] (σ, I) none (σ, mcp I (r + 1) (o + 1) 0 0 (min n n2)) := by
  refine mCt.eq ?_
  refine mMt.of pl_3 (Nat.le_of_ble_eq_true rfl) ?_
  show mRun mZt mX3_copyFrom 0 [some (mr r), some (mr o)] [] (σ, I) _
  refine mRun.go (q_aload_n dX3_copyFrom_0 rfl rfl) ?_
  refine mRun.go (q_getR dX3_copyFrom_1 fo_X3_7 ho.1 rfl) ?_
  refine mRun.go (q_iconst dX3_copyFrom_4) ?_
  refine mRun.go (q_aload_n dX3_copyFrom_5 rfl rfl) ?_
  refine mRun.go (q_getR dX3_copyFrom_6 fo_X3_7 hr.1 rfl) ?_
  refine mRun.go (q_iconst dX3_copyFrom_9) ?_
  refine mRun.go (q_aload_n dX3_copyFrom_10 rfl rfl) ?_
  refine mRun.go (q_getR dX3_copyFrom_11 fo_X3_7 hr.1 rfl) ?_
  refine mRun.go (q_alen dX3_copyFrom_14 hr.2) ?_
  refine mRun.go (q_aload_n dX3_copyFrom_15 rfl rfl) ?_
  refine mRun.go (q_getR dX3_copyFrom_16 fo_X3_7 ho.1 rfl) ?_
  refine mRun.go (q_alen dX3_copyFrom_19 ho.2) ?_
  refine mRun.go (q_mmin dX3_copyFrom_20 gw_371 gw_372 gw_14 gw_373 (Nat.le_of_ble_eq_true rfl) (Nat.le_of_ble_eq_true rfl) (Nat.le_of_ble_eq_true rfl) (by omega) (by omega)) ?_
  refine mRun.go (q_acopy dX3_copyFrom_23 gw_374 gw_376 gw_375 gw_15 (Nat.le_of_ble_eq_true rfl) (Nat.le_of_ble_eq_true rfl) (Nat.le_of_ble_eq_true rfl) hne ho.2 hr.2 (by omega) (by omega) (by split <;> omega) (by split <;> omega) (by split <;> omega) (by omega) (by omega)) ?_
  refine r_ret dX3_copyFrom_26 rfl ?_
  refine ⟨rfl, congrArg (Prod.mk σ) ?_⟩
  have e : ((if (n2 : Int) < (n : Int) then (n2 : Int) else (n : Int))).toNat = min n n2 := by split <;> omega
  rw [e]
  rfl
