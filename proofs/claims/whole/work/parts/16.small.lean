/-! ===== numbers in range; a traveller as six numbers ===== -/
def Nrm (I : mI) : Prop := ∀ r k, -2147483648 ≤ I r k ∧ I r k < 2147483648
theorem nrm_mup {I : mI} {r k : Nat} {x : Int} (h : Nrm I) (hx : -2147483648 ≤ x ∧ x < 2147483648) : Nrm (mup I r k x) := by
  intro r' k'
  unfold mup
  split
  · exact hx
  · exact h r' k'
theorem nrm_rput {I : mI} {r n : Nat} {i x : Int} (h : Nrm I) (hx : -2147483648 ≤ x ∧ x < 2147483648) : Nrm (rput I r n i x) := by
  unfold rput
  split
  · exact nrm_mup h hx
  · exact h
theorem nrm_rfil {I : mI} {r n : Nat} {x : Int} (h : Nrm I) (hx : -2147483648 ≤ x ∧ x < 2147483648) : Nrm (rfil I r n x) := by
  intro r' k'
  unfold rfil
  split
  · exact hx
  · exact h r' k'
theorem nrm_mcp {I : mI} {r1 r0 sp dp n : Nat} (h : Nrm I) : Nrm (mcp I r1 r0 sp dp n) := by
  intro r' k'
  unfold mcp
  split
  · split
    · exact h _ _
    · exact h _ _
  · exact h _ _
theorem nrm_rat {I : mI} {r n : Nat} {i : Int} (h : Nrm I) : -2147483648 ≤ rat I r n i ∧ rat I r n i < 2147483648 := by
  unfold rat
  split
  · exact h _ _
  · exact ⟨by decide, by decide⟩
abbrev Tv : Type := Int × Int × Int × Int × Int × Int
def tget (I : mI) (r : Nat) : Tv := (I r 0, I r 1, I r 2, I r 3, I r 4, I r 5)
def tset (I : mI) (r : Nat) (t : Tv) : mI := fun r' k => if r' = r then (if k = 0 then t.1 else if k = 1 then t.2.1 else if k = 2 then t.2.2.1 else if k = 3 then t.2.2.2.1 else if k = 4 then t.2.2.2.2.1 else if k = 5 then t.2.2.2.2.2 else I r' k) else I r' k
theorem tget_tset {I : mI} {r : Nat} {t : Tv} : tget (tset I r t) r = t := by simp [tget, tset]
theorem tget_tset_ne {I : mI} {r q : Nat} {t : Tv} (h : q ≠ r) : tget (tset I r t) q = tget I q := by simp [tget, tset, h]
theorem tset_ne {I : mI} {r q k : Nat} {t : Tv} (h : q ≠ r) : tset I r t q k = I q k := by simp [tset, h]
theorem tset_tset {I : mI} {r : Nat} {t t' : Tv} : tset (tset I r t) r t' = tset I r t' := by
  funext r' k
  simp only [tset]
  by_cases h : r' = r
  · simp only [if_pos h]
    split; · rfl
    split; · rfl
    split; · rfl
    split; · rfl
    split; · rfl
    split; · rfl
    rfl
  · simp only [if_neg h]

theorem mup_t0 {I : mI} {r : Nat} {x : Int} : mup I r 0 x = tset I r (x, I r 1, I r 2, I r 3, I r 4, I r 5) := by
  funext r' k
  simp only [mup, tset]
  by_cases h : r' = r
  · subst h
    match k with
    | 0 => simp
    | 1 => simp
    | 2 => simp
    | 3 => simp
    | 4 => simp
    | 5 => simp
    | n + 6 => simp
  · simp [h]
theorem tset_0 {I : mI} {r : Nat} {t : Tv} : tset I r t r 0 = t.1 := by simp [tset]
theorem mup_t1 {I : mI} {r : Nat} {x : Int} : mup I r 1 x = tset I r (I r 0, x, I r 2, I r 3, I r 4, I r 5) := by
  funext r' k
  simp only [mup, tset]
  by_cases h : r' = r
  · subst h
    match k with
    | 0 => simp
    | 1 => simp
    | 2 => simp
    | 3 => simp
    | 4 => simp
    | 5 => simp
    | n + 6 => simp
  · simp [h]
theorem tset_1 {I : mI} {r : Nat} {t : Tv} : tset I r t r 1 = t.2.1 := by simp [tset]
theorem mup_t2 {I : mI} {r : Nat} {x : Int} : mup I r 2 x = tset I r (I r 0, I r 1, x, I r 3, I r 4, I r 5) := by
  funext r' k
  simp only [mup, tset]
  by_cases h : r' = r
  · subst h
    match k with
    | 0 => simp
    | 1 => simp
    | 2 => simp
    | 3 => simp
    | 4 => simp
    | 5 => simp
    | n + 6 => simp
  · simp [h]
theorem tset_2 {I : mI} {r : Nat} {t : Tv} : tset I r t r 2 = t.2.2.1 := by simp [tset]
theorem mup_t3 {I : mI} {r : Nat} {x : Int} : mup I r 3 x = tset I r (I r 0, I r 1, I r 2, x, I r 4, I r 5) := by
  funext r' k
  simp only [mup, tset]
  by_cases h : r' = r
  · subst h
    match k with
    | 0 => simp
    | 1 => simp
    | 2 => simp
    | 3 => simp
    | 4 => simp
    | 5 => simp
    | n + 6 => simp
  · simp [h]
theorem tset_3 {I : mI} {r : Nat} {t : Tv} : tset I r t r 3 = t.2.2.2.1 := by simp [tset]
theorem mup_t4 {I : mI} {r : Nat} {x : Int} : mup I r 4 x = tset I r (I r 0, I r 1, I r 2, I r 3, x, I r 5) := by
  funext r' k
  simp only [mup, tset]
  by_cases h : r' = r
  · subst h
    match k with
    | 0 => simp
    | 1 => simp
    | 2 => simp
    | 3 => simp
    | 4 => simp
    | 5 => simp
    | n + 6 => simp
  · simp [h]
theorem tset_4 {I : mI} {r : Nat} {t : Tv} : tset I r t r 4 = t.2.2.2.2.1 := by simp [tset]
theorem mup_t5 {I : mI} {r : Nat} {x : Int} : mup I r 5 x = tset I r (I r 0, I r 1, I r 2, I r 3, I r 4, x) := by
  funext r' k
  simp only [mup, tset]
  by_cases h : r' = r
  · subst h
    match k with
    | 0 => simp
    | 1 => simp
    | 2 => simp
    | 3 => simp
    | 4 => simp
    | 5 => simp
    | n + 6 => simp
  · simp [h]
theorem tset_5 {I : mI} {r : Nat} {t : Tv} : tset I r t r 5 = t.2.2.2.2.2 := by simp [tset]
theorem nrm_tset {I : mI} {r : Nat} {t : Tv} (h : Nrm I) (h0 : -2147483648 ≤ t.1 ∧ t.1 < 2147483648) (h1 : -2147483648 ≤ t.2.1 ∧ t.2.1 < 2147483648) (h2 : -2147483648 ≤ t.2.2.1 ∧ t.2.2.1 < 2147483648) (h3 : -2147483648 ≤ t.2.2.2.1 ∧ t.2.2.2.1 < 2147483648) (h4 : -2147483648 ≤ t.2.2.2.2.1 ∧ t.2.2.2.2.1 < 2147483648) (h5 : -2147483648 ≤ t.2.2.2.2.2 ∧ t.2.2.2.2.2 < 2147483648) : Nrm (tset I r t) := by
  intro r' k
  simp only [tset]
  split
  · split; · exact h0
    split; · exact h1
    split; · exact h2
    split; · exact h3
    split; · exact h4
    split; · exact h5
    exact h _ _
  · exact h _ _
def goToT (t : Tv) (to : Int) : Tv := (t.1, to, t.2.2.1, (if t.2.2.2.2.2 = 0 ∧ t.1 = to then 1 else 0), t.2.2.2.2.1, t.2.2.2.2.2)
def startT (t : Tv) (fr to by' : Int) : Tv := goToT (fr, t.2.1, by', t.2.2.2.1, fr, 0) to
def goOnT (t : Tv) : Tv := if t.2.2.2.2.2 = 1 then (t.2.2.2.2.1, t.2.1, t.2.2.1, (if t.2.2.2.2.1 = t.2.1 then 1 else 0), t.2.2.2.2.1, 0) else (t.1, t.2.1, t.2.2.1, t.2.2.2.1, t.2.2.2.2.1, t.2.2.2.2.2 - 1)
theorem goToT_p {t : Tv} {to : Int} (h : t.2.2.2.2.2 = 0 ∧ t.1 = to) : goToT t to = (t.1, to, t.2.2.1, 1, t.2.2.2.2.1, t.2.2.2.2.2) := by unfold goToT; rw [if_pos h]
theorem goToT_n {t : Tv} {to : Int} (h : ¬ (t.2.2.2.2.2 = 0 ∧ t.1 = to)) : goToT t to = (t.1, to, t.2.2.1, 0, t.2.2.2.2.1, t.2.2.2.2.2) := by unfold goToT; rw [if_neg h]
theorem goOnT_1 {t : Tv} (h : t.2.2.2.2.2 = 1) (h2 : t.2.2.2.2.1 = t.2.1) : goOnT t = (t.2.2.2.2.1, t.2.1, t.2.2.1, 1, t.2.2.2.2.1, 0) := by unfold goOnT; rw [if_pos h, if_pos h2]
theorem goOnT_2 {t : Tv} (h : t.2.2.2.2.2 = 1) (h2 : ¬ t.2.2.2.2.1 = t.2.1) : goOnT t = (t.2.2.2.2.1, t.2.1, t.2.2.1, 0, t.2.2.2.2.1, 0) := by unfold goOnT; rw [if_pos h, if_neg h2]
theorem goOnT_3 {t : Tv} (h : ¬ t.2.2.2.2.2 = 1) : goOnT t = (t.1, t.2.1, t.2.2.1, t.2.2.2.1, t.2.2.2.2.1, t.2.2.2.2.2 - 1) := by unfold goOnT; rw [if_neg h]
/-- the text -/
def tadd (I : mI) (t : Nat) (x : Int) : mI := if I t 1 < 200 then mup (mup I (t + 1) (I t 1).toNat x) t 1 (I t 1 + 1) else I
def tla (I : mI) (t : Nat) (i : Int) : Int := if 0 ≤ i ∧ i < I t 1 then I (t + 1) i.toNat else 0

set_option maxRecDepth 100000 in
theorem k_add {σ : List mC} {I : mI} {t : Nat} {x : Int} (ht : IsText σ t) (hI : Nrm I) (hl : 0 ≤ I t 1 ∧ I t 1 ≤ 200) : mCt mX5_add [mr t, mi x] (σ, I) (some (mi (if I t 1 < 200 then 1 else 0))) (σ, tadd I t x) := by
  refine mCt.eq ?_
  refine mMt.of pl_5 (Nat.le_of_ble_eq_true rfl) ?_
  show mRun mZt mX5_add 0 [some (mr t), some (mi x)] [] (σ, I) _
  refine mRun.go (q_aload_n dX5_add_0 rfl rfl) ?_
  refine mRun.go (q_getI dX5_add_1 fo_X5_15 ht.1 rfl) ?_
  refine r_if_lt (tgt := 19) dX5_add_4 (by decide) (hI _ _) (fun c4 => ?_) (fun c4 => ?_)
  · refine mRun.go (q_iconst dX5_add_19) ?_
    refine r_zret dX5_add_20 rfl (by simp) ?_
    unfold tadd
    first | (rw [if_pos (by omega), if_pos (by omega)]; exact ⟨rfl, rfl⟩) | (rw [if_neg (by omega), if_neg (by omega)]; exact ⟨rfl, rfl⟩)
  · refine mRun.go (q_aload_n dX5_add_7 rfl rfl) ?_
    refine mRun.go (q_getI dX5_add_8 fo_X5_15 ht.1 rfl) ?_
    refine mRun.go (q_aload_n dX5_add_11 rfl rfl) ?_
    refine mRun.go (q_getR dX5_add_12 fo_X5_9 ht.1 rfl) ?_
    refine mRun.go (q_alen dX5_add_15 ht.2) ?_
    refine r_icmp_lt (tgt := 21) dX5_add_16 (by decide) (hI _ _) (by omega) (fun c16 => ?_) (fun c16 => ?_)
    · refine mRun.go (q_aload_n dX5_add_21 rfl rfl) ?_
      refine mRun.go (q_getR dX5_add_22 fo_X5_9 ht.1 rfl) ?_
      refine mRun.go (q_aload_n dX5_add_25 rfl rfl) ?_
      refine mRun.go (q_getI dX5_add_26 fo_X5_15 ht.1 rfl) ?_
      refine mRun.go (q_iload_n dX5_add_29 rfl rfl) ?_
      refine mRun.go (q_iast dX5_add_30 ht.2 (by omega) (by omega)) ?_
      refine mRun.go (q_aload_n dX5_add_31 rfl rfl) ?_
      refine mRun.go (q_dup dX5_add_32 rfl) ?_
      refine mRun.go (q_getE (x := I t 1) dX5_add_33 fo_X5_15 ht.1 rfl (by simp [mup])) ?_
      refine mRun.go (q_iconst dX5_add_36) ?_
      refine mRun.go (q_iadd dX5_add_37) ?_
      refine mRun.go (q_putI dX5_add_38 fo_X5_15 fp_5_1 ht.1 rfl) ?_
      refine mRun.go (q_iconst dX5_add_41) ?_
      refine r_zret dX5_add_42 rfl (by simp) ?_
      unfold tadd
      first | (rw [if_pos (by omega), if_pos (by omega)]; exact ⟨rfl, rfl⟩) | (rw [if_neg (by omega), if_neg (by omega)]; exact ⟨rfl, rfl⟩)
    · refine mRun.go (q_iconst dX5_add_19) ?_
      refine r_zret dX5_add_20 rfl (by simp) ?_
      unfold tadd
      first | (rw [if_pos (by omega), if_pos (by omega)]; exact ⟨rfl, rfl⟩) | (rw [if_neg (by omega), if_neg (by omega)]; exact ⟨rfl, rfl⟩)

set_option maxRecDepth 100000 in
theorem k_letterAt {σ : List mC} {I : mI} {t : Nat} {i : Int} (ht : IsText σ t) (hI : Nrm I) (hl : 0 ≤ I t 1 ∧ I t 1 ≤ 200) (hi : -2147483648 ≤ i ∧ i < 2147483648) : mCt mX5_letterAt [mr t, mi i] (σ, I) (some (mi (tla I t i))) (σ, I) := by
  refine mCt.eq ?_
  refine mMt.of pl_5 (Nat.le_of_ble_eq_true rfl) ?_
  show mRun mZt mX5_letterAt 0 [some (mr t), some (mi i)] [] (σ, I) _
  refine mRun.go (q_iload_n dX5_letterAt_0 rfl rfl) ?_
  refine r_if_lt (tgt := 30) dX5_letterAt_1 (by decide) (by omega) (fun c1 => ?_) (fun c1 => ?_)
  · refine mRun.go (q_iconst dX5_letterAt_30) ?_
    refine r_iret dX5_letterAt_31 rfl ?_
    unfold tla
    first | (rw [if_pos ⟨by omega, by omega⟩]; exact ⟨rfl, rfl⟩) | (rw [if_neg (by omega)]; exact ⟨rfl, rfl⟩)
  · refine mRun.go (q_iload_n dX5_letterAt_4 rfl rfl) ?_
    refine mRun.go (q_aload_n dX5_letterAt_5 rfl rfl) ?_
    refine mRun.go (q_getI dX5_letterAt_6 fo_X5_15 ht.1 rfl) ?_
    refine r_icmp_ge (tgt := 30) dX5_letterAt_9 (by decide) (by omega) (hI _ _) (fun c9 => ?_) (fun c9 => ?_)
    · refine mRun.go (q_iconst dX5_letterAt_30) ?_
      refine r_iret dX5_letterAt_31 rfl ?_
      unfold tla
      first | (rw [if_pos ⟨by omega, by omega⟩]; exact ⟨rfl, rfl⟩) | (rw [if_neg (by omega)]; exact ⟨rfl, rfl⟩)
    · refine mRun.go (q_iload_n dX5_letterAt_12 rfl rfl) ?_
      refine mRun.go (q_aload_n dX5_letterAt_13 rfl rfl) ?_
      refine mRun.go (q_getR dX5_letterAt_14 fo_X5_9 ht.1 rfl) ?_
      refine mRun.go (q_alen dX5_letterAt_17 ht.2) ?_
      refine r_icmp_ge (tgt := 30) dX5_letterAt_18 (by decide) (by omega) (by omega) (fun c18 => ?_) (fun c18 => ?_)
      · refine mRun.go (q_iconst dX5_letterAt_30) ?_
        refine r_iret dX5_letterAt_31 rfl ?_
        unfold tla
        first | (rw [if_pos ⟨by omega, by omega⟩]; exact ⟨rfl, rfl⟩) | (rw [if_neg (by omega)]; exact ⟨rfl, rfl⟩)
      · refine mRun.go (q_aload_n dX5_letterAt_21 rfl rfl) ?_
        refine mRun.go (q_getR dX5_letterAt_22 fo_X5_9 ht.1 rfl) ?_
        refine mRun.go (q_iload_n dX5_letterAt_25 rfl rfl) ?_
        refine mRun.go (q_iald dX5_letterAt_26 ht.2 (by omega) (by omega)) ?_
        refine mRun.go (q_goto (tgt := 31) dX5_letterAt_27 (by decide)) ?_
        refine r_iret dX5_letterAt_31 rfl ?_
        unfold tla
        first | (rw [if_pos ⟨by omega, by omega⟩]; exact ⟨rfl, rfl⟩) | (rw [if_neg (by omega)]; exact ⟨rfl, rfl⟩)

set_option maxRecDepth 100000 in
theorem k_goTo {σ : List mC} {I : mI} {r : Nat} {to : Int} (hr : IsTrv σ r) (hI : Nrm I) (hto : -2147483648 ≤ to ∧ to < 2147483648) : mCt mX6_goTo [mr r, mi to] (σ, I) none (σ, tset I r (goToT (tget I r) to)) := by
  refine mCt.eq ?_
  refine mMt.of pl_6 (Nat.le_of_ble_eq_true rfl) ?_
  show mRun mZt mX6_goTo 0 [some (mr r), some (mi to)] [] (σ, I) _
  refine mRun.go (q_aload_n dX6_goTo_0 rfl rfl) ?_
  refine mRun.go (q_iload_n dX6_goTo_1 rfl rfl) ?_
  refine mRun.go (q_putI dX6_goTo_2 fo_X6_28 fp_6_1 hr rfl) ?_
  refine mRun.go (q_aload_n dX6_goTo_5 rfl rfl) ?_
  refine mRun.go (q_aload_n dX6_goTo_6 rfl rfl) ?_
  refine mRun.go (q_getE (x := I r 5) dX6_goTo_7 fo_X6_18 hr rfl (by simp [mup])) ?_
  refine r_if_ne (tgt := 25) dX6_goTo_10 (by decide) (hI _ _) (fun c10 => ?_) (fun c10 => ?_)
  · refine mRun.go (q_iconst dX6_goTo_25) ?_
    refine mRun.go (q_putI dX6_goTo_26 fo_X6_31 fp_6_3 hr rfl) ?_
    refine r_ret dX6_goTo_29 rfl ?_
    refine ⟨rfl, congrArg (Prod.mk σ) ?_⟩
    simp only [mup_t0, mup_t1, mup_t2, mup_t3, mup_t4, mup_t5, tset_tset, tset_0, tset_1, tset_2, tset_3, tset_4, tset_5]
    first | (rw [goToT_p (show I r 5 = 0 ∧ I r 0 = to by omega)]; rfl) | (rw [goToT_n (show ¬ (I r 5 = 0 ∧ I r 0 = to) by omega)]; rfl)
  · refine mRun.go (q_aload_n dX6_goTo_13 rfl rfl) ?_
    refine mRun.go (q_getE (x := I r 0) dX6_goTo_14 fo_X6_9 hr rfl (by simp [mup])) ?_
    refine mRun.go (q_iload_n dX6_goTo_17 rfl rfl) ?_
    refine r_icmp_ne (tgt := 25) dX6_goTo_18 (by decide) (hI _ _) hto (fun c18 => ?_) (fun c18 => ?_)
    · refine mRun.go (q_iconst dX6_goTo_25) ?_
      refine mRun.go (q_putI dX6_goTo_26 fo_X6_31 fp_6_3 hr rfl) ?_
      refine r_ret dX6_goTo_29 rfl ?_
      refine ⟨rfl, congrArg (Prod.mk σ) ?_⟩
      simp only [mup_t0, mup_t1, mup_t2, mup_t3, mup_t4, mup_t5, tset_tset, tset_0, tset_1, tset_2, tset_3, tset_4, tset_5]
      first | (rw [goToT_p (show I r 5 = 0 ∧ I r 0 = to by omega)]; rfl) | (rw [goToT_n (show ¬ (I r 5 = 0 ∧ I r 0 = to) by omega)]; rfl)
    · refine mRun.go (q_iconst dX6_goTo_21) ?_
      refine mRun.go (q_goto (tgt := 26) dX6_goTo_22 (by decide)) ?_
      refine mRun.go (q_putI dX6_goTo_26 fo_X6_31 fp_6_3 hr rfl) ?_
      refine r_ret dX6_goTo_29 rfl ?_
      refine ⟨rfl, congrArg (Prod.mk σ) ?_⟩
      simp only [mup_t0, mup_t1, mup_t2, mup_t3, mup_t4, mup_t5, tset_tset, tset_0, tset_1, tset_2, tset_3, tset_4, tset_5]
      first | (rw [goToT_p (show I r 5 = 0 ∧ I r 0 = to by omega)]; rfl) | (rw [goToT_n (show ¬ (I r 5 = 0 ∧ I r 0 = to) by omega)]; rfl)

set_option maxRecDepth 100000 in
theorem k_start {σ : List mC} {I : mI} {r : Nat} {fr to by' : Int} (hr : IsTrv σ r) (hI : Nrm I) (hfr : -2147483648 ≤ fr ∧ fr < 2147483648) (hto : -2147483648 ≤ to ∧ to < 2147483648) (hby : -2147483648 ≤ by' ∧ by' < 2147483648) : mCt mX6_start [mr r, mi fr, mi to, mi by'] (σ, I) none (σ, tset I r (startT (tget I r) fr to by')) := by
  refine mCt.eq ?_
  refine mMt.of pl_6 (Nat.le_of_ble_eq_true rfl) ?_
  show mRun mZt mX6_start 0 [some (mr r), some (mi fr), some (mi to), some (mi by')] [] (σ, I) _
  refine mRun.go (q_aload_n dX6_start_0 rfl rfl) ?_
  refine mRun.go (q_iload_n dX6_start_1 rfl rfl) ?_
  refine mRun.go (q_putI dX6_start_2 fo_X6_9 fp_6_0 hr rfl) ?_
  refine mRun.go (q_aload_n dX6_start_5 rfl rfl) ?_
  refine mRun.go (q_iload_n dX6_start_6 rfl rfl) ?_
  refine mRun.go (q_putI dX6_start_7 fo_X6_15 fp_6_4 hr rfl) ?_
  refine mRun.go (q_aload_n dX6_start_10 rfl rfl) ?_
  refine mRun.go (q_iconst dX6_start_11) ?_
  refine mRun.go (q_putI dX6_start_12 fo_X6_18 fp_6_5 hr rfl) ?_
  refine mRun.go (q_aload_n dX6_start_15 rfl rfl) ?_
  refine mRun.go (q_iload_n dX6_start_16 rfl rfl) ?_
  refine mRun.go (q_putI dX6_start_17 fo_X6_21 fp_6_2 hr rfl) ?_
  refine mRun.go (q_aload_n dX6_start_20 rfl rfl) ?_
  refine mRun.go (q_iload_n dX6_start_21 rfl rfl) ?_
  refine mRun.go (q_callVv (r := r) [mi to] [] dX6_start_22 co_X6_24 ⟨Nat.le_of_ble_eq_true rfl, Nat.le_of_ble_eq_true rfl⟩ gw_356 gw_357 rfl hr rfl rfl rfl (Nat.le_of_ble_eq_true rfl) (k_goTo hr (nrm_mup (nrm_mup (nrm_mup (nrm_mup hI hfr) hfr) (by omega)) hby) hto)) ?_
  refine r_ret dX6_start_25 rfl ?_
  refine ⟨rfl, congrArg (Prod.mk σ) ?_⟩
  simp only [mup_t0, mup_t1, mup_t2, mup_t3, mup_t4, mup_t5, tset_tset, tset_0, tset_1, tset_2, tset_3, tset_4, tset_5, tget_tset]
  rfl

set_option maxRecDepth 100000 in
theorem k_isOn {σ : List mC} {I : mI} {r : Nat} (hr : IsTrv σ r) (hI : Nrm I) : mCt mX6_isOnHisWay [mr r] (σ, I) (some (mi (if 0 < I r 5 then 1 else 0))) (σ, I) := by
  refine mCt.eq ?_
  refine mMt.of pl_6 (Nat.le_of_ble_eq_true rfl) ?_
  show mRun mZt mX6_isOnHisWay 0 [some (mr r)] [] (σ, I) _
  refine mRun.go (q_aload_n dX6_isOnHisWay_0 rfl rfl) ?_
  refine mRun.go (q_getI dX6_isOnHisWay_1 fo_X6_18 hr rfl) ?_
  refine r_if_le (tgt := 11) dX6_isOnHisWay_4 (by decide) (hI _ _) (fun c4 => ?_) (fun c4 => ?_)
  · refine mRun.go (q_iconst dX6_isOnHisWay_11) ?_
    refine r_zret dX6_isOnHisWay_12 rfl (by simp) ?_
    first | (rw [if_pos (by omega)]; exact ⟨rfl, rfl⟩) | (rw [if_neg (by omega)]; exact ⟨rfl, rfl⟩)
  · refine mRun.go (q_iconst dX6_isOnHisWay_7) ?_
    refine mRun.go (q_goto (tgt := 12) dX6_isOnHisWay_8 (by decide)) ?_
    refine r_zret dX6_isOnHisWay_12 rfl (by simp) ?_
    first | (rw [if_pos (by omega)]; exact ⟨rfl, rfl⟩) | (rw [if_neg (by omega)]; exact ⟨rfl, rfl⟩)

set_option maxRecDepth 100000 in
theorem k_must {σ : List mC} {I : mI} {r : Nat} (hr : IsTrv σ r) (hI : Nrm I) : mCt mX6_mustSetOut [mr r] (σ, I) (some (mi (if I r 3 = 0 ∧ I r 5 = 0 then 1 else 0))) (σ, I) := by
  refine mCt.eq ?_
  refine mMt.of pl_6 (Nat.le_of_ble_eq_true rfl) ?_
  show mRun mZt mX6_mustSetOut 0 [some (mr r)] [] (σ, I) _
  refine mRun.go (q_aload_n dX6_mustSetOut_0 rfl rfl) ?_
  refine mRun.go (q_getI dX6_mustSetOut_1 fo_X6_31 hr rfl) ?_
  refine r_if_ne (tgt := 18) dX6_mustSetOut_4 (by decide) (hI _ _) (fun c4 => ?_) (fun c4 => ?_)
  · refine mRun.go (q_iconst dX6_mustSetOut_18) ?_
    refine r_zret dX6_mustSetOut_19 rfl (by simp) ?_
    first | (rw [if_pos (by omega)]; exact ⟨rfl, rfl⟩) | (rw [if_neg (by omega)]; exact ⟨rfl, rfl⟩)
  · refine mRun.go (q_aload_n dX6_mustSetOut_7 rfl rfl) ?_
    refine mRun.go (q_getI dX6_mustSetOut_8 fo_X6_18 hr rfl) ?_
    refine r_if_ne (tgt := 18) dX6_mustSetOut_11 (by decide) (hI _ _) (fun c11 => ?_) (fun c11 => ?_)
    · refine mRun.go (q_iconst dX6_mustSetOut_18) ?_
      refine r_zret dX6_mustSetOut_19 rfl (by simp) ?_
      first | (rw [if_pos (by omega)]; exact ⟨rfl, rfl⟩) | (rw [if_neg (by omega)]; exact ⟨rfl, rfl⟩)
    · refine mRun.go (q_iconst dX6_mustSetOut_14) ?_
      refine mRun.go (q_goto (tgt := 19) dX6_mustSetOut_15 (by decide)) ?_
      refine r_zret dX6_mustSetOut_19 rfl (by simp) ?_
      first | (rw [if_pos (by omega)]; exact ⟨rfl, rfl⟩) | (rw [if_neg (by omega)]; exact ⟨rfl, rfl⟩)

set_option maxRecDepth 100000 in
theorem k_goOn {σ : List mC} {I : mI} {r : Nat} (hr : IsTrv σ r) (hI : Nrm I) (hl : 0 < I r 5) : mCt mX6_goOn [mr r] (σ, I) none (σ, tset I r (goOnT (tget I r))) := by
  refine mCt.eq ?_
  refine mMt.of pl_6 (Nat.le_of_ble_eq_true rfl) ?_
  show mRun mZt mX6_goOn 0 [some (mr r)] [] (σ, I) _
  have hI5 := hI r 5
  refine mRun.go (q_aload_n dX6_goOn_0 rfl rfl) ?_
  refine mRun.go (q_dup dX6_goOn_1 rfl) ?_
  refine mRun.go (q_getI dX6_goOn_2 fo_X6_18 hr rfl) ?_
  refine mRun.go (q_iconst dX6_goOn_5) ?_
  refine mRun.go (q_isub dX6_goOn_6) ?_
  refine mRun.go (q_putI dX6_goOn_7 fo_X6_18 fp_6_5 hr rfl) ?_
  refine mRun.go (q_aload_n dX6_goOn_10 rfl rfl) ?_
  refine mRun.go (q_getE (x := (I r 5) - 1) dX6_goOn_11 fo_X6_18 hr rfl (by simp [mup])) ?_
  refine r_if_ne (tgt := 45) dX6_goOn_14 (by decide) (by omega) (fun c14 => ?_) (fun c14 => ?_)
  · refine r_ret dX6_goOn_45 rfl ?_
    refine ⟨rfl, congrArg (Prod.mk σ) ?_⟩
    simp only [mup_t0, mup_t1, mup_t2, mup_t3, mup_t4, mup_t5, tset_tset, tset_0, tset_1, tset_2, tset_3, tset_4, tset_5]
    first | (rw [goOnT_1 (show I r 5 = 1 by omega) (show I r 4 = I r 1 by omega), show I r 5 - 1 = 0 by omega]; rfl) | (rw [goOnT_2 (show I r 5 = 1 by omega) (show ¬ I r 4 = I r 1 by omega), show I r 5 - 1 = 0 by omega]; rfl) | (rw [goOnT_3 (show ¬ I r 5 = 1 by omega)]; rfl)
  · refine mRun.go (q_aload_n dX6_goOn_17 rfl rfl) ?_
    refine mRun.go (q_aload_n dX6_goOn_18 rfl rfl) ?_
    refine mRun.go (q_getE (x := I r 4) dX6_goOn_19 fo_X6_15 hr rfl (by simp [mup])) ?_
    refine mRun.go (q_putI dX6_goOn_22 fo_X6_9 fp_6_0 hr rfl) ?_
    refine mRun.go (q_aload_n dX6_goOn_25 rfl rfl) ?_
    refine mRun.go (q_aload_n dX6_goOn_26 rfl rfl) ?_
    refine mRun.go (q_getE (x := I r 4) dX6_goOn_27 fo_X6_9 hr rfl (by simp [mup])) ?_
    refine mRun.go (q_aload_n dX6_goOn_30 rfl rfl) ?_
    refine mRun.go (q_getE (x := I r 1) dX6_goOn_31 fo_X6_28 hr rfl (by simp [mup])) ?_
    refine r_icmp_ne (tgt := 41) dX6_goOn_34 (by decide) (hI _ _) (hI _ _) (fun c34 => ?_) (fun c34 => ?_)
    · refine mRun.go (q_iconst dX6_goOn_41) ?_
      refine mRun.go (q_putI dX6_goOn_42 fo_X6_31 fp_6_3 hr rfl) ?_
      refine r_ret dX6_goOn_45 rfl ?_
      refine ⟨rfl, congrArg (Prod.mk σ) ?_⟩
      simp only [mup_t0, mup_t1, mup_t2, mup_t3, mup_t4, mup_t5, tset_tset, tset_0, tset_1, tset_2, tset_3, tset_4, tset_5]
      first | (rw [goOnT_1 (show I r 5 = 1 by omega) (show I r 4 = I r 1 by omega), show I r 5 - 1 = 0 by omega]; rfl) | (rw [goOnT_2 (show I r 5 = 1 by omega) (show ¬ I r 4 = I r 1 by omega), show I r 5 - 1 = 0 by omega]; rfl) | (rw [goOnT_3 (show ¬ I r 5 = 1 by omega)]; rfl)
    · refine mRun.go (q_iconst dX6_goOn_37) ?_
      refine mRun.go (q_goto (tgt := 42) dX6_goOn_38 (by decide)) ?_
      refine mRun.go (q_putI dX6_goOn_42 fo_X6_31 fp_6_3 hr rfl) ?_
      refine r_ret dX6_goOn_45 rfl ?_
      refine ⟨rfl, congrArg (Prod.mk σ) ?_⟩
      simp only [mup_t0, mup_t1, mup_t2, mup_t3, mup_t4, mup_t5, tset_tset, tset_0, tset_1, tset_2, tset_3, tset_4, tset_5]
      first | (rw [goOnT_1 (show I r 5 = 1 by omega) (show I r 4 = I r 1 by omega), show I r 5 - 1 = 0 by omega]; rfl) | (rw [goOnT_2 (show I r 5 = 1 by omega) (show ¬ I r 4 = I r 1 by omega), show I r 5 - 1 = 0 by omega]; rfl) | (rw [goOnT_3 (show ¬ I r 5 = 1 by omega)]; rfl)

set_option maxRecDepth 100000 in
theorem k_isWith {σ : List mC} {I : mI} {r : Nat} {o : Nat} (hr : IsTrv σ r) (ho : IsTrv σ o) (hI : Nrm I) : mCt mX6_isWith [mr r, mr o] (σ, I) (some (mi (if I r 5 = 0 ∧ I o 5 = 0 ∧ I r 0 = I o 0 then 1 else 0))) (σ, I) := by
  refine mCt.eq ?_
  refine mMt.of pl_6 (Nat.le_of_ble_eq_true rfl) ?_
  show mRun mZt mX6_isWith 0 [some (mr r), some (mr o)] [] (σ, I) _
  refine mRun.go (q_aload_n dX6_isWith_0 rfl rfl) ?_
  refine mRun.go (q_getI dX6_isWith_1 fo_X6_18 hr rfl) ?_
  refine r_if_ne (tgt := 29) dX6_isWith_4 (by decide) (hI _ _) (fun c4 => ?_) (fun c4 => ?_)
  · refine mRun.go (q_iconst dX6_isWith_29) ?_
    refine r_zret dX6_isWith_30 rfl (by simp) ?_
    first | (rw [if_pos (by omega)]; exact ⟨rfl, rfl⟩) | (rw [if_neg (by omega)]; exact ⟨rfl, rfl⟩)
  · refine mRun.go (q_aload_n dX6_isWith_7 rfl rfl) ?_
    refine mRun.go (q_getI dX6_isWith_8 fo_X6_18 ho rfl) ?_
    refine r_if_ne (tgt := 29) dX6_isWith_11 (by decide) (hI _ _) (fun c11 => ?_) (fun c11 => ?_)
    · refine mRun.go (q_iconst dX6_isWith_29) ?_
      refine r_zret dX6_isWith_30 rfl (by simp) ?_
      first | (rw [if_pos (by omega)]; exact ⟨rfl, rfl⟩) | (rw [if_neg (by omega)]; exact ⟨rfl, rfl⟩)
    · refine mRun.go (q_aload_n dX6_isWith_14 rfl rfl) ?_
      refine mRun.go (q_getI dX6_isWith_15 fo_X6_9 hr rfl) ?_
      refine mRun.go (q_aload_n dX6_isWith_18 rfl rfl) ?_
      refine mRun.go (q_getI dX6_isWith_19 fo_X6_9 ho rfl) ?_
      refine r_icmp_ne (tgt := 29) dX6_isWith_22 (by decide) (hI _ _) (hI _ _) (fun c22 => ?_) (fun c22 => ?_)
      · refine mRun.go (q_iconst dX6_isWith_29) ?_
        refine r_zret dX6_isWith_30 rfl (by simp) ?_
        first | (rw [if_pos (by omega)]; exact ⟨rfl, rfl⟩) | (rw [if_neg (by omega)]; exact ⟨rfl, rfl⟩)
      · refine mRun.go (q_iconst dX6_isWith_25) ?_
        refine mRun.go (q_goto (tgt := 30) dX6_isWith_26 (by decide)) ?_
        refine r_zret dX6_isWith_30 rfl (by simp) ?_
        first | (rw [if_pos (by omega)]; exact ⟨rfl, rfl⟩) | (rw [if_neg (by omega)]; exact ⟨rfl, rfl⟩)

set_option maxRecDepth 100000 in
theorem k_tcopy {σ : List mC} {I : mI} {r : Nat} {o : Nat} (hr : IsTrv σ r) (ho : IsTrv σ o) (hne : o ≠ r) (hI : Nrm I) : mCt mX6_copyFrom [mr r, mr o] (σ, I) none (σ, tset I r (tget I o)) := by
  refine mCt.eq ?_
  refine mMt.of pl_6 (Nat.le_of_ble_eq_true rfl) ?_
  show mRun mZt mX6_copyFrom 0 [some (mr r), some (mr o)] [] (σ, I) _
  refine mRun.go (q_aload_n dX6_copyFrom_0 rfl rfl) ?_
  refine mRun.go (q_aload_n dX6_copyFrom_1 rfl rfl) ?_
  refine mRun.go (q_getI dX6_copyFrom_2 fo_X6_9 ho rfl) ?_
  refine mRun.go (q_putI dX6_copyFrom_5 fo_X6_9 fp_6_0 hr rfl) ?_
  refine mRun.go (q_aload_n dX6_copyFrom_8 rfl rfl) ?_
  refine mRun.go (q_aload_n dX6_copyFrom_9 rfl rfl) ?_
  refine mRun.go (q_getE (x := I o 1) dX6_copyFrom_10 fo_X6_28 ho rfl (by simp [mup, hne])) ?_
  refine mRun.go (q_putI dX6_copyFrom_13 fo_X6_28 fp_6_1 hr rfl) ?_
  refine mRun.go (q_aload_n dX6_copyFrom_16 rfl rfl) ?_
  refine mRun.go (q_aload_n dX6_copyFrom_17 rfl rfl) ?_
  refine mRun.go (q_getE (x := I o 2) dX6_copyFrom_18 fo_X6_21 ho rfl (by simp [mup, hne])) ?_
  refine mRun.go (q_putI dX6_copyFrom_21 fo_X6_21 fp_6_2 hr rfl) ?_
  refine mRun.go (q_aload_n dX6_copyFrom_24 rfl rfl) ?_
  refine mRun.go (q_aload_n dX6_copyFrom_25 rfl rfl) ?_
  refine mRun.go (q_getE (x := I o 3) dX6_copyFrom_26 fo_X6_31 ho rfl (by simp [mup, hne])) ?_
  refine mRun.go (q_putI dX6_copyFrom_29 fo_X6_31 fp_6_3 hr rfl) ?_
  refine mRun.go (q_aload_n dX6_copyFrom_32 rfl rfl) ?_
  refine mRun.go (q_aload_n dX6_copyFrom_33 rfl rfl) ?_
  refine mRun.go (q_getE (x := I o 4) dX6_copyFrom_34 fo_X6_15 ho rfl (by simp [mup, hne])) ?_
  refine mRun.go (q_putI dX6_copyFrom_37 fo_X6_15 fp_6_4 hr rfl) ?_
  refine mRun.go (q_aload_n dX6_copyFrom_40 rfl rfl) ?_
  refine mRun.go (q_aload_n dX6_copyFrom_41 rfl rfl) ?_
  refine mRun.go (q_getE (x := I o 5) dX6_copyFrom_42 fo_X6_18 ho rfl (by simp [mup, hne])) ?_
  refine mRun.go (q_putI dX6_copyFrom_45 fo_X6_18 fp_6_5 hr rfl) ?_
  refine r_ret dX6_copyFrom_48 rfl ?_
  refine ⟨rfl, congrArg (Prod.mk σ) ?_⟩
  simp only [mup_t0, mup_t1, mup_t2, mup_t3, mup_t4, mup_t5, tset_tset, tset_0, tset_1, tset_2, tset_3, tset_4, tset_5]
  rfl

def hrs (what wet : Int) : Int := if 2 ≤ wet then (if what = 3 then 1000000 else if what = 2 then 4 else if what = 1 then 3 else 2) else (if what = 2 then 3 else if what = 1 then 2 else 1)
def fig (x : Int) : Int := if 48 ≤ x ∧ x ≤ 57 then x - 48 else -1
def mdl (x n : Int) : Int := if 0 < n then x % n else 0
def loud (x wet : Int) : Int := if x = 0 then 9 - wet else if x = 1 then 6 - wet else if x = 2 then 4 - wet else 0

set_option maxRecDepth 100000 in
theorem k_within {h : mH} {x a b : Int} (hx : -2147483648 ≤ x ∧ x < 2147483648) (ha : -2147483648 ≤ a ∧ a < 2147483648) (hb : -2147483648 ≤ b ∧ b < 2147483648) : mCt mX8_within [mi x, mi a, mi b] h (some (mi (if a ≤ x ∧ x ≤ b then 1 else 0))) h := by
  refine mCt.eq ?_
  refine mMt.of pl_8 (Nat.le_of_ble_eq_true rfl) ?_
  show mRun mZt mX8_within 0 [some (mi x), some (mi a), some (mi b)] [] h _
  refine mRun.go (q_iload_n dX8_within_0 rfl rfl) ?_
  refine mRun.go (q_iload_n dX8_within_1 rfl rfl) ?_
  refine r_icmp_lt (tgt := 14) dX8_within_2 (by decide) (by omega) (by omega) (fun c2 => ?_) (fun c2 => ?_)
  · refine mRun.go (q_iconst dX8_within_14) ?_
    refine r_zret dX8_within_15 rfl (by simp) ?_
    first | (rw [if_pos (by omega)]; exact ⟨rfl, rfl⟩) | (rw [if_neg (by omega)]; exact ⟨rfl, rfl⟩)
  · refine mRun.go (q_iload_n dX8_within_5 rfl rfl) ?_
    refine mRun.go (q_iload_n dX8_within_6 rfl rfl) ?_
    refine r_icmp_gt (tgt := 14) dX8_within_7 (by decide) (by omega) (by omega) (fun c7 => ?_) (fun c7 => ?_)
    · refine mRun.go (q_iconst dX8_within_14) ?_
      refine r_zret dX8_within_15 rfl (by simp) ?_
      first | (rw [if_pos (by omega)]; exact ⟨rfl, rfl⟩) | (rw [if_neg (by omega)]; exact ⟨rfl, rfl⟩)
    · refine mRun.go (q_iconst dX8_within_10) ?_
      refine mRun.go (q_goto (tgt := 15) dX8_within_11 (by decide)) ?_
      refine r_zret dX8_within_15 rfl (by simp) ?_
      first | (rw [if_pos (by omega)]; exact ⟨rfl, rfl⟩) | (rw [if_neg (by omega)]; exact ⟨rfl, rfl⟩)

set_option maxRecDepth 100000 in
theorem k_figureOf {h : mH} {x : Int} (hx : -2147483648 ≤ x ∧ x < 2147483648) : mCt mX8_figureOf [mi x] h (some (mi (fig x))) h := by
  refine mCt.eq ?_
  refine mMt.of pl_8 (Nat.le_of_ble_eq_true rfl) ?_
  show mRun mZt mX8_figureOf 0 [some (mi x)] [] h _
  refine mRun.go (q_iload_n dX8_figureOf_0 rfl rfl) ?_
  refine mRun.go (q_bipush dX8_figureOf_1 (by decide)) ?_
  refine r_icmp_lt (tgt := 19) dX8_figureOf_3 (by decide) (by omega) (by omega) (fun c3 => ?_) (fun c3 => ?_)
  · refine mRun.go (q_iconst dX8_figureOf_19) ?_
    refine r_iret dX8_figureOf_20 rfl ?_
    unfold fig
    first | (rw [if_pos (by omega)]; exact ⟨rfl, rfl⟩) | (rw [if_neg (by omega)]; exact ⟨rfl, rfl⟩)
  · refine mRun.go (q_iload_n dX8_figureOf_6 rfl rfl) ?_
    refine mRun.go (q_bipush dX8_figureOf_7 (by decide)) ?_
    refine r_icmp_gt (tgt := 19) dX8_figureOf_9 (by decide) (by omega) (by omega) (fun c9 => ?_) (fun c9 => ?_)
    · refine mRun.go (q_iconst dX8_figureOf_19) ?_
      refine r_iret dX8_figureOf_20 rfl ?_
      unfold fig
      first | (rw [if_pos (by omega)]; exact ⟨rfl, rfl⟩) | (rw [if_neg (by omega)]; exact ⟨rfl, rfl⟩)
    · refine mRun.go (q_iload_n dX8_figureOf_12 rfl rfl) ?_
      refine mRun.go (q_bipush dX8_figureOf_13 (by decide)) ?_
      refine mRun.go (q_isub dX8_figureOf_15) ?_
      refine mRun.go (q_goto (tgt := 20) dX8_figureOf_16 (by decide)) ?_
      refine r_iret dX8_figureOf_20 rfl ?_
      unfold fig
      first | (rw [if_pos (by omega)]; exact ⟨rfl, rfl⟩) | (rw [if_neg (by omega)]; exact ⟨rfl, rfl⟩)

set_option maxRecDepth 100000 in
theorem k_modulo {h : mH} {x n : Int} (hx : 0 ≤ x ∧ x < 2147483648) (hn : -2147483648 ≤ n ∧ n < 2147483648) : mCt mX8_modulo [mi x, mi n] h (some (mi (mdl x n))) h := by
  refine mCt.eq ?_
  refine mMt.of pl_8 (Nat.le_of_ble_eq_true rfl) ?_
  show mRun mZt mX8_modulo 0 [some (mi x), some (mi n)] [] h _
  refine mRun.go (q_iload_n dX8_modulo_0 rfl rfl) ?_
  refine r_if_le (tgt := 10) dX8_modulo_1 (by decide) (by omega) (fun c1 => ?_) (fun c1 => ?_)
  · refine mRun.go (q_iconst dX8_modulo_10) ?_
    refine r_iret dX8_modulo_11 rfl ?_
    unfold mdl
    first | (rw [if_pos (by omega)]; exact ⟨rfl, rfl⟩) | (rw [if_neg (by omega)]; exact ⟨rfl, rfl⟩)
  · refine mRun.go (q_iload_n dX8_modulo_4 rfl rfl) ?_
    refine mRun.go (q_iload_n dX8_modulo_5 rfl rfl) ?_
    refine mRun.go (q_irem dX8_modulo_6 (by omega) (by omega)) ?_
    refine mRun.go (q_goto (tgt := 11) dX8_modulo_7 (by decide)) ?_
    refine r_iret dX8_modulo_11 rfl ?_
    unfold mdl
    first | (rw [if_pos (by omega)]; exact ⟨rfl, rfl⟩) | (rw [if_neg (by omega)]; exact ⟨rfl, rfl⟩)
