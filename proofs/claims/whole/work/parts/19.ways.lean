/-! ===== the ways of the class ===== -/
theorem rat_nat {I : mI} {r n k : Nat} {i : Int} (h : i = (k : Int)) (hk : k < n) : rat I r n i = I (r + 1) k := by
  subst h
  unfold rat
  rw [if_pos ⟨by omega, by omega⟩, show ((k : Int)).toNat = k by omega]
theorem k_atE {σ : List mC} {I : mI} {r n : Nat} {i v : Int} (hr : IsRow σ r n) (hi : -2147483648 ≤ i ∧ i < 2147483648) (hn : n < 100000) (e : rat I r n i = v) : mCt mX3_at [mr r, mi i] (σ, I) (some (mi v)) (σ, I) := by
  subst e
  exact k_at hr hi hn
theorem rput_nat {I : mI} {r n k : Nat} {i x : Int} (h : i = (k : Int)) (hk : k < n) : rput I r n i x = mup I (r + 1) k x := by
  subst h
  unfold rput
  rw [if_pos ⟨by omega, by omega⟩, show ((k : Int)).toNat = k by omega]
theorem k_putE {σ : List mC} {I J : mI} {r n : Nat} {i x : Int} (hr : IsRow σ r n) (hi : -2147483648 ≤ i ∧ i < 2147483648) (hn : n < 100000) (e : rput I r n i x = J) : mCt mX3_put [mr r, mi i, mi x] (σ, I) none (σ, J) := by
  subst e
  exact k_put hr hi hn
def IsWays (σ : List mC) (w : Nat) : Prop := σ[w]? = some (.inl (7, [some (some (w + 1)), some (some (w + 3))])) ∧ IsRow σ (w + 1) 36 ∧ IsRow σ (w + 3) 36
def nbC (I : mI) (l : Nat) : Nat → Nat → Int := fun x s => I (l + 5 + 1) (4 * x + s)
def eC (I : mI) (w : Nat) : Nat → Int := fun p => I (w + 1 + 1) p
def aC (I : mI) (w : Nat) : Nat → Int := fun p => I (w + 3 + 1) p
theorem cst_rng {P : Nat} {nb : Nat → Nat → Int} {e a : Nat → Int} (hw : Wfg P nb e) (ha : ∀ y, y < P → 0 ≤ a y ∧ a y ≤ 1000000) {x s : Nat} (hx : x < P) (hs : s < 4) : 1 ≤ cst nb e a x s ∧ cst nb e a x s ≤ 2000000 := by
  refine ⟨cst_pos hw (fun y hy => (ha y hy).1) hx hs, ?_⟩
  unfold cst
  rcases hw.1 x hx s hs with q | q
  · rw [if_pos q]; omega
  · rw [if_neg (by omega)]
    have := ha (nb x s).toNat (by omega)
    have := hw.2 (nb x s).toNat (by omega)
    omega
theorem fo_rng2 {P : Nat} {nb : Nat → Nat → Int} {e a : Nat → Int} (hw : Wfg P nb e) (ha : ∀ y, y < P → 0 ≤ a y ∧ a y ≤ 1000000) {x : Nat} (hx : x < P) {s : Nat} (hs : s ≤ 4) : 1 ≤ (fo nb e a x s).2 ∧ (fo nb e a x s).2 ≤ 1000000 := by
  refine ⟨?_, (fo_le s).1⟩
  rcases fo_at (nb := nb) (e := e) (a := a) (x := x) s with ⟨q, -⟩ | ⟨t, ht, q, -⟩
  · omega
  · have := cst_pos hw (fun y hy => (ha y hy).1) hx (s := t) (by omega); omega

set_option maxRecDepth 100000 in
theorem k_firstOf_loop {σ : List mC} {I : mI} {w l P : Nat} {x : Nat} (hw : IsWays σ w) (hl : IsLand σ l) (hI : Nrm I) (hP : P ≤ 36) (hwf : Wfg P (nbC I l) (eC I w)) (ha : ∀ y, y < P → 0 ≤ aC I w y ∧ aC I w y ≤ 1000000) (hx : x < P) : ∀ (n s : Nat) (o6 o7 : Option mV), 4 - s < n → s ≤ 4 → mRun mZt mX7_firstOf 10 [some (mr w), some (mr l), some (mi (x : Int)), some (mi (fo (nbC I l) (eC I w) (aC I w) x s).1), some (mi (fo (nbC I l) (eC I w) (aC I w) x s).2), some (mi (s : Int)), o6, o7] [] (σ, I) (fun v h => v = some (mi (fo (nbC I l) (eC I w) (aC I w) x 4).1) ∧ h = (σ, I)) := by
  intro n
  induction n with
  | zero => intro s o6 o7 h; omega
  | succ n ih =>
    intro s o6 o7 hn hs
    refine mRun.go (q_iload dX7_firstOf_10 rfl) ?_
    refine mRun.go (q_iconst dX7_firstOf_12) ?_
    refine r_icmp_ge (tgt := 84) dX7_firstOf_13 (by decide) (by omega) (by omega) (fun c13 => ?_) (fun c13 => ?_)
    · refine mRun.go (q_iload_n dX7_firstOf_84 rfl rfl) ?_
      refine r_iret dX7_firstOf_85 rfl ?_
      have : s = 4 := by omega
      subst this
      exact ⟨rfl, rfl⟩
    · have hs4 : s < 4 := by omega
      have hnb := hwf.1 x hx s hs4
      have hc := cst_rng hwf ha hx hs4
      have hfo := fo_rng2 hwf ha hx (s := s) (by omega)
      have hey : 0 ≤ nbC I l x s → 1 ≤ eC I w (nbC I l x s).toNat ∧ eC I w (nbC I l x s).toNat ≤ 1000000 := fun q => hwf.2 _ (by omega)
      have hay : 0 ≤ nbC I l x s → 0 ≤ aC I w (nbC I l x s).toNat ∧ aC I w (nbC I l x s).toNat ≤ 1000000 := fun q => ha _ (by omega)
      refine mRun.go (q_aload_n dX7_firstOf_16 rfl rfl) ?_
      refine mRun.go (q_getR dX7_firstOf_17 fo_X7_68 hl.1 rfl) ?_
      refine mRun.go (q_iload_n dX7_firstOf_20 rfl rfl) ?_
      refine mRun.go (q_iconst dX7_firstOf_21) ?_
      refine mRun.go (q_imul dX7_firstOf_22) ?_
      refine mRun.go (q_iload dX7_firstOf_23 rfl) ?_
      refine mRun.go (q_iadd dX7_firstOf_25) ?_
      refine mRun.go (q_callVi (r := l + 5) [mi (((x : Int) * 4) + (s : Int))] [] dX7_firstOf_26 co_X7_53 ⟨Nat.le_of_ble_eq_true rfl, Nat.le_of_ble_eq_true rfl⟩ gw_323 gw_324 rfl hl.2.2.2.1 rfl rfl rfl (Nat.le_of_ble_eq_true rfl) (k_atE (v := nbC I l x s) hl.2.2.2 (by omega) (by decide) (rat_nat (k := 4 * x + s) (by omega) (by omega)))) ?_
      refine mRun.go (q_istore (ls' := [some (mr w), some (mr l), some (mi (x : Int)), some (mi ((fo (nbC I l) (eC I w) (aC I w) x s).1)), some (mi ((fo (nbC I l) (eC I w) (aC I w) x s).2)), some (mi (s : Int)), some (mi (nbC I l x s)), o7]) dX7_firstOf_29 (Nat.le_of_ble_eq_true rfl) rfl) ?_
      refine mRun.go (q_iload dX7_firstOf_31 rfl) ?_
      refine mRun.go (q_bipush dX7_firstOf_33 (by decide)) ?_
      have j35 : ∀ {post : Option mV → mH → Prop}, mRun mZt mX7_firstOf 62 [some (mr w), some (mr l), some (mi (x : Int)), some (mi ((fo (nbC I l) (eC I w) (aC I w) x s).1)), some (mi ((fo (nbC I l) (eC I w) (aC I w) x s).2)), some (mi (s : Int)), some (mi (nbC I l x s)), o7] [mi (cst (nbC I l) (eC I w) (aC I w) x s)] (σ, I) post → mRun mZt mX7_firstOf 35 [some (mr w), some (mr l), some (mi (x : Int)), some (mi ((fo (nbC I l) (eC I w) (aC I w) x s).1)), some (mi ((fo (nbC I l) (eC I w) (aC I w) x s).2)), some (mi (s : Int)), some (mi (nbC I l x s)), o7] [mi (-4), mi (nbC I l x s)] (σ, I) post := by
        intro post k
        refine r_icmp_ne (tgt := 43) dX7_firstOf_35 (by decide) (by omega) (by omega) (fun c35 => ?_) (fun c35 => ?_)
        · refine mRun.go (q_aload_n dX7_firstOf_43 rfl rfl) ?_
          refine mRun.go (q_getR dX7_firstOf_44 fo_X7_14 hw.1 rfl) ?_
          refine mRun.go (q_iload dX7_firstOf_47 rfl) ?_
          refine mRun.go (q_callVi (r := w + 1) [mi (nbC I l x s)] [] dX7_firstOf_49 co_X7_53 ⟨Nat.le_of_ble_eq_true rfl, Nat.le_of_ble_eq_true rfl⟩ gw_323 gw_324 rfl hw.2.1.1 rfl rfl rfl (Nat.le_of_ble_eq_true rfl) (k_atE (v := eC I w (nbC I l x s).toNat) hw.2.1 (by omega) (by decide) (rat_nat (k := (nbC I l x s).toNat) (by omega) (by omega)))) ?_
          refine mRun.go (q_aload_n dX7_firstOf_52 rfl rfl) ?_
          refine mRun.go (q_getR dX7_firstOf_53 fo_X7_20 hw.1 rfl) ?_
          refine mRun.go (q_iload dX7_firstOf_56 rfl) ?_
          refine mRun.go (q_callVi (r := w + 3) [mi (nbC I l x s)] [mi (eC I w (nbC I l x s).toNat)] dX7_firstOf_58 co_X7_53 ⟨Nat.le_of_ble_eq_true rfl, Nat.le_of_ble_eq_true rfl⟩ gw_323 gw_324 rfl hw.2.2.1 rfl rfl rfl (Nat.le_of_ble_eq_true rfl) (k_atE (v := aC I w (nbC I l x s).toNat) hw.2.2 (by omega) (by decide) (rat_nat (k := (nbC I l x s).toNat) (by omega) (by omega)))) ?_
          refine mRun.go (q_iadd dX7_firstOf_61) ?_
          first | (unfold cst at k; rw [if_pos (by omega)] at k; exact k) | (unfold cst at k; rw [if_neg (by omega)] at k; exact k)
        · refine mRun.go (q_ldc (a := 1000000) dX7_firstOf_38 gw_515) ?_
          refine mRun.go (q_goto (tgt := 62) dX7_firstOf_40 (by decide)) ?_
          first | (unfold cst at k; rw [if_pos (by omega)] at k; exact k) | (unfold cst at k; rw [if_neg (by omega)] at k; exact k)
      refine j35 ?_
      refine mRun.go (q_istore (ls' := [some (mr w), some (mr l), some (mi (x : Int)), some (mi ((fo (nbC I l) (eC I w) (aC I w) x s).1)), some (mi ((fo (nbC I l) (eC I w) (aC I w) x s).2)), some (mi (s : Int)), some (mi (nbC I l x s)), some (mi (cst (nbC I l) (eC I w) (aC I w) x s))]) dX7_firstOf_62 (Nat.le_of_ble_eq_true rfl) rfl) ?_
      refine mRun.go (q_iload dX7_firstOf_64 rfl) ?_
      refine mRun.go (q_iload dX7_firstOf_66 rfl) ?_
      refine r_icmp_ge (tgt := 78) dX7_firstOf_68 (by decide) (by omega) (by omega) (fun c68 => ?_) (fun c68 => ?_)
      · refine mRun.go (q_iinc (ls' := [some (mr w), some (mr l), some (mi (x : Int)), some (mi ((fo (nbC I l) (eC I w) (aC I w) x s).1)), some (mi ((fo (nbC I l) (eC I w) (aC I w) x s).2)), some (mi ((s : Int) + 1)), some (mi (nbC I l x s)), some (mi (cst (nbC I l) (eC I w) (aC I w) x s))]) dX7_firstOf_78 rfl (Nat.le_of_ble_eq_true rfl) rfl) ?_
        refine mRun.go (q_goto (tgt := 10) dX7_firstOf_81 (by decide)) ?_
        have e1 : ((s : Int) + 1) = ((s + 1 : Nat) : Int) := by omega
        have h := ih (s + 1) (some (mi (nbC I l x s))) (some (mi (cst (nbC I l) (eC I w) (aC I w) x s))) (by omega) (by omega)
        have e2 : fo (nbC I l) (eC I w) (aC I w) x (s + 1) = fo (nbC I l) (eC I w) (aC I w) x s := by simp only [fo]; rw [if_neg (by omega)]
        rw [e2] at h
        rw [e1]
        exact h
      · refine mRun.go (q_iload dX7_firstOf_71 rfl) ?_
        refine mRun.go (q_istore (ls' := [some (mr w), some (mr l), some (mi (x : Int)), some (mi ((fo (nbC I l) (eC I w) (aC I w) x s).1)), some (mi (cst (nbC I l) (eC I w) (aC I w) x s)), some (mi (s : Int)), some (mi (nbC I l x s)), some (mi (cst (nbC I l) (eC I w) (aC I w) x s))]) dX7_firstOf_73 (Nat.le_of_ble_eq_true rfl) rfl) ?_
        refine mRun.go (q_iload dX7_firstOf_75 rfl) ?_
        refine mRun.go (q_istore_n (ls' := [some (mr w), some (mr l), some (mi (x : Int)), some (mi (nbC I l x s)), some (mi (cst (nbC I l) (eC I w) (aC I w) x s)), some (mi (s : Int)), some (mi (nbC I l x s)), some (mi (cst (nbC I l) (eC I w) (aC I w) x s))]) dX7_firstOf_77 rfl (Nat.le_of_ble_eq_true rfl) rfl) ?_
        refine mRun.go (q_iinc (ls' := [some (mr w), some (mr l), some (mi (x : Int)), some (mi (nbC I l x s)), some (mi (cst (nbC I l) (eC I w) (aC I w) x s)), some (mi ((s : Int) + 1)), some (mi (nbC I l x s)), some (mi (cst (nbC I l) (eC I w) (aC I w) x s))]) dX7_firstOf_78 rfl (Nat.le_of_ble_eq_true rfl) rfl) ?_
        refine mRun.go (q_goto (tgt := 10) dX7_firstOf_81 (by decide)) ?_
        have e1 : ((s : Int) + 1) = ((s + 1 : Nat) : Int) := by omega
        have h := ih (s + 1) (some (mi (nbC I l x s))) (some (mi (cst (nbC I l) (eC I w) (aC I w) x s))) (by omega) (by omega)
        have e2 : fo (nbC I l) (eC I w) (aC I w) x (s + 1) = (nbC I l x s, cst (nbC I l) (eC I w) (aC I w) x s) := by simp only [fo]; rw [if_pos (by omega)]
        rw [e2] at h
        rw [e1]
        exact h

set_option maxRecDepth 100000 in
theorem k_firstOf {σ : List mC} {I : mI} {w l P : Nat} {x : Nat} (hw : IsWays σ w) (hl : IsLand σ l) (hI : Nrm I) (hP : P ≤ 36) (hwf : Wfg P (nbC I l) (eC I w)) (ha : ∀ y, y < P → 0 ≤ aC I w y ∧ aC I w y ≤ 1000000) (hx : x < P) : mCt mX7_firstOf [mr w, mr l, mi (x : Int)] (σ, I) (some (mi (fo (nbC I l) (eC I w) (aC I w) x 4).1)) (σ, I) := by
  refine mCt.eq ?_
  refine mMt.of pl_7 (Nat.le_of_ble_eq_true rfl) ?_
  show mRun mZt mX7_firstOf 0 [some (mr w), some (mr l), some (mi (x : Int)), none, none, none, none, none] [] (σ, I) _
  refine mRun.go (q_bipush dX7_firstOf_0 (by decide)) ?_
  refine mRun.go (q_istore_n (ls' := [some (mr w), some (mr l), some (mi (x : Int)), some (mi (-4)), none, none, none, none]) dX7_firstOf_2 rfl (Nat.le_of_ble_eq_true rfl) rfl) ?_
  refine mRun.go (q_ldc (a := 1000000) dX7_firstOf_3 gw_515) ?_
  refine mRun.go (q_istore (ls' := [some (mr w), some (mr l), some (mi (x : Int)), some (mi (-4)), some (mi 1000000), none, none, none]) dX7_firstOf_5 (Nat.le_of_ble_eq_true rfl) rfl) ?_
  refine mRun.go (q_iconst dX7_firstOf_7) ?_
  refine mRun.go (q_istore (ls' := [some (mr w), some (mr l), some (mi (x : Int)), some (mi (-4)), some (mi 1000000), some (mi 0), none, none]) dX7_firstOf_8 (Nat.le_of_ble_eq_true rfl) rfl) ?_
  exact k_firstOf_loop hw hl hI hP hwf ha hx 5 0 none none (by omega) (by omega)

set_option maxRecDepth 100000 in
theorem k_hoursOver {σ : List mC} {I : mI} {w : Nat} {q : Int} (hw : IsWays σ w) (hI : Nrm I) (hq : q = -4 ∨ (0 ≤ q ∧ q < 36)) : mCt mX7_hoursOver [mr w, mi q] (σ, I) (some (mi (if q = -4 then 1000000 else eC I w q.toNat + aC I w q.toNat))) (σ, I) := by
  refine mCt.eq ?_
  refine mMt.of pl_7 (Nat.le_of_ble_eq_true rfl) ?_
  show mRun mZt mX7_hoursOver 0 [some (mr w), some (mi q)] [] (σ, I) _
  refine mRun.go (q_iload_n dX7_hoursOver_0 rfl rfl) ?_
  refine mRun.go (q_bipush dX7_hoursOver_1 (by decide)) ?_
  refine r_icmp_ne (tgt := 11) dX7_hoursOver_3 (by decide) (by omega) (by omega) (fun c3 => ?_) (fun c3 => ?_)
  · refine mRun.go (q_aload_n dX7_hoursOver_11 rfl rfl) ?_
    refine mRun.go (q_getR dX7_hoursOver_12 fo_X7_14 hw.1 rfl) ?_
    refine mRun.go (q_iload_n dX7_hoursOver_15 rfl rfl) ?_
    refine mRun.go (q_callVi (r := w + 1) [mi q] [] dX7_hoursOver_16 co_X7_53 ⟨Nat.le_of_ble_eq_true rfl, Nat.le_of_ble_eq_true rfl⟩ gw_323 gw_324 rfl hw.2.1.1 rfl rfl rfl (Nat.le_of_ble_eq_true rfl) (k_atE (v := eC I w q.toNat) hw.2.1 (by omega) (by decide) (rat_nat (k := q.toNat) (by omega) (by omega)))) ?_
    refine mRun.go (q_aload_n dX7_hoursOver_19 rfl rfl) ?_
    refine mRun.go (q_getR dX7_hoursOver_20 fo_X7_20 hw.1 rfl) ?_
    refine mRun.go (q_iload_n dX7_hoursOver_23 rfl rfl) ?_
    refine mRun.go (q_callVi (r := w + 3) [mi q] [mi (eC I w q.toNat)] dX7_hoursOver_24 co_X7_53 ⟨Nat.le_of_ble_eq_true rfl, Nat.le_of_ble_eq_true rfl⟩ gw_323 gw_324 rfl hw.2.2.1 rfl rfl rfl (Nat.le_of_ble_eq_true rfl) (k_atE (v := aC I w q.toNat) hw.2.2 (by omega) (by decide) (rat_nat (k := q.toNat) (by omega) (by omega)))) ?_
    refine mRun.go (q_iadd dX7_hoursOver_27) ?_
    refine r_iret dX7_hoursOver_28 rfl ?_
    first | (rw [if_pos (by omega)]; exact ⟨rfl, rfl⟩) | (rw [if_neg (by omega)]; exact ⟨rfl, rfl⟩)
  · refine mRun.go (q_ldc (a := 1000000) dX7_hoursOver_6 gw_515) ?_
    refine mRun.go (q_goto (tgt := 28) dX7_hoursOver_8 (by decide)) ?_
    refine r_iret dX7_hoursOver_28 rfl ?_
    first | (rw [if_pos (by omega)]; exact ⟨rfl, rfl⟩) | (rw [if_neg (by omega)]; exact ⟨rfl, rfl⟩)

set_option maxRecDepth 100000 in
theorem k_hoursFrom {σ : List mC} {I : mI} {w x : Nat} (hw : IsWays σ w) (hI : Nrm I) (hx : x < 36) : mCt mX7_hoursFrom [mr w, mi (x : Int)] (σ, I) (some (mi (if aC I w x < 1000000 then aC I w x else -4))) (σ, I) := by
  refine mCt.eq ?_
  refine mMt.of pl_7 (Nat.le_of_ble_eq_true rfl) ?_
  show mRun mZt mX7_hoursFrom 0 [some (mr w), some (mi (x : Int))] [] (σ, I) _
  refine mRun.go (q_aload_n dX7_hoursFrom_0 rfl rfl) ?_
  refine mRun.go (q_getR dX7_hoursFrom_1 fo_X7_20 hw.1 rfl) ?_
  refine mRun.go (q_iload_n dX7_hoursFrom_4 rfl rfl) ?_
  refine mRun.go (q_callVi (r := w + 3) [mi (x : Int)] [] dX7_hoursFrom_5 co_X7_53 ⟨Nat.le_of_ble_eq_true rfl, Nat.le_of_ble_eq_true rfl⟩ gw_323 gw_324 rfl hw.2.2.1 rfl rfl rfl (Nat.le_of_ble_eq_true rfl) (k_atE (v := aC I w x) hw.2.2 (by omega) (by decide) (rat_nat (k := x) (by omega) (by omega)))) ?_
  refine mRun.go (q_ldc (a := 1000000) dX7_hoursFrom_8 gw_515) ?_
  refine r_icmp_ge (tgt := 24) dX7_hoursFrom_10 (by decide) (hI _ _) (by omega) (fun c10 => ?_) (fun c10 => ?_)
  · refine mRun.go (q_bipush dX7_hoursFrom_24 (by decide)) ?_
    refine r_iret dX7_hoursFrom_26 rfl ?_
    first | (rw [if_pos (by omega)]; exact ⟨rfl, rfl⟩) | (rw [if_neg (by omega)]; exact ⟨rfl, rfl⟩)
  · refine mRun.go (q_aload_n dX7_hoursFrom_13 rfl rfl) ?_
    refine mRun.go (q_getR dX7_hoursFrom_14 fo_X7_20 hw.1 rfl) ?_
    refine mRun.go (q_iload_n dX7_hoursFrom_17 rfl rfl) ?_
    refine mRun.go (q_callVi (r := w + 3) [mi (x : Int)] [] dX7_hoursFrom_18 co_X7_53 ⟨Nat.le_of_ble_eq_true rfl, Nat.le_of_ble_eq_true rfl⟩ gw_323 gw_324 rfl hw.2.2.1 rfl rfl rfl (Nat.le_of_ble_eq_true rfl) (k_atE (v := aC I w x) hw.2.2 (by omega) (by decide) (rat_nat (k := x) (by omega) (by omega)))) ?_
    refine mRun.go (q_goto (tgt := 26) dX7_hoursFrom_21 (by decide)) ?_
    refine r_iret dX7_hoursFrom_26 rfl ?_
    first | (rw [if_pos (by omega)]; exact ⟨rfl, rfl⟩) | (rw [if_neg (by omega)]; exact ⟨rfl, rfl⟩)

set_option maxRecDepth 100000 in
theorem k_firstFrom {σ : List mC} {I : mI} {w l P : Nat} {x : Nat} (hw : IsWays σ w) (hl : IsLand σ l) (hI : Nrm I) (hP : P ≤ 36) (hwf : Wfg P (nbC I l) (eC I w)) (ha : ∀ y, y < P → 0 ≤ aC I w y ∧ aC I w y ≤ 1000000) (hx : x < P) : mCt mX7_firstFrom [mr w, mr l, mi (x : Int)] (σ, I) (some (mi (if aC I w x = 0 then -4 else (fo (nbC I l) (eC I w) (aC I w) x 4).1))) (σ, I) := by
  refine mCt.eq ?_
  refine mMt.of pl_7 (Nat.le_of_ble_eq_true rfl) ?_
  show mRun mZt mX7_firstFrom 0 [some (mr w), some (mr l), some (mi (x : Int))] [] (σ, I) _
  refine mRun.go (q_aload_n dX7_firstFrom_0 rfl rfl) ?_
  refine mRun.go (q_getR dX7_firstFrom_1 fo_X7_20 hw.1 rfl) ?_
  refine mRun.go (q_iload_n dX7_firstFrom_4 rfl rfl) ?_
  refine mRun.go (q_callVi (r := w + 3) [mi (x : Int)] [] dX7_firstFrom_5 co_X7_53 ⟨Nat.le_of_ble_eq_true rfl, Nat.le_of_ble_eq_true rfl⟩ gw_323 gw_324 rfl hw.2.2.1 rfl rfl rfl (Nat.le_of_ble_eq_true rfl) (k_atE (v := aC I w x) hw.2.2 (by omega) (by decide) (rat_nat (k := x) (by omega) (by omega)))) ?_
  refine r_if_ne (tgt := 16) dX7_firstFrom_8 (by decide) (hI _ _) (fun c8 => ?_) (fun c8 => ?_)
  · refine mRun.go (q_aload_n dX7_firstFrom_16 rfl rfl) ?_
    refine mRun.go (q_aload_n dX7_firstFrom_17 rfl rfl) ?_
    refine mRun.go (q_iload_n dX7_firstFrom_18 rfl rfl) ?_
    refine mRun.go (q_callVi (r := w) [mr l, mi (x : Int)] [] dX7_firstFrom_19 co_X7_61 ⟨Nat.le_of_ble_eq_true rfl, Nat.le_of_ble_eq_true rfl⟩ gw_519 gs_9 rfl hw.1 rfl rfl rfl (Nat.le_of_ble_eq_true rfl) (k_firstOf hw hl hI hP hwf ha hx)) ?_
    refine r_iret dX7_firstFrom_22 rfl ?_
    first | (rw [if_pos (by omega)]; exact ⟨rfl, rfl⟩) | (rw [if_neg (by omega)]; exact ⟨rfl, rfl⟩)
  · refine mRun.go (q_bipush dX7_firstFrom_11 (by decide)) ?_
    refine mRun.go (q_goto (tgt := 22) dX7_firstFrom_13 (by decide)) ?_
    refine r_iret dX7_firstFrom_22 rfl ?_
    first | (rw [if_pos (by omega)]; exact ⟨rfl, rfl⟩) | (rw [if_neg (by omega)]; exact ⟨rfl, rfl⟩)
