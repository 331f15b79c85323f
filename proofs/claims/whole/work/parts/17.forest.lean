/-! ===== land and forest of the class ===== -/
section E3
variable {Z : mZ} {M : mM} {pc : Nat} {ls : mL} {st : List mV} {σ : List mC} {I : mI}
theorem q_aaldE {r t a : Nat} {i : Int} {rs : List (Option Nat)} (d : decode M.2.1 pc = .ok (.aaload, 1)) (hr : σ[r]? = some (.inr (.inr (t, rs)))) (ht : t = 1 ∨ t = 2) (hi : 0 ≤ i ∧ i < (rs.length : Int)) (hn : rs.length < 2147483648) (e : rs.getD i.toNat none = some a) : mGo Z M pc ls (mi i :: mr r :: st) (σ, I) (pc + 1) ls (mr a :: st) (σ, I) := by
  have := q_aald (Z := Z) (ls := ls) (st := st) (I := I) d hr ht hi hn
  rw [e] at this
  exact this
theorem q_alenRE {r t n : Nat} {rs : List (Option Nat)} (d : decode M.2.1 pc = .ok (.arraylength, 1)) (hr : σ[r]? = some (.inr (.inr (t, rs)))) (ht : t = 1 ∨ t = 2) (hn : rs.length = n) : mGo Z M pc ls (mr r :: st) (σ, I) (pc + 1) ls (mi (n : Int) :: st) (σ, I) := by
  subst hn
  exact q_alenR d hr ht
end E3
def IsLand (σ : List mC) (l : Nat) : Prop := σ[l]? = some (.inl (1, [some (some (l + 1)), some (some (l + 3)), some (some (l + 5)), none, none, none, none, none])) ∧ IsRow σ (l + 1) 36 ∧ IsRow σ (l + 3) 4 ∧ IsRow σ (l + 5) 144
def IsForest (σ : List mC) (f : Nat) : Prop := σ[f]? = some (.inl (0, [some (some (f + 1)), some (some (f + 3)), none, none])) ∧ IsRow σ (f + 1) 144 ∧ σ[f + 3]? = some (.inr (.inr (1, [some (f + 4), some (f + 5), some (f + 6), some (f + 7)]))) ∧ ∀ t, t < 4 → IsTrv σ (f + 4 + t)
def takv (k s : Int) : Int := if k = 1 then (if s = 1 then 0 else s) else if k = 2 then (if s = 2 then 0 else s) else if k = 3 then (if s = 3 then 0 else s) else s
def tel (I : mI) (f l : Nat) (d x : Int) : Int := if rat I (f + 1) 144 (d * 36 + x) = -1 then rat I (l + 1) 36 x else rat I (f + 1) 144 (d * 36 + x)
def tak (I : mI) (f l : Nat) (d x : Int) : Int := takv (rat I (l + 3) 4 d) (tel I f l d x)
theorem nrm_tel {I : mI} {f l : Nat} {d x : Int} (h : Nrm I) : -2147483648 ≤ tel I f l d x ∧ tel I f l d x < 2147483648 := by
  unfold tel
  split
  · exact nrm_rat h
  · exact nrm_rat h
theorem takv_rng {k s : Int} (h : -2147483648 ≤ s ∧ s < 2147483648) : -2147483648 ≤ takv k s ∧ takv k s < 2147483648 := by
  unfold takv
  split
  · split <;> omega
  · split
    · split <;> omega
    · split
      · split <;> omega
      · omega
def fcnt (I : mI) (f : Nat) (s : Int) : Nat → Int
  | 0 => 0
  | t + 1 => fcnt I f s t + (if I (f + 4 + t) 3 = s then 1 else 0)
theorem fcnt_rng {I : mI} {f : Nat} {s : Int} : ∀ t, 0 ≤ fcnt I f s t ∧ fcnt I f s t ≤ t := by
  intro t
  induction t with
  | zero => exact ⟨by simp [fcnt], by simp [fcnt]⟩
  | succ t ih => simp only [fcnt]; split <;> omega

set_option maxRecDepth 100000 in
theorem k_hours {h : mH} {what wet : Int} (hx : -2147483648 ≤ what ∧ what < 2147483648) (hy : -2147483648 ≤ wet ∧ wet < 2147483648) : mCt mX8_hoursToEnter [mi what, mi wet] h (some (mi (hrs what wet))) h := by
  refine mCt.eq ?_
  refine mMt.of pl_8 (Nat.le_of_ble_eq_true rfl) ?_
  show mRun mZt mX8_hoursToEnter 0 [some (mi what), some (mi wet), none] [] h _
  refine mRun.go (q_iload_n dX8_hoursToEnter_0 rfl rfl) ?_
  refine mRun.go (q_iconst dX8_hoursToEnter_1) ?_
  refine r_icmp_lt (tgt := 9) dX8_hoursToEnter_2 (by decide) hy (by omega) (fun c2 => ?_) (fun c2 => ?_)
  · refine mRun.go (q_iconst dX8_hoursToEnter_9) ?_
    refine mRun.go (q_istore_n (ls' := [some (mi what), some (mi wet), some (mi 0)]) dX8_hoursToEnter_10 rfl (Nat.le_of_ble_eq_true rfl) rfl) ?_
    refine mRun.go (q_iload_n dX8_hoursToEnter_11 rfl rfl) ?_
    rcases (show what = 1 ∨ what = 2 ∨ what = 3 ∨ (what < 1 ∨ 3 < what) by omega) with s12 | s12 | s12 | s12
    · refine mRun.go (q_tsw_in (off := 28) (tgt := 40) dX8_hoursToEnter_12 hx (by omega) (by rw [s12]; rfl) (by decide)) ?_
      refine mRun.go (q_iconst dX8_hoursToEnter_40) ?_
      refine mRun.go (q_iload_n dX8_hoursToEnter_41 rfl rfl) ?_
      refine mRun.go (q_iadd dX8_hoursToEnter_42) ?_
      refine r_iret dX8_hoursToEnter_43 rfl ?_
      refine ⟨congrArg some (congrArg mi ?_), rfl⟩
      unfold hrs
      split <;> (try split) <;> (try split) <;> (try split) <;> omega
    · refine mRun.go (q_tsw_in (off := 32) (tgt := 44) dX8_hoursToEnter_12 hx (by omega) (by rw [s12]; rfl) (by decide)) ?_
      refine mRun.go (q_iconst dX8_hoursToEnter_44) ?_
      refine mRun.go (q_iload_n dX8_hoursToEnter_45 rfl rfl) ?_
      refine mRun.go (q_iadd dX8_hoursToEnter_46) ?_
      refine r_iret dX8_hoursToEnter_47 rfl ?_
      refine ⟨congrArg some (congrArg mi ?_), rfl⟩
      unfold hrs
      split <;> (try split) <;> (try split) <;> (try split) <;> omega
    · refine mRun.go (q_tsw_in (off := 36) (tgt := 48) dX8_hoursToEnter_12 hx (by omega) (by rw [s12]; rfl) (by decide)) ?_
      refine mRun.go (q_iload_n dX8_hoursToEnter_48 rfl rfl) ?_
      refine mRun.go (q_iconst dX8_hoursToEnter_49) ?_
      refine r_icmp_lt (tgt := 58) dX8_hoursToEnter_50 (by decide) hy (by omega) (fun c50 => ?_) (fun c50 => ?_)
      · refine mRun.go (q_iconst dX8_hoursToEnter_58) ?_
        refine r_iret dX8_hoursToEnter_59 rfl ?_
        refine ⟨congrArg some (congrArg mi ?_), rfl⟩
        unfold hrs
        split <;> (try split) <;> (try split) <;> (try split) <;> omega
      · refine mRun.go (q_ldc (a := 1000000) dX8_hoursToEnter_53 gw_509) ?_
        refine mRun.go (q_goto (tgt := 59) dX8_hoursToEnter_55 (by decide)) ?_
        refine r_iret dX8_hoursToEnter_59 rfl ?_
        refine ⟨congrArg some (congrArg mi ?_), rfl⟩
        unfold hrs
        split <;> (try split) <;> (try split) <;> (try split) <;> omega
    · refine mRun.go (q_tsw_out (tgt := 60) dX8_hoursToEnter_12 hx s12 (by decide)) ?_
      refine mRun.go (q_iconst dX8_hoursToEnter_60) ?_
      refine mRun.go (q_iload_n dX8_hoursToEnter_61 rfl rfl) ?_
      refine mRun.go (q_iadd dX8_hoursToEnter_62) ?_
      refine r_iret dX8_hoursToEnter_63 rfl ?_
      refine ⟨congrArg some (congrArg mi ?_), rfl⟩
      unfold hrs
      split <;> (try split) <;> (try split) <;> (try split) <;> omega
  · refine mRun.go (q_iconst dX8_hoursToEnter_5) ?_
    refine mRun.go (q_goto (tgt := 10) dX8_hoursToEnter_6 (by decide)) ?_
    refine mRun.go (q_istore_n (ls' := [some (mi what), some (mi wet), some (mi 1)]) dX8_hoursToEnter_10 rfl (Nat.le_of_ble_eq_true rfl) rfl) ?_
    refine mRun.go (q_iload_n dX8_hoursToEnter_11 rfl rfl) ?_
    rcases (show what = 1 ∨ what = 2 ∨ what = 3 ∨ (what < 1 ∨ 3 < what) by omega) with s12 | s12 | s12 | s12
    · refine mRun.go (q_tsw_in (off := 28) (tgt := 40) dX8_hoursToEnter_12 hx (by omega) (by rw [s12]; rfl) (by decide)) ?_
      refine mRun.go (q_iconst dX8_hoursToEnter_40) ?_
      refine mRun.go (q_iload_n dX8_hoursToEnter_41 rfl rfl) ?_
      refine mRun.go (q_iadd dX8_hoursToEnter_42) ?_
      refine r_iret dX8_hoursToEnter_43 rfl ?_
      refine ⟨congrArg some (congrArg mi ?_), rfl⟩
      unfold hrs
      split <;> (try split) <;> (try split) <;> (try split) <;> omega
    · refine mRun.go (q_tsw_in (off := 32) (tgt := 44) dX8_hoursToEnter_12 hx (by omega) (by rw [s12]; rfl) (by decide)) ?_
      refine mRun.go (q_iconst dX8_hoursToEnter_44) ?_
      refine mRun.go (q_iload_n dX8_hoursToEnter_45 rfl rfl) ?_
      refine mRun.go (q_iadd dX8_hoursToEnter_46) ?_
      refine r_iret dX8_hoursToEnter_47 rfl ?_
      refine ⟨congrArg some (congrArg mi ?_), rfl⟩
      unfold hrs
      split <;> (try split) <;> (try split) <;> (try split) <;> omega
    · refine mRun.go (q_tsw_in (off := 36) (tgt := 48) dX8_hoursToEnter_12 hx (by omega) (by rw [s12]; rfl) (by decide)) ?_
      refine mRun.go (q_iload_n dX8_hoursToEnter_48 rfl rfl) ?_
      refine mRun.go (q_iconst dX8_hoursToEnter_49) ?_
      refine r_icmp_lt (tgt := 58) dX8_hoursToEnter_50 (by decide) hy (by omega) (fun c50 => ?_) (fun c50 => ?_)
      · refine mRun.go (q_iconst dX8_hoursToEnter_58) ?_
        refine r_iret dX8_hoursToEnter_59 rfl ?_
        refine ⟨congrArg some (congrArg mi ?_), rfl⟩
        unfold hrs
        split <;> (try split) <;> (try split) <;> (try split) <;> omega
      · refine mRun.go (q_ldc (a := 1000000) dX8_hoursToEnter_53 gw_509) ?_
        refine mRun.go (q_goto (tgt := 59) dX8_hoursToEnter_55 (by decide)) ?_
        refine r_iret dX8_hoursToEnter_59 rfl ?_
        refine ⟨congrArg some (congrArg mi ?_), rfl⟩
        unfold hrs
        split <;> (try split) <;> (try split) <;> (try split) <;> omega
    · refine mRun.go (q_tsw_out (tgt := 60) dX8_hoursToEnter_12 hx s12 (by decide)) ?_
      refine mRun.go (q_iconst dX8_hoursToEnter_60) ?_
      refine mRun.go (q_iload_n dX8_hoursToEnter_61 rfl rfl) ?_
      refine mRun.go (q_iadd dX8_hoursToEnter_62) ?_
      refine r_iret dX8_hoursToEnter_63 rfl ?_
      refine ⟨congrArg some (congrArg mi ?_), rfl⟩
      unfold hrs
      split <;> (try split) <;> (try split) <;> (try split) <;> omega

set_option maxRecDepth 100000 in
theorem k_loud {h : mH} {x wet : Int} (hx : -2147483648 ≤ x ∧ x < 2147483648) : mCt mX8_loudness [mi x, mi wet] h (some (mi (loud x wet))) h := by
  refine mCt.eq ?_
  refine mMt.of pl_8 (Nat.le_of_ble_eq_true rfl) ?_
  show mRun mZt mX8_loudness 0 [some (mi x), some (mi wet)] [] h _
  refine mRun.go (q_iload_n dX8_loudness_0 rfl rfl) ?_
  rcases (show x = 0 ∨ x = 1 ∨ x = 2 ∨ (x < 0 ∨ 2 < x) by omega) with s1 | s1 | s1 | s1
  · refine mRun.go (q_tsw_in (off := 27) (tgt := 28) dX8_loudness_1 hx (by omega) (by rw [s1]; rfl) (by decide)) ?_
    refine mRun.go (q_bipush dX8_loudness_28 (by decide)) ?_
    refine mRun.go (q_iload_n dX8_loudness_30 rfl rfl) ?_
    refine mRun.go (q_isub dX8_loudness_31) ?_
    refine r_iret dX8_loudness_32 rfl ?_
    refine ⟨congrArg some (congrArg mi ?_), rfl⟩
    unfold loud
    split <;> (try split) <;> (try split) <;> omega
  · refine mRun.go (q_tsw_in (off := 32) (tgt := 33) dX8_loudness_1 hx (by omega) (by rw [s1]; rfl) (by decide)) ?_
    refine mRun.go (q_bipush dX8_loudness_33 (by decide)) ?_
    refine mRun.go (q_iload_n dX8_loudness_35 rfl rfl) ?_
    refine mRun.go (q_isub dX8_loudness_36) ?_
    refine r_iret dX8_loudness_37 rfl ?_
    refine ⟨congrArg some (congrArg mi ?_), rfl⟩
    unfold loud
    split <;> (try split) <;> (try split) <;> omega
  · refine mRun.go (q_tsw_in (off := 37) (tgt := 38) dX8_loudness_1 hx (by omega) (by rw [s1]; rfl) (by decide)) ?_
    refine mRun.go (q_iconst dX8_loudness_38) ?_
    refine mRun.go (q_iload_n dX8_loudness_39 rfl rfl) ?_
    refine mRun.go (q_isub dX8_loudness_40) ?_
    refine r_iret dX8_loudness_41 rfl ?_
    refine ⟨congrArg some (congrArg mi ?_), rfl⟩
    unfold loud
    split <;> (try split) <;> (try split) <;> omega
  · refine mRun.go (q_tsw_out (tgt := 42) dX8_loudness_1 hx s1 (by decide)) ?_
    refine mRun.go (q_iconst dX8_loudness_42) ?_
    refine r_iret dX8_loudness_43 rfl ?_
    refine ⟨congrArg some (congrArg mi ?_), rfl⟩
    unfold loud
    split <;> (try split) <;> (try split) <;> omega

set_option maxRecDepth 100000 in
theorem k_hasPlace {σ : List mC} {I : mI} {l : Nat} {x : Int} (hl : IsLand σ l) (hI : Nrm I) (hx : -2147483648 ≤ x ∧ x < 2147483648) : mCt mX1_hasPlace [mr l, mi x] (σ, I) (some (mi (if 0 ≤ x ∧ x < I l 3 then 1 else 0))) (σ, I) := by
  refine mCt.eq ?_
  refine mMt.of pl_1 (Nat.le_of_ble_eq_true rfl) ?_
  show mRun mZt mX1_hasPlace 0 [some (mr l), some (mi x)] [] (σ, I) _
  refine mRun.go (q_iload_n dX1_hasPlace_0 rfl rfl) ?_
  refine r_if_lt (tgt := 16) dX1_hasPlace_1 (by decide) hx (fun c1 => ?_) (fun c1 => ?_)
  · refine mRun.go (q_iconst dX1_hasPlace_16) ?_
    refine r_zret dX1_hasPlace_17 rfl (by simp) ?_
    first | (rw [if_pos (by omega)]; exact ⟨rfl, rfl⟩) | (rw [if_neg (by omega)]; exact ⟨rfl, rfl⟩)
  · refine mRun.go (q_iload_n dX1_hasPlace_4 rfl rfl) ?_
    refine mRun.go (q_aload_n dX1_hasPlace_5 rfl rfl) ?_
    refine mRun.go (q_getI dX1_hasPlace_6 fo_X1_26 hl.1 rfl) ?_
    refine r_icmp_ge (tgt := 16) dX1_hasPlace_9 (by decide) hx (hI _ _) (fun c9 => ?_) (fun c9 => ?_)
    · refine mRun.go (q_iconst dX1_hasPlace_16) ?_
      refine r_zret dX1_hasPlace_17 rfl (by simp) ?_
      first | (rw [if_pos (by omega)]; exact ⟨rfl, rfl⟩) | (rw [if_neg (by omega)]; exact ⟨rfl, rfl⟩)
    · refine mRun.go (q_iconst dX1_hasPlace_12) ?_
      refine mRun.go (q_goto (tgt := 17) dX1_hasPlace_13 (by decide)) ?_
      refine r_zret dX1_hasPlace_17 rfl (by simp) ?_
      first | (rw [if_pos (by omega)]; exact ⟨rfl, rfl⟩) | (rw [if_neg (by omega)]; exact ⟨rfl, rfl⟩)

set_option maxRecDepth 100000 in
theorem k_hasDrum {σ : List mC} {I : mI} {l : Nat} {x : Int} (hl : IsLand σ l) (hI : Nrm I) (hx : -2147483648 ≤ x ∧ x < 2147483648) : mCt mX1_hasDrum [mr l, mi x] (σ, I) (some (mi (if 0 ≤ x ∧ x < I l 6 then 1 else 0))) (σ, I) := by
  refine mCt.eq ?_
  refine mMt.of pl_1 (Nat.le_of_ble_eq_true rfl) ?_
  show mRun mZt mX1_hasDrum 0 [some (mr l), some (mi x)] [] (σ, I) _
  refine mRun.go (q_iload_n dX1_hasDrum_0 rfl rfl) ?_
  refine r_if_lt (tgt := 16) dX1_hasDrum_1 (by decide) hx (fun c1 => ?_) (fun c1 => ?_)
  · refine mRun.go (q_iconst dX1_hasDrum_16) ?_
    refine r_zret dX1_hasDrum_17 rfl (by simp) ?_
    first | (rw [if_pos (by omega)]; exact ⟨rfl, rfl⟩) | (rw [if_neg (by omega)]; exact ⟨rfl, rfl⟩)
  · refine mRun.go (q_iload_n dX1_hasDrum_4 rfl rfl) ?_
    refine mRun.go (q_aload_n dX1_hasDrum_5 rfl rfl) ?_
    refine mRun.go (q_getI dX1_hasDrum_6 fo_X1_30 hl.1 rfl) ?_
    refine r_icmp_ge (tgt := 16) dX1_hasDrum_9 (by decide) hx (hI _ _) (fun c9 => ?_) (fun c9 => ?_)
    · refine mRun.go (q_iconst dX1_hasDrum_16) ?_
      refine r_zret dX1_hasDrum_17 rfl (by simp) ?_
      first | (rw [if_pos (by omega)]; exact ⟨rfl, rfl⟩) | (rw [if_neg (by omega)]; exact ⟨rfl, rfl⟩)
    · refine mRun.go (q_iconst dX1_hasDrum_12) ?_
      refine mRun.go (q_goto (tgt := 17) dX1_hasDrum_13 (by decide)) ?_
      refine r_zret dX1_hasDrum_17 rfl (by simp) ?_
      first | (rw [if_pos (by omega)]; exact ⟨rfl, rfl⟩) | (rw [if_neg (by omega)]; exact ⟨rfl, rfl⟩)

set_option maxRecDepth 100000 in
theorem k_hasTrv {σ : List mC} {I : mI} {l : Nat} {x : Int} (hl : IsLand σ l) (hI : Nrm I) (hx : -2147483648 ≤ x ∧ x < 2147483648) : mCt mX1_hasTraveller [mr l, mi x] (σ, I) (some (mi (if 0 ≤ x ∧ x < I l 7 then 1 else 0))) (σ, I) := by
  refine mCt.eq ?_
  refine mMt.of pl_1 (Nat.le_of_ble_eq_true rfl) ?_
  show mRun mZt mX1_hasTraveller 0 [some (mr l), some (mi x)] [] (σ, I) _
  refine mRun.go (q_iload_n dX1_hasTraveller_0 rfl rfl) ?_
  refine r_if_lt (tgt := 16) dX1_hasTraveller_1 (by decide) hx (fun c1 => ?_) (fun c1 => ?_)
  · refine mRun.go (q_iconst dX1_hasTraveller_16) ?_
    refine r_zret dX1_hasTraveller_17 rfl (by simp) ?_
    first | (rw [if_pos (by omega)]; exact ⟨rfl, rfl⟩) | (rw [if_neg (by omega)]; exact ⟨rfl, rfl⟩)
  · refine mRun.go (q_iload_n dX1_hasTraveller_4 rfl rfl) ?_
    refine mRun.go (q_aload_n dX1_hasTraveller_5 rfl rfl) ?_
    refine mRun.go (q_getI dX1_hasTraveller_6 fo_X1_33 hl.1 rfl) ?_
    refine r_icmp_ge (tgt := 16) dX1_hasTraveller_9 (by decide) hx (hI _ _) (fun c9 => ?_) (fun c9 => ?_)
    · refine mRun.go (q_iconst dX1_hasTraveller_16) ?_
      refine r_zret dX1_hasTraveller_17 rfl (by simp) ?_
      first | (rw [if_pos (by omega)]; exact ⟨rfl, rfl⟩) | (rw [if_neg (by omega)]; exact ⟨rfl, rfl⟩)
    · refine mRun.go (q_iconst dX1_hasTraveller_12) ?_
      refine mRun.go (q_goto (tgt := 17) dX1_hasTraveller_13 (by decide)) ?_
      refine r_zret dX1_hasTraveller_17 rfl (by simp) ?_
      first | (rw [if_pos (by omega)]; exact ⟨rfl, rfl⟩) | (rw [if_neg (by omega)]; exact ⟨rfl, rfl⟩)

set_option maxRecDepth 100000 in
theorem k_lclear {σ : List mC} {I : mI} {l : Nat} (hl : IsLand σ l) (hI : Nrm I) : mCt mX1_clear [mr l] (σ, I) none (σ, mup (mup (mup (mup (mup I l 3 0) l 4 0) l 5 0) l 6 0) l 7 0) := by
  refine mCt.eq ?_
  refine mMt.of pl_1 (Nat.le_of_ble_eq_true rfl) ?_
  show mRun mZt mX1_clear 0 [some (mr l)] [] (σ, I) _
  refine mRun.go (q_aload_n dX1_clear_0 rfl rfl) ?_
  refine mRun.go (q_iconst dX1_clear_1) ?_
  refine mRun.go (q_putI dX1_clear_2 fo_X1_26 fp_1_3 hl.1 rfl) ?_
  refine mRun.go (q_aload_n dX1_clear_5 rfl rfl) ?_
  refine mRun.go (q_iconst dX1_clear_6) ?_
  refine mRun.go (q_putI dX1_clear_7 fo_X1_36 fp_1_4 hl.1 rfl) ?_
  refine mRun.go (q_aload_n dX1_clear_10 rfl rfl) ?_
  refine mRun.go (q_iconst dX1_clear_11) ?_
  refine mRun.go (q_putI dX1_clear_12 fo_X1_39 fp_1_5 hl.1 rfl) ?_
  refine mRun.go (q_aload_n dX1_clear_15 rfl rfl) ?_
  refine mRun.go (q_iconst dX1_clear_16) ?_
  refine mRun.go (q_putI dX1_clear_17 fo_X1_30 fp_1_6 hl.1 rfl) ?_
  refine mRun.go (q_aload_n dX1_clear_20 rfl rfl) ?_
  refine mRun.go (q_iconst dX1_clear_21) ?_
  refine mRun.go (q_putI dX1_clear_22 fo_X1_33 fp_1_7 hl.1 rfl) ?_
  refine r_ret dX1_clear_25 rfl ?_
  exact ⟨rfl, rfl⟩

set_option maxRecDepth 100000 in
theorem k_who {σ : List mC} {I : mI} {f : Nat} {t : Int} (hf : IsForest σ f) (ht : 0 ≤ t ∧ t < 4) : mCt mX0_who [mr f, mi t] (σ, I) (some (mr (f + 4 + t.toNat))) (σ, I) := by
  refine mCt.eq ?_
  refine mMt.of pl_0 (Nat.le_of_ble_eq_true rfl) ?_
  show mRun mZt mX0_who 0 [some (mr f), some (mi t)] [] (σ, I) _
  refine mRun.go (q_aload_n dX0_who_0 rfl rfl) ?_
  refine mRun.go (q_getR dX0_who_1 fo_X0_22 hf.1 rfl) ?_
  refine mRun.go (q_iload_n dX0_who_4 rfl rfl) ?_
  have j5 : ∀ {post : Option mV → mH → Prop}, mRun mZt mX0_who 22 [some (mr f), some (mi t)] [mi t, mr (f + 3)] (σ, I) post → mRun mZt mX0_who 5 [some (mr f), some (mi t)] [mi t, mr (f + 3)] (σ, I) post := by
    intro post k
    refine r_if_lt (tgt := 21) dX0_who_5 (by decide) (by omega) (fun c5 => ?_) (fun c5 => ?_)
    · refine mRun.go (q_iconst dX0_who_21) ?_
      first | exact k | omega
    · refine mRun.go (q_iload_n dX0_who_8 rfl rfl) ?_
      refine mRun.go (q_aload_n dX0_who_9 rfl rfl) ?_
      refine mRun.go (q_getR dX0_who_10 fo_X0_22 hf.1 rfl) ?_
      refine mRun.go (q_alenRE (n := 4) dX0_who_13 hf.2.2.1 (Or.inl rfl) rfl) ?_
      refine r_icmp_ge (tgt := 21) dX0_who_14 (by decide) (by omega) (by omega) (fun c14 => ?_) (fun c14 => ?_)
      · refine mRun.go (q_iconst dX0_who_21) ?_
        first | exact k | omega
      · refine mRun.go (q_iload_n dX0_who_17 rfl rfl) ?_
        refine mRun.go (q_goto (tgt := 22) dX0_who_18 (by decide)) ?_
        first | exact k | omega
  refine j5 ?_
  refine mRun.go (q_aaldE (a := (f + 4 + t.toNat)) dX0_who_22 hf.2.2.1 (Or.inl rfl) ⟨ht.1, ht.2⟩ (by first | omega | simp) (by rcases (show t = 0 ∨ t = 1 ∨ t = 2 ∨ t = 3 by omega) with h | h | h | h <;> rw [h] <;> rfl)) ?_
  refine r_aret dX0_who_23 rfl ?_
  exact ⟨rfl, rfl⟩

theorem k_whoN {σ : List mC} {I : mI} {f t : Nat} (hf : IsForest σ f) (ht : t < 4) : mCt mX0_who [mr f, mi (t : Int)] (σ, I) (some (mr (f + 4 + t))) (σ, I) := by
  have h := @k_who σ I f (t : Int) hf (by omega)
  rw [show ((t : Int)).toNat = t by omega] at h
  exact h

set_option maxRecDepth 100000 in
theorem k_fclear {σ : List mC} {I : mI} {f : Nat} (hf : IsForest σ f) (hI : Nrm I) : mCt mX0_clear [mr f] (σ, I) none (σ, mup (mup (rfil I (f + 1) 144 (-1)) f 2 0) f 3 0) := by
  refine mCt.eq ?_
  refine mMt.of pl_0 (Nat.le_of_ble_eq_true rfl) ?_
  show mRun mZt mX0_clear 0 [some (mr f)] [] (σ, I) _
  refine mRun.go (q_aload_n dX0_clear_0 rfl rfl) ?_
  refine mRun.go (q_getR dX0_clear_1 fo_X0_14 hf.1 rfl) ?_
  refine mRun.go (q_iconst dX0_clear_4) ?_
  refine mRun.go (q_callVv (r := f + 1) [mi (-1)] [] dX0_clear_5 co_X0_27 ⟨Nat.le_of_ble_eq_true rfl, Nat.le_of_ble_eq_true rfl⟩ gw_289 gw_290 rfl hf.2.1.1 rfl rfl rfl (Nat.le_of_ble_eq_true rfl) (k_fill hf.2.1 (by decide))) ?_
  refine mRun.go (q_aload_n dX0_clear_8 rfl rfl) ?_
  refine mRun.go (q_iconst dX0_clear_9) ?_
  refine mRun.go (q_putI dX0_clear_10 fo_X0_30 fp_0_2 hf.1 rfl) ?_
  refine mRun.go (q_aload_n dX0_clear_13 rfl rfl) ?_
  refine mRun.go (q_iconst dX0_clear_14) ?_
  refine mRun.go (q_putI dX0_clear_15 fo_X0_34 fp_0_3 hf.1 rfl) ?_
  refine r_ret dX0_clear_18 rfl ?_
  exact ⟨rfl, rfl⟩

set_option maxRecDepth 100000 in
theorem k_setTold {σ : List mC} {I : mI} {f : Nat} {d x v : Int} (hf : IsForest σ f) (hI : Nrm I) (hd : 0 ≤ d ∧ d < 1000) (hx : 0 ≤ x ∧ x < 1000) (hv : -2147483648 ≤ v ∧ v < 2147483648) : mCt mX0_setTold [mr f, mi d, mi x, mi v] (σ, I) none (σ, rput I (f + 1) 144 (d * 36 + x) v) := by
  refine mCt.eq ?_
  refine mMt.of pl_0 (Nat.le_of_ble_eq_true rfl) ?_
  show mRun mZt mX0_setTold 0 [some (mr f), some (mi d), some (mi x), some (mi v)] [] (σ, I) _
  refine mRun.go (q_aload_n dX0_setTold_0 rfl rfl) ?_
  refine mRun.go (q_getR dX0_setTold_1 fo_X0_14 hf.1 rfl) ?_
  refine mRun.go (q_iload_n dX0_setTold_4 rfl rfl) ?_
  refine mRun.go (q_bipush dX0_setTold_5 (by decide)) ?_
  refine mRun.go (q_imul dX0_setTold_7) ?_
  refine mRun.go (q_iload_n dX0_setTold_8 rfl rfl) ?_
  refine mRun.go (q_iadd dX0_setTold_9) ?_
  refine mRun.go (q_iload_n dX0_setTold_10 rfl rfl) ?_
  refine mRun.go (q_callVv (r := f + 1) [mi ((d * 36) + x), mi v] [] dX0_setTold_11 co_X0_37 ⟨Nat.le_of_ble_eq_true rfl, Nat.le_of_ble_eq_true rfl⟩ gw_311 gw_312 rfl hf.2.1.1 rfl rfl rfl (Nat.le_of_ble_eq_true rfl) (k_put hf.2.1 (by omega) (by decide))) ?_
  refine r_ret dX0_setTold_14 rfl ?_
  exact ⟨rfl, rfl⟩

set_option maxRecDepth 100000 in
theorem k_tells {σ : List mC} {I : mI} {f l : Nat} {d x : Int} (hf : IsForest σ f) (hl : IsLand σ l) (hI : Nrm I) (hd : 0 ≤ d ∧ d < 1000) (hx : 0 ≤ x ∧ x < 1000) : mCt mX0_tells [mr f, mr l, mi d, mi x] (σ, I) (some (mi (tel I f l d x))) (σ, I) := by
  refine mCt.eq ?_
  refine mMt.of pl_0 (Nat.le_of_ble_eq_true rfl) ?_
  show mRun mZt mX0_tells 0 [some (mr f), some (mr l), some (mi d), some (mi x), none] [] (σ, I) _
  refine mRun.go (q_aload_n dX0_tells_0 rfl rfl) ?_
  refine mRun.go (q_getR dX0_tells_1 fo_X0_14 hf.1 rfl) ?_
  refine mRun.go (q_iload_n dX0_tells_4 rfl rfl) ?_
  refine mRun.go (q_bipush dX0_tells_5 (by decide)) ?_
  refine mRun.go (q_imul dX0_tells_7) ?_
  refine mRun.go (q_iload_n dX0_tells_8 rfl rfl) ?_
  refine mRun.go (q_iadd dX0_tells_9) ?_
  refine mRun.go (q_callVi (r := f + 1) [mi ((d * 36) + x)] [] dX0_tells_10 co_X0_41 ⟨Nat.le_of_ble_eq_true rfl, Nat.le_of_ble_eq_true rfl⟩ gw_323 gw_324 rfl hf.2.1.1 rfl rfl rfl (Nat.le_of_ble_eq_true rfl) (k_at hf.2.1 (by omega) (by decide))) ?_
  refine mRun.go (q_istore (ls' := [some (mr f), some (mr l), some (mi d), some (mi x), some (mi (rat I (f + 1) 144 ((d * 36) + x)))]) dX0_tells_13 (Nat.le_of_ble_eq_true rfl) rfl) ?_
  refine mRun.go (q_iload dX0_tells_15 rfl) ?_
  refine mRun.go (q_iconst dX0_tells_17) ?_
  refine r_icmp_ne (tgt := 32) dX0_tells_18 (by decide) (nrm_rat hI) (by omega) (fun c18 => ?_) (fun c18 => ?_)
  · refine mRun.go (q_iload dX0_tells_32 rfl) ?_
    refine r_iret dX0_tells_34 rfl ?_
    unfold tel
    first | (rw [if_pos (by omega)]; exact ⟨rfl, rfl⟩) | (rw [if_neg (by omega)]; exact ⟨rfl, rfl⟩)
  · refine mRun.go (q_aload_n dX0_tells_21 rfl rfl) ?_
    refine mRun.go (q_getR dX0_tells_22 fo_X0_45 hl.1 rfl) ?_
    refine mRun.go (q_iload_n dX0_tells_25 rfl rfl) ?_
    refine mRun.go (q_callVi (r := l + 1) [mi x] [] dX0_tells_26 co_X0_41 ⟨Nat.le_of_ble_eq_true rfl, Nat.le_of_ble_eq_true rfl⟩ gw_323 gw_324 rfl hl.2.1.1 rfl rfl rfl (Nat.le_of_ble_eq_true rfl) (k_at hl.2.1 (by omega) (by decide))) ?_
    refine mRun.go (q_goto (tgt := 34) dX0_tells_29 (by decide)) ?_
    refine r_iret dX0_tells_34 rfl ?_
    unfold tel
    first | (rw [if_pos (by omega)]; exact ⟨rfl, rfl⟩) | (rw [if_neg (by omega)]; exact ⟨rfl, rfl⟩)

set_option maxRecDepth 100000 in
theorem k_takes {σ : List mC} {I : mI} {f l : Nat} {d x : Int} (hf : IsForest σ f) (hl : IsLand σ l) (hI : Nrm I) (hd : 0 ≤ d ∧ d < 1000) (hx : 0 ≤ x ∧ x < 1000) : mCt mX0_takes [mr f, mr l, mi d, mi x] (σ, I) (some (mi (tak I f l d x))) (σ, I) := by
  refine mCt.eq ?_
  refine mMt.of pl_0 (Nat.le_of_ble_eq_true rfl) ?_
  show mRun mZt mX0_takes 0 [some (mr f), some (mr l), some (mi d), some (mi x), none] [] (σ, I) _
  refine mRun.go (q_aload_n dX0_takes_0 rfl rfl) ?_
  refine mRun.go (q_aload_n dX0_takes_1 rfl rfl) ?_
  refine mRun.go (q_iload_n dX0_takes_2 rfl rfl) ?_
  refine mRun.go (q_iload_n dX0_takes_3 rfl rfl) ?_
  refine mRun.go (q_callVi (r := f) [mr l, mi d, mi x] [] dX0_takes_4 co_X0_50 ⟨Nat.le_of_ble_eq_true rfl, Nat.le_of_ble_eq_true rfl⟩ gw_468 gw_469 rfl hf.1 rfl rfl rfl (Nat.le_of_ble_eq_true rfl) (k_tells hf hl hI hd hx)) ?_
  refine mRun.go (q_istore (ls' := [some (mr f), some (mr l), some (mi d), some (mi x), some (mi (tel I f l d x))]) dX0_takes_7 (Nat.le_of_ble_eq_true rfl) rfl) ?_
  refine mRun.go (q_aload_n dX0_takes_9 rfl rfl) ?_
  refine mRun.go (q_getR dX0_takes_10 fo_X0_54 hl.1 rfl) ?_
  refine mRun.go (q_iload_n dX0_takes_13 rfl rfl) ?_
  refine mRun.go (q_callVi (r := l + 3) [mi d] [] dX0_takes_14 co_X0_41 ⟨Nat.le_of_ble_eq_true rfl, Nat.le_of_ble_eq_true rfl⟩ gw_323 gw_324 rfl hl.2.2.1.1 rfl rfl rfl (Nat.le_of_ble_eq_true rfl) (k_at hl.2.2.1 (by omega) (by decide))) ?_
  rcases (show (rat I (l + 3) 4 d) = 1 ∨ (rat I (l + 3) 4 d) = 2 ∨ (rat I (l + 3) 4 d) = 3 ∨ ((rat I (l + 3) 4 d) < 1 ∨ 3 < (rat I (l + 3) 4 d)) by omega) with s17 | s17 | s17 | s17
  · refine mRun.go (q_tsw_in (off := 27) (tgt := 44) dX0_takes_17 (nrm_rat hI) (by omega) (by rw [s17]; rfl) (by decide)) ?_
    refine mRun.go (q_iload dX0_takes_44 rfl) ?_
    refine mRun.go (q_iconst dX0_takes_46) ?_
    refine r_icmp_ne (tgt := 54) dX0_takes_47 (by decide) (nrm_tel hI) (by omega) (fun c47 => ?_) (fun c47 => ?_)
    · refine mRun.go (q_iload dX0_takes_54 rfl) ?_
      refine r_iret dX0_takes_56 rfl ?_
      refine ⟨congrArg some (congrArg mi ?_), rfl⟩
      unfold tak takv
      split <;> (try split) <;> (try split) <;> (try split) <;> omega
    · refine mRun.go (q_iconst dX0_takes_50) ?_
      refine mRun.go (q_goto (tgt := 56) dX0_takes_51 (by decide)) ?_
      refine r_iret dX0_takes_56 rfl ?_
      refine ⟨congrArg some (congrArg mi ?_), rfl⟩
      unfold tak takv
      split <;> (try split) <;> (try split) <;> (try split) <;> omega
  · refine mRun.go (q_tsw_in (off := 40) (tgt := 57) dX0_takes_17 (nrm_rat hI) (by omega) (by rw [s17]; rfl) (by decide)) ?_
    refine mRun.go (q_iload dX0_takes_57 rfl) ?_
    refine mRun.go (q_iconst dX0_takes_59) ?_
    refine r_icmp_ne (tgt := 67) dX0_takes_60 (by decide) (nrm_tel hI) (by omega) (fun c60 => ?_) (fun c60 => ?_)
    · refine mRun.go (q_iload dX0_takes_67 rfl) ?_
      refine r_iret dX0_takes_69 rfl ?_
      refine ⟨congrArg some (congrArg mi ?_), rfl⟩
      unfold tak takv
      split <;> (try split) <;> (try split) <;> (try split) <;> omega
    · refine mRun.go (q_iconst dX0_takes_63) ?_
      refine mRun.go (q_goto (tgt := 69) dX0_takes_64 (by decide)) ?_
      refine r_iret dX0_takes_69 rfl ?_
      refine ⟨congrArg some (congrArg mi ?_), rfl⟩
      unfold tak takv
      split <;> (try split) <;> (try split) <;> (try split) <;> omega
  · refine mRun.go (q_tsw_in (off := 53) (tgt := 70) dX0_takes_17 (nrm_rat hI) (by omega) (by rw [s17]; rfl) (by decide)) ?_
    refine mRun.go (q_iload dX0_takes_70 rfl) ?_
    refine mRun.go (q_iconst dX0_takes_72) ?_
    refine r_icmp_ne (tgt := 80) dX0_takes_73 (by decide) (nrm_tel hI) (by omega) (fun c73 => ?_) (fun c73 => ?_)
    · refine mRun.go (q_iload dX0_takes_80 rfl) ?_
      refine r_iret dX0_takes_82 rfl ?_
      refine ⟨congrArg some (congrArg mi ?_), rfl⟩
      unfold tak takv
      split <;> (try split) <;> (try split) <;> (try split) <;> omega
    · refine mRun.go (q_iconst dX0_takes_76) ?_
      refine mRun.go (q_goto (tgt := 82) dX0_takes_77 (by decide)) ?_
      refine r_iret dX0_takes_82 rfl ?_
      refine ⟨congrArg some (congrArg mi ?_), rfl⟩
      unfold tak takv
      split <;> (try split) <;> (try split) <;> (try split) <;> omega
  · refine mRun.go (q_tsw_out (tgt := 83) dX0_takes_17 (nrm_rat hI) s17 (by decide)) ?_
    refine mRun.go (q_iload dX0_takes_83 rfl) ?_
    refine r_iret dX0_takes_85 rfl ?_
    refine ⟨congrArg some (congrArg mi ?_), rfl⟩
    unfold tak takv
    split <;> (try split) <;> (try split) <;> (try split) <;> omega

set_option maxRecDepth 100000 in
theorem k_howMany_loop {σ : List mC} {I : mI} {f l : Nat} {s : Int} (hf : IsForest σ f) (hl : IsLand σ l) (hI : Nrm I) (hs : -2147483648 ≤ s ∧ s < 2147483648) (hn : 0 ≤ I l 7 ∧ I l 7 ≤ 4) : ∀ (n t : Nat), (I l 7).toNat - t < n → t ≤ (I l 7).toNat → mRun mZt mX0_howMany 5 [some (mr f), some (mr l), some (mi s), some (mi (fcnt I f s t)), some (mi (t : Int))] [] (σ, I) (fun v h => v = some (mi (fcnt I f s (I l 7).toNat)) ∧ h = (σ, I)) := by
  intro n
  induction n with
  | zero => intro t h; omega
  | succ n ih =>
    intro t hn1 ht
    have e9 : ((t : Int)).toNat = t := by omega
    have hr := @fcnt_rng I f s t
    have hq := hI (f + 4 + t) 3
    refine mRun.go (q_iload dX0_howMany_5 rfl) ?_
    refine mRun.go (q_aload_n dX0_howMany_7 rfl rfl) ?_
    refine mRun.go (q_getI dX0_howMany_8 fo_X0_57 hl.1 rfl) ?_
    refine r_icmp_ge (tgt := 41) dX0_howMany_11 (by decide) (by omega) (hI _ _) (fun c11 => ?_) (fun c11 => ?_)
    · refine mRun.go (q_iload_n dX0_howMany_41 rfl rfl) ?_
      refine r_iret dX0_howMany_42 rfl ?_
      have : ((t : Int)) = I l 7 := by omega
      have e : (I l 7).toNat = t := by omega
      rw [e]
      exact ⟨rfl, rfl⟩
    · refine mRun.go (q_iload_n dX0_howMany_14 rfl rfl) ?_
      refine mRun.go (q_aload_n dX0_howMany_15 rfl rfl) ?_
      refine mRun.go (q_iload dX0_howMany_16 rfl) ?_
      refine mRun.go (q_callVi (r := f) [mi (t : Int)] [mi (fcnt I f s t)] dX0_howMany_18 co_X0_59 ⟨Nat.le_of_ble_eq_true rfl, Nat.le_of_ble_eq_true rfl⟩ gw_348 gw_349 rfl hf.1 rfl rfl rfl (Nat.le_of_ble_eq_true rfl) (k_whoN hf (by omega))) ?_
      refine mRun.go (q_getI dX0_howMany_21 fo_X0_63 (hf.2.2.2 t (by omega)) rfl) ?_
      refine mRun.go (q_iload_n dX0_howMany_24 rfl rfl) ?_
      have j25 : ∀ {post : Option mV → mH → Prop}, mRun mZt mX0_howMany 33 [some (mr f), some (mr l), some (mi s), some (mi (fcnt I f s t)), some (mi (t : Int))] [mi (if I (f + 4 + t) 3 = s then 1 else 0), mi (fcnt I f s t)] (σ, I) post → mRun mZt mX0_howMany 25 [some (mr f), some (mr l), some (mi s), some (mi (fcnt I f s t)), some (mi (t : Int))] [mi s, mi (I (f + 4 + t) 3), mi (fcnt I f s t)] (σ, I) post := by
        intro post k
        refine r_icmp_ne (tgt := 32) dX0_howMany_25 (by decide) (hI _ _) hs (fun c25 => ?_) (fun c25 => ?_)
        · refine mRun.go (q_iconst dX0_howMany_32) ?_
          first | (rw [if_pos (show I (f + 4 + t) 3 = s from by omega)] at k; exact k) | (rw [if_neg (show ¬ I (f + 4 + t) 3 = s from by omega)] at k; exact k)
        · refine mRun.go (q_iconst dX0_howMany_28) ?_
          refine mRun.go (q_goto (tgt := 33) dX0_howMany_29 (by decide)) ?_
          first | (rw [if_pos (show I (f + 4 + t) 3 = s from by omega)] at k; exact k) | (rw [if_neg (show ¬ I (f + 4 + t) 3 = s from by omega)] at k; exact k)
      refine j25 ?_
      refine mRun.go (q_iadd dX0_howMany_33) ?_
      refine mRun.go (q_istore_n (ls' := [some (mr f), some (mr l), some (mi s), some (mi ((fcnt I f s t) + (if I (f + 4 + t) 3 = s then 1 else 0))), some (mi (t : Int))]) dX0_howMany_34 rfl (Nat.le_of_ble_eq_true rfl) rfl) ?_
      refine mRun.go (q_iinc (ls' := [some (mr f), some (mr l), some (mi s), some (mi ((fcnt I f s t) + (if I (f + 4 + t) 3 = s then 1 else 0))), some (mi ((t : Int) + 1))]) dX0_howMany_35 rfl (Nat.le_of_ble_eq_true rfl) rfl) ?_
      refine mRun.go (q_goto (tgt := 5) dX0_howMany_38 (by decide)) ?_
      have e1 : ((t : Int) + 1) = ((t + 1 : Nat) : Int) := by omega
      rw [e1]
      exact ih (t + 1) (by omega) (by omega)

set_option maxRecDepth 100000 in
theorem k_howMany {σ : List mC} {I : mI} {f l : Nat} {s : Int} (hf : IsForest σ f) (hl : IsLand σ l) (hI : Nrm I) (hs : -2147483648 ≤ s ∧ s < 2147483648) (hn : 0 ≤ I l 7 ∧ I l 7 ≤ 4) : mCt mX0_howMany [mr f, mr l, mi s] (σ, I) (some (mi (fcnt I f s (I l 7).toNat))) (σ, I) := by
  refine mCt.eq ?_
  refine mMt.of pl_0 (Nat.le_of_ble_eq_true rfl) ?_
  show mRun mZt mX0_howMany 0 [some (mr f), some (mr l), some (mi s), none, none] [] (σ, I) _
  refine mRun.go (q_iconst dX0_howMany_0) ?_
  refine mRun.go (q_istore_n (ls' := [some (mr f), some (mr l), some (mi s), some (mi 0), none]) dX0_howMany_1 rfl (Nat.le_of_ble_eq_true rfl) rfl) ?_
  refine mRun.go (q_iconst dX0_howMany_2) ?_
  refine mRun.go (q_istore (ls' := [some (mr f), some (mr l), some (mi s), some (mi 0), some (mi 0)]) dX0_howMany_3 (Nat.le_of_ble_eq_true rfl) rfl) ?_
  exact k_howMany_loop hf hl hI hs hn _ 0 (Nat.lt_succ_self _) (Nat.zero_le _)
