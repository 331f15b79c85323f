/-! ===== DrumMaps: the calls that only ask ===== -/
theorem ite00 {c : Prop} [Decidable c] (h : (if c then (1 : Int) else 0) = 0) : ¬ c := fun q => by rw [if_pos q] at h; exact absurd h (by decide)

set_option maxRecDepth 100000 in
theorem f_place {σ : List mC} {I : mI} {S : Sx} {B : Int} {x : Int} (hC : CS σ I S) (hS : SxOk B S) (hx : -2147483648 ≤ x ∧ x < 2147483648) : mMt mX8_place [mr 0, mi x] (σ, I) (Out σ I S (a_place S x)) := by
  refine mMt.of pl_8 (Nat.le_of_ble_eq_true rfl) ?_
  show mRun mZt mX8_place 0 [some (mr 0), some (mi x)] [] (σ, I) _
  obtain ⟨q, hq1, hq2, hU, hq4⟩ := hC.2.2.1
  have hI := hC.1
  have hD := hC.2.1
  have hL := hS.1
  have hT := hC.2.2.2.1
  have hLR := hC.2.2.2.2.1
  have hF := hC.2.2.2.2.2.1
  have hpr := lp_rng hL
  have hqe := lq_eq hL
  have hwr := hL.2.1
  have hdr := hL.2.2.1
  have hnt := hL.2.2.2.1
  have hwF := hS.2.1.1
  have hhF := hS.2.1.2.1
  have hH8 := hS.2.2.2.2.2.2.1
  have hU8 := hS.2.2.1
  have hK2 := hS.2.2.2.2.1
  have hLn := hS.2.2.2.2.2.2.2.2
  refine mRun.go (q_aload_n dX8_place_0 rfl rfl) ?_
  refine mRun.go (q_getR dX8_place_1 fo_X8_26 hD.1 rfl) ?_
  refine mRun.go (q_iload_n dX8_place_4 rfl rfl) ?_
  have hh5 := @k_hasPlace σ I 21 x (dm_l hD) hI hx
  rw [hLR.1] at hh5
  refine mRun.go (q_callVi (r := 21) [mi x] [] dX8_place_5 co_X8_116 ⟨Nat.le_of_ble_eq_true rfl, Nat.le_of_ble_eq_true rfl⟩ gw_335 gw_336 rfl (dm_l hD).1 rfl rfl rfl (Nat.le_of_ble_eq_true rfl) hh5) ?_
  refine r_if_eq (tgt := 25) dX8_place_8 (by decide) (by split <;> omega) (fun c8 => ?_) (fun c8 => ?_)
  · have h8 := ite00 c8
    refine mRun.go (q_iconst dX8_place_25) ?_
    refine r_iret dX8_place_26 rfl ?_
    have e : a_place S x = (-1) := by
      simp only [a_place, isP, isD, isT]
      first | (rw [if_pos (by omega)]; done) | (rw [if_neg (by omega)]; done)
    rw [e]
    exact out_q hC hS hI frq_rf
  · have h8 := ite01 c8
    refine mRun.go (q_aload_n dX8_place_11 rfl rfl) ?_
    refine mRun.go (q_getR dX8_place_12 fo_X8_26 hD.1 rfl) ?_
    refine mRun.go (q_getR dX8_place_15 fo_X8_119 (dm_l hD).1 rfl) ?_
    refine mRun.go (q_iload_n dX8_place_18 rfl rfl) ?_
    refine mRun.go (q_callVi (r := 21 + 1) [mi x] [] dX8_place_19 co_X8_122 ⟨Nat.le_of_ble_eq_true rfl, Nat.le_of_ble_eq_true rfl⟩ gw_323 gw_324 rfl (dm_l hD).2.1.1 rfl rfl rfl (Nat.le_of_ble_eq_true rfl) (k_atE (dm_l hD).2.1 (by omega) (by decide) (lrc_g hLR hL (by omega)))) ?_
    refine mRun.go (q_goto (tgt := 26) dX8_place_22 (by decide)) ?_
    refine r_iret dX8_place_26 rfl ?_
    have e : a_place S x = lG (sL S) x := by
      simp only [a_place, isP, isD, isT]
      first | (rw [if_pos (by omega)]; done) | (rw [if_neg (by omega)]; done)
    rw [e]
    exact out_q hC hS hI frq_rf

set_option maxRecDepth 100000 in
theorem f_kind {σ : List mC} {I : mI} {S : Sx} {B : Int} {d : Int} (hC : CS σ I S) (hS : SxOk B S) (hd : -2147483648 ≤ d ∧ d < 2147483648) : mMt mX8_kind [mr 0, mi d] (σ, I) (Out σ I S (a_kind S d)) := by
  refine mMt.of pl_8 (Nat.le_of_ble_eq_true rfl) ?_
  show mRun mZt mX8_kind 0 [some (mr 0), some (mi d)] [] (σ, I) _
  obtain ⟨q, hq1, hq2, hU, hq4⟩ := hC.2.2.1
  have hI := hC.1
  have hD := hC.2.1
  have hL := hS.1
  have hT := hC.2.2.2.1
  have hLR := hC.2.2.2.2.1
  have hF := hC.2.2.2.2.2.1
  have hpr := lp_rng hL
  have hqe := lq_eq hL
  have hwr := hL.2.1
  have hdr := hL.2.2.1
  have hnt := hL.2.2.2.1
  have hwF := hS.2.1.1
  have hhF := hS.2.1.2.1
  have hH8 := hS.2.2.2.2.2.2.1
  have hU8 := hS.2.2.1
  have hK2 := hS.2.2.2.2.1
  have hLn := hS.2.2.2.2.2.2.2.2
  refine mRun.go (q_aload_n dX8_kind_0 rfl rfl) ?_
  refine mRun.go (q_getR dX8_kind_1 fo_X8_26 hD.1 rfl) ?_
  refine mRun.go (q_iload_n dX8_kind_4 rfl rfl) ?_
  have hh5 := @k_hasDrum σ I 21 d (dm_l hD) hI hd
  rw [hLR.2.2.1] at hh5
  refine mRun.go (q_callVi (r := 21) [mi d] [] dX8_kind_5 co_X8_126 ⟨Nat.le_of_ble_eq_true rfl, Nat.le_of_ble_eq_true rfl⟩ gw_331 gw_332 rfl (dm_l hD).1 rfl rfl rfl (Nat.le_of_ble_eq_true rfl) hh5) ?_
  refine r_if_eq (tgt := 25) dX8_kind_8 (by decide) (by split <;> omega) (fun c8 => ?_) (fun c8 => ?_)
  · have h8 := ite00 c8
    refine mRun.go (q_iconst dX8_kind_25) ?_
    refine r_iret dX8_kind_26 rfl ?_
    have e : a_kind S d = (-1) := by
      simp only [a_kind, isP, isD, isT]
      first | (rw [if_pos (by omega)]; done) | (rw [if_neg (by omega)]; done)
    rw [e]
    exact out_q hC hS hI frq_rf
  · have h8 := ite01 c8
    refine mRun.go (q_aload_n dX8_kind_11 rfl rfl) ?_
    refine mRun.go (q_getR dX8_kind_12 fo_X8_26 hD.1 rfl) ?_
    refine mRun.go (q_getR dX8_kind_15 fo_X8_143 (dm_l hD).1 rfl) ?_
    refine mRun.go (q_iload_n dX8_kind_18 rfl rfl) ?_
    refine mRun.go (q_callVi (r := 21 + 3) [mi d] [] dX8_kind_19 co_X8_122 ⟨Nat.le_of_ble_eq_true rfl, Nat.le_of_ble_eq_true rfl⟩ gw_323 gw_324 rfl (dm_l hD).2.2.1.1 rfl rfl rfl (Nat.le_of_ble_eq_true rfl) (k_atE (dm_l hD).2.2.1 (by omega) (by decide) (lrc_k hLR hL (by omega)))) ?_
    refine mRun.go (q_goto (tgt := 26) dX8_kind_22 (by decide)) ?_
    refine r_iret dX8_kind_26 rfl ?_
    have e : a_kind S d = lK (sL S) d := by
      simp only [a_kind, isP, isD, isT]
      first | (rw [if_pos (by omega)]; done) | (rw [if_neg (by omega)]; done)
    rw [e]
    exact out_q hC hS hI frq_rf

set_option maxRecDepth 100000 in
theorem f_drum {σ : List mC} {I : mI} {S : Sx} {B : Int} {d x v : Int} (hC : CS σ I S) (hS : SxOk B S) (hd : -2147483648 ≤ d ∧ d < 2147483648) (hx : -2147483648 ≤ x ∧ x < 2147483648) (hv : -2147483648 ≤ v ∧ v < 2147483648) : mMt mX8_drum [mr 0, mi d, mi x, mi v] (σ, I) (Out σ I S (a_drum S d x v)) := by
  refine mMt.of pl_8 (Nat.le_of_ble_eq_true rfl) ?_
  show mRun mZt mX8_drum 0 [some (mr 0), some (mi d), some (mi x), some (mi v)] [] (σ, I) _
  obtain ⟨q, hq1, hq2, hU, hq4⟩ := hC.2.2.1
  have hI := hC.1
  have hD := hC.2.1
  have hL := hS.1
  have hT := hC.2.2.2.1
  have hLR := hC.2.2.2.2.1
  have hF := hC.2.2.2.2.2.1
  have hpr := lp_rng hL
  have hqe := lq_eq hL
  have hwr := hL.2.1
  have hdr := hL.2.2.1
  have hnt := hL.2.2.2.1
  have hwF := hS.2.1.1
  have hhF := hS.2.1.2.1
  have hH8 := hS.2.2.2.2.2.2.1
  have hU8 := hS.2.2.1
  have hK2 := hS.2.2.2.2.1
  have hLn := hS.2.2.2.2.2.2.2.2
  refine mRun.go (q_aload_n dX8_drum_0 rfl rfl) ?_
  refine mRun.go (q_getR dX8_drum_1 fo_X8_26 hD.1 rfl) ?_
  refine mRun.go (q_iload_n dX8_drum_4 rfl rfl) ?_
  have hh5 := @k_hasDrum σ I 21 d (dm_l hD) hI hd
  rw [hLR.2.2.1] at hh5
  refine mRun.go (q_callVi (r := 21) [mi d] [] dX8_drum_5 co_X8_126 ⟨Nat.le_of_ble_eq_true rfl, Nat.le_of_ble_eq_true rfl⟩ gw_331 gw_332 rfl (dm_l hD).1 rfl rfl rfl (Nat.le_of_ble_eq_true rfl) hh5) ?_
  refine r_if_eq (tgt := 22) dX8_drum_8 (by decide) (by split <;> omega) (fun c8 => ?_) (fun c8 => ?_)
  · have h8 := ite00 c8
    refine mRun.go (q_iconst dX8_drum_22) ?_
    refine r_iret dX8_drum_23 rfl ?_
    have e : a_drum S d x v = (-1) := by
      simp only [a_drum, isP, isD, isT, tlS]
      first | (rw [if_pos (by omega)]; done) | (rw [if_neg (by omega)]; done) | (rw [if_pos (by omega), if_pos (by omega)]; done) | (rw [if_pos (by omega), if_neg (by omega)]; done) | (rw [if_neg (by omega), if_pos (by omega)]; done) | (rw [if_neg (by omega), if_neg (by omega)]; done) | (rw [if_pos (by omega), if_pos (by omega), if_pos (by omega)]; done) | (rw [if_pos (by omega), if_pos (by omega), if_neg (by omega)]; done) | (rw [if_pos (by omega), if_neg (by omega), if_pos (by omega)]; done) | (rw [if_pos (by omega), if_neg (by omega), if_neg (by omega)]; done) | (rw [if_neg (by omega), if_pos (by omega), if_pos (by omega)]; done) | (rw [if_neg (by omega), if_pos (by omega), if_neg (by omega)]; done) | (rw [if_neg (by omega), if_neg (by omega), if_pos (by omega)]; done) | (rw [if_neg (by omega), if_neg (by omega), if_neg (by omega)]; done) | (rw [if_pos (by omega), if_pos (by omega), if_pos (by omega), if_pos (by omega)]; done) | (rw [if_pos (by omega), if_pos (by omega), if_pos (by omega), if_neg (by omega)]; done) | (rw [if_pos (by omega), if_pos (by omega), if_neg (by omega), if_pos (by omega)]; done) | (rw [if_pos (by omega), if_pos (by omega), if_neg (by omega), if_neg (by omega)]; done) | (rw [if_pos (by omega), if_neg (by omega), if_pos (by omega), if_pos (by omega)]; done) | (rw [if_pos (by omega), if_neg (by omega), if_pos (by omega), if_neg (by omega)]; done) | (rw [if_pos (by omega), if_neg (by omega), if_neg (by omega), if_pos (by omega)]; done) | (rw [if_pos (by omega), if_neg (by omega), if_neg (by omega), if_neg (by omega)]; done) | (rw [if_neg (by omega), if_pos (by omega), if_pos (by omega), if_pos (by omega)]; done) | (rw [if_neg (by omega), if_pos (by omega), if_pos (by omega), if_neg (by omega)]; done) | (rw [if_neg (by omega), if_pos (by omega), if_neg (by omega), if_pos (by omega)]; done) | (rw [if_neg (by omega), if_pos (by omega), if_neg (by omega), if_neg (by omega)]; done) | (rw [if_neg (by omega), if_neg (by omega), if_pos (by omega), if_pos (by omega)]; done) | (rw [if_neg (by omega), if_neg (by omega), if_pos (by omega), if_neg (by omega)]; done) | (rw [if_neg (by omega), if_neg (by omega), if_neg (by omega), if_pos (by omega)]; done) | (rw [if_neg (by omega), if_neg (by omega), if_neg (by omega), if_neg (by omega)]; done)
    rw [e]
    exact out_q hC hS hI frq_rf
  · have h8 := ite01 c8
    refine mRun.go (q_aload_n dX8_drum_11 rfl rfl) ?_
    refine mRun.go (q_getR dX8_drum_12 fo_X8_26 hD.1 rfl) ?_
    refine mRun.go (q_iload_n dX8_drum_15 rfl rfl) ?_
    have hh16 := @k_hasPlace σ I 21 x (dm_l hD) hI hx
    rw [hLR.1] at hh16
    refine mRun.go (q_callVi (r := 21) [mi x] [] dX8_drum_16 co_X8_116 ⟨Nat.le_of_ble_eq_true rfl, Nat.le_of_ble_eq_true rfl⟩ gw_335 gw_336 rfl (dm_l hD).1 rfl rfl rfl (Nat.le_of_ble_eq_true rfl) hh16) ?_
    refine r_if_ne (tgt := 24) dX8_drum_19 (by decide) (by split <;> omega) (fun c19 => ?_) (fun c19 => ?_)
    · have h19 := ite01 c19
      refine mRun.go (q_iload_n dX8_drum_24 rfl rfl) ?_
      rcases (show v = 0 ∨ v = 1 ∨ v = 2 ∨ (v < 0 ∨ 2 < v) by omega) with s25 | s25 | s25 | s25
      · refine mRun.go (q_tsw_in (off := 27) (tgt := 52) dX8_drum_25 hv (by omega) (by rw [s25]; rfl) (by decide)) ?_
        refine mRun.go (q_aload_n dX8_drum_52 rfl rfl) ?_
        refine mRun.go (q_getR dX8_drum_53 fo_X8_33 hD.1 rfl) ?_
        refine mRun.go (q_aload_n dX8_drum_56 rfl rfl) ?_
        refine mRun.go (q_getR dX8_drum_57 fo_X8_26 hD.1 rfl) ?_
        refine mRun.go (q_iload_n dX8_drum_60 rfl rfl) ?_
        refine mRun.go (q_iload_n dX8_drum_61 rfl rfl) ?_
        refine mRun.go (q_callVi (r := 28) [mr 21, mi d, mi x] [] dX8_drum_62 co_X8_129 ⟨Nat.le_of_ble_eq_true rfl, Nat.le_of_ble_eq_true rfl⟩ gw_468 gw_469 rfl (dm_n hD).1 rfl rfl rfl (Nat.le_of_ble_eq_true rfl) (k_tellsF hI (dm_n hD) hD hL hLR hF (by omega) (by omega))) ?_
        refine r_iret dX8_drum_65 rfl ?_
        have e : a_drum S d x v = fT (sF S) (36 * d + x) := by
          simp only [a_drum, isP, isD, isT, tlS]
          first | (rw [if_pos (by omega)]; done) | (rw [if_neg (by omega)]; done) | (rw [if_pos (by omega), if_pos (by omega)]; done) | (rw [if_pos (by omega), if_neg (by omega)]; done) | (rw [if_neg (by omega), if_pos (by omega)]; done) | (rw [if_neg (by omega), if_neg (by omega)]; done) | (rw [if_pos (by omega), if_pos (by omega), if_pos (by omega)]; done) | (rw [if_pos (by omega), if_pos (by omega), if_neg (by omega)]; done) | (rw [if_pos (by omega), if_neg (by omega), if_pos (by omega)]; done) | (rw [if_pos (by omega), if_neg (by omega), if_neg (by omega)]; done) | (rw [if_neg (by omega), if_pos (by omega), if_pos (by omega)]; done) | (rw [if_neg (by omega), if_pos (by omega), if_neg (by omega)]; done) | (rw [if_neg (by omega), if_neg (by omega), if_pos (by omega)]; done) | (rw [if_neg (by omega), if_neg (by omega), if_neg (by omega)]; done) | (rw [if_pos (by omega), if_pos (by omega), if_pos (by omega), if_pos (by omega)]; done) | (rw [if_pos (by omega), if_pos (by omega), if_pos (by omega), if_neg (by omega)]; done) | (rw [if_pos (by omega), if_pos (by omega), if_neg (by omega), if_pos (by omega)]; done) | (rw [if_pos (by omega), if_pos (by omega), if_neg (by omega), if_neg (by omega)]; done) | (rw [if_pos (by omega), if_neg (by omega), if_pos (by omega), if_pos (by omega)]; done) | (rw [if_pos (by omega), if_neg (by omega), if_pos (by omega), if_neg (by omega)]; done) | (rw [if_pos (by omega), if_neg (by omega), if_neg (by omega), if_pos (by omega)]; done) | (rw [if_pos (by omega), if_neg (by omega), if_neg (by omega), if_neg (by omega)]; done) | (rw [if_neg (by omega), if_pos (by omega), if_pos (by omega), if_pos (by omega)]; done) | (rw [if_neg (by omega), if_pos (by omega), if_pos (by omega), if_neg (by omega)]; done) | (rw [if_neg (by omega), if_pos (by omega), if_neg (by omega), if_pos (by omega)]; done) | (rw [if_neg (by omega), if_pos (by omega), if_neg (by omega), if_neg (by omega)]; done) | (rw [if_neg (by omega), if_neg (by omega), if_pos (by omega), if_pos (by omega)]; done) | (rw [if_neg (by omega), if_neg (by omega), if_pos (by omega), if_neg (by omega)]; done) | (rw [if_neg (by omega), if_neg (by omega), if_neg (by omega), if_pos (by omega)]; done) | (rw [if_neg (by omega), if_neg (by omega), if_neg (by omega), if_neg (by omega)]; done)
        rw [e]
        exact out_q hC hS hI frq_rf
      · refine mRun.go (q_tsw_in (off := 41) (tgt := 66) dX8_drum_25 hv (by omega) (by rw [s25]; rfl) (by decide)) ?_
        refine mRun.go (q_aload_n dX8_drum_66 rfl rfl) ?_
        refine mRun.go (q_getR dX8_drum_67 fo_X8_33 hD.1 rfl) ?_
        refine mRun.go (q_aload_n dX8_drum_70 rfl rfl) ?_
        refine mRun.go (q_getR dX8_drum_71 fo_X8_26 hD.1 rfl) ?_
        refine mRun.go (q_iload_n dX8_drum_74 rfl rfl) ?_
        refine mRun.go (q_iload_n dX8_drum_75 rfl rfl) ?_
        refine mRun.go (q_callVi (r := 28) [mr 21, mi d, mi x] [] dX8_drum_76 co_X8_133 ⟨Nat.le_of_ble_eq_true rfl, Nat.le_of_ble_eq_true rfl⟩ gw_473 gw_474 rfl (dm_n hD).1 rfl rfl rfl (Nat.le_of_ble_eq_true rfl) (k_takesF hI (dm_n hD) hD hL hLR hF (by omega) (by omega))) ?_
        refine r_iret dX8_drum_79 rfl ?_
        have e : a_drum S d x v = takv (lK (sL S) d) (fT (sF S) (36 * d + x)) := by
          simp only [a_drum, isP, isD, isT, tlS]
          first | (rw [if_pos (by omega)]; done) | (rw [if_neg (by omega)]; done) | (rw [if_pos (by omega), if_pos (by omega)]; done) | (rw [if_pos (by omega), if_neg (by omega)]; done) | (rw [if_neg (by omega), if_pos (by omega)]; done) | (rw [if_neg (by omega), if_neg (by omega)]; done) | (rw [if_pos (by omega), if_pos (by omega), if_pos (by omega)]; done) | (rw [if_pos (by omega), if_pos (by omega), if_neg (by omega)]; done) | (rw [if_pos (by omega), if_neg (by omega), if_pos (by omega)]; done) | (rw [if_pos (by omega), if_neg (by omega), if_neg (by omega)]; done) | (rw [if_neg (by omega), if_pos (by omega), if_pos (by omega)]; done) | (rw [if_neg (by omega), if_pos (by omega), if_neg (by omega)]; done) | (rw [if_neg (by omega), if_neg (by omega), if_pos (by omega)]; done) | (rw [if_neg (by omega), if_neg (by omega), if_neg (by omega)]; done) | (rw [if_pos (by omega), if_pos (by omega), if_pos (by omega), if_pos (by omega)]; done) | (rw [if_pos (by omega), if_pos (by omega), if_pos (by omega), if_neg (by omega)]; done) | (rw [if_pos (by omega), if_pos (by omega), if_neg (by omega), if_pos (by omega)]; done) | (rw [if_pos (by omega), if_pos (by omega), if_neg (by omega), if_neg (by omega)]; done) | (rw [if_pos (by omega), if_neg (by omega), if_pos (by omega), if_pos (by omega)]; done) | (rw [if_pos (by omega), if_neg (by omega), if_pos (by omega), if_neg (by omega)]; done) | (rw [if_pos (by omega), if_neg (by omega), if_neg (by omega), if_pos (by omega)]; done) | (rw [if_pos (by omega), if_neg (by omega), if_neg (by omega), if_neg (by omega)]; done) | (rw [if_neg (by omega), if_pos (by omega), if_pos (by omega), if_pos (by omega)]; done) | (rw [if_neg (by omega), if_pos (by omega), if_pos (by omega), if_neg (by omega)]; done) | (rw [if_neg (by omega), if_pos (by omega), if_neg (by omega), if_pos (by omega)]; done) | (rw [if_neg (by omega), if_pos (by omega), if_neg (by omega), if_neg (by omega)]; done) | (rw [if_neg (by omega), if_neg (by omega), if_pos (by omega), if_pos (by omega)]; done) | (rw [if_neg (by omega), if_neg (by omega), if_pos (by omega), if_neg (by omega)]; done) | (rw [if_neg (by omega), if_neg (by omega), if_neg (by omega), if_pos (by omega)]; done) | (rw [if_neg (by omega), if_neg (by omega), if_neg (by omega), if_neg (by omega)]; done)
        rw [e]
        exact out_q hC hS hI frq_rf
      · refine mRun.go (q_tsw_in (off := 55) (tgt := 80) dX8_drum_25 hv (by omega) (by rw [s25]; rfl) (by decide)) ?_
        refine mRun.go (q_aload_n dX8_drum_80 rfl rfl) ?_
        refine mRun.go (q_getR dX8_drum_81 fo_X8_33 hD.1 rfl) ?_
        refine mRun.go (q_aload_n dX8_drum_84 rfl rfl) ?_
        refine mRun.go (q_getR dX8_drum_85 fo_X8_26 hD.1 rfl) ?_
        refine mRun.go (q_iload_n dX8_drum_88 rfl rfl) ?_
        refine mRun.go (q_iload_n dX8_drum_89 rfl rfl) ?_
        refine mRun.go (q_callVi (r := 28) [mr 21, mi d, mi x] [] dX8_drum_90 co_X8_129 ⟨Nat.le_of_ble_eq_true rfl, Nat.le_of_ble_eq_true rfl⟩ gw_468 gw_469 rfl (dm_n hD).1 rfl rfl rfl (Nat.le_of_ble_eq_true rfl) (k_tellsF hI (dm_n hD) hD hL hLR hF (by omega) (by omega))) ?_
        refine mRun.go (q_aload_n dX8_drum_93 rfl rfl) ?_
        refine mRun.go (q_getR dX8_drum_94 fo_X8_33 hD.1 rfl) ?_
        refine mRun.go (q_getE (x := fW (sF S)) dX8_drum_97 fo_X8_136 (dm_n hD).1 rfl hF.1) ?_
        refine mRun.go (q_callSi [mi (fT (sF S) (36 * d + x)), mi (fW (sF S))] [] dX8_drum_100 co_X8_139 ⟨Nat.le_of_ble_eq_true rfl, Nat.le_of_ble_eq_true rfl⟩ gw_478 rfl rfl (Nat.le_of_ble_eq_true rfl) (k_loud (tl_rng hI hF hL (by omega) (by omega)))) ?_
        refine r_iret dX8_drum_103 rfl ?_
        have e : a_drum S d x v = loud (fT (sF S) (36 * d + x)) (fW (sF S)) := by
          simp only [a_drum, isP, isD, isT, tlS]
          first | (rw [if_pos (by omega)]; done) | (rw [if_neg (by omega)]; done) | (rw [if_pos (by omega), if_pos (by omega)]; done) | (rw [if_pos (by omega), if_neg (by omega)]; done) | (rw [if_neg (by omega), if_pos (by omega)]; done) | (rw [if_neg (by omega), if_neg (by omega)]; done) | (rw [if_pos (by omega), if_pos (by omega), if_pos (by omega)]; done) | (rw [if_pos (by omega), if_pos (by omega), if_neg (by omega)]; done) | (rw [if_pos (by omega), if_neg (by omega), if_pos (by omega)]; done) | (rw [if_pos (by omega), if_neg (by omega), if_neg (by omega)]; done) | (rw [if_neg (by omega), if_pos (by omega), if_pos (by omega)]; done) | (rw [if_neg (by omega), if_pos (by omega), if_neg (by omega)]; done) | (rw [if_neg (by omega), if_neg (by omega), if_pos (by omega)]; done) | (rw [if_neg (by omega), if_neg (by omega), if_neg (by omega)]; done) | (rw [if_pos (by omega), if_pos (by omega), if_pos (by omega), if_pos (by omega)]; done) | (rw [if_pos (by omega), if_pos (by omega), if_pos (by omega), if_neg (by omega)]; done) | (rw [if_pos (by omega), if_pos (by omega), if_neg (by omega), if_pos (by omega)]; done) | (rw [if_pos (by omega), if_pos (by omega), if_neg (by omega), if_neg (by omega)]; done) | (rw [if_pos (by omega), if_neg (by omega), if_pos (by omega), if_pos (by omega)]; done) | (rw [if_pos (by omega), if_neg (by omega), if_pos (by omega), if_neg (by omega)]; done) | (rw [if_pos (by omega), if_neg (by omega), if_neg (by omega), if_pos (by omega)]; done) | (rw [if_pos (by omega), if_neg (by omega), if_neg (by omega), if_neg (by omega)]; done) | (rw [if_neg (by omega), if_pos (by omega), if_pos (by omega), if_pos (by omega)]; done) | (rw [if_neg (by omega), if_pos (by omega), if_pos (by omega), if_neg (by omega)]; done) | (rw [if_neg (by omega), if_pos (by omega), if_neg (by omega), if_pos (by omega)]; done) | (rw [if_neg (by omega), if_pos (by omega), if_neg (by omega), if_neg (by omega)]; done) | (rw [if_neg (by omega), if_neg (by omega), if_pos (by omega), if_pos (by omega)]; done) | (rw [if_neg (by omega), if_neg (by omega), if_pos (by omega), if_neg (by omega)]; done) | (rw [if_neg (by omega), if_neg (by omega), if_neg (by omega), if_pos (by omega)]; done) | (rw [if_neg (by omega), if_neg (by omega), if_neg (by omega), if_neg (by omega)]; done)
        rw [e]
        exact out_q hC hS hI frq_rf
      · refine mRun.go (q_tsw_out (tgt := 104) dX8_drum_25 hv s25 (by decide)) ?_
        refine mRun.go (q_iconst dX8_drum_104) ?_
        refine r_iret dX8_drum_105 rfl ?_
        have e : a_drum S d x v = (-1) := by
          simp only [a_drum, isP, isD, isT, tlS]
          first | (rw [if_pos (by omega)]; done) | (rw [if_neg (by omega)]; done) | (rw [if_pos (by omega), if_pos (by omega)]; done) | (rw [if_pos (by omega), if_neg (by omega)]; done) | (rw [if_neg (by omega), if_pos (by omega)]; done) | (rw [if_neg (by omega), if_neg (by omega)]; done) | (rw [if_pos (by omega), if_pos (by omega), if_pos (by omega)]; done) | (rw [if_pos (by omega), if_pos (by omega), if_neg (by omega)]; done) | (rw [if_pos (by omega), if_neg (by omega), if_pos (by omega)]; done) | (rw [if_pos (by omega), if_neg (by omega), if_neg (by omega)]; done) | (rw [if_neg (by omega), if_pos (by omega), if_pos (by omega)]; done) | (rw [if_neg (by omega), if_pos (by omega), if_neg (by omega)]; done) | (rw [if_neg (by omega), if_neg (by omega), if_pos (by omega)]; done) | (rw [if_neg (by omega), if_neg (by omega), if_neg (by omega)]; done) | (rw [if_pos (by omega), if_pos (by omega), if_pos (by omega), if_pos (by omega)]; done) | (rw [if_pos (by omega), if_pos (by omega), if_pos (by omega), if_neg (by omega)]; done) | (rw [if_pos (by omega), if_pos (by omega), if_neg (by omega), if_pos (by omega)]; done) | (rw [if_pos (by omega), if_pos (by omega), if_neg (by omega), if_neg (by omega)]; done) | (rw [if_pos (by omega), if_neg (by omega), if_pos (by omega), if_pos (by omega)]; done) | (rw [if_pos (by omega), if_neg (by omega), if_pos (by omega), if_neg (by omega)]; done) | (rw [if_pos (by omega), if_neg (by omega), if_neg (by omega), if_pos (by omega)]; done) | (rw [if_pos (by omega), if_neg (by omega), if_neg (by omega), if_neg (by omega)]; done) | (rw [if_neg (by omega), if_pos (by omega), if_pos (by omega), if_pos (by omega)]; done) | (rw [if_neg (by omega), if_pos (by omega), if_pos (by omega), if_neg (by omega)]; done) | (rw [if_neg (by omega), if_pos (by omega), if_neg (by omega), if_pos (by omega)]; done) | (rw [if_neg (by omega), if_pos (by omega), if_neg (by omega), if_neg (by omega)]; done) | (rw [if_neg (by omega), if_neg (by omega), if_pos (by omega), if_pos (by omega)]; done) | (rw [if_neg (by omega), if_neg (by omega), if_pos (by omega), if_neg (by omega)]; done) | (rw [if_neg (by omega), if_neg (by omega), if_neg (by omega), if_pos (by omega)]; done) | (rw [if_neg (by omega), if_neg (by omega), if_neg (by omega), if_neg (by omega)]; done)
        rw [e]
        exact out_q hC hS hI frq_rf
    · have h19 := ite00 (Classical.not_not.mp c19)
      refine mRun.go (q_iconst dX8_drum_22) ?_
      refine r_iret dX8_drum_23 rfl ?_
      have e : a_drum S d x v = (-1) := by
        simp only [a_drum, isP, isD, isT, tlS]
        first | (rw [if_pos (by omega)]; done) | (rw [if_neg (by omega)]; done) | (rw [if_pos (by omega), if_pos (by omega)]; done) | (rw [if_pos (by omega), if_neg (by omega)]; done) | (rw [if_neg (by omega), if_pos (by omega)]; done) | (rw [if_neg (by omega), if_neg (by omega)]; done) | (rw [if_pos (by omega), if_pos (by omega), if_pos (by omega)]; done) | (rw [if_pos (by omega), if_pos (by omega), if_neg (by omega)]; done) | (rw [if_pos (by omega), if_neg (by omega), if_pos (by omega)]; done) | (rw [if_pos (by omega), if_neg (by omega), if_neg (by omega)]; done) | (rw [if_neg (by omega), if_pos (by omega), if_pos (by omega)]; done) | (rw [if_neg (by omega), if_pos (by omega), if_neg (by omega)]; done) | (rw [if_neg (by omega), if_neg (by omega), if_pos (by omega)]; done) | (rw [if_neg (by omega), if_neg (by omega), if_neg (by omega)]; done) | (rw [if_pos (by omega), if_pos (by omega), if_pos (by omega), if_pos (by omega)]; done) | (rw [if_pos (by omega), if_pos (by omega), if_pos (by omega), if_neg (by omega)]; done) | (rw [if_pos (by omega), if_pos (by omega), if_neg (by omega), if_pos (by omega)]; done) | (rw [if_pos (by omega), if_pos (by omega), if_neg (by omega), if_neg (by omega)]; done) | (rw [if_pos (by omega), if_neg (by omega), if_pos (by omega), if_pos (by omega)]; done) | (rw [if_pos (by omega), if_neg (by omega), if_pos (by omega), if_neg (by omega)]; done) | (rw [if_pos (by omega), if_neg (by omega), if_neg (by omega), if_pos (by omega)]; done) | (rw [if_pos (by omega), if_neg (by omega), if_neg (by omega), if_neg (by omega)]; done) | (rw [if_neg (by omega), if_pos (by omega), if_pos (by omega), if_pos (by omega)]; done) | (rw [if_neg (by omega), if_pos (by omega), if_pos (by omega), if_neg (by omega)]; done) | (rw [if_neg (by omega), if_pos (by omega), if_neg (by omega), if_pos (by omega)]; done) | (rw [if_neg (by omega), if_pos (by omega), if_neg (by omega), if_neg (by omega)]; done) | (rw [if_neg (by omega), if_neg (by omega), if_pos (by omega), if_pos (by omega)]; done) | (rw [if_neg (by omega), if_neg (by omega), if_pos (by omega), if_neg (by omega)]; done) | (rw [if_neg (by omega), if_neg (by omega), if_neg (by omega), if_pos (by omega)]; done) | (rw [if_neg (by omega), if_neg (by omega), if_neg (by omega), if_neg (by omega)]; done)
      rw [e]
      exact out_q hC hS hI frq_rf

set_option maxRecDepth 100000 in
theorem f_traveller {σ : List mC} {I : mI} {S : Sx} {B : Int} {t v : Int} (hC : CS σ I S) (hS : SxOk B S) (ht : -2147483648 ≤ t ∧ t < 2147483648) (hv : -2147483648 ≤ v ∧ v < 2147483648) : mMt mX8_traveller [mr 0, mi t, mi v] (σ, I) (Out σ I S (a_traveller S t v)) := by
  refine mMt.of pl_8 (Nat.le_of_ble_eq_true rfl) ?_
  show mRun mZt mX8_traveller 0 [some (mr 0), some (mi t), some (mi v), none] [] (σ, I) _
  obtain ⟨q, hq1, hq2, hU, hq4⟩ := hC.2.2.1
  have hI := hC.1
  have hD := hC.2.1
  have hL := hS.1
  have hT := hC.2.2.2.1
  have hLR := hC.2.2.2.2.1
  have hF := hC.2.2.2.2.2.1
  have hpr := lp_rng hL
  have hqe := lq_eq hL
  have hwr := hL.2.1
  have hdr := hL.2.2.1
  have hnt := hL.2.2.2.1
  have hwF := hS.2.1.1
  have hhF := hS.2.1.2.1
  have hH8 := hS.2.2.2.2.2.2.1
  have hU8 := hS.2.2.1
  have hK2 := hS.2.2.2.2.1
  have hLn := hS.2.2.2.2.2.2.2.2
  refine mRun.go (q_aload_n dX8_traveller_0 rfl rfl) ?_
  refine mRun.go (q_getR dX8_traveller_1 fo_X8_26 hD.1 rfl) ?_
  refine mRun.go (q_iload_n dX8_traveller_4 rfl rfl) ?_
  have hh5 := @k_hasTrv σ I 21 t (dm_l hD) hI ht
  rw [hLR.2.2.2.1] at hh5
  refine mRun.go (q_callVi (r := 21) [mi t] [] dX8_traveller_5 co_X8_146 ⟨Nat.le_of_ble_eq_true rfl, Nat.le_of_ble_eq_true rfl⟩ gw_489 gw_490 rfl (dm_l hD).1 rfl rfl rfl (Nat.le_of_ble_eq_true rfl) hh5) ?_
  refine r_if_ne (tgt := 13) dX8_traveller_8 (by decide) (by split <;> omega) (fun c8 => ?_) (fun c8 => ?_)
  · have h8 := ite01 c8
    refine mRun.go (q_aload_n dX8_traveller_13 rfl rfl) ?_
    refine mRun.go (q_getR dX8_traveller_14 fo_X8_33 hD.1 rfl) ?_
    refine mRun.go (q_iload_n dX8_traveller_17 rfl rfl) ?_
    refine mRun.go (q_callVi (r := 28) [mi t] [] dX8_traveller_18 co_X8_149 ⟨Nat.le_of_ble_eq_true rfl, Nat.le_of_ble_eq_true rfl⟩ gw_348 gw_349 rfl (dm_n hD).1 rfl rfl rfl (Nat.le_of_ble_eq_true rfl) (k_who (dm_n hD) (by omega))) ?_
    refine mRun.go (q_astore_n (ls' := [some (mr 0), some (mi t), some (mi v), some (mr (28 + 4 + t.toNat))]) dX8_traveller_21 rfl (Nat.le_of_ble_eq_true rfl) rfl) ?_
    refine mRun.go (q_iload_n dX8_traveller_22 rfl rfl) ?_
    rcases (show v = 0 ∨ v = 1 ∨ v = 2 ∨ v = 3 ∨ v = 4 ∨ v = 5 ∨ (v < 0 ∨ 5 < v) by omega) with s23 | s23 | s23 | s23 | s23 | s23 | s23
    · refine mRun.go (q_tsw_in (off := 37) (tgt := 60) dX8_traveller_23 hv (by omega) (by rw [s23]; rfl) (by decide)) ?_
      refine mRun.go (q_aload_n dX8_traveller_60 rfl rfl) ?_
      refine mRun.go (q_getE (x := (tget I (28 + 4 + t.toNat)).1) dX8_traveller_61 fo_X8_153 ((dm_n hD).2.2.2 t.toNat (by omega)) rfl rfl) ?_
      refine r_iret dX8_traveller_64 rfl ?_
      have e : a_traveller S t v = (tget I (28 + 4 + t.toNat)).1 := by
        simp only [a_traveller, isT, tvS]
        rw [if_pos (by omega), ← (hF.2.2.2 t.toNat (by omega)).1]
        subst s23
        rfl
      rw [e]
      exact out_q hC hS hI frq_rf
    · refine mRun.go (q_tsw_in (off := 42) (tgt := 65) dX8_traveller_23 hv (by omega) (by rw [s23]; rfl) (by decide)) ?_
      refine mRun.go (q_aload_n dX8_traveller_65 rfl rfl) ?_
      refine mRun.go (q_getE (x := (tget I (28 + 4 + t.toNat)).2.1) dX8_traveller_66 fo_X8_156 ((dm_n hD).2.2.2 t.toNat (by omega)) rfl rfl) ?_
      refine r_iret dX8_traveller_69 rfl ?_
      have e : a_traveller S t v = (tget I (28 + 4 + t.toNat)).2.1 := by
        simp only [a_traveller, isT, tvS]
        rw [if_pos (by omega), ← (hF.2.2.2 t.toNat (by omega)).1]
        subst s23
        rfl
      rw [e]
      exact out_q hC hS hI frq_rf
    · refine mRun.go (q_tsw_in (off := 47) (tgt := 70) dX8_traveller_23 hv (by omega) (by rw [s23]; rfl) (by decide)) ?_
      refine mRun.go (q_aload_n dX8_traveller_70 rfl rfl) ?_
      refine mRun.go (q_getE (x := (tget I (28 + 4 + t.toNat)).2.2.1) dX8_traveller_71 fo_X8_159 ((dm_n hD).2.2.2 t.toNat (by omega)) rfl rfl) ?_
      refine r_iret dX8_traveller_74 rfl ?_
      have e : a_traveller S t v = (tget I (28 + 4 + t.toNat)).2.2.1 := by
        simp only [a_traveller, isT, tvS]
        rw [if_pos (by omega), ← (hF.2.2.2 t.toNat (by omega)).1]
        subst s23
        rfl
      rw [e]
      exact out_q hC hS hI frq_rf
    · refine mRun.go (q_tsw_in (off := 52) (tgt := 75) dX8_traveller_23 hv (by omega) (by rw [s23]; rfl) (by decide)) ?_
      refine mRun.go (q_aload_n dX8_traveller_75 rfl rfl) ?_
      refine mRun.go (q_getE (x := (tget I (28 + 4 + t.toNat)).2.2.2.1) dX8_traveller_76 fo_X8_162 ((dm_n hD).2.2.2 t.toNat (by omega)) rfl rfl) ?_
      refine r_iret dX8_traveller_79 rfl ?_
      have e : a_traveller S t v = (tget I (28 + 4 + t.toNat)).2.2.2.1 := by
        simp only [a_traveller, isT, tvS]
        rw [if_pos (by omega), ← (hF.2.2.2 t.toNat (by omega)).1]
        subst s23
        rfl
      rw [e]
      exact out_q hC hS hI frq_rf
    · refine mRun.go (q_tsw_in (off := 57) (tgt := 80) dX8_traveller_23 hv (by omega) (by rw [s23]; rfl) (by decide)) ?_
      refine mRun.go (q_aload_n dX8_traveller_80 rfl rfl) ?_
      refine mRun.go (q_callVi (r := 28 + 4 + t.toNat) [] [] dX8_traveller_81 co_X8_165 ⟨Nat.le_of_ble_eq_true rfl, Nat.le_of_ble_eq_true rfl⟩ gw_494 gw_495 rfl ((dm_n hD).2.2.2 t.toNat (by omega)) rfl rfl rfl (Nat.le_of_ble_eq_true rfl) (k_isOn ((dm_n hD).2.2.2 t.toNat (by omega)) hI)) ?_
      refine r_if_eq (tgt := 94) dX8_traveller_84 (by decide) (by split <;> omega) (fun c84 => ?_) (fun c84 => ?_)
      · have h84 := ite00 c84
        refine mRun.go (q_bipush dX8_traveller_94 (by decide)) ?_
        refine r_iret dX8_traveller_96 rfl ?_
        have e : a_traveller S t v = (-4) := by
          simp only [a_traveller, isT, tvS]
          rw [if_pos (by omega), ← (hF.2.2.2 t.toNat (by omega)).1]
          subst s23
          show (if 0 < I (28 + 4 + t.toNat) 5 then _ else _) = _; rw [if_neg h84]
        rw [e]
        exact out_q hC hS hI frq_rf
      · have h84 := ite01 c84
        refine mRun.go (q_aload_n dX8_traveller_87 rfl rfl) ?_
        refine mRun.go (q_getE (x := (tget I (28 + 4 + t.toNat)).2.2.2.2.1) dX8_traveller_88 fo_X8_168 ((dm_n hD).2.2.2 t.toNat (by omega)) rfl rfl) ?_
        refine mRun.go (q_goto (tgt := 96) dX8_traveller_91 (by decide)) ?_
        refine r_iret dX8_traveller_96 rfl ?_
        have e : a_traveller S t v = (tget I (28 + 4 + t.toNat)).2.2.2.2.1 := by
          simp only [a_traveller, isT, tvS]
          rw [if_pos (by omega), ← (hF.2.2.2 t.toNat (by omega)).1]
          subst s23
          show (if 0 < I (28 + 4 + t.toNat) 5 then _ else _) = _; rw [if_pos h84]
        rw [e]
        exact out_q hC hS hI frq_rf
    · refine mRun.go (q_tsw_in (off := 74) (tgt := 97) dX8_traveller_23 hv (by omega) (by rw [s23]; rfl) (by decide)) ?_
      refine mRun.go (q_aload_n dX8_traveller_97 rfl rfl) ?_
      refine mRun.go (q_getE (x := (tget I (28 + 4 + t.toNat)).2.2.2.2.2) dX8_traveller_98 fo_X8_171 ((dm_n hD).2.2.2 t.toNat (by omega)) rfl rfl) ?_
      refine r_iret dX8_traveller_101 rfl ?_
      have e : a_traveller S t v = (tget I (28 + 4 + t.toNat)).2.2.2.2.2 := by
        simp only [a_traveller, isT, tvS]
        rw [if_pos (by omega), ← (hF.2.2.2 t.toNat (by omega)).1]
        subst s23
        rfl
      rw [e]
      exact out_q hC hS hI frq_rf
    · refine mRun.go (q_tsw_out (tgt := 102) dX8_traveller_23 hv s23 (by decide)) ?_
      refine mRun.go (q_iconst dX8_traveller_102) ?_
      refine r_iret dX8_traveller_103 rfl ?_
      have e : a_traveller S t v = (-1) := by
        simp only [a_traveller, isT, tvi]
        first | (rw [if_neg (by omega)]; done) | (rw [if_pos (by omega), if_neg (by omega), if_neg (by omega), if_neg (by omega), if_neg (by omega), if_neg (by omega), if_neg (by omega)]; done)
      rw [e]
      exact out_q hC hS hI frq_rf
  · have h8 := ite00 (Classical.not_not.mp c8)
    refine mRun.go (q_iconst dX8_traveller_11) ?_
    refine r_iret dX8_traveller_12 rfl ?_
    have e : a_traveller S t v = (-1) := by
      simp only [a_traveller, isT, tvi]
      first | (rw [if_neg (by omega)]; done) | (rw [if_pos (by omega), if_neg (by omega), if_neg (by omega), if_neg (by omega), if_neg (by omega), if_neg (by omega), if_neg (by omega)]; done)
    rw [e]
    exact out_q hC hS hI frq_rf

set_option maxRecDepth 100000 in
theorem f_fault {σ : List mC} {I : mI} {S : Sx} {B : Int} (hC : CS σ I S) (hS : SxOk B S)  : mMt mX8_fault [mr 0] (σ, I) (Out σ I S (a_fault S)) := by
  refine mMt.of pl_8 (Nat.le_of_ble_eq_true rfl) ?_
  show mRun mZt mX8_fault 0 [some (mr 0)] [] (σ, I) _
  obtain ⟨q, hq1, hq2, hU, hq4⟩ := hC.2.2.1
  have hI := hC.1
  have hD := hC.2.1
  have hL := hS.1
  have hT := hC.2.2.2.1
  have hLR := hC.2.2.2.2.1
  have hF := hC.2.2.2.2.2.1
  have hpr := lp_rng hL
  have hqe := lq_eq hL
  have hwr := hL.2.1
  have hdr := hL.2.2.1
  have hnt := hL.2.2.2.1
  have hwF := hS.2.1.1
  have hhF := hS.2.1.2.1
  have hH8 := hS.2.2.2.2.2.2.1
  have hU8 := hS.2.2.1
  have hK2 := hS.2.2.2.2.1
  have hLn := hS.2.2.2.2.2.2.2.2
  refine mRun.go (q_aload_n dX8_fault_0 rfl rfl) ?_
  refine mRun.go (q_getR dX8_fault_1 fo_X8_19 hD.1 rfl) ?_
  refine mRun.go (q_aload_n dX8_fault_4 rfl rfl) ?_
  refine mRun.go (q_getR dX8_fault_5 fo_X8_10 hD.1 rfl) ?_
  obtain ⟨v0, h0, hc0, rfl, K, rfl, hK, hfK, -⟩ := k_firstFault (dm_r hD) hI hT
  refine mRun.go (q_callVi (r := 3) [mr 1] [] dX8_fault_8 co_X8_109 ⟨Nat.le_of_ble_eq_true rfl, Nat.le_of_ble_eq_true rfl⟩ gw_277 gw_278 rfl (dm_r hD).2.1 rfl rfl rfl (Nat.le_of_ble_eq_true rfl) hc0) ?_
  refine r_iret dX8_fault_11 rfl ?_
  exact out_q hC hS hK (fun r a => hfK r (by omega))

set_option maxRecDepth 100000 in
theorem f_route {σ : List mC} {I : mI} {S : Sx} {B : Int} {d x y v : Int} (hC : CS σ I S) (hS : SxOk B S) (hd : -2147483648 ≤ d ∧ d < 2147483648) (hx : -2147483648 ≤ x ∧ x < 2147483648) (hy : -2147483648 ≤ y ∧ y < 2147483648) (hv : -2147483648 ≤ v ∧ v < 2147483648) : mMt mX8_route [mr 0, mi d, mi x, mi y, mi v] (σ, I) (Out σ I S (a_route S d x y v)) := by
  refine mMt.of pl_8 (Nat.le_of_ble_eq_true rfl) ?_
  show mRun mZt mX8_route 0 [some (mr 0), some (mi d), some (mi x), some (mi y), some (mi v)] [] (σ, I) _
  obtain ⟨q, hq1, hq2, hU, hq4⟩ := hC.2.2.1
  have hI := hC.1
  have hD := hC.2.1
  have hL := hS.1
  have hT := hC.2.2.2.1
  have hLR := hC.2.2.2.2.1
  have hF := hC.2.2.2.2.2.1
  have hpr := lp_rng hL
  have hqe := lq_eq hL
  have hwr := hL.2.1
  have hdr := hL.2.2.1
  have hnt := hL.2.2.2.1
  have hwF := hS.2.1.1
  have hhF := hS.2.1.2.1
  have hH8 := hS.2.2.2.2.2.2.1
  have hU8 := hS.2.2.1
  have hK2 := hS.2.2.2.2.1
  have hLn := hS.2.2.2.2.2.2.2.2
  refine mRun.go (q_aload_n dX8_route_0 rfl rfl) ?_
  refine mRun.go (q_getR dX8_route_1 fo_X8_26 hD.1 rfl) ?_
  refine mRun.go (q_iload_n dX8_route_4 rfl rfl) ?_
  have hh5 := @k_hasDrum σ I 21 d (dm_l hD) hI hd
  rw [hLR.2.2.1] at hh5
  refine mRun.go (q_callVi (r := 21) [mi d] [] dX8_route_5 co_X8_126 ⟨Nat.le_of_ble_eq_true rfl, Nat.le_of_ble_eq_true rfl⟩ gw_331 gw_332 rfl (dm_l hD).1 rfl rfl rfl (Nat.le_of_ble_eq_true rfl) hh5) ?_
  refine r_if_eq (tgt := 43) dX8_route_8 (by decide) (by split <;> omega) (fun c8 => ?_) (fun c8 => ?_)
  · have h8 := ite00 c8
    refine mRun.go (q_iconst dX8_route_43) ?_
    refine r_iret dX8_route_44 rfl ?_
    have e : a_route S d x y v = (-1) := by
      simp only [a_route, isP, isD, isT]
      first | (rw [if_pos (by omega)]; done) | (rw [if_neg (by omega)]; done) | (rw [if_pos (by omega), if_pos (by omega)]; done) | (rw [if_pos (by omega), if_neg (by omega)]; done) | (rw [if_neg (by omega), if_pos (by omega)]; done) | (rw [if_neg (by omega), if_neg (by omega)]; done)
    rw [e]
    exact out_q hC hS hI frq_rf
  · have h8 := ite01 c8
    refine mRun.go (q_aload_n dX8_route_11 rfl rfl) ?_
    refine mRun.go (q_getR dX8_route_12 fo_X8_26 hD.1 rfl) ?_
    refine mRun.go (q_iload_n dX8_route_15 rfl rfl) ?_
    have hh16 := @k_hasPlace σ I 21 x (dm_l hD) hI hx
    rw [hLR.1] at hh16
    refine mRun.go (q_callVi (r := 21) [mi x] [] dX8_route_16 co_X8_116 ⟨Nat.le_of_ble_eq_true rfl, Nat.le_of_ble_eq_true rfl⟩ gw_335 gw_336 rfl (dm_l hD).1 rfl rfl rfl (Nat.le_of_ble_eq_true rfl) hh16) ?_
    refine r_if_eq (tgt := 43) dX8_route_19 (by decide) (by split <;> omega) (fun c19 => ?_) (fun c19 => ?_)
    · have h19 := ite00 c19
      refine mRun.go (q_iconst dX8_route_43) ?_
      refine r_iret dX8_route_44 rfl ?_
      have e : a_route S d x y v = (-1) := by
        simp only [a_route, isP, isD, isT]
        first | (rw [if_pos (by omega)]; done) | (rw [if_neg (by omega)]; done) | (rw [if_pos (by omega), if_pos (by omega)]; done) | (rw [if_pos (by omega), if_neg (by omega)]; done) | (rw [if_neg (by omega), if_pos (by omega)]; done) | (rw [if_neg (by omega), if_neg (by omega)]; done)
      rw [e]
      exact out_q hC hS hI frq_rf
    · have h19 := ite01 c19
      refine mRun.go (q_aload_n dX8_route_22 rfl rfl) ?_
      refine mRun.go (q_getR dX8_route_23 fo_X8_26 hD.1 rfl) ?_
      refine mRun.go (q_iload_n dX8_route_26 rfl rfl) ?_
      have hh27 := @k_hasPlace σ I 21 y (dm_l hD) hI hy
      rw [hLR.1] at hh27
      refine mRun.go (q_callVi (r := 21) [mi y] [] dX8_route_27 co_X8_116 ⟨Nat.le_of_ble_eq_true rfl, Nat.le_of_ble_eq_true rfl⟩ gw_335 gw_336 rfl (dm_l hD).1 rfl rfl rfl (Nat.le_of_ble_eq_true rfl) hh27) ?_
      refine r_if_eq (tgt := 43) dX8_route_30 (by decide) (by split <;> omega) (fun c30 => ?_) (fun c30 => ?_)
      · have h30 := ite00 c30
        refine mRun.go (q_iconst dX8_route_43) ?_
        refine r_iret dX8_route_44 rfl ?_
        have e : a_route S d x y v = (-1) := by
          simp only [a_route, isP, isD, isT]
          first | (rw [if_pos (by omega)]; done) | (rw [if_neg (by omega)]; done) | (rw [if_pos (by omega), if_pos (by omega)]; done) | (rw [if_pos (by omega), if_neg (by omega)]; done) | (rw [if_neg (by omega), if_pos (by omega)]; done) | (rw [if_neg (by omega), if_neg (by omega)]; done)
        rw [e]
        exact out_q hC hS hI frq_rf
      · have h30 := ite01 c30
        refine mRun.go (q_iload dX8_route_33 rfl) ?_
        refine mRun.go (q_iconst dX8_route_35) ?_
        refine mRun.go (q_iconst dX8_route_36) ?_
        refine mRun.go (q_callSi [mi v, mi 0, mi 1] [] dX8_route_37 co_X8_105 ⟨Nat.le_of_ble_eq_true rfl, Nat.le_of_ble_eq_true rfl⟩ gw_308 rfl rfl (Nat.le_of_ble_eq_true rfl) (k_within hv (by omega) (by omega))) ?_
        refine r_if_ne (tgt := 45) dX8_route_40 (by decide) (by split <;> omega) (fun c40 => ?_) (fun c40 => ?_)
        · have h40 := ite01 c40
          refine mRun.go (q_aload_n dX8_route_45 rfl rfl) ?_
          refine mRun.go (q_getR dX8_route_46 fo_X8_75 hD.1 rfl) ?_
          refine mRun.go (q_aload_n dX8_route_49 rfl rfl) ?_
          refine mRun.go (q_getR dX8_route_50 fo_X8_26 hD.1 rfl) ?_
          refine mRun.go (q_aload_n dX8_route_53 rfl rfl) ?_
          refine mRun.go (q_getR dX8_route_54 fo_X8_33 hD.1 rfl) ?_
          refine mRun.go (q_iload_n dX8_route_57 rfl rfl) ?_
          refine mRun.go (q_iload_n dX8_route_58 rfl rfl) ?_
          obtain ⟨v0, h0, hc0, rfl, K, rfl, hK, hfK, hkn⟩ := k_lrn (w := 134) (d := d) (g := y) hI (dm_y hD) (dm_l hD) (dm_n hD) hL hLR hF (by omega) (by omega) (by decide) (by omega)
          have hfQ : FrQ I K := fun r a => hfK r (by omega) (by omega)
          have hLRK := hLR.fr (fun r a b => hfQ r (by omega))
          refine mRun.go (q_callVv (r := 134) [mr 21, mr 28, mi d, mi y] [] dX8_route_59 co_X8_174 ⟨Nat.le_of_ble_eq_true rfl, Nat.le_of_ble_eq_true rfl⟩ gw_502 gw_503 rfl (dm_y hD).1 rfl rfl rfl (Nat.le_of_ble_eq_true rfl) hc0) ?_
          refine mRun.go (q_iload dX8_route_62 rfl) ?_
          refine r_if_ne (tgt := 78) dX8_route_64 (by decide) hv (fun c64 => ?_) (fun c64 => ?_)
          · refine mRun.go (q_aload_n dX8_route_78 rfl rfl) ?_
            refine mRun.go (q_getR dX8_route_79 fo_X8_75 hD.1 rfl) ?_
            refine mRun.go (q_aload_n dX8_route_82 rfl rfl) ?_
            refine mRun.go (q_getR dX8_route_83 fo_X8_26 hD.1 rfl) ?_
            refine mRun.go (q_iload_n dX8_route_86 rfl rfl) ?_
            refine mRun.go (q_callVi (r := 134) [mr 21, mi x] [] dX8_route_87 co_X8_181 ⟨Nat.le_of_ble_eq_true rfl, Nat.le_of_ble_eq_true rfl⟩ gw_531 gw_532 rfl (dm_y hD).1 rfl rfl rfl (Nat.le_of_ble_eq_true rfl) (k_fsF (dm_y hD) (dm_l hD) hK hL hLRK hkn (wfg_e hL) (by omega))) ?_
            refine r_iret dX8_route_90 rfl ?_
            have e : a_route S d x y v = hpS (sL S) (fT (sF S)) (fW (sF S)) d y x := by
              simp only [a_route, isP, isD, isT]
              first | (rw [if_pos (by omega)]; done) | (rw [if_neg (by omega)]; done) | (rw [if_pos (by omega), if_pos (by omega)]; done) | (rw [if_pos (by omega), if_neg (by omega)]; done) | (rw [if_neg (by omega), if_pos (by omega)]; done) | (rw [if_neg (by omega), if_neg (by omega)]; done)
            rw [e]
            exact out_q hC hS hK hfQ
          · refine mRun.go (q_aload_n dX8_route_67 rfl rfl) ?_
            refine mRun.go (q_getR dX8_route_68 fo_X8_75 hD.1 rfl) ?_
            refine mRun.go (q_iload_n dX8_route_71 rfl rfl) ?_
            refine mRun.go (q_callVi (r := 134) [mi x] [] dX8_route_72 co_X8_178 ⟨Nat.le_of_ble_eq_true rfl, Nat.le_of_ble_eq_true rfl⟩ gw_527 gw_528 rfl (dm_y hD).1 rfl rfl rfl (Nat.le_of_ble_eq_true rfl) (k_hrF (dm_y hD) hK hkn (lq_rng hL).2 (by omega))) ?_
            refine mRun.go (q_goto (tgt := 90) dX8_route_75 (by decide)) ?_
            refine r_iret dX8_route_90 rfl ?_
            have e : a_route S d x y v = fin (awD (sL S) (fT (sF S)) (fW (sF S)) d y x.toNat) := by
              simp only [a_route, isP, isD, isT]
              first | (rw [if_pos (by omega)]; done) | (rw [if_neg (by omega)]; done) | (rw [if_pos (by omega), if_pos (by omega)]; done) | (rw [if_pos (by omega), if_neg (by omega)]; done) | (rw [if_neg (by omega), if_pos (by omega)]; done) | (rw [if_neg (by omega), if_neg (by omega)]; done)
            rw [e]
            exact out_q hC hS hK hfQ
        · have h40 := ite00 (Classical.not_not.mp c40)
          refine mRun.go (q_iconst dX8_route_43) ?_
          refine r_iret dX8_route_44 rfl ?_
          have e : a_route S d x y v = (-1) := by
            simp only [a_route, isP, isD, isT]
            first | (rw [if_pos (by omega)]; done) | (rw [if_neg (by omega)]; done) | (rw [if_pos (by omega), if_pos (by omega)]; done) | (rw [if_pos (by omega), if_neg (by omega)]; done) | (rw [if_neg (by omega), if_pos (by omega)]; done) | (rw [if_neg (by omega), if_neg (by omega)]; done)
          rw [e]
          exact out_q hC hS hI frq_rf

set_option maxRecDepth 100000 in
theorem f_truth {σ : List mC} {I : mI} {S : Sx} {B : Int} {x y : Int} (hC : CS σ I S) (hS : SxOk B S) (hx : -2147483648 ≤ x ∧ x < 2147483648) (hy : -2147483648 ≤ y ∧ y < 2147483648) : mMt mX8_truth [mr 0, mi x, mi y] (σ, I) (Out σ I S (a_truth S x y)) := by
  refine mMt.of pl_8 (Nat.le_of_ble_eq_true rfl) ?_
  show mRun mZt mX8_truth 0 [some (mr 0), some (mi x), some (mi y)] [] (σ, I) _
  obtain ⟨q, hq1, hq2, hU, hq4⟩ := hC.2.2.1
  have hI := hC.1
  have hD := hC.2.1
  have hL := hS.1
  have hT := hC.2.2.2.1
  have hLR := hC.2.2.2.2.1
  have hF := hC.2.2.2.2.2.1
  have hpr := lp_rng hL
  have hqe := lq_eq hL
  have hwr := hL.2.1
  have hdr := hL.2.2.1
  have hnt := hL.2.2.2.1
  have hwF := hS.2.1.1
  have hhF := hS.2.1.2.1
  have hH8 := hS.2.2.2.2.2.2.1
  have hU8 := hS.2.2.1
  have hK2 := hS.2.2.2.2.1
  have hLn := hS.2.2.2.2.2.2.2.2
  refine mRun.go (q_aload_n dX8_truth_0 rfl rfl) ?_
  refine mRun.go (q_getR dX8_truth_1 fo_X8_26 hD.1 rfl) ?_
  refine mRun.go (q_iload_n dX8_truth_4 rfl rfl) ?_
  have hh5 := @k_hasPlace σ I 21 x (dm_l hD) hI hx
  rw [hLR.1] at hh5
  refine mRun.go (q_callVi (r := 21) [mi x] [] dX8_truth_5 co_X8_116 ⟨Nat.le_of_ble_eq_true rfl, Nat.le_of_ble_eq_true rfl⟩ gw_335 gw_336 rfl (dm_l hD).1 rfl rfl rfl (Nat.le_of_ble_eq_true rfl) hh5) ?_
  refine r_if_eq (tgt := 22) dX8_truth_8 (by decide) (by split <;> omega) (fun c8 => ?_) (fun c8 => ?_)
  · have h8 := ite00 c8
    refine mRun.go (q_iconst dX8_truth_22) ?_
    refine r_iret dX8_truth_23 rfl ?_
    have e : a_truth S x y = (-1) := by
      simp only [a_truth, isP, isD, isT]
      first | (rw [if_pos (by omega)]; done) | (rw [if_neg (by omega)]; done)
    rw [e]
    exact out_q hC hS hI frq_rf
  · have h8 := ite01 c8
    refine mRun.go (q_aload_n dX8_truth_11 rfl rfl) ?_
    refine mRun.go (q_getR dX8_truth_12 fo_X8_26 hD.1 rfl) ?_
    refine mRun.go (q_iload_n dX8_truth_15 rfl rfl) ?_
    have hh16 := @k_hasPlace σ I 21 y (dm_l hD) hI hy
    rw [hLR.1] at hh16
    refine mRun.go (q_callVi (r := 21) [mi y] [] dX8_truth_16 co_X8_116 ⟨Nat.le_of_ble_eq_true rfl, Nat.le_of_ble_eq_true rfl⟩ gw_335 gw_336 rfl (dm_l hD).1 rfl rfl rfl (Nat.le_of_ble_eq_true rfl) hh16) ?_
    refine r_if_ne (tgt := 24) dX8_truth_19 (by decide) (by split <;> omega) (fun c19 => ?_) (fun c19 => ?_)
    · have h19 := ite01 c19
      refine mRun.go (q_aload_n dX8_truth_24 rfl rfl) ?_
      refine mRun.go (q_getR dX8_truth_25 fo_X8_75 hD.1 rfl) ?_
      refine mRun.go (q_aload_n dX8_truth_28 rfl rfl) ?_
      refine mRun.go (q_getR dX8_truth_29 fo_X8_26 hD.1 rfl) ?_
      refine mRun.go (q_aload_n dX8_truth_32 rfl rfl) ?_
      refine mRun.go (q_getR dX8_truth_33 fo_X8_33 hD.1 rfl) ?_
      refine mRun.go (q_getE (x := fW (sF S)) dX8_truth_36 fo_X8_136 (dm_n hD).1 rfl hF.1) ?_
      refine mRun.go (q_iload_n dX8_truth_39 rfl rfl) ?_
      obtain ⟨v0, h0, hc0, rfl, K, rfl, hK, hfK, hkn⟩ := k_lrnT (w := 134) (wet := fW (sF S)) (g := y) hI (dm_y hD) (dm_l hD) hL hLR (by omega) (by omega) (by decide)
      have hfQ : FrQ I K := fun r a => hfK r (by omega) (by omega)
      refine mRun.go (q_callVv (r := 134) [mr 21, mi (fW (sF S)), mi y] [] dX8_truth_40 co_X8_185 ⟨Nat.le_of_ble_eq_true rfl, Nat.le_of_ble_eq_true rfl⟩ gw_539 gw_540 rfl (dm_y hD).1 rfl rfl rfl (Nat.le_of_ble_eq_true rfl) hc0) ?_
      refine mRun.go (q_aload_n dX8_truth_43 rfl rfl) ?_
      refine mRun.go (q_getR dX8_truth_44 fo_X8_75 hD.1 rfl) ?_
      refine mRun.go (q_iload_n dX8_truth_47 rfl rfl) ?_
      refine mRun.go (q_callVi (r := 134) [mi x] [] dX8_truth_48 co_X8_178 ⟨Nat.le_of_ble_eq_true rfl, Nat.le_of_ble_eq_true rfl⟩ gw_527 gw_528 rfl (dm_y hD).1 rfl rfl rfl (Nat.le_of_ble_eq_true rfl) (k_hrF (dm_y hD) hK hkn (lq_rng hL).2 (by omega))) ?_
      refine r_iret dX8_truth_51 rfl ?_
      have e : a_truth S x y = fin (awT (sL S) (fW (sF S)) y x.toNat) := by
        simp only [a_truth, isP, isD, isT]
        first | (rw [if_pos (by omega)]; done) | (rw [if_neg (by omega)]; done)
      rw [e]
      exact out_q hC hS hK hfQ
    · have h19 := ite00 (Classical.not_not.mp c19)
      refine mRun.go (q_iconst dX8_truth_22) ?_
      refine r_iret dX8_truth_23 rfl ?_
      have e : a_truth S x y = (-1) := by
        simp only [a_truth, isP, isD, isT]
        first | (rw [if_pos (by omega)]; done) | (rw [if_neg (by omega)]; done)
      rw [e]
      exact out_q hC hS hI frq_rf

set_option maxRecDepth 100000 in
theorem f_arrives {σ : List mC} {I : mI} {S : Sx} {B : Int} {t : Int} (hC : CS σ I S) (hS : SxOk B S) (ht : -2147483648 ≤ t ∧ t < 2147483648) : mMt mX8_arrives [mr 0, mi t] (σ, I) (Out σ I S (a_when S 1 t)) := by
  refine mMt.of pl_8 (Nat.le_of_ble_eq_true rfl) ?_
  show mRun mZt mX8_arrives 0 [some (mr 0), some (mi t)] [] (σ, I) _
  obtain ⟨q, hq1, hq2, hU, hq4⟩ := hC.2.2.1
  have hI := hC.1
  have hD := hC.2.1
  have hL := hS.1
  have hT := hC.2.2.2.1
  have hLR := hC.2.2.2.2.1
  have hF := hC.2.2.2.2.2.1
  have hpr := lp_rng hL
  have hqe := lq_eq hL
  have hwr := hL.2.1
  have hdr := hL.2.2.1
  have hnt := hL.2.2.2.1
  have hwF := hS.2.1.1
  have hhF := hS.2.1.2.1
  have hH8 := hS.2.2.2.2.2.2.1
  have hU8 := hS.2.2.1
  have hK2 := hS.2.2.2.2.1
  have hLn := hS.2.2.2.2.2.2.2.2
  refine mRun.go (q_aload_n dX8_arrives_0 rfl rfl) ?_
  refine mRun.go (q_getR dX8_arrives_1 fo_X8_26 hD.1 rfl) ?_
  refine mRun.go (q_iload_n dX8_arrives_4 rfl rfl) ?_
  have hh5 := @k_hasTrv σ I 21 t (dm_l hD) hI ht
  rw [hLR.2.2.2.1] at hh5
  refine mRun.go (q_callVi (r := 21) [mi t] [] dX8_arrives_5 co_X8_146 ⟨Nat.le_of_ble_eq_true rfl, Nat.le_of_ble_eq_true rfl⟩ gw_489 gw_490 rfl (dm_l hD).1 rfl rfl rfl (Nat.le_of_ble_eq_true rfl) hh5) ?_
  refine r_if_ne (tgt := 13) dX8_arrives_8 (by decide) (by split <;> omega) (fun c8 => ?_) (fun c8 => ?_)
  · have h8 := ite01 c8
    refine mRun.go (q_aload_n dX8_arrives_13 rfl rfl) ?_
    refine mRun.go (q_getR dX8_arrives_14 fo_X8_65 hD.1 rfl) ?_
    refine mRun.go (q_aload_n dX8_arrives_17 rfl rfl) ?_
    refine mRun.go (q_getR dX8_arrives_18 fo_X8_33 hD.1 rfl) ?_
    refine mRun.go (q_iload_n dX8_arrives_21 rfl rfl) ?_
    refine mRun.go (q_callVi (r := 28) [mi t] [mr 132] dX8_arrives_22 co_X8_149 ⟨Nat.le_of_ble_eq_true rfl, Nat.le_of_ble_eq_true rfl⟩ gw_348 gw_349 rfl (dm_n hD).1 rfl rfl rfl (Nat.le_of_ble_eq_true rfl) (k_who (dm_n hD) (by omega))) ?_
    have hto := hF.2.2.2 t.toNat (by omega)
    have hN1 := nrm_trv (r := 132) hI (by omega) (by omega) hto.2
    refine mRun.go (q_callVv (r := 132) [mr (28 + 4 + t.toNat)] [] dX8_arrives_25 co_X8_212 ⟨Nat.le_of_ble_eq_true rfl, Nat.le_of_ble_eq_true rfl⟩ gw_392 gw_393 rfl (dm_w hD) rfl rfl rfl (Nat.le_of_ble_eq_true rfl) (k_tcopy (dm_w hD) ((dm_n hD).2.2.2 t.toNat (by omega)) (by omega) hI)) ?_
    refine mRun.go (q_aload_n dX8_arrives_28 rfl rfl) ?_
    refine mRun.go (q_aload_n dX8_arrives_29 rfl rfl) ?_
    refine mRun.go (q_getR dX8_arrives_30 fo_X8_33 hD.1 rfl) ?_
    refine mRun.go (q_iconst dX8_arrives_33) ?_
    obtain ⟨v0, h0, hc0, rfl, K, rfl, hK, hfK⟩ := k_hoursUntil (s := 1) hN1 hD hL (lrc_tset hLR (by omega)) (dm_n hD) (hF.fr hL (fun r a b => by funext k; exact tset_ne (by omega)) (by funext k; exact tset_ne (by decide))) (Or.inl rfl) hwF (by omega) (by rw [tget_tset]; exact hto.2)
    rw [tget_tset, hto.1] at hc0
    have hfQ : FrQ I K := fun r a => (hfK r (by omega) (by omega)).trans (by funext k; exact tset_ne (by omega))
    refine mRun.go (q_callVi (r := 0) [mr 28, mi 1] [] dX8_arrives_34 co_X8_216 ⟨Nat.le_of_ble_eq_true rfl, Nat.le_of_ble_eq_true rfl⟩ gw_613 gs_15 rfl hD.1 rfl rfl rfl (Nat.le_of_ble_eq_true rfl) hc0) ?_
    refine r_iret dX8_arrives_37 rfl ?_
    have e : a_when S 1 t = ansU (sL S) (fT (sF S)) (fW (sF S)) 1 (fV (sF S) t.toNat) := by
      simp only [a_when, isP, isD, isT, anS, tvS]
      first | (rw [if_pos (by omega)]; done) | (rw [if_neg (by omega)]; done)
    rw [e]
    exact out_q hC hS hK hfQ
  · have h8 := ite00 (Classical.not_not.mp c8)
    refine mRun.go (q_iconst dX8_arrives_11) ?_
    refine r_iret dX8_arrives_12 rfl ?_
    have e : a_when S 1 t = (-1) := by
      simp only [a_when, isP, isD, isT, anS, tvS]
      first | (rw [if_pos (by omega)]; done) | (rw [if_neg (by omega)]; done)
    rw [e]
    exact out_q hC hS hI frq_rf

set_option maxRecDepth 100000 in
theorem f_loses {σ : List mC} {I : mI} {S : Sx} {B : Int} {t : Int} (hC : CS σ I S) (hS : SxOk B S) (ht : -2147483648 ≤ t ∧ t < 2147483648) : mMt mX8_loses [mr 0, mi t] (σ, I) (Out σ I S (a_when S 2 t)) := by
  refine mMt.of pl_8 (Nat.le_of_ble_eq_true rfl) ?_
  show mRun mZt mX8_loses 0 [some (mr 0), some (mi t)] [] (σ, I) _
  obtain ⟨q, hq1, hq2, hU, hq4⟩ := hC.2.2.1
  have hI := hC.1
  have hD := hC.2.1
  have hL := hS.1
  have hT := hC.2.2.2.1
  have hLR := hC.2.2.2.2.1
  have hF := hC.2.2.2.2.2.1
  have hpr := lp_rng hL
  have hqe := lq_eq hL
  have hwr := hL.2.1
  have hdr := hL.2.2.1
  have hnt := hL.2.2.2.1
  have hwF := hS.2.1.1
  have hhF := hS.2.1.2.1
  have hH8 := hS.2.2.2.2.2.2.1
  have hU8 := hS.2.2.1
  have hK2 := hS.2.2.2.2.1
  have hLn := hS.2.2.2.2.2.2.2.2
  refine mRun.go (q_aload_n dX8_loses_0 rfl rfl) ?_
  refine mRun.go (q_getR dX8_loses_1 fo_X8_26 hD.1 rfl) ?_
  refine mRun.go (q_iload_n dX8_loses_4 rfl rfl) ?_
  have hh5 := @k_hasTrv σ I 21 t (dm_l hD) hI ht
  rw [hLR.2.2.2.1] at hh5
  refine mRun.go (q_callVi (r := 21) [mi t] [] dX8_loses_5 co_X8_146 ⟨Nat.le_of_ble_eq_true rfl, Nat.le_of_ble_eq_true rfl⟩ gw_489 gw_490 rfl (dm_l hD).1 rfl rfl rfl (Nat.le_of_ble_eq_true rfl) hh5) ?_
  refine r_if_ne (tgt := 13) dX8_loses_8 (by decide) (by split <;> omega) (fun c8 => ?_) (fun c8 => ?_)
  · have h8 := ite01 c8
    refine mRun.go (q_aload_n dX8_loses_13 rfl rfl) ?_
    refine mRun.go (q_getR dX8_loses_14 fo_X8_65 hD.1 rfl) ?_
    refine mRun.go (q_aload_n dX8_loses_17 rfl rfl) ?_
    refine mRun.go (q_getR dX8_loses_18 fo_X8_33 hD.1 rfl) ?_
    refine mRun.go (q_iload_n dX8_loses_21 rfl rfl) ?_
    refine mRun.go (q_callVi (r := 28) [mi t] [mr 132] dX8_loses_22 co_X8_149 ⟨Nat.le_of_ble_eq_true rfl, Nat.le_of_ble_eq_true rfl⟩ gw_348 gw_349 rfl (dm_n hD).1 rfl rfl rfl (Nat.le_of_ble_eq_true rfl) (k_who (dm_n hD) (by omega))) ?_
    have hto := hF.2.2.2 t.toNat (by omega)
    have hN1 := nrm_trv (r := 132) hI (by omega) (by omega) hto.2
    refine mRun.go (q_callVv (r := 132) [mr (28 + 4 + t.toNat)] [] dX8_loses_25 co_X8_212 ⟨Nat.le_of_ble_eq_true rfl, Nat.le_of_ble_eq_true rfl⟩ gw_392 gw_393 rfl (dm_w hD) rfl rfl rfl (Nat.le_of_ble_eq_true rfl) (k_tcopy (dm_w hD) ((dm_n hD).2.2.2 t.toNat (by omega)) (by omega) hI)) ?_
    refine mRun.go (q_aload_n dX8_loses_28 rfl rfl) ?_
    refine mRun.go (q_aload_n dX8_loses_29 rfl rfl) ?_
    refine mRun.go (q_getR dX8_loses_30 fo_X8_33 hD.1 rfl) ?_
    refine mRun.go (q_iconst dX8_loses_33) ?_
    obtain ⟨v0, h0, hc0, rfl, K, rfl, hK, hfK⟩ := k_hoursUntil (s := 2) hN1 hD hL (lrc_tset hLR (by omega)) (dm_n hD) (hF.fr hL (fun r a b => by funext k; exact tset_ne (by omega)) (by funext k; exact tset_ne (by decide))) (Or.inl rfl) hwF (by omega) (by rw [tget_tset]; exact hto.2)
    rw [tget_tset, hto.1] at hc0
    have hfQ : FrQ I K := fun r a => (hfK r (by omega) (by omega)).trans (by funext k; exact tset_ne (by omega))
    refine mRun.go (q_callVi (r := 0) [mr 28, mi 2] [] dX8_loses_34 co_X8_216 ⟨Nat.le_of_ble_eq_true rfl, Nat.le_of_ble_eq_true rfl⟩ gw_613 gs_15 rfl hD.1 rfl rfl rfl (Nat.le_of_ble_eq_true rfl) hc0) ?_
    refine r_iret dX8_loses_37 rfl ?_
    have e : a_when S 2 t = ansU (sL S) (fT (sF S)) (fW (sF S)) 2 (fV (sF S) t.toNat) := by
      simp only [a_when, isP, isD, isT, anS, tvS]
      first | (rw [if_pos (by omega)]; done) | (rw [if_neg (by omega)]; done)
    rw [e]
    exact out_q hC hS hK hfQ
  · have h8 := ite00 (Classical.not_not.mp c8)
    refine mRun.go (q_iconst dX8_loses_11) ?_
    refine r_iret dX8_loses_12 rfl ?_
    have e : a_when S 2 t = (-1) := by
      simp only [a_when, isP, isD, isT, anS, tvS]
      first | (rw [if_pos (by omega)]; done) | (rw [if_neg (by omega)]; done)
    rw [e]
    exact out_q hC hS hI frq_rf

set_option maxRecDepth 100000 in
theorem f_led {σ : List mC} {I : mI} {S : Sx} {B : Int} {d x y : Int} (hC : CS σ I S) (hS : SxOk B S) (hd : -2147483648 ≤ d ∧ d < 2147483648) (hx : -2147483648 ≤ x ∧ x < 2147483648) (hy : -2147483648 ≤ y ∧ y < 2147483648) : mMt mX8_led [mr 0, mi d, mi x, mi y] (σ, I) (Out σ I S (a_led S d x y)) := by
  refine mMt.of pl_8 (Nat.le_of_ble_eq_true rfl) ?_
  show mRun mZt mX8_led 0 [some (mr 0), some (mi d), some (mi x), some (mi y)] [] (σ, I) _
  obtain ⟨q, hq1, hq2, hU, hq4⟩ := hC.2.2.1
  have hI := hC.1
  have hD := hC.2.1
  have hL := hS.1
  have hT := hC.2.2.2.1
  have hLR := hC.2.2.2.2.1
  have hF := hC.2.2.2.2.2.1
  have hpr := lp_rng hL
  have hqe := lq_eq hL
  have hwr := hL.2.1
  have hdr := hL.2.2.1
  have hnt := hL.2.2.2.1
  have hwF := hS.2.1.1
  have hhF := hS.2.1.2.1
  have hH8 := hS.2.2.2.2.2.2.1
  have hU8 := hS.2.2.1
  have hK2 := hS.2.2.2.2.1
  have hLn := hS.2.2.2.2.2.2.2.2
  refine mRun.go (q_aload_n dX8_led_0 rfl rfl) ?_
  refine mRun.go (q_getR dX8_led_1 fo_X8_26 hD.1 rfl) ?_
  refine mRun.go (q_iload_n dX8_led_4 rfl rfl) ?_
  have hh5 := @k_hasDrum σ I 21 d (dm_l hD) hI hd
  rw [hLR.2.2.1] at hh5
  refine mRun.go (q_callVi (r := 21) [mi d] [] dX8_led_5 co_X8_126 ⟨Nat.le_of_ble_eq_true rfl, Nat.le_of_ble_eq_true rfl⟩ gw_331 gw_332 rfl (dm_l hD).1 rfl rfl rfl (Nat.le_of_ble_eq_true rfl) hh5) ?_
  refine r_if_eq (tgt := 33) dX8_led_8 (by decide) (by split <;> omega) (fun c8 => ?_) (fun c8 => ?_)
  · have h8 := ite00 c8
    refine mRun.go (q_iconst dX8_led_33) ?_
    refine r_iret dX8_led_34 rfl ?_
    have e : a_led S d x y = (-1) := by
      simp only [a_led, isP, isD, isT, anS]
      first | (rw [if_pos (by omega)]; done) | (rw [if_neg (by omega)]; done)
    rw [e]
    exact out_q hC hS hI frq_rf
  · have h8 := ite01 c8
    refine mRun.go (q_aload_n dX8_led_11 rfl rfl) ?_
    refine mRun.go (q_getR dX8_led_12 fo_X8_26 hD.1 rfl) ?_
    refine mRun.go (q_iload_n dX8_led_15 rfl rfl) ?_
    have hh16 := @k_hasPlace σ I 21 x (dm_l hD) hI hx
    rw [hLR.1] at hh16
    refine mRun.go (q_callVi (r := 21) [mi x] [] dX8_led_16 co_X8_116 ⟨Nat.le_of_ble_eq_true rfl, Nat.le_of_ble_eq_true rfl⟩ gw_335 gw_336 rfl (dm_l hD).1 rfl rfl rfl (Nat.le_of_ble_eq_true rfl) hh16) ?_
    refine r_if_eq (tgt := 33) dX8_led_19 (by decide) (by split <;> omega) (fun c19 => ?_) (fun c19 => ?_)
    · have h19 := ite00 c19
      refine mRun.go (q_iconst dX8_led_33) ?_
      refine r_iret dX8_led_34 rfl ?_
      have e : a_led S d x y = (-1) := by
        simp only [a_led, isP, isD, isT, anS]
        first | (rw [if_pos (by omega)]; done) | (rw [if_neg (by omega)]; done)
      rw [e]
      exact out_q hC hS hI frq_rf
    · have h19 := ite01 c19
      refine mRun.go (q_aload_n dX8_led_22 rfl rfl) ?_
      refine mRun.go (q_getR dX8_led_23 fo_X8_26 hD.1 rfl) ?_
      refine mRun.go (q_iload_n dX8_led_26 rfl rfl) ?_
      have hh27 := @k_hasPlace σ I 21 y (dm_l hD) hI hy
      rw [hLR.1] at hh27
      refine mRun.go (q_callVi (r := 21) [mi y] [] dX8_led_27 co_X8_116 ⟨Nat.le_of_ble_eq_true rfl, Nat.le_of_ble_eq_true rfl⟩ gw_335 gw_336 rfl (dm_l hD).1 rfl rfl rfl (Nat.le_of_ble_eq_true rfl) hh27) ?_
      refine r_if_ne (tgt := 35) dX8_led_30 (by decide) (by split <;> omega) (fun c30 => ?_) (fun c30 => ?_)
      · have h30 := ite01 c30
        refine mRun.go (q_aload_n dX8_led_35 rfl rfl) ?_
        refine mRun.go (q_iload_n dX8_led_36 rfl rfl) ?_
        refine mRun.go (q_iload_n dX8_led_37 rfl rfl) ?_
        refine mRun.go (q_iload_n dX8_led_38 rfl rfl) ?_
        obtain ⟨v0, h0, hc0, rfl, K, rfl, hK, hfK⟩ := k_hoursLed (x := x) (y := y) (d := d) hI hD hL hLR hF hwF (by omega) (by omega) (by omega)
        have hfQ : FrQ I K := fun r a => hfK r (by omega) (by omega)
        refine mRun.go (q_callVi (r := 0) [mi d, mi x, mi y] [] dX8_led_39 co_X8_220 ⟨Nat.le_of_ble_eq_true rfl, Nat.le_of_ble_eq_true rfl⟩ gw_625 gs_16 rfl hD.1 rfl rfl rfl (Nat.le_of_ble_eq_true rfl) hc0) ?_
        refine r_iret dX8_led_42 rfl ?_
        have e : a_led S d x y = ansU (sL S) (fT (sF S)) (fW (sF S)) 1 (ledT x y d) := by
          simp only [a_led, isP, isD, isT, anS]
          first | (rw [if_pos (by omega)]; done) | (rw [if_neg (by omega)]; done)
        rw [e]
        exact out_q hC hS hK hfQ
      · have h30 := ite00 (Classical.not_not.mp c30)
        refine mRun.go (q_iconst dX8_led_33) ?_
        refine r_iret dX8_led_34 rfl ?_
        have e : a_led S d x y = (-1) := by
          simp only [a_led, isP, isD, isT, anS]
          first | (rw [if_pos (by omega)]; done) | (rw [if_neg (by omega)]; done)
        rw [e]
        exact out_q hC hS hI frq_rf

theorem fcnt_many {I : mI} {f : Nat} {L : Ld} {F : Fs} {s : Int} (hF : FRC I f L F) : ∀ n : Nat, (n : Int) ≤ lTv L → fcnt I f s n = cntB (fun t => decide ((fV F t).2.2.2.1 = s)) n := by
  intro n
  induction n with
  | zero => intro _; rfl
  | succ n ih =>
    intro hn
    simp only [fcnt, cntB]
    rw [ih (by omega)]
    have e3 : (fV F n).2.2.2.1 = I (f + 4 + n) 3 := by rw [← (hF.2.2.2 n (by omega)).1]; rfl
    by_cases q : I (f + 4 + n) 3 = s
    · rw [if_pos q, if_pos (decide_eq_true (e3.trans q))]
    · rw [if_neg q, if_neg (fun z => q (e3.symm.trans (of_decide_eq_true z)))]
theorem k_many {σ : List mC} {I : mI} {f : Nat} {L : Ld} {F : Fs} {s : Int} (hI : Nrm I) (hD : IsDM σ) (hL : LdOk L) (hLR : LRC I L) (hf : IsForest σ f) (hF : FRC I f L F) (hs : -2147483648 ≤ s ∧ s < 2147483648) : mCt mX0_howMany [mr f, mr 21, mi s] (σ, I) (some (mi (manyS L F s))) (σ, I) := by
  have hnt := hL.2.2.2.1
  have h := @k_howMany σ I f 21 s hf (dm_l hD) hI hs (by rw [hLR.2.2.2.1]; exact hnt)
  rw [hLR.2.2.2.1, fcnt_many hF _ (by omega)] at h
  exact h

set_option maxRecDepth 100000 in
theorem f_count {σ : List mC} {I : mI} {S : Sx} {B : Int} {v : Int} (hC : CS σ I S) (hS : SxOk B S) (hv : -2147483648 ≤ v ∧ v < 2147483648) : mMt mX8_count [mr 0, mi v] (σ, I) (Out σ I S (a_count S v)) := by
  refine mMt.of pl_8 (Nat.le_of_ble_eq_true rfl) ?_
  show mRun mZt mX8_count 0 [some (mr 0), some (mi v)] [] (σ, I) _
  obtain ⟨q, hq1, hq2, hU, hq4⟩ := hC.2.2.1
  have hI := hC.1
  have hD := hC.2.1
  have hL := hS.1
  have hT := hC.2.2.2.1
  have hLR := hC.2.2.2.2.1
  have hF := hC.2.2.2.2.2.1
  have hpr := lp_rng hL
  have hqe := lq_eq hL
  have hwr := hL.2.1
  have hdr := hL.2.2.1
  have hnt := hL.2.2.2.1
  have hwF := hS.2.1.1
  have hhF := hS.2.1.2.1
  have hH8 := hS.2.2.2.2.2.2.1
  have hU8 := hS.2.2.1
  have hK2 := hS.2.2.2.2.1
  have hLn := hS.2.2.2.2.2.2.2.2
  refine mRun.go (q_iload_n dX8_count_0 rfl rfl) ?_
  rcases (show v = 0 ∨ v = 1 ∨ v = 2 ∨ v = 3 ∨ v = 4 ∨ v = 5 ∨ v = 6 ∨ v = 7 ∨ v = 8 ∨ v = 9 ∨ v = 10 ∨ v = 11 ∨ v = 12 ∨ (v < 0 ∨ 12 < v) by omega) with s1 | s1 | s1 | s1 | s1 | s1 | s1 | s1 | s1 | s1 | s1 | s1 | s1 | s1
  · refine mRun.go (q_tsw_in (off := 67) (tgt := 68) dX8_count_1 hv (by omega) (by rw [s1]; rfl) (by decide)) ?_
    refine mRun.go (q_aload_n dX8_count_68 rfl rfl) ?_
    refine mRun.go (q_getR dX8_count_69 fo_X8_26 hD.1 rfl) ?_
    refine mRun.go (q_getE (x := lP (sL S)) dX8_count_72 fo_X8_113 (dm_l hD).1 rfl hLR.1) ?_
    refine r_iret dX8_count_75 rfl ?_
    have e : a_count S v = lP (sL S) := by
      unfold a_count
      first | (rw [s1]; rfl) | (rw [if_neg (by omega), if_neg (by omega), if_neg (by omega), if_neg (by omega), if_neg (by omega), if_neg (by omega), if_neg (by omega), if_neg (by omega), if_neg (by omega), if_neg (by omega), if_neg (by omega), if_neg (by omega), if_neg (by omega)])
    rw [e]
    exact out_q hC hS hI frq_rf
  · refine mRun.go (q_tsw_in (off := 75) (tgt := 76) dX8_count_1 hv (by omega) (by rw [s1]; rfl) (by decide)) ?_
    refine mRun.go (q_aload_n dX8_count_76 rfl rfl) ?_
    refine mRun.go (q_getR dX8_count_77 fo_X8_26 hD.1 rfl) ?_
    refine mRun.go (q_getE (x := lW (sL S)) dX8_count_80 fo_X8_276 (dm_l hD).1 rfl hLR.2.1) ?_
    refine r_iret dX8_count_83 rfl ?_
    have e : a_count S v = lW (sL S) := by
      unfold a_count
      first | (rw [s1]; rfl) | (rw [if_neg (by omega), if_neg (by omega), if_neg (by omega), if_neg (by omega), if_neg (by omega), if_neg (by omega), if_neg (by omega), if_neg (by omega), if_neg (by omega), if_neg (by omega), if_neg (by omega), if_neg (by omega), if_neg (by omega)])
    rw [e]
    exact out_q hC hS hI frq_rf
  · refine mRun.go (q_tsw_in (off := 83) (tgt := 84) dX8_count_1 hv (by omega) (by rw [s1]; rfl) (by decide)) ?_
    refine mRun.go (q_aload_n dX8_count_84 rfl rfl) ?_
    refine mRun.go (q_getR dX8_count_85 fo_X8_26 hD.1 rfl) ?_
    refine mRun.go (q_getE (x := lD (sL S)) dX8_count_88 fo_X8_225 (dm_l hD).1 rfl hLR.2.2.1) ?_
    refine r_iret dX8_count_91 rfl ?_
    have e : a_count S v = lD (sL S) := by
      unfold a_count
      first | (rw [s1]; rfl) | (rw [if_neg (by omega), if_neg (by omega), if_neg (by omega), if_neg (by omega), if_neg (by omega), if_neg (by omega), if_neg (by omega), if_neg (by omega), if_neg (by omega), if_neg (by omega), if_neg (by omega), if_neg (by omega), if_neg (by omega)])
    rw [e]
    exact out_q hC hS hI frq_rf
  · refine mRun.go (q_tsw_in (off := 91) (tgt := 92) dX8_count_1 hv (by omega) (by rw [s1]; rfl) (by decide)) ?_
    refine mRun.go (q_aload_n dX8_count_92 rfl rfl) ?_
    refine mRun.go (q_getR dX8_count_93 fo_X8_26 hD.1 rfl) ?_
    refine mRun.go (q_getE (x := lTv (sL S)) dX8_count_96 fo_X8_279 (dm_l hD).1 rfl hLR.2.2.2.1) ?_
    refine r_iret dX8_count_99 rfl ?_
    have e : a_count S v = lTv (sL S) := by
      unfold a_count
      first | (rw [s1]; rfl) | (rw [if_neg (by omega), if_neg (by omega), if_neg (by omega), if_neg (by omega), if_neg (by omega), if_neg (by omega), if_neg (by omega), if_neg (by omega), if_neg (by omega), if_neg (by omega), if_neg (by omega), if_neg (by omega), if_neg (by omega)])
    rw [e]
    exact out_q hC hS hI frq_rf
  · refine mRun.go (q_tsw_in (off := 99) (tgt := 100) dX8_count_1 hv (by omega) (by rw [s1]; rfl) (by decide)) ?_
    refine mRun.go (q_aload_n dX8_count_100 rfl rfl) ?_
    refine mRun.go (q_getR dX8_count_101 fo_X8_33 hD.1 rfl) ?_
    refine mRun.go (q_getE (x := fW (sF S)) dX8_count_104 fo_X8_136 (dm_n hD).1 rfl hF.1) ?_
    refine r_iret dX8_count_107 rfl ?_
    have e : a_count S v = fW (sF S) := by
      unfold a_count
      first | (rw [s1]; rfl) | (rw [if_neg (by omega), if_neg (by omega), if_neg (by omega), if_neg (by omega), if_neg (by omega), if_neg (by omega), if_neg (by omega), if_neg (by omega), if_neg (by omega), if_neg (by omega), if_neg (by omega), if_neg (by omega), if_neg (by omega)])
    rw [e]
    exact out_q hC hS hI frq_rf
  · refine mRun.go (q_tsw_in (off := 107) (tgt := 108) dX8_count_1 hv (by omega) (by rw [s1]; rfl) (by decide)) ?_
    refine mRun.go (q_aload_n dX8_count_108 rfl rfl) ?_
    refine mRun.go (q_getR dX8_count_109 fo_X8_33 hD.1 rfl) ?_
    refine mRun.go (q_getE (x := fH (sF S)) dX8_count_112 fo_X8_195 (dm_n hD).1 rfl hF.2.1) ?_
    refine r_iret dX8_count_115 rfl ?_
    have e : a_count S v = fH (sF S) := by
      unfold a_count
      first | (rw [s1]; rfl) | (rw [if_neg (by omega), if_neg (by omega), if_neg (by omega), if_neg (by omega), if_neg (by omega), if_neg (by omega), if_neg (by omega), if_neg (by omega), if_neg (by omega), if_neg (by omega), if_neg (by omega), if_neg (by omega), if_neg (by omega)])
    rw [e]
    exact out_q hC hS hI frq_rf
  · refine mRun.go (q_tsw_in (off := 115) (tgt := 116) dX8_count_1 hv (by omega) (by rw [s1]; rfl) (by decide)) ?_
    refine mRun.go (q_aload_n dX8_count_116 rfl rfl) ?_
    refine mRun.go (q_getR dX8_count_117 fo_X8_33 hD.1 rfl) ?_
    refine mRun.go (q_aload_n dX8_count_120 rfl rfl) ?_
    refine mRun.go (q_getR dX8_count_121 fo_X8_26 hD.1 rfl) ?_
    refine mRun.go (q_iconst dX8_count_124) ?_
    refine mRun.go (q_callVi (r := 28) [mr 21, mi 1] [] dX8_count_125 co_X8_270 ⟨Nat.le_of_ble_eq_true rfl, Nat.le_of_ble_eq_true rfl⟩ gw_712 gw_713 rfl (dm_n hD).1 rfl rfl rfl (Nat.le_of_ble_eq_true rfl) (k_many (s := 1) hI hD hL hLR (dm_n hD) hF (by decide))) ?_
    refine r_iret dX8_count_128 rfl ?_
    have e : a_count S v = manyS (sL S) (sF S) 1 := by
      unfold a_count
      first | (rw [s1]; rfl) | (rw [if_neg (by omega), if_neg (by omega), if_neg (by omega), if_neg (by omega), if_neg (by omega), if_neg (by omega), if_neg (by omega), if_neg (by omega), if_neg (by omega), if_neg (by omega), if_neg (by omega), if_neg (by omega), if_neg (by omega)])
    rw [e]
    exact out_q hC hS hI frq_rf
  · refine mRun.go (q_tsw_in (off := 128) (tgt := 129) dX8_count_1 hv (by omega) (by rw [s1]; rfl) (by decide)) ?_
    refine mRun.go (q_aload_n dX8_count_129 rfl rfl) ?_
    refine mRun.go (q_getR dX8_count_130 fo_X8_33 hD.1 rfl) ?_
    refine mRun.go (q_aload_n dX8_count_133 rfl rfl) ?_
    refine mRun.go (q_getR dX8_count_134 fo_X8_26 hD.1 rfl) ?_
    refine mRun.go (q_iconst dX8_count_137) ?_
    refine mRun.go (q_callVi (r := 28) [mr 21, mi 2] [] dX8_count_138 co_X8_270 ⟨Nat.le_of_ble_eq_true rfl, Nat.le_of_ble_eq_true rfl⟩ gw_712 gw_713 rfl (dm_n hD).1 rfl rfl rfl (Nat.le_of_ble_eq_true rfl) (k_many (s := 2) hI hD hL hLR (dm_n hD) hF (by decide))) ?_
    refine r_iret dX8_count_141 rfl ?_
    have e : a_count S v = manyS (sL S) (sF S) 2 := by
      unfold a_count
      first | (rw [s1]; rfl) | (rw [if_neg (by omega), if_neg (by omega), if_neg (by omega), if_neg (by omega), if_neg (by omega), if_neg (by omega), if_neg (by omega), if_neg (by omega), if_neg (by omega), if_neg (by omega), if_neg (by omega), if_neg (by omega), if_neg (by omega)])
    rw [e]
    exact out_q hC hS hI frq_rf
  · refine mRun.go (q_tsw_in (off := 141) (tgt := 142) dX8_count_1 hv (by omega) (by rw [s1]; rfl) (by decide)) ?_
    refine mRun.go (q_aload_n dX8_count_142 rfl rfl) ?_
    refine mRun.go (q_callVi (r := 0) [] [] dX8_count_143 co_X8_282 ⟨Nat.le_of_ble_eq_true rfl, Nat.le_of_ble_eq_true rfl⟩ gw_730 gs_23 rfl hD.1 rfl rfl rfl (Nat.le_of_ble_eq_true rfl) (k_sure hI hD hL hLR hF hwF)) ?_
    refine r_iret dX8_count_146 rfl ?_
    have e : a_count S v = sureS (sL S) (sF S) := by
      unfold a_count
      first | (rw [s1]; rfl) | (rw [if_neg (by omega), if_neg (by omega), if_neg (by omega), if_neg (by omega), if_neg (by omega), if_neg (by omega), if_neg (by omega), if_neg (by omega), if_neg (by omega), if_neg (by omega), if_neg (by omega), if_neg (by omega), if_neg (by omega)])
    rw [e]
    exact out_q hC hS hI frq_rf
  · refine mRun.go (q_tsw_in (off := 146) (tgt := 147) dX8_count_1 hv (by omega) (by rw [s1]; rfl) (by decide)) ?_
    refine mRun.go (q_aload_n dX8_count_147 rfl rfl) ?_
    refine mRun.go (q_getE (x := ((sH S).1 : Int)) dX8_count_148 fo_X8_242 hD.1 rfl hC.2.2.2.2.2.2.2.2.1) ?_
    refine r_iret dX8_count_151 rfl ?_
    have e : a_count S v = ((sH S).1 : Int) := by
      unfold a_count
      first | (rw [s1]; rfl) | (rw [if_neg (by omega), if_neg (by omega), if_neg (by omega), if_neg (by omega), if_neg (by omega), if_neg (by omega), if_neg (by omega), if_neg (by omega), if_neg (by omega), if_neg (by omega), if_neg (by omega), if_neg (by omega), if_neg (by omega)])
    rw [e]
    exact out_q hC hS hI frq_rf
  · refine mRun.go (q_tsw_in (off := 151) (tgt := 152) dX8_count_1 hv (by omega) (by rw [s1]; rfl) (by decide)) ?_
    refine mRun.go (q_aload_n dX8_count_152 rfl rfl) ?_
    refine mRun.go (q_getR dX8_count_153 fo_X8_42 hD.1 rfl) ?_
    refine mRun.go (q_getE (x := ((sU S).1 : Int)) dX8_count_156 fo_X8_209 hU.1 rfl hC.2.2.2.2.2.2.2.2.2.2) ?_
    refine r_iret dX8_count_159 rfl ?_
    have e : a_count S v = ((sU S).1 : Int) := by
      unfold a_count
      first | (rw [s1]; rfl) | (rw [if_neg (by omega), if_neg (by omega), if_neg (by omega), if_neg (by omega), if_neg (by omega), if_neg (by omega), if_neg (by omega), if_neg (by omega), if_neg (by omega), if_neg (by omega), if_neg (by omega), if_neg (by omega), if_neg (by omega)])
    rw [e]
    exact out_q hC hS hI frq_rf
  · refine mRun.go (q_tsw_in (off := 159) (tgt := 160) dX8_count_1 hv (by omega) (by rw [s1]; rfl) (by decide)) ?_
    refine mRun.go (q_aload_n dX8_count_160 rfl rfl) ?_
    refine mRun.go (q_getR dX8_count_161 fo_X8_46 hD.1 rfl) ?_
    refine mRun.go (q_getE (x := ((sK S).1 : Int)) dX8_count_164 fo_X8_209 (dm_k hD).1 rfl hC.2.2.2.2.2.2.1) ?_
    refine r_iret dX8_count_167 rfl ?_
    have e : a_count S v = ((sK S).1 : Int) := by
      unfold a_count
      first | (rw [s1]; rfl) | (rw [if_neg (by omega), if_neg (by omega), if_neg (by omega), if_neg (by omega), if_neg (by omega), if_neg (by omega), if_neg (by omega), if_neg (by omega), if_neg (by omega), if_neg (by omega), if_neg (by omega), if_neg (by omega), if_neg (by omega)])
    rw [e]
    exact out_q hC hS hI frq_rf
  · refine mRun.go (q_tsw_in (off := 167) (tgt := 168) dX8_count_1 hv (by omega) (by rw [s1]; rfl) (by decide)) ?_
    refine mRun.go (q_aload_n dX8_count_168 rfl rfl) ?_
    refine mRun.go (q_getR dX8_count_169 fo_X8_10 hD.1 rfl) ?_
    refine mRun.go (q_getE (x := sLn S) dX8_count_172 fo_X8_102 (dm_t hD).1 rfl hT.2.1) ?_
    refine r_iret dX8_count_175 rfl ?_
    have e : a_count S v = sLn S := by
      unfold a_count
      first | (rw [s1]; rfl) | (rw [if_neg (by omega), if_neg (by omega), if_neg (by omega), if_neg (by omega), if_neg (by omega), if_neg (by omega), if_neg (by omega), if_neg (by omega), if_neg (by omega), if_neg (by omega), if_neg (by omega), if_neg (by omega), if_neg (by omega)])
    rw [e]
    exact out_q hC hS hI frq_rf
  · refine mRun.go (q_tsw_out (tgt := 176) dX8_count_1 hv s1 (by decide)) ?_
    refine mRun.go (q_iconst dX8_count_176) ?_
    refine r_iret dX8_count_177 rfl ?_
    have e : a_count S v = (-1) := by
      unfold a_count
      first | (rw [s1]; rfl) | (rw [if_neg (by omega), if_neg (by omega), if_neg (by omega), if_neg (by omega), if_neg (by omega), if_neg (by omega), if_neg (by omega), if_neg (by omega), if_neg (by omega), if_neg (by omega), if_neg (by omega), if_neg (by omega), if_neg (by omega)])
    rw [e]
    exact out_q hC hS hI frq_rf
