/-! ===== DrumMaps: an hour of a traveller ===== -/
theorem tset_tget {I : mI} {r : Nat} : tset I r (tget I r) = I := by
  funext r' k
  simp only [tset, tget]
  split
  · next h =>
    subst h
    match k with
    | 0 => rfl
    | 1 => rfl
    | 2 => rfl
    | 3 => rfl
    | 4 => rfl
    | 5 => rfl
    | n + 6 => simp
  · rfl

set_option maxRecDepth 100000 in
theorem k_setOut {σ : List mC} {I : mI} {L : Ld} (hI : Nrm I) (hD : IsDM σ) (hL : LdOk L) (hLR : LRC I L) {r : Nat} {first wet : Int} (hr : IsTrv σ r) (hf : first = -4 ∨ (0 ≤ first ∧ first < lP L)) (hw : -2147483648 ≤ wet ∧ wet < 2147483648) : mCt mX8_setOut [mr 0, mr r, mi first, mi wet] (σ, I) none (σ, tset I r (setT (fun _ => first) (lG L) wet (tget I r))) := by
  refine mCt.eq ?_
  refine mMt.of pl_8 (Nat.le_of_ble_eq_true rfl) ?_
  show mRun mZt mX8_setOut 0 [some (mr 0), some (mr r), some (mi first), some (mi wet), none] [] (σ, I) _
  refine mRun.go (q_iload_n dX8_setOut_0 rfl rfl) ?_
  refine mRun.go (q_bipush dX8_setOut_1 (by decide)) ?_
  refine r_icmp_ne (tgt := 7) dX8_setOut_3 (by decide) (by have := lp_rng hL; omega) (by omega) (fun c3 => ?_) (fun c3 => ?_)
  · refine mRun.go (q_aload_n dX8_setOut_7 rfl rfl) ?_
    refine mRun.go (q_getR dX8_setOut_8 fo_X8_26 hD.1 rfl) ?_
    refine mRun.go (q_getR dX8_setOut_11 fo_X8_119 (dm_l hD).1 rfl) ?_
    refine mRun.go (q_iload_n dX8_setOut_14 rfl rfl) ?_
    refine mRun.go (q_callVi (r := 21 + 1) [mi first] [] dX8_setOut_15 co_X8_122 ⟨Nat.le_of_ble_eq_true rfl, Nat.le_of_ble_eq_true rfl⟩ gw_323 gw_324 rfl (dm_l hD).2.1.1 rfl rfl rfl (Nat.le_of_ble_eq_true rfl) (k_atE (dm_l hD).2.1 (by have := lp_rng hL; omega) (by decide) (lrc_g hLR hL (by omega)))) ?_
    refine mRun.go (q_iload_n dX8_setOut_18 rfl rfl) ?_
    refine mRun.go (q_callSi [mi (lG L first), mi wet] [] dX8_setOut_19 co_X8_305 ⟨Nat.le_of_ble_eq_true rfl, Nat.le_of_ble_eq_true rfl⟩ gw_507 rfl rfl (Nat.le_of_ble_eq_true rfl) (k_hours (by have := hL.2.2.2.2.1 first (by omega) (by omega); omega) hw)) ?_
    refine mRun.go (q_istore (ls' := [some (mr 0), some (mr r), some (mi first), some (mi wet), some (mi (hrs (lG L first) wet))]) dX8_setOut_22 (Nat.le_of_ble_eq_true rfl) rfl) ?_
    refine mRun.go (q_iload dX8_setOut_24 rfl) ?_
    refine mRun.go (q_ldc (a := 1000000) dX8_setOut_26 gw_509) ?_
    refine r_icmp_lt (tgt := 37) dX8_setOut_28 (by decide) (by have := @hrs_rng (lG L first) wet; omega) (by omega) (fun c28 => ?_) (fun c28 => ?_)
    · refine mRun.go (q_aload_n dX8_setOut_37 rfl rfl) ?_
      refine mRun.go (q_iload_n dX8_setOut_38 rfl rfl) ?_
      refine mRun.go (q_putI dX8_setOut_39 fo_X8_168 fp_6_4 hr rfl) ?_
      refine mRun.go (q_aload_n dX8_setOut_42 rfl rfl) ?_
      refine mRun.go (q_iload dX8_setOut_43 rfl) ?_
      refine mRun.go (q_putI dX8_setOut_45 fo_X8_171 fp_6_5 hr rfl) ?_
      refine r_ret dX8_setOut_48 rfl ?_
      have e : setT (fun _ => first) (lG L) wet (tget I r) = (I r 0, I r 1, I r 2, I r 3, first, hrs (lG L first) wet) := by show (if first = -4 then tget I r else if 1000000 ≤ hrs (lG L first) wet then _ else _) = _; rw [if_neg (by omega), if_neg (by omega)]; rfl
      rw [e]
      refine ⟨rfl, congrArg (Prod.mk σ) ?_⟩
      simp only [mup_t0, mup_t1, mup_t2, mup_t3, mup_t4, mup_t5, tset_tset, tset_0, tset_1, tset_2, tset_3, tset_4, tset_5]
    · refine mRun.go (q_aload_n dX8_setOut_31 rfl rfl) ?_
      refine mRun.go (q_iconst dX8_setOut_32) ?_
      refine mRun.go (q_putI dX8_setOut_33 fo_X8_162 fp_6_3 hr rfl) ?_
      refine r_ret dX8_setOut_36 rfl ?_
      have e : setT (fun _ => first) (lG L) wet (tget I r) = (I r 0, I r 1, I r 2, 2, I r 4, I r 5) := by show (if first = -4 then tget I r else if 1000000 ≤ hrs (lG L first) wet then _ else _) = _; rw [if_neg (by omega), if_pos (by omega)]; rfl
      rw [e, ← mup_t3]
      exact ⟨rfl, rfl⟩
  · refine r_ret dX8_setOut_6 rfl ?_
    have e : setT (fun _ => first) (lG L) wet (tget I r) = tget I r := by show (if first = -4 then tget I r else _) = _; rw [if_pos (by omega)]
    rw [e]
    exact ⟨rfl, congrArg (Prod.mk σ) tset_tget.symm⟩

theorem nrm_trv {P nd : Int} {I : mI} {r : Nat} {t : Tv} (hI : Nrm I) (hP : P ≤ 1000) (hd : nd ≤ 1000) (h : TvOk P nd t) : Nrm (tset I r t) := by
  obtain ⟨h1, h2, h3, h4, h5, h6, h7⟩ := h
  exact nrm_tset hI (by omega) (by omega) (by omega) (by omega) (by omega) (by omega)
theorem lrc_tset {I : mI} {L : Ld} {r : Nat} {t : Tv} (h : LRC I L) (hr : r ≤ 20 ∨ 28 ≤ r) : LRC (tset I r t) L := h.fr (fun q a b => by funext k; exact tset_ne (by omega))

set_option maxRecDepth 100000 in
theorem k_walkHour {σ : List mC} {I : mI} {L : Ld} (hI : Nrm I) (hD : IsDM σ) (hL : LdOk L) (hLR : LRC I L) {r w g : Nat} {e : Nat → Int} {wet : Int} (hr : IsTrv σ r) (hw : IsWays σ w) (hwt : -2147483648 ≤ wet ∧ wet < 2147483648) (hwf : Wfg (lQ L) (nbL L) e) (hk : I r 3 = 0 ∧ I r 5 = 0 → Knows I w (lQ L) (nbL L) e g) (ht : TvOk (lP L) (lD L) (tget I r)) : mCt mX8_walkHour [mr 0, mr r, mr w, mi wet] (σ, I) none (σ, tset I r (stepT (fun x => hop (lQ L) (nbL L) e g x.toNat) (lG L) wet (tget I r))) := by
  refine mCt.eq ?_
  refine mMt.of pl_8 (Nat.le_of_ble_eq_true rfl) ?_
  show mRun mZt mX8_walkHour 0 [some (mr 0), some (mr r), some (mr w), some (mi wet)] [] (σ, I) _
  have hhr : hop (lQ L) (nbL L) e g (I r 0).toNat = -4 ∨ (0 ≤ hop (lQ L) (nbL L) e g (I r 0).toNat ∧ hop (lQ L) (nbL L) e g (I r 0).toNat < lP L) := by
    have := @hop_rng (lQ L) (nbL L) e g (I r 0).toNat hwf (by have := lq_eq hL; have : 0 ≤ I r 0 ∧ I r 0 < lP L := ht.1; omega)
    rw [lq_eq hL] at this
    exact this
  have hok : TvOk (lP L) (lD L) (setT' (fun x => hop (lQ L) (nbL L) e g x.toNat) (lG L) wet (tget I r)) := setT'_ok ht hhr
  have hN1 : Nrm (tset I r (setT' (fun x => hop (lQ L) (nbL L) e g x.toNat) (lG L) wet (tget I r))) := nrm_trv hI (by have := lp_rng hL; omega) (by have := hL.2.2.1; omega) hok
  refine mRun.go (q_aload_n dX8_walkHour_0 rfl rfl) ?_
  refine mRun.go (q_callVi (r := r) [] [] dX8_walkHour_1 co_X8_295 ⟨Nat.le_of_ble_eq_true rfl, Nat.le_of_ble_eq_true rfl⟩ gw_564 gw_565 rfl hr rfl rfl rfl (Nat.le_of_ble_eq_true rfl) (k_must hr hI)) ?_
  have j4 : ∀ {post : Option mV → mH → Prop}, mRun mZt mX8_walkHour 25 [some (mr 0), some (mr r), some (mr w), some (mi wet)] [] (σ, tset I r (setT' (fun x => hop (lQ L) (nbL L) e g x.toNat) (lG L) wet (tget I r))) post → mRun mZt mX8_walkHour 4 [some (mr 0), some (mr r), some (mr w), some (mi wet)] [mi (if I r 3 = 0 ∧ I r 5 = 0 then 1 else 0)] (σ, I) post := by
    intro post k
    refine r_if_eq (tgt := 25) dX8_walkHour_4 (by decide) (by split <;> omega) (fun c4 => ?_) (fun c4 => ?_)
    · have e2 : setT' (fun x => hop (lQ L) (nbL L) e g x.toNat) (lG L) wet (tget I r) = tget I r := by unfold setT'; rw [if_neg (show ¬ ((tget I r).2.2.2.1 = 0 ∧ (tget I r).2.2.2.2.2 = 0) from fun q => by rw [if_pos (show I r 3 = 0 ∧ I r 5 = 0 from q)] at c4; omega)]
      rw [e2, tset_tget] at k
      exact k
    · have hmu : I r 3 = 0 ∧ I r 5 = 0 := Classical.byContradiction fun q => by rw [if_neg q] at c4; omega
      have e2 : setT' (fun x => hop (lQ L) (nbL L) e g x.toNat) (lG L) wet (tget I r) = setT (fun _ => hop (lQ L) (nbL L) e g (I r 0).toNat) (lG L) wet (tget I r) := by unfold setT'; rw [if_pos (show (tget I r).2.2.2.1 = 0 ∧ (tget I r).2.2.2.2.2 = 0 from hmu)]; rfl
      rw [e2] at k
      refine mRun.go (q_aload_n dX8_walkHour_7 rfl rfl) ?_
      refine mRun.go (q_aload_n dX8_walkHour_8 rfl rfl) ?_
      refine mRun.go (q_aload_n dX8_walkHour_9 rfl rfl) ?_
      refine mRun.go (q_aload_n dX8_walkHour_10 rfl rfl) ?_
      refine mRun.go (q_getR dX8_walkHour_11 fo_X8_26 hD.1 rfl) ?_
      refine mRun.go (q_aload_n dX8_walkHour_14 rfl rfl) ?_
      refine mRun.go (q_getI dX8_walkHour_15 fo_X8_153 hr rfl) ?_
      refine mRun.go (q_callVi (r := w) [mr 21, mi (I r 0)] [mr r, mr 0] dX8_walkHour_18 co_X8_181 ⟨Nat.le_of_ble_eq_true rfl, Nat.le_of_ble_eq_true rfl⟩ gw_531 gw_532 rfl hw.1 rfl rfl rfl (Nat.le_of_ble_eq_true rfl) (k_fsF hw (dm_l hD) hI hL hLR (hk hmu) hwf ht.1)) ?_
      refine mRun.go (q_iload_n dX8_walkHour_21 rfl rfl) ?_
      refine mRun.go (q_callVv (r := 0) [mr r, mi (hop (lQ L) (nbL L) e g (I r 0).toNat), mi wet] [] dX8_walkHour_22 co_X8_298 ⟨Nat.le_of_ble_eq_true rfl, Nat.le_of_ble_eq_true rfl⟩ gw_573 gs_14 rfl hD.1 rfl rfl rfl (Nat.le_of_ble_eq_true rfl) (k_setOut hI hD hL hLR hr hhr hwt)) ?_
      exact k
  refine j4 ?_
  refine mRun.go (q_aload_n dX8_walkHour_25 rfl rfl) ?_
  refine mRun.go (q_callVi (r := r) [] [] dX8_walkHour_26 co_X8_165 ⟨Nat.le_of_ble_eq_true rfl, Nat.le_of_ble_eq_true rfl⟩ gw_494 gw_495 rfl hr rfl rfl rfl (Nat.le_of_ble_eq_true rfl) (k_isOn hr hN1)) ?_
  refine r_if_eq (tgt := 36) dX8_walkHour_29 (by decide) (by split <;> omega) (fun c29 => ?_) (fun c29 => ?_)
  · refine r_ret dX8_walkHour_36 rfl ?_
    unfold stepT
    rw [if_neg (by rw [tset_5] at c29; split at c29 <;> omega)]
    exact ⟨rfl, rfl⟩
  · refine mRun.go (q_aload_n dX8_walkHour_32 rfl rfl) ?_
    refine mRun.go (q_callVv (r := r) [] [] dX8_walkHour_33 co_X8_302 ⟨Nat.le_of_ble_eq_true rfl, Nat.le_of_ble_eq_true rfl⟩ gw_577 gw_578 rfl hr rfl rfl rfl (Nat.le_of_ble_eq_true rfl) (k_goOn hr hN1 (by omega))) ?_
    refine r_ret dX8_walkHour_36 rfl ?_
    unfold stepT
    rw [tset_tset, tget_tset]
    rw [if_pos (by rw [tset_5] at c29; split at c29 <;> omega)]
    exact ⟨rfl, rfl⟩
