/-! ===== DrumMaps: looking ahead ===== -/
theorem knows_tset {I : mI} {w P r g : Nat} {nb : Nat → Nat → Int} {e : Nat → Int} {t : Tv} (h : Knows I w P nb e g) (h1 : w + 1 + 1 ≠ r) (h2 : w + 3 + 1 ≠ r) : Knows (tset I r t) w P nb e g := by
  refine ⟨fun x hx => ?_, fun x hx => ?_⟩
  · rw [← h.1 x hx]
    exact tset_ne h1
  · rw [← h.2 x hx]
    exact tset_ne h2
theorem knows_fr {I J : mI} {w P g : Nat} {nb : Nat → Nat → Int} {e : Nat → Int} (h : Knows I w P nb e g) (h1 : J (w + 1 + 1) = I (w + 1 + 1)) (h2 : J (w + 3 + 1) = I (w + 3 + 1)) : Knows J w P nb e g := by
  refine ⟨fun x hx => ?_, fun x hx => ?_⟩
  · rw [← h.1 x hx]
    show J (w + 1 + 1) x = I (w + 1 + 1) x
    rw [h1]
  · rw [← h.2 x hx]
    show J (w + 3 + 1) x = I (w + 3 + 1) x
    rw [h2]
set_option maxRecDepth 100000 in
theorem k_hoursUntil_loop {σ : List mC} {I : mI} {L : Ld} (hI : Nrm I) (hD : IsDM σ) (hL : LdOk L) (hLR : LRC I L) {f : Nat} {F : Fs} (hf : IsForest σ f) (hF : FRC I f L F) (hfa : f = 28 ∨ f = 124) (hwF : 0 ≤ fW F ∧ fW F ≤ 3) {s d g A : Int} (hs : -2147483648 ≤ s ∧ s < 2147483648) : ∀ (n m : Nat) (K : mI) (t : Tv), 61 - m < n → m ≤ 61 → Nrm K → (∀ r, r ≠ 132 → (r < 134 ∨ 138 < r) → K r = I r) → Knows K 134 (lQ L) (nbL L) (ent L (fT F) (fW F) d) g.toNat → tget K 132 = t → TvOk (lP L) (lD L) t → untl (sfc L (fT F) (fW F) d g) s (61 - m) m t = A → mRun mZt mX8_hoursUntil 28 [some (mr 0), some (mr f), some (mi s), some (mi (m : Int))] [] (σ, K) (fun v h => v = some (mi A) ∧ ∃ K, h = (σ, K) ∧ Nrm K ∧ (∀ r, r ≠ 132 → (r < 134 ∨ 138 < r) → K r = I r)) := by
  intro n
  induction n with
  | zero => intro m K t h; omega
  | succ n ih =>
    intro m K t hn hm hK hfr hkn ht hok hA
    have hLRK : LRC K L := hLR.fr (fun r a b => hfr r (by omega) (by omega))
    refine mRun.go (q_iload_n dX8_hoursUntil_28 rfl rfl) ?_
    refine mRun.go (q_bipush dX8_hoursUntil_29 (by decide)) ?_
    refine r_icmp_gt (tgt := 69) dX8_hoursUntil_31 (by decide) (by omega) (by omega) (fun c31 => ?_) (fun c31 => ?_)
    · refine mRun.go (q_bipush dX8_hoursUntil_69 (by decide)) ?_
      refine r_iret dX8_hoursUntil_71 rfl ?_
      have e2 : untl (sfc L (fT F) (fW F) d g) s (61 - m) m t = -4 := by rw [show 61 - m = 0 by omega]; rfl
      exact ⟨by rw [← hA, e2], K, rfl, hK, hfr⟩
    · refine mRun.go (q_aload_n dX8_hoursUntil_34 rfl rfl) ?_
      refine mRun.go (q_getR dX8_hoursUntil_35 fo_X8_65 hD.1 rfl) ?_
      refine mRun.go (q_getE (x := t.2.2.2.1) dX8_hoursUntil_38 fo_X8_162 (dm_w hD) rfl (by rw [← ht]; rfl)) ?_
      refine mRun.go (q_iload_n dX8_hoursUntil_41 rfl rfl) ?_
      refine r_icmp_ne (tgt := 47) dX8_hoursUntil_42 (by decide) (by have := hok.2.2.2.1; omega) hs (fun c42 => ?_) (fun c42 => ?_)
      · refine mRun.go (q_aload_n dX8_hoursUntil_47 rfl rfl) ?_
        refine mRun.go (q_aload_n dX8_hoursUntil_48 rfl rfl) ?_
        refine mRun.go (q_getR dX8_hoursUntil_49 fo_X8_65 hD.1 rfl) ?_
        refine mRun.go (q_aload_n dX8_hoursUntil_52 rfl rfl) ?_
        refine mRun.go (q_getR dX8_hoursUntil_53 fo_X8_75 hD.1 rfl) ?_
        refine mRun.go (q_aload_n dX8_hoursUntil_56 rfl rfl) ?_
        refine mRun.go (q_getE (x := fW F) dX8_hoursUntil_57 fo_X8_136 hf.1 rfl (by rw [hfr f (by omega) (by omega)]; exact hF.1)) ?_
        refine mRun.go (q_callVv (r := 0) [mr 132, mr 134, mi (fW F)] [] dX8_hoursUntil_60 co_X8_238 ⟨Nat.le_of_ble_eq_true rfl, Nat.le_of_ble_eq_true rfl⟩ gw_569 gs_13 rfl hD.1 rfl rfl rfl (Nat.le_of_ble_eq_true rfl) (k_walkHour (e := ent L (fT F) (fW F) d) (g := (g).toNat) hK hD hL hLRK (dm_w hD) (dm_y hD) (by omega) (wfg_e hL) (fun _ => hkn) (by rw [ht]; exact hok))) ?_
        refine mRun.go (q_iinc (ls' := [some (mr 0), some (mr f), some (mi s), some (mi ((m : Int) + 1))]) dX8_hoursUntil_63 rfl (Nat.le_of_ble_eq_true rfl) rfl) ?_
        refine mRun.go (q_goto (tgt := 28) dX8_hoursUntil_66 (by decide)) ?_
        have e1 : ((m : Int) + 1) = ((m + 1 : Nat) : Int) := by omega
        rw [e1]
        have e2 : untl (sfc L (fT F) (fW F) d g) s (61 - m) m t = untl (sfc L (fT F) (fW F) d g) s (61 - (m + 1)) ((m + 1 : Nat) : Int) (sfc L (fT F) (fW F) d g t) := by
          rw [show 61 - m = (61 - (m + 1)) + 1 by omega]
          simp only [untl]
          rw [if_neg c42, ← e1]
        rw [ht]
        refine ih (m + 1) _ _ (by omega) (by omega) (nrm_trv hK (by have := lp_rng hL; omega) (by have := hL.2.2.1; omega) (sfc_ok hL hok)) (fun r a b => by rw [← hfr r a b]; funext k; exact tset_ne a) (knows_tset hkn (by decide) (by decide)) tget_tset (sfc_ok hL hok) (e2.symm.trans hA)
      · refine mRun.go (q_iload_n dX8_hoursUntil_45 rfl rfl) ?_
        refine r_iret dX8_hoursUntil_46 rfl ?_
        have e2 : untl (sfc L (fT F) (fW F) d g) s (61 - m) m t = (m : Int) := by
          rw [show 61 - m = (61 - (m + 1)) + 1 by omega]
          simp only [untl]
          rw [if_pos (Classical.not_not.mp c42)]
        exact ⟨by rw [← hA, e2], K, rfl, hK, hfr⟩

set_option maxRecDepth 100000 in
theorem k_hoursUntil {σ : List mC} {I : mI} {L : Ld} (hI : Nrm I) (hD : IsDM σ) (hL : LdOk L) (hLR : LRC I L) {f : Nat} {F : Fs} (hf : IsForest σ f) (hF : FRC I f L F) (hfa : f = 28 ∨ f = 124) (hwF : 0 ≤ fW F ∧ fW F ≤ 3) {s : Int} (hs : -2147483648 ≤ s ∧ s < 2147483648) (hok : TvOk (lP L) (lD L) (tget I 132)) : mMt mX8_hoursUntil [mr 0, mr f, mi s] (σ, I) (fun v h => v = some (mi (ansU L (fT F) (fW F) s (nrmT (tget I 132)))) ∧ ∃ K, h = (σ, K) ∧ Nrm K ∧ (∀ r, r ≠ 132 → (r < 134 ∨ 138 < r) → K r = I r)) := by
  refine mMt.of pl_8 (Nat.le_of_ble_eq_true rfl) ?_
  show mRun mZt mX8_hoursUntil 0 [some (mr 0), some (mr f), some (mi s), none] [] (σ, I) _
  refine mRun.go (q_aload_n dX8_hoursUntil_0 rfl rfl) ?_
  refine mRun.go (q_getR dX8_hoursUntil_1 fo_X8_75 hD.1 rfl) ?_
  refine mRun.go (q_aload_n dX8_hoursUntil_4 rfl rfl) ?_
  refine mRun.go (q_getR dX8_hoursUntil_5 fo_X8_26 hD.1 rfl) ?_
  refine mRun.go (q_aload_n dX8_hoursUntil_8 rfl rfl) ?_
  refine mRun.go (q_aload_n dX8_hoursUntil_9 rfl rfl) ?_
  refine mRun.go (q_getR dX8_hoursUntil_10 fo_X8_65 hD.1 rfl) ?_
  refine mRun.go (q_getE (x := (tget I 132).2.2.1) dX8_hoursUntil_13 fo_X8_159 (dm_w hD) rfl rfl) ?_
  refine mRun.go (q_aload_n dX8_hoursUntil_16 rfl rfl) ?_
  refine mRun.go (q_getR dX8_hoursUntil_17 fo_X8_65 hD.1 rfl) ?_
  refine mRun.go (q_getE (x := (tget I 132).2.1) dX8_hoursUntil_20 fo_X8_156 (dm_w hD) rfl rfl) ?_
  obtain ⟨v0, h0, hc0, rfl, K, rfl, hK, hfK, hkn⟩ := k_lrn (w := 134) hI (dm_y hD) (dm_l hD) hf hL hLR hF hok.2.2.1 hok.2.1 (by decide) (by omega)
  refine mRun.go (q_callVv (r := 134) [mr 21, mr f, mi ((tget I 132).2.2.1), mi ((tget I 132).2.1)] [] dX8_hoursUntil_23 co_X8_174 ⟨Nat.le_of_ble_eq_true rfl, Nat.le_of_ble_eq_true rfl⟩ gw_502 gw_503 rfl (dm_y hD).1 rfl rfl rfl (Nat.le_of_ble_eq_true rfl) hc0) ?_
  refine mRun.go (q_iconst dX8_hoursUntil_26) ?_
  refine mRun.go (q_istore_n (ls' := [some (mr 0), some (mr f), some (mi s), some (mi 0)]) dX8_hoursUntil_27 rfl (Nat.le_of_ble_eq_true rfl) rfl) ?_
  have e0 : ansU L (fT F) (fW F) s (nrmT (tget I 132)) = untl (sfc L (fT F) (fW F) (tget I 132).2.2.1 (tget I 132).2.1) s 61 0 (tget I 132) := (untl_nrm (fun t ht => sfc_nrm ht) (fun t ht => sfc_ok hL ht) 61 0 _ hok).symm
  refine (k_hoursUntil_loop (d := (tget I 132).2.2.1) (g := (tget I 132).2.1) (A := ansU L (fT F) (fW F) s (nrmT (tget I 132))) hI hD hL hLR hf hF hfa hwF hs 62 0 K (tget I 132) (by omega) (by omega) hK (fun r a b => hfK r (by omega) (by omega)) hkn ?_ hok e0.symm)
  simp only [tget]
  rw [hfK 132 (by decide) (by decide)]

set_option maxRecDepth 100000 in
theorem k_toArrive {σ : List mC} {I : mI} {L : Ld} (hI : Nrm I) (hD : IsDM σ) (hL : LdOk L) (hLR : LRC I L) {f : Nat} {F : Fs} (hf : IsForest σ f) (hF : FRC I f L F) (hfa : f = 28 ∨ f = 124) (hwF : 0 ≤ fW F ∧ fW F ≤ 3) {r : Nat} {d : Int} (hr : IsTrv σ r) (hne : r ≠ 132) (hrt : TvOk (lP L) (lD L) (tget I r)) (hd : 0 ≤ d ∧ d < lD L) : mMt mX8_hoursToArrive [mr 0, mr f, mr r, mi d] (σ, I) (fun v h => v = some (mi (ansU L (fT F) (fW F) 1 (sdr (nrmT (tget I r)) d))) ∧ ∃ K, h = (σ, K) ∧ Nrm K ∧ (∀ r, r ≠ 132 → (r < 134 ∨ 138 < r) → K r = I r)) := by
  refine mMt.of pl_8 (Nat.le_of_ble_eq_true rfl) ?_
  show mRun mZt mX8_hoursToArrive 0 [some (mr 0), some (mr f), some (mr r), some (mi d)] [] (σ, I) _
  refine mRun.go (q_aload_n dX8_hoursToArrive_0 rfl rfl) ?_
  refine mRun.go (q_getR dX8_hoursToArrive_1 fo_X8_65 hD.1 rfl) ?_
  refine mRun.go (q_aload_n dX8_hoursToArrive_4 rfl rfl) ?_
  refine mRun.go (q_callVv (r := 132) [mr r] [] dX8_hoursToArrive_5 co_X8_212 ⟨Nat.le_of_ble_eq_true rfl, Nat.le_of_ble_eq_true rfl⟩ gw_392 gw_393 rfl (dm_w hD) rfl rfl rfl (Nat.le_of_ble_eq_true rfl) (k_tcopy (dm_w hD) hr hne hI)) ?_
  refine mRun.go (q_aload_n dX8_hoursToArrive_8 rfl rfl) ?_
  refine mRun.go (q_getR dX8_hoursToArrive_9 fo_X8_65 hD.1 rfl) ?_
  refine mRun.go (q_iload_n dX8_hoursToArrive_12 rfl rfl) ?_
  refine mRun.go (q_putI dX8_hoursToArrive_13 fo_X8_159 fp_6_2 (dm_w hD) rfl) ?_
  refine mRun.go (q_aload_n dX8_hoursToArrive_16 rfl rfl) ?_
  refine mRun.go (q_aload_n dX8_hoursToArrive_17 rfl rfl) ?_
  refine mRun.go (q_iconst dX8_hoursToArrive_18) ?_
  have e1 : mup (tset I 132 (tget I r)) 132 2 d = tset I 132 (sdr (tget I r) d) := by rw [mup_t2]; simp only [tset_tset, tset_0, tset_1, tset_3, tset_4, tset_5]; rfl
  rw [e1]
  have hok1 := sdrc_ok hrt hd
  have hN1 : Nrm (tset I 132 (sdr (tget I r) d)) := nrm_trv hI (by have := lp_rng hL; omega) (by have := hL.2.2.1; omega) hok1
  obtain ⟨v0, h0, hc0, rfl, K, rfl, hK, hfK⟩ := k_hoursUntil (s := 1) hN1 hD hL (lrc_tset hLR (by omega)) hf (hF.fr hL (fun r a b => by funext k; exact tset_ne (by omega)) (by funext k; exact tset_ne (by decide))) hfa hwF (by omega) (by rw [tget_tset]; exact hok1)
  rw [tget_tset, sdr_nrm] at hc0
  refine mRun.go (q_callVi (r := 0) [mr f, mi 1] [] dX8_hoursToArrive_19 co_X8_216 ⟨Nat.le_of_ble_eq_true rfl, Nat.le_of_ble_eq_true rfl⟩ gw_613 gs_15 rfl hD.1 rfl rfl rfl (Nat.le_of_ble_eq_true rfl) hc0) ?_
  refine r_iret dX8_hoursToArrive_22 rfl ?_
  exact ⟨rfl, K, rfl, hK, fun q a b => by rw [hfK q a b]; funext k; exact tset_ne a⟩

set_option maxRecDepth 100000 in
theorem k_hoursLed {σ : List mC} {I : mI} {L : Ld} (hI : Nrm I) (hD : IsDM σ) (hL : LdOk L) (hLR : LRC I L) {F : Fs} (hF : FRC I 28 L F) (hwF : 0 ≤ fW F ∧ fW F ≤ 3) {x y d : Int} (hx : 0 ≤ x ∧ x < lP L) (hy : 0 ≤ y ∧ y < lP L) (hd : 0 ≤ d ∧ d < lD L) : mMt mX8_hoursLed [mr 0, mi d, mi x, mi y] (σ, I) (fun v h => v = some (mi (ansU L (fT F) (fW F) 1 (ledT x y d))) ∧ ∃ K, h = (σ, K) ∧ Nrm K ∧ (∀ r, r ≠ 132 → (r < 134 ∨ 138 < r) → K r = I r)) := by
  refine mMt.of pl_8 (Nat.le_of_ble_eq_true rfl) ?_
  show mRun mZt mX8_hoursLed 0 [some (mr 0), some (mi d), some (mi x), some (mi y)] [] (σ, I) _
  refine mRun.go (q_aload_n dX8_hoursLed_0 rfl rfl) ?_
  refine mRun.go (q_getR dX8_hoursLed_1 fo_X8_65 hD.1 rfl) ?_
  refine mRun.go (q_iload_n dX8_hoursLed_4 rfl rfl) ?_
  refine mRun.go (q_iload_n dX8_hoursLed_5 rfl rfl) ?_
  refine mRun.go (q_iload_n dX8_hoursLed_6 rfl rfl) ?_
  have hPr := lp_rng hL
  have hDr := hL.2.2.1
  have hok1 : TvOk (lP L) (lD L) (startT (tget I 132) x y d) := start_ok hx hy hd
  have hN1 : Nrm (tset I 132 (startT (tget I 132) x y d)) := nrm_trv hI (by omega) (by omega) hok1
  refine mRun.go (q_callVv (r := 132) [mi x, mi y, mi d] [] dX8_hoursLed_7 co_X8_308 ⟨Nat.le_of_ble_eq_true rfl, Nat.le_of_ble_eq_true rfl⟩ gw_352 gw_353 rfl (dm_w hD) rfl rfl rfl (Nat.le_of_ble_eq_true rfl) (k_start (dm_w hD) hI (by omega) (by omega) (by omega))) ?_
  refine mRun.go (q_aload_n dX8_hoursLed_10 rfl rfl) ?_
  refine mRun.go (q_aload_n dX8_hoursLed_11 rfl rfl) ?_
  refine mRun.go (q_getR dX8_hoursLed_12 fo_X8_33 hD.1 rfl) ?_
  refine mRun.go (q_iconst dX8_hoursLed_15) ?_
  obtain ⟨v0, h0, hc0, rfl, K, rfl, hK, hfK⟩ := k_hoursUntil (s := 1) hN1 hD hL (lrc_tset hLR (by omega)) (dm_n hD) (hF.fr hL (fun r a b => by funext k; exact tset_ne (by omega)) (by funext k; exact tset_ne (by decide))) (Or.inl rfl) hwF (by omega) (by rw [tget_tset]; exact hok1)
  rw [tget_tset, start_nrm] at hc0
  refine mRun.go (q_callVi (r := 0) [mr 28, mi 1] [] dX8_hoursLed_16 co_X8_216 ⟨Nat.le_of_ble_eq_true rfl, Nat.le_of_ble_eq_true rfl⟩ gw_613 gs_15 rfl hD.1 rfl rfl rfl (Nat.le_of_ble_eq_true rfl) hc0) ?_
  refine r_iret dX8_hoursLed_19 rfl ?_
  exact ⟨rfl, K, rfl, hK, fun q a b => by rw [hfK q a b]; funext k; exact tset_ne a⟩

set_option maxRecDepth 100000 in
theorem k_placeBehind_loop {σ : List mC} {I : mI} {L : Ld} (hI : Nrm I) (hD : IsDM σ) (hL : LdOk L) (hLR : LRC I L) {F : Fs} (hF : FRC I 28 L F) (hwF : 0 ≤ fW F ∧ fW F ≤ 3) {r N : Nat} {d g : Int} {t0 : Tv} (hd : 0 ≤ d ∧ d < lD L) (hN : N ≤ 1000) : ∀ (n m : Nat) (K : mI) (t : Tv), N - m < n → m ≤ N → Nrm K → (∀ r, r ≠ 132 → (r < 134 ∨ 138 < r) → K r = I r) → Knows K 134 (lQ L) (nbL L) (ent L (fT F) (fW F) d) g.toNat → tget K 132 = t → TvOk (lP L) (lD L) t → t = iter (sfc L (fT F) (fW F) d g) m t0 → mRun mZt mX8_placeBehind 48 [some (mr 0), some (mr r), some (mi d), some (mi (N : Int)), some (mi (m : Int))] [] (σ, K) (fun v h => v = some (mi ((iter (sfc L (fT F) (fW F) d g) N t0).1)) ∧ ∃ K, h = (σ, K) ∧ Nrm K ∧ (∀ r, r ≠ 132 → (r < 134 ∨ 138 < r) → K r = I r)) := by
  intro n
  induction n with
  | zero => intro m K t h; omega
  | succ n ih =>
    intro m K t hn hm hK hfr hkn ht hok hA2
    have hLRK : LRC K L := hLR.fr (fun r a b => hfr r (by omega) (by omega))
    refine mRun.go (q_iload dX8_placeBehind_48 rfl) ?_
    refine mRun.go (q_iload_n dX8_placeBehind_50 rfl rfl) ?_
    refine r_icmp_ge (tgt := 79) dX8_placeBehind_51 (by decide) (by omega) (by omega) (fun c51 => ?_) (fun c51 => ?_)
    · refine mRun.go (q_aload_n dX8_placeBehind_79 rfl rfl) ?_
      refine mRun.go (q_getR dX8_placeBehind_80 fo_X8_65 hD.1 rfl) ?_
      refine mRun.go (q_getE (x := t.1) dX8_placeBehind_83 fo_X8_153 (dm_w hD) rfl (by rw [← ht]; rfl)) ?_
      refine r_iret dX8_placeBehind_86 rfl ?_
      have : m = N := by omega
      subst this
      exact ⟨by rw [hA2], K, rfl, hK, hfr⟩
    · refine mRun.go (q_aload_n dX8_placeBehind_54 rfl rfl) ?_
      refine mRun.go (q_aload_n dX8_placeBehind_55 rfl rfl) ?_
      refine mRun.go (q_getR dX8_placeBehind_56 fo_X8_65 hD.1 rfl) ?_
      refine mRun.go (q_aload_n dX8_placeBehind_59 rfl rfl) ?_
      refine mRun.go (q_getR dX8_placeBehind_60 fo_X8_75 hD.1 rfl) ?_
      refine mRun.go (q_aload_n dX8_placeBehind_63 rfl rfl) ?_
      refine mRun.go (q_getR dX8_placeBehind_64 fo_X8_33 hD.1 rfl) ?_
      refine mRun.go (q_getE (x := fW F) dX8_placeBehind_67 fo_X8_136 (dm_n hD).1 rfl (by rw [hfr 28 (by omega) (by omega)]; exact hF.1)) ?_
      refine mRun.go (q_callVv (r := 0) [mr 132, mr 134, mi (fW F)] [] dX8_placeBehind_70 co_X8_238 ⟨Nat.le_of_ble_eq_true rfl, Nat.le_of_ble_eq_true rfl⟩ gw_569 gs_13 rfl hD.1 rfl rfl rfl (Nat.le_of_ble_eq_true rfl) (k_walkHour (e := ent L (fT F) (fW F) d) (g := (g).toNat) hK hD hL hLRK (dm_w hD) (dm_y hD) (by omega) (wfg_e hL) (fun _ => hkn) (by rw [ht]; exact hok))) ?_
      refine mRun.go (q_iinc (ls' := [some (mr 0), some (mr r), some (mi d), some (mi (N : Int)), some (mi ((m : Int) + 1))]) dX8_placeBehind_73 rfl (Nat.le_of_ble_eq_true rfl) rfl) ?_
      refine mRun.go (q_goto (tgt := 48) dX8_placeBehind_76 (by decide)) ?_
      have e1 : ((m : Int) + 1) = ((m + 1 : Nat) : Int) := by omega
      rw [e1, ht]
      refine ih (m + 1) _ _ (by omega) (by omega) (nrm_trv hK (by have := lp_rng hL; omega) (by have := hL.2.2.1; omega) (sfc_ok hL hok)) (fun r a b => by rw [← hfr r a b]; funext k; exact tset_ne a) (knows_tset hkn (by decide) (by decide)) tget_tset (sfc_ok hL hok) (by rw [hA2]; exact (iter_s _ m t0).symm)

set_option maxRecDepth 100000 in
theorem k_placeBehind {σ : List mC} {I : mI} {L : Ld} (hI : Nrm I) (hD : IsDM σ) (hL : LdOk L) (hLR : LRC I L) {F : Fs} (hF : FRC I 28 L F) (hwF : 0 ≤ fW F ∧ fW F ≤ 3) {r N : Nat} {d : Int} (hr : IsTrv σ r) (hne : r ≠ 132) (hrt : TvOk (lP L) (lD L) (tget I r)) (hd : 0 ≤ d ∧ d < lD L) (hNN : N ≤ 1000) : mMt mX8_placeBehind [mr 0, mr r, mi d, mi (N : Int)] (σ, I) (fun v h => v = some (mi ((iter (sfx L (fT F) (fW F) d (nrmT (tget I r)).2.1) N (sdr (nrmT (tget I r)) d)).1)) ∧ ∃ K, h = (σ, K) ∧ Nrm K ∧ (∀ r, r ≠ 132 → (r < 134 ∨ 138 < r) → K r = I r)) := by
  refine mMt.of pl_8 (Nat.le_of_ble_eq_true rfl) ?_
  show mRun mZt mX8_placeBehind 0 [some (mr 0), some (mr r), some (mi d), some (mi (N : Int)), none] [] (σ, I) _
  refine mRun.go (q_aload_n dX8_placeBehind_0 rfl rfl) ?_
  refine mRun.go (q_getR dX8_placeBehind_1 fo_X8_65 hD.1 rfl) ?_
  refine mRun.go (q_aload_n dX8_placeBehind_4 rfl rfl) ?_
  refine mRun.go (q_callVv (r := 132) [mr r] [] dX8_placeBehind_5 co_X8_212 ⟨Nat.le_of_ble_eq_true rfl, Nat.le_of_ble_eq_true rfl⟩ gw_392 gw_393 rfl (dm_w hD) rfl rfl rfl (Nat.le_of_ble_eq_true rfl) (k_tcopy (dm_w hD) hr hne hI)) ?_
  refine mRun.go (q_aload_n dX8_placeBehind_8 rfl rfl) ?_
  refine mRun.go (q_getR dX8_placeBehind_9 fo_X8_65 hD.1 rfl) ?_
  refine mRun.go (q_iload_n dX8_placeBehind_12 rfl rfl) ?_
  refine mRun.go (q_putI dX8_placeBehind_13 fo_X8_159 fp_6_2 (dm_w hD) rfl) ?_
  have e1 : mup (tset I 132 (tget I r)) 132 2 d = tset I 132 (sdr (tget I r) d) := by rw [mup_t2]; simp only [tset_tset, tset_0, tset_1, tset_3, tset_4, tset_5]; rfl
  rw [e1]
  have hok1 := sdrc_ok hrt hd
  have hN1 : Nrm (tset I 132 (sdr (tget I r) d)) := nrm_trv hI (by have := lp_rng hL; omega) (by have := hL.2.2.1; omega) hok1
  refine mRun.go (q_aload_n dX8_placeBehind_16 rfl rfl) ?_
  refine mRun.go (q_getR dX8_placeBehind_17 fo_X8_75 hD.1 rfl) ?_
  refine mRun.go (q_aload_n dX8_placeBehind_20 rfl rfl) ?_
  refine mRun.go (q_getR dX8_placeBehind_21 fo_X8_26 hD.1 rfl) ?_
  refine mRun.go (q_aload_n dX8_placeBehind_24 rfl rfl) ?_
  refine mRun.go (q_getR dX8_placeBehind_25 fo_X8_33 hD.1 rfl) ?_
  refine mRun.go (q_aload_n dX8_placeBehind_28 rfl rfl) ?_
  refine mRun.go (q_getR dX8_placeBehind_29 fo_X8_65 hD.1 rfl) ?_
  refine mRun.go (q_getE (x := d) dX8_placeBehind_32 fo_X8_159 (dm_w hD) rfl (by simp [tset, sdr])) ?_
  refine mRun.go (q_aload_n dX8_placeBehind_35 rfl rfl) ?_
  refine mRun.go (q_getR dX8_placeBehind_36 fo_X8_65 hD.1 rfl) ?_
  refine mRun.go (q_getE (x := (tget I r).2.1) dX8_placeBehind_39 fo_X8_156 (dm_w hD) rfl (by simp [tset, sdr])) ?_
  obtain ⟨v0, h0, hc0, rfl, K, rfl, hK, hfK, hkn⟩ := k_lrn (w := 134) hN1 (dm_y hD) (dm_l hD) (dm_n hD) hL (lrc_tset hLR (by omega)) (hF.fr hL (fun r a b => by funext k; exact tset_ne (by omega)) (by funext k; exact tset_ne (by decide))) hd hrt.2.1 (by decide) (by omega)
  refine mRun.go (q_callVv (r := 134) [mr 21, mr 28, mi d, mi ((tget I r).2.1)] [] dX8_placeBehind_42 co_X8_174 ⟨Nat.le_of_ble_eq_true rfl, Nat.le_of_ble_eq_true rfl⟩ gw_502 gw_503 rfl (dm_y hD).1 rfl rfl rfl (Nat.le_of_ble_eq_true rfl) hc0) ?_
  refine mRun.go (q_iconst dX8_placeBehind_45) ?_
  refine mRun.go (q_istore (ls' := [some (mr 0), some (mr r), some (mi d), some (mi (N : Int)), some (mi 0)]) dX8_placeBehind_46 (Nat.le_of_ble_eq_true rfl) rfl) ?_
  have e2 : (iter (sfx L (fT F) (fW F) d (nrmT (tget I r)).2.1) N (sdr (nrmT (tget I r)) d)).1 = (iter (sfc L (fT F) (fW F) d (tget I r).2.1) N (sdr (tget I r) d)).1 := by
    rw [← sdr_nrm, show (nrmT (tget I r)).2.1 = (tget I r).2.1 from rfl]
    have := (iter_ok (P := lP L) (nd := lD L) (f := sfc L (fT F) (fW F) d (tget I r).2.1) (g := sfx L (fT F) (fW F) d (tget I r).2.1) (fun t ht => sfc_nrm ht) (fun t ht => sfc_ok hL ht) N _ hok1).2
    rw [← this]; rfl
  rw [e2]
  refine (k_placeBehind_loop (N := N) (d := d) (g := (tget I r).2.1) (t0 := sdr (tget I r) d) hI hD hL hLR hF hwF hd hNN (N + 1) 0 K (sdr (tget I r) d) (by omega) (by omega) hK (fun q a b => (hfK q (by omega) (by omega)).trans (by funext k; exact tset_ne a)) hkn ?_ hok1 rfl)
  simp only [tget]
  rw [hfK 132 (by decide) (by decide)]
  exact tget_tset
