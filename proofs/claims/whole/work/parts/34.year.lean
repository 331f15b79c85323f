/-! ===== DrumMaps: an hour of a forest, a year's draws ===== -/
noncomputable def stc (L : Ld) (F : Fs) (t : Tv) : Tv := sfc L (fT F) (fW F) t.2.2.1 t.2.1 t
def Hr (I K : mI) (f : Nat) (L : Ld) (F : Fs) (t : Nat) : Prop := (∀ r, (r < f + 4 ∨ f + 8 ≤ r) → (r < 134 ∨ 138 < r) → K r = I r) ∧ (∀ u, u < t → tget K (f + 4 + u) = stc L F (tget I (f + 4 + u))) ∧ ∀ u, t ≤ u → u < 4 → tget K (f + 4 + u) = tget I (f + 4 + u)
theorem hr_ok {I K : mI} {f t : Nat} {L : Ld} {F : Fs} (hL : LdOk L) (hF : FRC I f L F) (h : Hr I K f L F t) {u : Nat} (hu : (u : Int) < lTv L) : TvOk (lP L) (lD L) (tget K (f + 4 + u)) := by
  have h4 := hL.2.2.2.1
  by_cases q : u < t
  · rw [h.2.1 u q]
    exact sfc_ok hL (hF.2.2.2 u hu).2
  · rw [h.2.2 u (by omega) (by omega)]
    exact (hF.2.2.2 u hu).2
theorem hr_frc {I K : mI} {f t : Nat} {L : Ld} {F : Fs} (hL : LdOk L) (hfa : f = 28 ∨ f = 124) (hF : FRC I f L F) (h : Hr I K f L F t) : FRC K f L (fW F, fH F, fT F, fun u => nrmT (tget K (f + 4 + u))) := by
  refine ⟨by rw [h.1 f (by omega) (by omega)]; exact hF.1, by rw [h.1 f (by omega) (by omega)]; exact hF.2.1, fun d x a b c e => ?_, fun u hu => ⟨rfl, hr_ok hL hF h hu⟩⟩
  rw [tel_fr (I := I) (h.1 _ (by omega) (by omega)) (h.1 _ (by omega) (by omega))]
  exact hF.2.2.1 d x a b c e
theorem hr_step {I K J : mI} {f t : Nat} {L : Ld} {F : Fs} (hfa : f = 28 ∨ f = 124) (h : Hr I K f L F t) (ht : t < 4) (hJ : ∀ r, (r < 134 ∨ 138 < r) → J r = K r) : Hr I (tset J (f + 4 + t) (stc L F (tget I (f + 4 + t)))) f L F (t + 1) := by
  have hg : ∀ u, u < 4 → tget J (f + 4 + u) = tget K (f + 4 + u) := fun u hu => by simp only [tget]; rw [hJ (f + 4 + u) (by omega)]
  refine ⟨fun r a b => ?_, fun u hu => ?_, fun u hu h4 => ?_⟩
  · rw [← h.1 r a b, ← hJ r b]
    funext k
    exact tset_ne (by omega)
  · by_cases q : u = t
    · subst q
      exact tget_tset
    · rw [tget_tset_ne (by omega), hg u (by omega)]
      exact h.2.1 u (by omega)
  · rw [tget_tset_ne (by omega), hg u (by omega)]
    exact h.2.2 u (by omega) h4
theorem hr_end {I K : mI} {f t : Nat} {L : Ld} {F : Fs} (hL : LdOk L) (hfa : f = 28 ∨ f = 124) (hF : FRC I f L F) (h : Hr I K f L F t) (ht : (t : Int) = lTv L) : FRC (mup K f 3 (fH F + 1)) f L (hourF L F) := by
  refine ⟨by rw [mup_ne2 (by decide), h.1 f (by omega) (by omega)]; exact hF.1, mup_self, fun d x a b c e => ?_, fun u hu => ?_⟩
  · rw [tel_fr (I := I) (by rw [mup_nf (by omega)]; exact h.1 _ (by omega) (by omega)) (by rw [mup_nf (by omega)]; exact h.1 _ (by omega) (by omega))]
    exact hF.2.2.1 d x a b c e
  · rw [tget_mup_ne (by omega)]
    refine ⟨?_, hr_ok hL hF h hu⟩
    rw [h.2.1 u (by omega)]
    show _ = if (u : Int) < lTv L then stp L (fT F) (fW F) (fV F u) else fV F u
    rw [if_pos hu, ← (hF.2.2.2 u hu).1]
    exact sfc_nrm (hF.2.2.2 u hu).2

set_option maxRecDepth 100000 in
theorem k_letHourPass_loop {σ : List mC} {I : mI} {L : Ld} (hI : Nrm I) (hD : IsDM σ) (hL : LdOk L) (hLR : LRC I L) {f : Nat} {F : Fs} (hf : IsForest σ f) (hF : FRC I f L F) (hfa : f = 28 ∨ f = 124) (hwF : 0 ≤ fW F ∧ fW F ≤ 3) (hh0 : 0 ≤ fH F ∧ fH F ≤ 2000000000) : ∀ (n t : Nat) (K : mI) (o3 : Option mV), (lTv L).toNat - t < n → t ≤ (lTv L).toNat → Nrm K → Hr I K f L F t → mRun mZt mX8_letHourPass 2 [some (mr 0), some (mr f), some (mi (t : Int)), o3] [] (σ, K) (fun v h => v = none ∧ ∃ K, h = (σ, K) ∧ Nrm K ∧ (∀ r, (r < f ∨ f + 8 ≤ r) → (r < 134 ∨ 138 < r) → K r = I r) ∧ FRC K f L (hourF L F)) := by
  intro n
  induction n with
  | zero => intro t K o3 h; omega
  | succ n ih =>
    intro t K o3 hn ht0 hK hh
    have hnt := hL.2.2.2.1
    have hdr := hL.2.2.1
    have hpr := lp_rng hL
    refine mRun.go (q_iload_n dX8_letHourPass_2 rfl rfl) ?_
    refine mRun.go (q_aload_n dX8_letHourPass_3 rfl rfl) ?_
    refine mRun.go (q_getR dX8_letHourPass_4 fo_X8_26 hD.1 rfl) ?_
    refine mRun.go (q_getE (x := lTv L) dX8_letHourPass_7 fo_X8_279 (dm_l hD).1 rfl (by first | (rw [hh.1 21 (by omega) (by omega)]; exact hLR.2.2.2.1) | (rw [hJ2 21 (by omega), hh.1 21 (by omega) (by omega)]; exact hLR.2.2.2.1))) ?_
    refine r_icmp_ge (tgt := 65) dX8_letHourPass_10 (by decide) (by omega) (by omega) (fun c10 => ?_) (fun c10 => ?_)
    · refine mRun.go (q_aload_n dX8_letHourPass_65 rfl rfl) ?_
      refine mRun.go (q_dup dX8_letHourPass_66 rfl) ?_
      refine mRun.go (q_getE (x := fH F) dX8_letHourPass_67 fo_X8_195 hf.1 rfl (by rw [hh.1 f (by omega) (by omega)]; exact hF.2.1)) ?_
      refine mRun.go (q_iconst dX8_letHourPass_70) ?_
      refine mRun.go (q_iadd dX8_letHourPass_71) ?_
      refine mRun.go (q_putI dX8_letHourPass_72 fo_X8_195 fp_0_3 hf.1 rfl) ?_
      refine r_ret dX8_letHourPass_75 rfl ?_
      refine ⟨rfl, _, rfl, nrm_mup hK (by omega), fun r a b => ?_, hr_end hL hfa hF hh (by omega)⟩
      rw [mup_nf (by omega)]
      exact hh.1 r (by omega) b
    · refine mRun.go (q_aload_n dX8_letHourPass_13 rfl rfl) ?_
      refine mRun.go (q_iload_n dX8_letHourPass_14 rfl rfl) ?_
      have hot : TvOk (lP L) (lD L) (tget I (f + 4 + t)) := (hF.2.2.2 t (by omega)).2
      have htK : tget K (f + 4 + t) = tget I (f + 4 + t) := hh.2.2 t (Nat.le_refl t) (by omega)
      have hgd := hot.2.2.1
      have hgg := hot.2.1
      refine mRun.go (q_callVi (r := f) [mi (t : Int)] [] dX8_letHourPass_15 co_X8_149 ⟨Nat.le_of_ble_eq_true rfl, Nat.le_of_ble_eq_true rfl⟩ gw_348 gw_349 rfl hf.1 rfl rfl rfl (Nat.le_of_ble_eq_true rfl) (k_whoN hf (by omega))) ?_
      refine mRun.go (q_astore_n (ls' := [some (mr 0), some (mr f), some (mi (t : Int)), some (mr (f + 4 + t))]) dX8_letHourPass_18 rfl (Nat.le_of_ble_eq_true rfl) rfl) ?_
      refine mRun.go (q_aload_n dX8_letHourPass_19 rfl rfl) ?_
      refine mRun.go (q_callVi (r := f + 4 + t) [] [] dX8_letHourPass_20 co_X8_295 ⟨Nat.le_of_ble_eq_true rfl, Nat.le_of_ble_eq_true rfl⟩ gw_564 gw_565 rfl (hf.2.2.2 t (by omega)) rfl rfl rfl (Nat.le_of_ble_eq_true rfl) (k_must (hf.2.2.2 t (by omega)) hK)) ?_
      refine r_if_eq (tgt := 46) dX8_letHourPass_23 (by decide) (by split <;> omega) (fun c23 => ?_) (fun c23 => ?_)
      · refine mRun.go (q_aload_n dX8_letHourPass_46 rfl rfl) ?_
        refine mRun.go (q_aload_n dX8_letHourPass_47 rfl rfl) ?_
        refine mRun.go (q_aload_n dX8_letHourPass_48 rfl rfl) ?_
        refine mRun.go (q_getR dX8_letHourPass_49 fo_X8_75 hD.1 rfl) ?_
        refine mRun.go (q_aload_n dX8_letHourPass_52 rfl rfl) ?_
        refine mRun.go (q_getE (x := fW F) dX8_letHourPass_53 fo_X8_136 hf.1 rfl (by first | (rw [hh.1 f (by omega) (by omega)]; exact hF.1) | (rw [hJ2 f (by omega), hh.1 f (by omega) (by omega)]; exact hF.1))) ?_
        have htJ : tget K (f + 4 + t) = tget I (f + 4 + t) := htK
        have hwk := @k_walkHour σ K L hK hD hL (hLR.fr (fun r a b => hh.1 r (by omega) (by omega))) (f + 4 + t) 134 (tget I (f + 4 + t)).2.1.toNat (ent L (fT F) (fW F) (tget I (f + 4 + t)).2.2.1) (fW F) (hf.2.2.2 t (by omega)) (dm_y hD) (by omega) (wfg_e hL) (fun q => absurd q (fun z => by rw [if_pos z] at c23; omega)) (by rw [htJ]; exact hot)
        rw [htJ] at hwk
        refine mRun.go (q_callVv (r := 0) [mr (f + 4 + t), mr 134, mi (fW F)] [] dX8_letHourPass_56 co_X8_238 ⟨Nat.le_of_ble_eq_true rfl, Nat.le_of_ble_eq_true rfl⟩ gw_569 gs_13 rfl hD.1 rfl rfl rfl (Nat.le_of_ble_eq_true rfl) hwk) ?_
        refine mRun.go (q_iinc (ls' := [some (mr 0), some (mr f), some (mi ((t : Int) + 1)), some (mr (f + 4 + t))]) dX8_letHourPass_59 rfl (Nat.le_of_ble_eq_true rfl) rfl) ?_
        refine mRun.go (q_goto (tgt := 2) dX8_letHourPass_62 (by decide)) ?_
        have e1 : ((t : Int) + 1) = ((t + 1 : Nat) : Int) := by omega
        rw [e1]
        exact ih (t + 1) _ _ (by omega) (by omega) (nrm_trv hK (by have := lp_rng hL; omega) (by omega) (sfc_ok hL hot)) (hr_step hfa hh (by omega) (fun _ _ => rfl))
      · refine mRun.go (q_aload_n dX8_letHourPass_26 rfl rfl) ?_
        refine mRun.go (q_getR dX8_letHourPass_27 fo_X8_75 hD.1 rfl) ?_
        refine mRun.go (q_aload_n dX8_letHourPass_30 rfl rfl) ?_
        refine mRun.go (q_getR dX8_letHourPass_31 fo_X8_26 hD.1 rfl) ?_
        refine mRun.go (q_aload_n dX8_letHourPass_34 rfl rfl) ?_
        refine mRun.go (q_aload_n dX8_letHourPass_35 rfl rfl) ?_
        refine mRun.go (q_getE (x := (tget I (f + 4 + t)).2.2.1) dX8_letHourPass_36 fo_X8_159 (hf.2.2.2 t (by omega)) rfl (by rw [← hh.2.2 t (Nat.le_refl t) (by omega)]; rfl)) ?_
        refine mRun.go (q_aload_n dX8_letHourPass_39 rfl rfl) ?_
        refine mRun.go (q_getE (x := (tget I (f + 4 + t)).2.1) dX8_letHourPass_40 fo_X8_156 (hf.2.2.2 t (by omega)) rfl (by rw [← hh.2.2 t (Nat.le_refl t) (by omega)]; rfl)) ?_
        obtain ⟨v0, h0, hc0, rfl, J, rfl, hJ, hfJ, hkn⟩ := k_lrn (w := 134) (d := (tget I (f + 4 + t)).2.2.1) (g := (tget I (f + 4 + t)).2.1) hK (dm_y hD) (dm_l hD) hf hL (hLR.fr (fun r a b => hh.1 r (by omega) (by omega))) (hr_frc hL hfa hF hh) (by omega) (by omega) (by decide) (by omega)
        have hJ2 : ∀ r, (r < 134 ∨ 138 < r) → J r = K r := fun r a => hfJ r (by omega) (by omega)
        refine mRun.go (q_callVv (r := 134) [mr 21, mr f, mi ((tget I (f + 4 + t)).2.2.1), mi ((tget I (f + 4 + t)).2.1)] [] dX8_letHourPass_43 co_X8_174 ⟨Nat.le_of_ble_eq_true rfl, Nat.le_of_ble_eq_true rfl⟩ gw_502 gw_503 rfl (dm_y hD).1 rfl rfl rfl (Nat.le_of_ble_eq_true rfl) hc0) ?_
        refine mRun.go (q_aload_n dX8_letHourPass_46 rfl rfl) ?_
        refine mRun.go (q_aload_n dX8_letHourPass_47 rfl rfl) ?_
        refine mRun.go (q_aload_n dX8_letHourPass_48 rfl rfl) ?_
        refine mRun.go (q_getR dX8_letHourPass_49 fo_X8_75 hD.1 rfl) ?_
        refine mRun.go (q_aload_n dX8_letHourPass_52 rfl rfl) ?_
        refine mRun.go (q_getE (x := fW F) dX8_letHourPass_53 fo_X8_136 hf.1 rfl (by first | (rw [hh.1 f (by omega) (by omega)]; exact hF.1) | (rw [hJ2 f (by omega), hh.1 f (by omega) (by omega)]; exact hF.1))) ?_
        have htJ : tget J (f + 4 + t) = tget I (f + 4 + t) := by rw [← htK]; simp only [tget]; rw [hJ2 (f + 4 + t) (by omega)]
        have hwk := @k_walkHour σ J L hJ hD hL (hLR.fr (fun r a b => (hJ2 r (by omega)).trans (hh.1 r (by omega) (by omega)))) (f + 4 + t) 134 (tget I (f + 4 + t)).2.1.toNat (ent L (fT F) (fW F) (tget I (f + 4 + t)).2.2.1) (fW F) (hf.2.2.2 t (by omega)) (dm_y hD) (by omega) (wfg_e hL) (fun _ => hkn) (by rw [htJ]; exact hot)
        rw [htJ] at hwk
        refine mRun.go (q_callVv (r := 0) [mr (f + 4 + t), mr 134, mi (fW F)] [] dX8_letHourPass_56 co_X8_238 ⟨Nat.le_of_ble_eq_true rfl, Nat.le_of_ble_eq_true rfl⟩ gw_569 gs_13 rfl hD.1 rfl rfl rfl (Nat.le_of_ble_eq_true rfl) hwk) ?_
        refine mRun.go (q_iinc (ls' := [some (mr 0), some (mr f), some (mi ((t : Int) + 1)), some (mr (f + 4 + t))]) dX8_letHourPass_59 rfl (Nat.le_of_ble_eq_true rfl) rfl) ?_
        refine mRun.go (q_goto (tgt := 2) dX8_letHourPass_62 (by decide)) ?_
        have e1 : ((t : Int) + 1) = ((t + 1 : Nat) : Int) := by omega
        rw [e1]
        exact ih (t + 1) _ _ (by omega) (by omega) (nrm_trv hJ (by have := lp_rng hL; omega) (by omega) (sfc_ok hL hot)) (hr_step hfa hh (by omega) hJ2)

set_option maxRecDepth 100000 in
theorem k_letHourPass {σ : List mC} {I : mI} {L : Ld} (hI : Nrm I) (hD : IsDM σ) (hL : LdOk L) (hLR : LRC I L) {f : Nat} {F : Fs} (hf : IsForest σ f) (hF : FRC I f L F) (hfa : f = 28 ∨ f = 124) (hwF : 0 ≤ fW F ∧ fW F ≤ 3) (hh0 : 0 ≤ fH F ∧ fH F ≤ 2000000000)  : mMt mX8_letHourPass [mr 0, mr f] (σ, I) (fun v h => v = none ∧ ∃ K, h = (σ, K) ∧ Nrm K ∧ (∀ r, (r < f ∨ f + 8 ≤ r) → (r < 134 ∨ 138 < r) → K r = I r) ∧ FRC K f L (hourF L F)) := by
  refine mMt.of pl_8 (Nat.le_of_ble_eq_true rfl) ?_
  show mRun mZt mX8_letHourPass 0 [some (mr 0), some (mr f), none, none] [] (σ, I) _
  refine mRun.go (q_iconst dX8_letHourPass_0) ?_
  refine mRun.go (q_istore_n (ls' := [some (mr 0), some (mr f), some (mi 0), none]) dX8_letHourPass_1 rfl (Nat.le_of_ble_eq_true rfl) rfl) ?_
  exact k_letHourPass_loop hI hD hL hLR hf hF hfa hwF hh0 ((lTv L).toNat + 1) 0 I none (by omega) (by omega) hI ⟨fun _ _ _ => rfl, fun u hu => by omega, fun _ _ _ => rfl⟩

theorem frc_setW {I : mI} {f : Nat} {L : Ld} {F : Fs} {x : Int} (h : FRC I f L F) (hL : LdOk L) (hf : f + 8 ≤ 21 ∨ 28 ≤ f) : FRC (mup I f 2 x) f L (setW F x) := by
  refine ⟨mup_self, by rw [mup_ne2 (by decide)]; exact h.2.1, fun d y a b c e => ?_, fun t ht => ?_⟩
  · rw [tel_fr (I := I) (mup_nf (by omega)) (mup_nf (by omega))]
    exact h.2.2.1 d y a b c e
  · have := hL.2.2.2.1
    rw [tget_mup_ne (by omega)]
    exact h.2.2.2 t ht
theorem rput_nf {I : mI} {r n q : Nat} {i x : Int} (h : q ≠ r + 1) : rput I r n i x q = I q := by
  unfold rput
  split
  · exact mup_nf h
  · rfl
theorem tel_rput {I : mI} {f : Nat} {d x d' x' v : Int} (hd : 0 ≤ d ∧ d < 4) (hx : 0 ≤ x ∧ x < 36) (hd' : 0 ≤ d' ∧ d' < 4) (hx' : 0 ≤ x' ∧ x' < 36) (hf : f + 8 ≤ 21 ∨ 28 ≤ f) : tel (rput I (f + 1) 144 (d * 36 + x) v) f 21 d' x' = if d' = d ∧ x' = x then (if v = -1 then rat I (21 + 1) 36 x' else v) else tel I f 21 d' x' := by
  have e0 : rput I (f + 1) 144 (d * 36 + x) v = mup I (f + 1 + 1) (d * 36 + x).toNat v := rput_nat (by omega) (by omega)
  have e1 : ∀ J : mI, rat J (f + 1) 144 (d' * 36 + x') = J (f + 1 + 1) (d' * 36 + x').toNat := fun J => rat_nat (by omega) (by omega)
  have e2 : rat (mup I (f + 1 + 1) (d * 36 + x).toNat v) (21 + 1) 36 x' = rat I (21 + 1) 36 x' := rat_fr (mup_nf (by omega))
  rw [e0]
  unfold tel
  rw [e1, e1, e2]
  by_cases q : d' = d ∧ x' = x
  · rw [if_pos q, q.1, q.2, mup_self]
  · rw [if_neg q, mup_ne2 (by omega)]
theorem frc_setTl {I : mI} {f : Nat} {L : Ld} {F : Fs} {d x v u : Int} (h : FRC I f L F) (hl : LRC I L) (hL : LdOk L) (hf : f + 8 ≤ 21 ∨ 28 ≤ f) (hd : 0 ≤ d ∧ d < lD L) (hx : 0 ≤ x ∧ x < lP L) (hv : u = if v = -1 then lG L x else v) : FRC (rput I (f + 1) 144 (d * 36 + x) v) f L (setTl F (36 * d + x) u) := by
  have hdr := hL.2.2.1
  have hpr := lp_rng hL
  refine ⟨by rw [rput_nf (by omega)]; exact h.1, by rw [rput_nf (by omega)]; exact h.2.1, fun d' y a b c e => ?_, fun t ht => ?_⟩
  · rw [tel_rput (by omega) (by omega) (by omega) (by omega) hf]
    show _ = iup (fT F) (36 * d + x) u (36 * d' + y)
    unfold iup
    by_cases q : d' = d ∧ y = x
    · rw [if_pos q, if_pos (show 36 * d' + y = 36 * d + x by omega), hv, q.2, lrc_g hl hL hx]
    · rw [if_neg q, if_neg (by omega)]
      exact h.2.2.1 d' y a b c e
  · have := hL.2.2.2.1
    have e : tget (rput I (f + 1) 144 (d * 36 + x) v) (f + 4 + t) = tget I (f + 4 + t) := by
      simp only [tget]
      rw [rput_nf (by omega)]
    rw [e]
    exact h.2.2.2 t ht
theorem frc_setV {I : mI} {f t : Nat} {L : Ld} {F : Fs} {v : Tv} (h : FRC I f L F) (hL : LdOk L) (hf : f + 8 ≤ 21 ∨ 28 ≤ f) (ht : (t : Int) < lTv L) (hv : TvOk (lP L) (lD L) v) : FRC (tset I (f + 4 + t) v) f L (setV F t (nrmT v)) := by
  have := hL.2.2.2.1
  refine ⟨by rw [tset_ne (by omega)]; exact h.1, by rw [tset_ne (by omega)]; exact h.2.1, fun d y a b c e => ?_, fun u hu => ?_⟩
  · rw [tel_fr (I := I) (by funext k; exact tset_ne (by omega)) (by funext k; exact tset_ne (by omega))]
    exact h.2.2.1 d y a b c e
  · by_cases q : u = t
    · subst q
      rw [tget_tset]
      exact ⟨by show _ = (if u = u then nrmT v else _); rw [if_pos rfl], hv⟩
    · rw [tget_tset_ne (by omega)]
      show _ = (if u = t then nrmT v else _) ∧ _
      rw [if_neg q]
      exact h.2.2.2 u hu

set_option maxRecDepth 100000 in
theorem k_sendIf {σ : List mC} {I : mI} {L : Ld} (hI : Nrm I) (hD : IsDM σ) (hL : LdOk L) (hLR : LRC I L) {f : Nat} {F : Fs} (hf : IsForest σ f) (hF : FRC I f L F) (hfa2 : f + 8 ≤ 21 ∨ 28 ≤ f) {t x : Int} (ht : -2147483648 ≤ t ∧ t < 2147483648) (hx : 0 ≤ x ∧ x < lP L) : mMt mX8_sendIfHeCan [mr 0, mr f, mi t, mi x] (σ, I) (fun v h => v = none ∧ ∃ K, h = (σ, K) ∧ Nrm K ∧ (∀ r, (r < f ∨ f + 8 ≤ r) → K r = I r) ∧ FRC K f L (sendF L F t x)) := by
  refine mMt.of pl_8 (Nat.le_of_ble_eq_true rfl) ?_
  show mRun mZt mX8_sendIfHeCan 0 [some (mr 0), some (mr f), some (mi t), some (mi x)] [] (σ, I) _
  have hnt := hL.2.2.2.1
  have hdr := hL.2.2.1
  have hpr := lp_rng hL
  refine mRun.go (q_aload_n dX8_sendIfHeCan_0 rfl rfl) ?_
  refine mRun.go (q_getR dX8_sendIfHeCan_1 fo_X8_26 hD.1 rfl) ?_
  refine mRun.go (q_iload_n dX8_sendIfHeCan_4 rfl rfl) ?_
  have hht := @k_hasTrv σ I 21 t (dm_l hD) hI (by omega)
  rw [hLR.2.2.2.1] at hht
  refine mRun.go (q_callVi (r := 21) [mi t] [] dX8_sendIfHeCan_5 co_X8_146 ⟨Nat.le_of_ble_eq_true rfl, Nat.le_of_ble_eq_true rfl⟩ gw_489 gw_490 rfl (dm_l hD).1 rfl rfl rfl (Nat.le_of_ble_eq_true rfl) hht) ?_
  refine r_if_eq (tgt := 32) dX8_sendIfHeCan_8 (by decide) (by split <;> omega) (fun c8 => ?_) (fun c8 => ?_)
  · refine r_ret dX8_sendIfHeCan_32 rfl ?_
    have e : sendF L F t x = F := by
      unfold sendF
      rw [if_neg (fun q => by rw [if_pos q.1] at c8; omega)]
    rw [e]
    exact ⟨rfl, I, rfl, hI, fun _ _ => rfl, hF⟩
  · refine mRun.go (q_aload_n dX8_sendIfHeCan_11 rfl rfl) ?_
    refine mRun.go (q_iload_n dX8_sendIfHeCan_12 rfl rfl) ?_
    have htt : 0 ≤ t ∧ t < lTv L := Classical.byContradiction fun q => by rw [if_neg q] at c8; omega
    have hot := hF.2.2.2 t.toNat (by omega)
    refine mRun.go (q_callVi (r := f) [mi t] [] dX8_sendIfHeCan_13 co_X8_149 ⟨Nat.le_of_ble_eq_true rfl, Nat.le_of_ble_eq_true rfl⟩ gw_348 gw_349 rfl hf.1 rfl rfl rfl (Nat.le_of_ble_eq_true rfl) (k_who hf (by omega))) ?_
    refine mRun.go (q_getE (x := (tget I (f + 4 + t.toNat)).2.2.2.1) dX8_sendIfHeCan_16 fo_X8_162 (hf.2.2.2 t.toNat (by omega)) rfl rfl) ?_
    refine mRun.go (q_iconst dX8_sendIfHeCan_19) ?_
    refine r_icmp_eq (tgt := 32) dX8_sendIfHeCan_20 (by decide) (by have := hot.2.2.2.2.1; omega) (by omega) (fun c20 => ?_) (fun c20 => ?_)
    · refine r_ret dX8_sendIfHeCan_32 rfl ?_
      have e : sendF L F t x = F := by
        unfold sendF
        rw [← hot.1, if_neg (fun q => q.2 c20)]
      rw [e]
      exact ⟨rfl, I, rfl, hI, fun _ _ => rfl, hF⟩
    · refine mRun.go (q_aload_n dX8_sendIfHeCan_23 rfl rfl) ?_
      refine mRun.go (q_iload_n dX8_sendIfHeCan_24 rfl rfl) ?_
      refine mRun.go (q_callVi (r := f) [mi t] [] dX8_sendIfHeCan_25 co_X8_149 ⟨Nat.le_of_ble_eq_true rfl, Nat.le_of_ble_eq_true rfl⟩ gw_348 gw_349 rfl hf.1 rfl rfl rfl (Nat.le_of_ble_eq_true rfl) (k_who hf (by omega))) ?_
      refine mRun.go (q_iload_n dX8_sendIfHeCan_28 rfl rfl) ?_
      refine mRun.go (q_callVv (r := f + 4 + t.toNat) [mi x] [] dX8_sendIfHeCan_29 co_X8_202 ⟨Nat.le_of_ble_eq_true rfl, Nat.le_of_ble_eq_true rfl⟩ gw_356 gw_357 rfl (hf.2.2.2 t.toNat (by omega)) rfl rfl rfl (Nat.le_of_ble_eq_true rfl) (k_goTo (hf.2.2.2 t.toNat (by omega)) hI (by omega))) ?_
      refine r_ret dX8_sendIfHeCan_32 rfl ?_
      have e : sendF L F t x = setV F t.toNat (nrmT (goToT (tget I (f + 4 + t.toNat)) x)) := by
        unfold sendF
        rw [← hot.1, if_pos ⟨htt, c20⟩, goTo_nrm]
      rw [e]
      exact ⟨rfl, _, rfl, nrm_trv hI (by omega) (by omega) (goToc_ok hot.2 hx), fun r a => by funext k; exact tset_ne (by omega), frc_setV hF hL hfa2 (by omega) (goToc_ok hot.2 hx)⟩

set_option maxRecDepth 100000 in
theorem k_stir {σ : List mC} {I : mI} {L : Ld} (hI : Nrm I) (hD : IsDM σ) (hL : LdOk L) (hLR : LRC I L) {f : Nat} {F : Fs} (hf : IsForest σ f) (hF : FRC I f L F) (hfa2 : f + 8 ≤ 21 ∨ 28 ≤ f) {q : Int} (hq : 0 ≤ q ∧ q < 65521) : mMt mX8_stir [mr 0, mr f, mi q] (σ, I) (fun v h => v = none ∧ ∃ K, h = (σ, K) ∧ Nrm K ∧ (∀ r, (r < f ∨ f + 8 ≤ r) → K r = I r) ∧ FRC K f L (stirF L F q)) := by
  refine mMt.of pl_8 (Nat.le_of_ble_eq_true rfl) ?_
  show mRun mZt mX8_stir 0 [some (mr 0), some (mr f), some (mi q), none, none] [] (σ, I) _
  have hnt := hL.2.2.2.1
  have hdr := hL.2.2.1
  have hpr := lp_rng hL
  refine mRun.go (q_iload_n dX8_stir_0 rfl rfl) ?_
  refine mRun.go (q_bipush dX8_stir_1 (by decide)) ?_
  refine mRun.go (q_idiv dX8_stir_3 (by omega) (by omega)) ?_
  refine mRun.go (q_istore_n (ls' := [some (mr 0), some (mr f), some (mi q), some (mi (q / 8)), none]) dX8_stir_4 rfl (Nat.le_of_ble_eq_true rfl) rfl) ?_
  refine mRun.go (q_iload_n dX8_stir_5 rfl rfl) ?_
  refine mRun.go (q_bipush dX8_stir_6 (by decide)) ?_
  refine mRun.go (q_idiv dX8_stir_8 (by omega) (by omega)) ?_
  refine mRun.go (q_aload_n dX8_stir_9 rfl rfl) ?_
  refine mRun.go (q_getR dX8_stir_10 fo_X8_26 hD.1 rfl) ?_
  refine mRun.go (q_getE (x := lP L) dX8_stir_13 fo_X8_113 (dm_l hD).1 rfl hLR.1) ?_
  have hm16 := @mdl_rng (q / 32) (lP L) (by omega)
  refine mRun.go (q_callSi [mi (q / 32), mi (lP L)] [] dX8_stir_16 co_X8_317 ⟨Nat.le_of_ble_eq_true rfl, Nat.le_of_ble_eq_true rfl⟩ gw_382 rfl rfl (Nat.le_of_ble_eq_true rfl) (k_modulo (by omega) (by omega))) ?_
  refine mRun.go (q_istore (ls' := [some (mr 0), some (mr f), some (mi q), some (mi (q / 8)), some (mi (mdl (q / 32) (lP L)))]) dX8_stir_19 (Nat.le_of_ble_eq_true rfl) rfl) ?_
  refine mRun.go (q_iload_n dX8_stir_21 rfl rfl) ?_
  refine mRun.go (q_bipush dX8_stir_22 (by decide)) ?_
  refine mRun.go (q_irem dX8_stir_24 (by omega) (by omega)) ?_
  rcases (show (q % 8) = 0 ∨ (q % 8) = 1 ∨ (q % 8) = 2 ∨ ((q % 8) < 0 ∨ 2 < (q % 8)) by omega) with s25 | s25 | s25 | s25
  · refine mRun.go (q_tsw_in (off := 27) (tgt := 52) dX8_stir_25 (by omega) (by omega) (by rw [s25]; rfl) (by decide)) ?_
    refine mRun.go (q_aload_n dX8_stir_52 rfl rfl) ?_
    refine mRun.go (q_iload_n dX8_stir_53 rfl rfl) ?_
    refine mRun.go (q_iconst dX8_stir_54) ?_
    refine mRun.go (q_irem dX8_stir_55 (by omega) (by omega)) ?_
    refine mRun.go (q_putI dX8_stir_56 fo_X8_136 fp_0_2 hf.1 rfl) ?_
    refine mRun.go (q_goto (tgt := 110) dX8_stir_59 (by decide)) ?_
    refine r_ret dX8_stir_110 rfl ?_
    have e : stirF L F q = setW F (q / 8 % 4) := by unfold stirF; rw [if_pos (by omega)]
    rw [e]
    exact ⟨rfl, _, rfl, nrm_mup hI (by omega), fun r a => mup_nf (by omega), frc_setW hF hL hfa2⟩
  · refine mRun.go (q_tsw_in (off := 37) (tgt := 62) dX8_stir_25 (by omega) (by omega) (by rw [s25]; rfl) (by decide)) ?_
    refine mRun.go (q_aload_n dX8_stir_62 rfl rfl) ?_
    refine mRun.go (q_iload_n dX8_stir_63 rfl rfl) ?_
    refine mRun.go (q_aload_n dX8_stir_64 rfl rfl) ?_
    refine mRun.go (q_getR dX8_stir_65 fo_X8_26 hD.1 rfl) ?_
    refine mRun.go (q_getE (x := lD L) dX8_stir_68 fo_X8_225 (dm_l hD).1 rfl hLR.2.2.1) ?_
    have hm71 := @mdl_rng (q / 8) (lD L) (by omega)
    refine mRun.go (q_callSi [mi (q / 8), mi (lD L)] [mr f] dX8_stir_71 co_X8_317 ⟨Nat.le_of_ble_eq_true rfl, Nat.le_of_ble_eq_true rfl⟩ gw_382 rfl rfl (Nat.le_of_ble_eq_true rfl) (k_modulo (by omega) (by omega))) ?_
    refine mRun.go (q_iload dX8_stir_74 rfl) ?_
    refine mRun.go (q_iload_n dX8_stir_76 rfl rfl) ?_
    refine mRun.go (q_sipush dX8_stir_77 (by decide)) ?_
    refine mRun.go (q_idiv dX8_stir_80 (by omega) (by omega)) ?_
    refine mRun.go (q_iconst dX8_stir_81) ?_
    refine mRun.go (q_irem dX8_stir_82 (by omega) (by omega)) ?_
    refine mRun.go (q_callVv (r := f) [mi (mdl (q / 8) (lD L)), mi (mdl (q / 32) (lP L)), mi ((q / 2048) % 4)] [] dX8_stir_83 co_X8_198 ⟨Nat.le_of_ble_eq_true rfl, Nat.le_of_ble_eq_true rfl⟩ gw_339 gw_340 rfl hf.1 rfl rfl rfl (Nat.le_of_ble_eq_true rfl) (k_setTold hf hI (by omega) (by omega) (by omega))) ?_
    refine mRun.go (q_goto (tgt := 110) dX8_stir_86 (by decide)) ?_
    refine r_ret dX8_stir_110 rfl ?_
    have e : stirF L F q = setTl F (36 * mdl (q / 8) (lD L) + mdl (q / 32) (lP L)) (q / 2048 % 4) := by unfold stirF; rw [if_neg (by omega), if_pos (by omega)]
    rw [e]
    exact ⟨rfl, _, rfl, nrm_rput hI (by omega), fun r a => rput_nf (by omega), frc_setTl hF hLR hL hfa2 (by omega) (by omega) (by rw [if_neg (by omega)])⟩
  · refine mRun.go (q_tsw_in (off := 64) (tgt := 89) dX8_stir_25 (by omega) (by omega) (by rw [s25]; rfl) (by decide)) ?_
    refine mRun.go (q_aload_n dX8_stir_89 rfl rfl) ?_
    refine mRun.go (q_aload_n dX8_stir_90 rfl rfl) ?_
    refine mRun.go (q_iload_n dX8_stir_91 rfl rfl) ?_
    refine mRun.go (q_aload_n dX8_stir_92 rfl rfl) ?_
    refine mRun.go (q_getR dX8_stir_93 fo_X8_26 hD.1 rfl) ?_
    refine mRun.go (q_getE (x := lTv L) dX8_stir_96 fo_X8_279 (dm_l hD).1 rfl hLR.2.2.2.1) ?_
    have hm99 := @mdl_rng (q / 8) (lTv L) (by omega)
    refine mRun.go (q_callSi [mi (q / 8), mi (lTv L)] [mr f, mr 0] dX8_stir_99 co_X8_317 ⟨Nat.le_of_ble_eq_true rfl, Nat.le_of_ble_eq_true rfl⟩ gw_382 rfl rfl (Nat.le_of_ble_eq_true rfl) (k_modulo (by omega) (by omega))) ?_
    refine mRun.go (q_iload dX8_stir_102 rfl) ?_
    obtain ⟨v0, h0, hc0, rfl, K, rfl, hK, hfK, hFK⟩ := @k_sendIf σ I L hI hD hL hLR f F hf hF hfa2 (mdl (q / 8) (lTv L)) (mdl (q / 32) (lP L)) (by omega) (by omega)
    refine mRun.go (q_callVv (r := 0) [mr f, mi (mdl (q / 8) (lTv L)), mi (mdl (q / 32) (lP L))] [] dX8_stir_104 co_X8_320 ⟨Nat.le_of_ble_eq_true rfl, Nat.le_of_ble_eq_true rfl⟩ gw_709 gs_22 rfl hD.1 rfl rfl rfl (Nat.le_of_ble_eq_true rfl) hc0) ?_
    refine mRun.go (q_goto (tgt := 110) dX8_stir_107 (by decide)) ?_
    refine r_ret dX8_stir_110 rfl ?_
    have e : stirF L F q = sendF L F (mdl (q / 8) (lTv L)) (mdl (q / 32) (lP L)) := by unfold stirF; rw [if_neg (by omega), if_neg (by omega), if_pos (by omega)]
    rw [e]
    exact ⟨rfl, K, rfl, hK, hfK, hFK⟩
  · refine mRun.go (q_tsw_out (tgt := 110) dX8_stir_25 (by omega) s25 (by decide)) ?_
    refine r_ret dX8_stir_110 rfl ?_
    have e : stirF L F q = F := by unfold stirF; rw [if_neg (by omega), if_neg (by omega), if_neg (by omega)]
    rw [e]
    exact ⟨rfl, I, rfl, hI, fun _ _ => rfl, hF⟩

theorem draw_sq {z k : Int} (hz : 0 ≤ z ∧ z < 10000) (hk : 0 ≤ k ∧ k < 100) : 0 ≤ (7919 * z + 6151 * k + 1) * (7919 * z + 6151 * k + 1) ∧ (7919 * z + 6151 * k + 1) * (7919 * z + 6151 * k + 1) < 9223372036854775808 := by
  have h1 : 0 ≤ 7919 * z + 6151 * k + 1 := by omega
  have h2 : 7919 * z + 6151 * k + 1 ≤ 100000000 := by omega
  refine ⟨Int.mul_nonneg h1 h1, ?_⟩
  have := Int.mul_le_mul h2 h2 h1 (by decide)
  omega

set_option maxRecDepth 100000 in
theorem k_drawOf {h : mH} {z k : Int} (hz : 0 ≤ z ∧ z < 10000) (hk : 0 ≤ k ∧ k < 100) : mCt mX8_drawOf [mi z, mi k] h (some (mi (drawS z k))) h := by
  refine mCt.eq ?_
  refine mMt.of pl_8 (Nat.le_of_ble_eq_true rfl) ?_
  show mRun mZt mX8_drawOf 0 [some (mi z), some (mi k), none, none] [] h _
  refine mRun.go (q_ldc2 (a := 7919) dX8_drawOf_0 gw_699) ?_
  refine mRun.go (q_iload_n dX8_drawOf_3 rfl rfl) ?_
  refine mRun.go (q_i2l dX8_drawOf_4 (by omega)) ?_
  refine mRun.go (q_lmul dX8_drawOf_5) ?_
  refine mRun.go (q_ldc2 (a := 6151) dX8_drawOf_6 gw_700) ?_
  refine mRun.go (q_iload_n dX8_drawOf_9 rfl rfl) ?_
  refine mRun.go (q_i2l dX8_drawOf_10 (by omega)) ?_
  refine mRun.go (q_lmul dX8_drawOf_11) ?_
  refine mRun.go (q_ladd dX8_drawOf_12) ?_
  refine mRun.go (q_lconst (a := 1) dX8_drawOf_13 (by decide)) ?_
  refine mRun.go (q_ladd dX8_drawOf_14) ?_
  refine mRun.go (q_lstore_n (ls' := [some (mi z), some (mi k), some (ml (((7919 * z) + (6151 * k)) + 1)), none]) dX8_drawOf_15 rfl (Nat.le_of_ble_eq_true rfl) rfl) ?_
  refine mRun.go (q_lload_n dX8_drawOf_16 rfl rfl) ?_
  refine mRun.go (q_lload_n dX8_drawOf_17 rfl rfl) ?_
  refine mRun.go (q_lmul dX8_drawOf_18) ?_
  refine mRun.go (q_ldc2 (a := 65521) dX8_drawOf_19 gw_701) ?_
  refine mRun.go (q_lrem dX8_drawOf_22 (draw_sq hz hk) (by omega)) ?_
  refine mRun.go (q_l2i dX8_drawOf_23) ?_
  refine r_iret dX8_drawOf_24 rfl ?_
  exact ⟨rfl, rfl⟩
