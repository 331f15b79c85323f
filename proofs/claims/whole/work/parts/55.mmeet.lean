/-! ===== the reference: meetings, the best change ===== -/
theorem setV_comm {F : Fs} {t u : Nat} {v w : Tv} (h : t ≠ u) : setV (setV F u w) t v = setV (setV F t v) u w := by
  have e : (fun z => if z = t then v else (if z = u then w else fV F z)) = fun z => if z = u then w else (if z = t then v else fV F z) := by
    funext z
    by_cases q : z = t
    · rw [if_pos q, if_neg (by omega), if_pos q]
    · rw [if_neg q, if_neg q]
  show (fW F, fH F, fT F, fun z => if z = t then v else (if z = u then w else fV F z)) = _
  rw [e]
  rfl
theorem setV_ne {F : Fs} {t u : Nat} {w : Tv} (h : t ≠ u) : fV (setV F u w) t = fV F t := if_neg h
theorem frm_tl {J : mI} {L : Ld} {F : Fs} {d x v : Int} (h : FRM J 148 0 L F) (hL : LdOk L) (hd : 0 ≤ d ∧ d < lD L) (hx : 0 ≤ x ∧ x < lP L) : FRM (mup J 148 (2 + 36 * d + x).toNat v) 148 0 L (setTl F (36 * d + x) v) := by
  have hdr := hL.2.2.1
  have hpr := lp_rng hL
  have hnt := hL.2.2.2.1
  refine ⟨by rw [mup_ne2 (by omega)]; exact h.1, by rw [mup_ne2 (by omega)]; exact h.2.1, fun d' y a b c e => ?_, fun t ht => ?_⟩
  · show _ = iup (fT F) (36 * d + x) v (36 * d' + y)
    unfold iup
    by_cases q : 36 * d' + y = 36 * d + x
    · rw [if_pos q, q, show (2 + 36 * d + x).toNat = 0 + 2 + (36 * d + x).toNat by omega, mup_self]
    · rw [if_neg q, mup_ne2 (by omega)]
      exact h.2.2.1 d' y a b c e
  · rw [show fV (setTl F (36 * d + x) v) t = fV F t from rfl, ← h.2.2.2 t ht]
    unfold tvM
    rw [mup_ne2 (by omega), mup_ne2 (by omega), mup_ne2 (by omega), mup_ne2 (by omega), mup_ne2 (by omega), mup_ne2 (by omega)]

set_option maxRecDepth 100000 in
theorem g_meet_loop {σ : List mC} {I : mI} {S : Sx} {B t u A : Int} (hM : MS σ I S) (hS : SxOk B S) (htt : isT S t) (huu : isT S u) (hne : t ≠ u) : ∀ (n m : Nat) (K : mI) (a b : Tv), 61 - m < n → m ≤ 61 → Nrm K → FrM I K → FRM K 148 0 (sL S) (setV (setV (sF S) t.toNat a) u.toNat b) → TvM (lP (sL S)) (lD (sL S)) a → TvM (lP (sL S)) (lD (sL S)) b → (a.2.2.1 = (tvS S t).2.2.1 ∧ a.2.1 = (tvS S t).2.1) → (b.2.2.1 = (tvS S u).2.2.1 ∧ b.2.1 = (tvS S u).2.1) → mtT (sfS S (tvS S t)) (sfS S (tvS S u)) (61 - m) m a b = A → mRun mZt mX9_meet 41 [some (mr 144), some (mi t), some (mi u), some (mi (m : Int))] [] (σ, K) (OutM σ I S A) := by
  intro n
  induction n with
  | zero => intro m K a b h; omega
  | succ n ih =>
    intro m K a b hn hm hK hfQ hFK hva hvb hda hdb hA
    have hI := hM.1
    have hD := hM.2.1
    have hL := hS.1
    have hsz := hM.2.2.1
    have hLR := hM.2.2.2.2.2.2.1
    have hF := hM.2.2.2.2.2.2.2.1
    have hun := hM.2.2.2.2.2.2.2.2.1
    have hpa := hM.2.2.2.2.2.2.2.2.2.1
    have hkm := hM.2.2.2.2.2.2.2.2.2.2.1
    have hke := hM.2.2.2.2.2.2.2.2.2.2.2.1
    have hhm := hM.2.2.2.2.2.2.2.2.2.2.2.2.1
    have hhe := hM.2.2.2.2.2.2.2.2.2.2.2.2.2.1
    have hN := hM.2.2.2.2.2.2.2.2.2.2.2.2.2.2
    have hpr := lp_rng hL
    have hqe := lq_eq hL
    have hwr := hL.2.1
    have hrr := hL.1
    have hdr := hL.2.2.1
    have hnt := hL.2.2.2.1
    have hwF := hS.2.1.1
    have hhF := hS.2.1.2.1
    have hvF := hS.2.1.2.2.2
    have hH8 := hS.2.2.2.2.2.2.1
    have hU8 := hS.2.2.1
    have hK2 := hS.2.2.2.2.1
    have hLn := hS.2.2.2.2.2.2.2.2
    have htt : 0 ≤ t ∧ t < lTv (sL S) := htt
    have huu : 0 ≤ u ∧ u < lTv (sL S) := huu
    have htu : t.toNat ≠ u.toNat := by omega
    refine mRun.go (q_iload_n dX9_meet_41 rfl rfl) ?_
    refine mRun.go (q_bipush dX9_meet_42 (by decide)) ?_
    refine r_icmp_ge (tgt := 122) dX9_meet_44 (by decide) (by omega) (by omega) (fun c44 => ?_) (fun c44 => ?_)
    · refine mRun.go (q_bipush dX9_meet_122 (by decide)) ?_
      refine r_iret dX9_meet_124 rfl ?_
      have e2 : mtT (sfS S (tvS S t)) (sfS S (tvS S u)) (61 - m) m a b = -4 := by rw [show 61 - m = 0 by omega]; rfl
      rw [← hA, e2]
      exact outm_q hM hS hK hfQ
    · refine mRun.go (q_aload_n dX9_meet_47 rfl rfl) ?_
      refine mRun.go (q_getR dX9_meet_48 fo_X9_19 hD.1 rfl) ?_
      refine mRun.go (q_sipush dX9_meet_51 (by decide)) ?_
      refine mRun.go (q_iload_n dX9_meet_54 rfl rfl) ?_
      refine mRun.go (q_iadd dX9_meet_55) ?_
      refine mRun.go (q_ialdE (x := a.1) dX9_meet_56 hD.2.2.2.2.1 (by omega) (by omega) (by have h := (tv6i (hFK.2.2.2 t.toNat (by omega))).1; rw [setV_ne htu, setV_at, show ((t.toNat : Nat) : Int) = t by omega] at h; exact h)) ?_
      refine mRun.go (q_aload_n dX9_meet_57 rfl rfl) ?_
      refine mRun.go (q_getR dX9_meet_58 fo_X9_19 hD.1 rfl) ?_
      refine mRun.go (q_sipush dX9_meet_61 (by decide)) ?_
      refine mRun.go (q_iload_n dX9_meet_64 rfl rfl) ?_
      refine mRun.go (q_iadd dX9_meet_65) ?_
      refine mRun.go (q_ialdE (x := b.1) dX9_meet_66 hD.2.2.2.2.1 (by omega) (by omega) (by have h := (tv6i (hFK.2.2.2 u.toNat (by omega))).1; rw [setV_at, show ((u.toNat : Nat) : Int) = u by omega] at h; exact h)) ?_
      refine r_icmp_ne (tgt := 98) dX9_meet_67 (by decide) (by have := hva.1; have := hva.2.2.2.2.2; omega) (by have := hvb.1; have := hvb.2.2.2.2.2; omega) (fun c67 => ?_) (fun c67 => ?_)
      · refine mRun.go (q_aload_n dX9_meet_98 rfl rfl) ?_
        refine mRun.go (q_aload_n dX9_meet_99 rfl rfl) ?_
        refine mRun.go (q_getR dX9_meet_100 fo_X9_19 hD.1 rfl) ?_
        refine mRun.go (q_iload_n dX9_meet_103 rfl rfl) ?_
        have hct : fV (setV (setV (sF S) t.toNat a) u.toNat b) t.toNat = a := (setV_ne htu).trans setV_at
        obtain ⟨v0, h0, hc0, rfl, J, rfl, hJ, hfJ, hFJ⟩ := m_oneGoes (t := t.toNat) hK hD hL (hLR.frm hfQ) hD.2.2.2.2.1 hFK (Or.inr rfl) (by omega) hwF (by rw [hct]; exact hva)
        rw [hct, setV_comm htu, setV_setV] at hFJ
        have hsa : stp (sL S) (fT (setV (setV (sF S) t.toNat a) u.toNat b)) (fW (setV (setV (sF S) t.toNat a) u.toNat b)) a = (sfS S (tvS S t)) a := by show sfx (sL S) (fT (sF S)) (fW (sF S)) a.2.2.1 a.2.1 a = _; rw [hda.1, hda.2]; rfl
        rw [hsa] at hFJ
        rw [show ((t.toNat : Nat) : Int) = t by omega] at hc0
        refine mRun.go (q_callVv (r := 144) [mr 148, mi t] [] dX9_meet_104 co_X9_214 ⟨Nat.le_of_ble_eq_true rfl, Nat.le_of_ble_eq_true rfl⟩ gw_1000 gs_49 rfl hD.1 rfl rfl rfl (Nat.le_of_ble_eq_true rfl) hc0) ?_
        refine mRun.go (q_aload_n dX9_meet_107 rfl rfl) ?_
        refine mRun.go (q_aload_n dX9_meet_108 rfl rfl) ?_
        refine mRun.go (q_getR dX9_meet_109 fo_X9_19 hD.1 rfl) ?_
        refine mRun.go (q_iload_n dX9_meet_112 rfl rfl) ?_
        have hcu : fV (setV (setV (sF S) t.toNat ((sfS S (tvS S t)) a)) u.toNat b) u.toNat = b := setV_at
        have hfJQ := frm_tr hfQ (frm_a hfJ)
        obtain ⟨v1, h1, hc1, rfl, J2, rfl, hJ2, hfJ2, hFJ2⟩ := m_oneGoes (t := u.toNat) hJ hD hL (hLR.frm hfJQ) hD.2.2.2.2.1 hFJ (Or.inr rfl) (by omega) hwF (by rw [hcu]; exact hvb)
        rw [hcu, setV_setV] at hFJ2
        have hsb : stp (sL S) (fT (setV (setV (sF S) t.toNat ((sfS S (tvS S t)) a)) u.toNat b)) (fW (setV (setV (sF S) t.toNat ((sfS S (tvS S t)) a)) u.toNat b)) b = (sfS S (tvS S u)) b := by show sfx (sL S) (fT (sF S)) (fW (sF S)) b.2.2.1 b.2.1 b = _; rw [hdb.1, hdb.2]; rfl
        rw [hsb] at hFJ2
        rw [show ((u.toNat : Nat) : Int) = u by omega] at hc1
        refine mRun.go (q_callVv (r := 144) [mr 148, mi u] [] dX9_meet_113 co_X9_214 ⟨Nat.le_of_ble_eq_true rfl, Nat.le_of_ble_eq_true rfl⟩ gw_1000 gs_49 rfl hD.1 rfl rfl rfl (Nat.le_of_ble_eq_true rfl) hc1) ?_
        refine mRun.go (q_iinc (ls' := [some (mr 144), some (mi t), some (mi u), some (mi ((m : Int) + 1))]) dX9_meet_116 rfl (Nat.le_of_ble_eq_true rfl) rfl) ?_
        refine mRun.go (q_goto (tgt := 41) dX9_meet_119 (by decide)) ?_
        have e1 : ((m : Int) + 1) = ((m + 1 : Nat) : Int) := by omega
        rw [e1]
        have e2 : mtT (sfS S (tvS S t)) (sfS S (tvS S u)) (61 - m) m a b = mtT (sfS S (tvS S t)) (sfS S (tvS S u)) (61 - (m + 1)) ((m + 1 : Nat) : Int) ((sfS S (tvS S t)) a) ((sfS S (tvS S u)) b) := by
          rw [show 61 - m = (61 - (m + 1)) + 1 by omega]
          simp only [mtT]
          rw [if_neg (by omega), ← e1]
        have ga := @stepM_dg (hpS (sL S) (fT (sF S)) (fW (sF S)) (tvS S t).2.2.1 (tvS S t).2.1) (lG (sL S)) (fW (sF S)) a
        have gb := @stepM_dg (hpS (sL S) (fT (sF S)) (fW (sF S)) (tvS S u).2.2.1 (tvS S u).2.1) (lG (sL S)) (fW (sF S)) b
        exact ih (m + 1) J2 ((sfS S (tvS S t)) a) ((sfS S (tvS S u)) b) (by omega) (by omega) hJ2 (frm_tr hfJQ (frm_a hfJ2)) hFJ2 (sfx_ok hL hva) (sfx_ok hL hvb) ⟨ga.2.trans hda.1, ga.1.trans hda.2⟩ ⟨gb.2.trans hdb.1, gb.1.trans hdb.2⟩ (e2.symm.trans hA)
      · refine mRun.go (q_aload_n dX9_meet_70 rfl rfl) ?_
        refine mRun.go (q_getR dX9_meet_71 fo_X9_19 hD.1 rfl) ?_
        refine mRun.go (q_sipush dX9_meet_74 (by decide)) ?_
        refine mRun.go (q_iload_n dX9_meet_77 rfl rfl) ?_
        refine mRun.go (q_iadd dX9_meet_78) ?_
        refine mRun.go (q_ialdE (x := a.2.2.2.2.2) dX9_meet_79 hD.2.2.2.2.1 (by omega) (by omega) (by have h := (tv6i (hFK.2.2.2 t.toNat (by omega))).2.2.2.2.2; rw [setV_ne htu, setV_at, show ((t.toNat : Nat) : Int) = t by omega] at h; exact h)) ?_
        refine r_if_ne (tgt := 98) dX9_meet_80 (by decide) (by have := hva.1; have := hva.2.2.2.2.2; omega) (fun c80 => ?_) (fun c80 => ?_)
        · refine mRun.go (q_aload_n dX9_meet_98 rfl rfl) ?_
          refine mRun.go (q_aload_n dX9_meet_99 rfl rfl) ?_
          refine mRun.go (q_getR dX9_meet_100 fo_X9_19 hD.1 rfl) ?_
          refine mRun.go (q_iload_n dX9_meet_103 rfl rfl) ?_
          have hct : fV (setV (setV (sF S) t.toNat a) u.toNat b) t.toNat = a := (setV_ne htu).trans setV_at
          obtain ⟨v0, h0, hc0, rfl, J, rfl, hJ, hfJ, hFJ⟩ := m_oneGoes (t := t.toNat) hK hD hL (hLR.frm hfQ) hD.2.2.2.2.1 hFK (Or.inr rfl) (by omega) hwF (by rw [hct]; exact hva)
          rw [hct, setV_comm htu, setV_setV] at hFJ
          have hsa : stp (sL S) (fT (setV (setV (sF S) t.toNat a) u.toNat b)) (fW (setV (setV (sF S) t.toNat a) u.toNat b)) a = (sfS S (tvS S t)) a := by show sfx (sL S) (fT (sF S)) (fW (sF S)) a.2.2.1 a.2.1 a = _; rw [hda.1, hda.2]; rfl
          rw [hsa] at hFJ
          rw [show ((t.toNat : Nat) : Int) = t by omega] at hc0
          refine mRun.go (q_callVv (r := 144) [mr 148, mi t] [] dX9_meet_104 co_X9_214 ⟨Nat.le_of_ble_eq_true rfl, Nat.le_of_ble_eq_true rfl⟩ gw_1000 gs_49 rfl hD.1 rfl rfl rfl (Nat.le_of_ble_eq_true rfl) hc0) ?_
          refine mRun.go (q_aload_n dX9_meet_107 rfl rfl) ?_
          refine mRun.go (q_aload_n dX9_meet_108 rfl rfl) ?_
          refine mRun.go (q_getR dX9_meet_109 fo_X9_19 hD.1 rfl) ?_
          refine mRun.go (q_iload_n dX9_meet_112 rfl rfl) ?_
          have hcu : fV (setV (setV (sF S) t.toNat ((sfS S (tvS S t)) a)) u.toNat b) u.toNat = b := setV_at
          have hfJQ := frm_tr hfQ (frm_a hfJ)
          obtain ⟨v1, h1, hc1, rfl, J2, rfl, hJ2, hfJ2, hFJ2⟩ := m_oneGoes (t := u.toNat) hJ hD hL (hLR.frm hfJQ) hD.2.2.2.2.1 hFJ (Or.inr rfl) (by omega) hwF (by rw [hcu]; exact hvb)
          rw [hcu, setV_setV] at hFJ2
          have hsb : stp (sL S) (fT (setV (setV (sF S) t.toNat ((sfS S (tvS S t)) a)) u.toNat b)) (fW (setV (setV (sF S) t.toNat ((sfS S (tvS S t)) a)) u.toNat b)) b = (sfS S (tvS S u)) b := by show sfx (sL S) (fT (sF S)) (fW (sF S)) b.2.2.1 b.2.1 b = _; rw [hdb.1, hdb.2]; rfl
          rw [hsb] at hFJ2
          rw [show ((u.toNat : Nat) : Int) = u by omega] at hc1
          refine mRun.go (q_callVv (r := 144) [mr 148, mi u] [] dX9_meet_113 co_X9_214 ⟨Nat.le_of_ble_eq_true rfl, Nat.le_of_ble_eq_true rfl⟩ gw_1000 gs_49 rfl hD.1 rfl rfl rfl (Nat.le_of_ble_eq_true rfl) hc1) ?_
          refine mRun.go (q_iinc (ls' := [some (mr 144), some (mi t), some (mi u), some (mi ((m : Int) + 1))]) dX9_meet_116 rfl (Nat.le_of_ble_eq_true rfl) rfl) ?_
          refine mRun.go (q_goto (tgt := 41) dX9_meet_119 (by decide)) ?_
          have e1 : ((m : Int) + 1) = ((m + 1 : Nat) : Int) := by omega
          rw [e1]
          have e2 : mtT (sfS S (tvS S t)) (sfS S (tvS S u)) (61 - m) m a b = mtT (sfS S (tvS S t)) (sfS S (tvS S u)) (61 - (m + 1)) ((m + 1 : Nat) : Int) ((sfS S (tvS S t)) a) ((sfS S (tvS S u)) b) := by
            rw [show 61 - m = (61 - (m + 1)) + 1 by omega]
            simp only [mtT]
            rw [if_neg (by omega), ← e1]
          have ga := @stepM_dg (hpS (sL S) (fT (sF S)) (fW (sF S)) (tvS S t).2.2.1 (tvS S t).2.1) (lG (sL S)) (fW (sF S)) a
          have gb := @stepM_dg (hpS (sL S) (fT (sF S)) (fW (sF S)) (tvS S u).2.2.1 (tvS S u).2.1) (lG (sL S)) (fW (sF S)) b
          exact ih (m + 1) J2 ((sfS S (tvS S t)) a) ((sfS S (tvS S u)) b) (by omega) (by omega) hJ2 (frm_tr hfJQ (frm_a hfJ2)) hFJ2 (sfx_ok hL hva) (sfx_ok hL hvb) ⟨ga.2.trans hda.1, ga.1.trans hda.2⟩ ⟨gb.2.trans hdb.1, gb.1.trans hdb.2⟩ (e2.symm.trans hA)
        · refine mRun.go (q_aload_n dX9_meet_83 rfl rfl) ?_
          refine mRun.go (q_getR dX9_meet_84 fo_X9_19 hD.1 rfl) ?_
          refine mRun.go (q_sipush dX9_meet_87 (by decide)) ?_
          refine mRun.go (q_iload_n dX9_meet_90 rfl rfl) ?_
          refine mRun.go (q_iadd dX9_meet_91) ?_
          refine mRun.go (q_ialdE (x := b.2.2.2.2.2) dX9_meet_92 hD.2.2.2.2.1 (by omega) (by omega) (by have h := (tv6i (hFK.2.2.2 u.toNat (by omega))).2.2.2.2.2; rw [setV_at, show ((u.toNat : Nat) : Int) = u by omega] at h; exact h)) ?_
          refine r_if_ne (tgt := 98) dX9_meet_93 (by decide) (by have := hvb.1; have := hvb.2.2.2.2.2; omega) (fun c93 => ?_) (fun c93 => ?_)
          · refine mRun.go (q_aload_n dX9_meet_98 rfl rfl) ?_
            refine mRun.go (q_aload_n dX9_meet_99 rfl rfl) ?_
            refine mRun.go (q_getR dX9_meet_100 fo_X9_19 hD.1 rfl) ?_
            refine mRun.go (q_iload_n dX9_meet_103 rfl rfl) ?_
            have hct : fV (setV (setV (sF S) t.toNat a) u.toNat b) t.toNat = a := (setV_ne htu).trans setV_at
            obtain ⟨v0, h0, hc0, rfl, J, rfl, hJ, hfJ, hFJ⟩ := m_oneGoes (t := t.toNat) hK hD hL (hLR.frm hfQ) hD.2.2.2.2.1 hFK (Or.inr rfl) (by omega) hwF (by rw [hct]; exact hva)
            rw [hct, setV_comm htu, setV_setV] at hFJ
            have hsa : stp (sL S) (fT (setV (setV (sF S) t.toNat a) u.toNat b)) (fW (setV (setV (sF S) t.toNat a) u.toNat b)) a = (sfS S (tvS S t)) a := by show sfx (sL S) (fT (sF S)) (fW (sF S)) a.2.2.1 a.2.1 a = _; rw [hda.1, hda.2]; rfl
            rw [hsa] at hFJ
            rw [show ((t.toNat : Nat) : Int) = t by omega] at hc0
            refine mRun.go (q_callVv (r := 144) [mr 148, mi t] [] dX9_meet_104 co_X9_214 ⟨Nat.le_of_ble_eq_true rfl, Nat.le_of_ble_eq_true rfl⟩ gw_1000 gs_49 rfl hD.1 rfl rfl rfl (Nat.le_of_ble_eq_true rfl) hc0) ?_
            refine mRun.go (q_aload_n dX9_meet_107 rfl rfl) ?_
            refine mRun.go (q_aload_n dX9_meet_108 rfl rfl) ?_
            refine mRun.go (q_getR dX9_meet_109 fo_X9_19 hD.1 rfl) ?_
            refine mRun.go (q_iload_n dX9_meet_112 rfl rfl) ?_
            have hcu : fV (setV (setV (sF S) t.toNat ((sfS S (tvS S t)) a)) u.toNat b) u.toNat = b := setV_at
            have hfJQ := frm_tr hfQ (frm_a hfJ)
            obtain ⟨v1, h1, hc1, rfl, J2, rfl, hJ2, hfJ2, hFJ2⟩ := m_oneGoes (t := u.toNat) hJ hD hL (hLR.frm hfJQ) hD.2.2.2.2.1 hFJ (Or.inr rfl) (by omega) hwF (by rw [hcu]; exact hvb)
            rw [hcu, setV_setV] at hFJ2
            have hsb : stp (sL S) (fT (setV (setV (sF S) t.toNat ((sfS S (tvS S t)) a)) u.toNat b)) (fW (setV (setV (sF S) t.toNat ((sfS S (tvS S t)) a)) u.toNat b)) b = (sfS S (tvS S u)) b := by show sfx (sL S) (fT (sF S)) (fW (sF S)) b.2.2.1 b.2.1 b = _; rw [hdb.1, hdb.2]; rfl
            rw [hsb] at hFJ2
            rw [show ((u.toNat : Nat) : Int) = u by omega] at hc1
            refine mRun.go (q_callVv (r := 144) [mr 148, mi u] [] dX9_meet_113 co_X9_214 ⟨Nat.le_of_ble_eq_true rfl, Nat.le_of_ble_eq_true rfl⟩ gw_1000 gs_49 rfl hD.1 rfl rfl rfl (Nat.le_of_ble_eq_true rfl) hc1) ?_
            refine mRun.go (q_iinc (ls' := [some (mr 144), some (mi t), some (mi u), some (mi ((m : Int) + 1))]) dX9_meet_116 rfl (Nat.le_of_ble_eq_true rfl) rfl) ?_
            refine mRun.go (q_goto (tgt := 41) dX9_meet_119 (by decide)) ?_
            have e1 : ((m : Int) + 1) = ((m + 1 : Nat) : Int) := by omega
            rw [e1]
            have e2 : mtT (sfS S (tvS S t)) (sfS S (tvS S u)) (61 - m) m a b = mtT (sfS S (tvS S t)) (sfS S (tvS S u)) (61 - (m + 1)) ((m + 1 : Nat) : Int) ((sfS S (tvS S t)) a) ((sfS S (tvS S u)) b) := by
              rw [show 61 - m = (61 - (m + 1)) + 1 by omega]
              simp only [mtT]
              rw [if_neg (by omega), ← e1]
            have ga := @stepM_dg (hpS (sL S) (fT (sF S)) (fW (sF S)) (tvS S t).2.2.1 (tvS S t).2.1) (lG (sL S)) (fW (sF S)) a
            have gb := @stepM_dg (hpS (sL S) (fT (sF S)) (fW (sF S)) (tvS S u).2.2.1 (tvS S u).2.1) (lG (sL S)) (fW (sF S)) b
            exact ih (m + 1) J2 ((sfS S (tvS S t)) a) ((sfS S (tvS S u)) b) (by omega) (by omega) hJ2 (frm_tr hfJQ (frm_a hfJ2)) hFJ2 (sfx_ok hL hva) (sfx_ok hL hvb) ⟨ga.2.trans hda.1, ga.1.trans hda.2⟩ ⟨gb.2.trans hdb.1, gb.1.trans hdb.2⟩ (e2.symm.trans hA)
          · refine mRun.go (q_iload_n dX9_meet_96 rfl rfl) ?_
            refine r_iret dX9_meet_97 rfl ?_
            have e2 : mtT (sfS S (tvS S t)) (sfS S (tvS S u)) (61 - m) m a b = (m : Int) := by
              rw [show 61 - m = (61 - (m + 1)) + 1 by omega]
              simp only [mtT]
              rw [if_pos ⟨by omega, by omega, by omega⟩]
            rw [← hA, e2]
            exact outm_q hM hS hK hfQ

set_option maxRecDepth 100000 in
theorem g_meet {σ : List mC} {I : mI} {S : Sx} {B : Int} {t u : Int} (hM : MS σ I S) (hS : SxOk B S) (ht : -2147483648 ≤ t ∧ t < 2147483648) (hu : -2147483648 ≤ u ∧ u < 2147483648) : mMt mX9_meet [mr 144, mi t, mi u] (σ, I) (OutM σ I S (a_meet S t u)) := by
  refine mMt.of pl_9 (Nat.le_of_ble_eq_true rfl) ?_
  show mRun mZt mX9_meet 0 [some (mr 144), some (mi t), some (mi u), none] [] (σ, I) _
  have hI := hM.1
  have hD := hM.2.1
  have hL := hS.1
  have hsz := hM.2.2.1
  have hLR := hM.2.2.2.2.2.2.1
  have hF := hM.2.2.2.2.2.2.2.1
  have hun := hM.2.2.2.2.2.2.2.2.1
  have hpa := hM.2.2.2.2.2.2.2.2.2.1
  have hkm := hM.2.2.2.2.2.2.2.2.2.2.1
  have hke := hM.2.2.2.2.2.2.2.2.2.2.2.1
  have hhm := hM.2.2.2.2.2.2.2.2.2.2.2.2.1
  have hhe := hM.2.2.2.2.2.2.2.2.2.2.2.2.2.1
  have hN := hM.2.2.2.2.2.2.2.2.2.2.2.2.2.2
  have hpr := lp_rng hL
  have hqe := lq_eq hL
  have hwr := hL.2.1
  have hrr := hL.1
  have hdr := hL.2.2.1
  have hnt := hL.2.2.2.1
  have hwF := hS.2.1.1
  have hhF := hS.2.1.2.1
  have hvF := hS.2.1.2.2.2
  have hH8 := hS.2.2.2.2.2.2.1
  have hU8 := hS.2.2.1
  have hK2 := hS.2.2.2.2.1
  have hLn := hS.2.2.2.2.2.2.2.2
  refine mRun.go (q_aload_n dX9_meet_0 rfl rfl) ?_
  refine mRun.go (q_iload_n dX9_meet_1 rfl rfl) ?_
  refine mRun.go (q_callVi (r := 144) [mi t] [] dX9_meet_2 co_X9_203 ⟨Nat.le_of_ble_eq_true rfl, Nat.le_of_ble_eq_true rfl⟩ gw_950 gs_41 rfl hD.1 rfl rfl rfl (Nat.le_of_ble_eq_true rfl) (m_isTraveller hI hD hL hLR hN ht)) ?_
  refine r_if_eq (tgt := 21) dX9_meet_5 (by decide) (by split <;> omega) (fun c5 => ?_) (fun c5 => ?_)
  · have h5 := ite00 c5
    refine mRun.go (q_iconst dX9_meet_21) ?_
    refine r_iret dX9_meet_22 rfl ?_
    have e0 : a_meet S t u = (-1) := by simp only [a_meet, isT]; rw [if_neg (by omega)]
    rw [e0]
    exact outm_q hM hS hI frm_rf
  · have h5 := ite01 c5
    refine mRun.go (q_aload_n dX9_meet_8 rfl rfl) ?_
    refine mRun.go (q_iload_n dX9_meet_9 rfl rfl) ?_
    refine mRun.go (q_callVi (r := 144) [mi u] [] dX9_meet_10 co_X9_203 ⟨Nat.le_of_ble_eq_true rfl, Nat.le_of_ble_eq_true rfl⟩ gw_950 gs_41 rfl hD.1 rfl rfl rfl (Nat.le_of_ble_eq_true rfl) (m_isTraveller hI hD hL hLR hN hu)) ?_
    refine r_if_eq (tgt := 21) dX9_meet_13 (by decide) (by split <;> omega) (fun c13 => ?_) (fun c13 => ?_)
    · have h13 := ite00 c13
      refine mRun.go (q_iconst dX9_meet_21) ?_
      refine r_iret dX9_meet_22 rfl ?_
      have e0 : a_meet S t u = (-1) := by simp only [a_meet, isT]; rw [if_neg (by omega)]
      rw [e0]
      exact outm_q hM hS hI frm_rf
    · have h13 := ite01 c13
      refine mRun.go (q_iload_n dX9_meet_16 rfl rfl) ?_
      refine mRun.go (q_iload_n dX9_meet_17 rfl rfl) ?_
      refine r_icmp_ne (tgt := 23) dX9_meet_18 (by decide) ht hu (fun c18 => ?_) (fun c18 => ?_)
      · refine mRun.go (q_aload_n dX9_meet_23 rfl rfl) ?_
        refine mRun.go (q_getR dX9_meet_24 fo_X9_16 hD.1 rfl) ?_
        refine mRun.go (q_iconst dX9_meet_27) ?_
        refine mRun.go (q_aload_n dX9_meet_28 rfl rfl) ?_
        refine mRun.go (q_getR dX9_meet_29 fo_X9_19 hD.1 rfl) ?_
        refine mRun.go (q_iconst dX9_meet_32) ?_
        refine mRun.go (q_sipush dX9_meet_33 (by decide)) ?_
        refine mRun.go (q_callSv [mr 147, mi 0, mr 148, mi 0, mi 170] [] dX9_meet_36 co_X9_97 ⟨Nat.le_of_ble_eq_true rfl, Nat.le_of_ble_eq_true rfl⟩ gw_755 rfl rfl (Nat.le_of_ble_eq_true rfl) (m_copies (i := 0) (j := 0) (m := 170) hI hD.2.2.2.1 hD.2.2.2.2.1 (by decide) (by decide) (by decide) (by decide) (by decide))) ?_
        refine mRun.go (q_iconst dX9_meet_39) ?_
        refine mRun.go (q_istore_n (ls' := [some (mr 144), some (mi t), some (mi u), some (mi 0)]) dX9_meet_40 rfl (Nat.le_of_ble_eq_true rfl) rfl) ?_
        have e0 : a_meet S t u = mtT (sfS S (tvS S t)) (sfS S (tvS S u)) 61 0 (tvS S t) (tvS S u) := by simp only [a_meet, isT]; rw [if_pos (by omega)]
        rw [e0]
        exact g_meet_loop hM hS (by omega) (by omega) (by omega) 62 0 (asd I) (tvS S t) (tvS S u) (by omega) (by omega) (nrm_mcp hI) asd_m (by rw [setV_self rfl, setV_self rfl]; exact asd_f hF hL) (hvF _ (by omega)) (hvF _ (by omega)) ⟨rfl, rfl⟩ ⟨rfl, rfl⟩ rfl
      · refine mRun.go (q_iconst dX9_meet_21) ?_
        refine r_iret dX9_meet_22 rfl ?_
        have e0 : a_meet S t u = (-1) := by simp only [a_meet, isT]; rw [if_neg (by omega)]
        rw [e0]
        exact outm_q hM hS hI frm_rf
