/-! ===== the reference: the calls that change the forest ===== -/
theorem rm_now {I K : mI} {S : Sx} {F : Fs} (h : RM I S) (hL : LdOk (sL S)) (hr : ∀ r, r ≠ 147 → r ≠ 159 → K r = I r) (hF : FRM K 147 0 (sL S) F) : RM K (putN S F) := by
  obtain ⟨a1, a2, a3, a4, a5, a6, a7, a8, a9, b1, b2, b3, b4⟩ := h
  have h4 := hr 144 (by decide) (by decide)
  refine ⟨by rw [h4]; exact a1, fun k hk' => by rw [hr 152 (by decide) (by decide)]; exact a2 k hk', a3, a4, a5.fr (by rw [h4]) (by rw [h4]) (by rw [h4]) (by rw [h4]) (hr 145 (by decide) (by decide)) (hr 146 (by decide) (by decide)), hF, by rw [h4]; exact a7, fun k hk' => (a8 k hk').fr hL (fun k _ _ => by rw [hr 149 (by decide) (by decide)]), by rw [h4]; exact a9, fun k hk' => (b1 k hk').fr hL (fun k _ _ => by rw [hr 150 (by decide) (by decide)]), by rw [h4]; exact b2, fun k hk' => by rw [hr 151 (by decide) (by decide)]; exact b3 k hk', by rw [h4]; exact b4⟩
theorem frm_wet {J : mI} {L : Ld} {F : Fs} {v : Int} {a : Nat} (h : FRM J a 0 L F) : FRM (mup J a 0 v) a 0 L (setW F v) := by
  refine ⟨mup_self, by rw [mup_ne2 (by decide)]; exact h.2.1, fun d x p q r s => by rw [mup_ne2 (by omega)]; exact h.2.2.1 d x p q r s, fun t ht => ?_⟩
  rw [show fV (setW F v) t = fV F t from rfl, ← h.2.2.2 t ht]
  unfold tvM
  rw [mup_ne2 (by omega), mup_ne2 (by omega), mup_ne2 (by omega), mup_ne2 (by omega), mup_ne2 (by omega), mup_ne2 (by omega)]
theorem frm_tlN {J : mI} {L : Ld} {F : Fs} {a : Nat} {d x v : Int} (h : FRM J a 0 L F) (hL : LdOk L) (hd : 0 ≤ d ∧ d < lD L) (hx : 0 ≤ x ∧ x < lP L) : FRM (mup J a (2 + 36 * d + x).toNat v) a 0 L (setTl F (36 * d + x) v) := by
  have hdr := hL.2.2.1
  have hpr := lp_rng hL
  have hnt := hL.2.2.2.1
  refine ⟨by rw [mup_ne2 (by omega)]; exact h.1, by rw [mup_ne2 (by omega)]; exact h.2.1, fun d' y a b c e => ?_, fun t ht => ?_⟩
  · show _ = iup (fT F) (36 * d + x) v (36 * d' + y)
    unfold iup
    by_cases q : 36 * d' + y = 36 * d + x
    · rw [if_pos q, q, show (2 + 36 * d + x).toNat = 0 + 2 + (36 * d + x).toNat by omega, mup_self]
    · rw [if_neg q, mup_ne2 (by omega)]
      exact h.2.2.1 d' y a b c e
  · rw [show fV (setTl F (36 * d + x) v) t = fV F t from rfl, ← h.2.2.2 t ht]
    unfold tvM
    rw [mup_ne2 (by omega), mup_ne2 (by omega), mup_ne2 (by omega), mup_ne2 (by omega), mup_ne2 (by omega), mup_ne2 (by omega)]
theorem frm_drumN {J : mI} {L : Ld} {F : Fs} {a : Nat} {t d : Int} (h : FRM J a 0 L F) (hL : LdOk L) (ht : 0 ≤ t ∧ t < lTv L) : FRM (mup J a (154 + t).toNat d) a 0 L (setV F t.toNat (sdr (fV F t.toNat) d)) := by
  have hnt := hL.2.2.2.1
  have h6 := tv6i (h.2.2.2 t.toNat (by omega))
  rw [show (154 + t).toNat = (154 + ((t.toNat : Nat) : Int)).toNat by omega]
  refine frm_setV h hL (by omega) (fun k hk n0 n1 n2 n3 n4 n5 => mup_ne2 n2) ?_
  exact tv6 (by rw [mup_ne2 (by omega)]; exact h6.1) (by rw [mup_ne2 (by omega)]; exact h6.2.1) (by rw [mup_self]; rfl) (by rw [mup_ne2 (by omega)]; exact h6.2.2.2.1) (by rw [mup_ne2 (by omega)]; exact h6.2.2.2.2.1) (by rw [mup_ne2 (by omega)]; exact h6.2.2.2.2.2)

set_option maxRecDepth 100000 in
theorem g_rain {σ : List mC} {I : mI} {S : Sx} {B : Int} {v : Int} (hM : MS σ I S) (hS : SxOk B S) (hv : -2147483648 ≤ v ∧ v < 2147483648) : mMt mX9_rain [mr 144, mi v] (σ, I) (OutM σ I (z_rain S v) (a_rain S v)) := by
  refine mMt.of pl_9 (Nat.le_of_ble_eq_true rfl) ?_
  show mRun mZt mX9_rain 0 [some (mr 144), some (mi v), none] [] (σ, I) _
  have hI := hM.1
  have hD := hM.2.1
  have hL := hS.1
  have hsz := hM.2.2.1
  have hLR := hM.2.2.2.2.2.2.1
  have hF := hM.2.2.2.2.2.2.2.1
  have hun := hM.2.2.2.2.2.2.2.2.1
  have hpa := hM.2.2.2.2.2.2.2.2.2.1
  have hkm := hM.2.2.2.2.2.2.2.2.2.2.1
  have hke := hM.2.2.2.2.2.2.2.2.2.2.2.1
  have hhm := hM.2.2.2.2.2.2.2.2.2.2.2.2.1
  have hhe := hM.2.2.2.2.2.2.2.2.2.2.2.2.2.1
  have hN := hM.2.2.2.2.2.2.2.2.2.2.2.2.2.2
  have hpr := lp_rng hL
  have hqe := lq_eq hL
  have hwr := hL.2.1
  have hrr := hL.1
  have hdr := hL.2.2.1
  have hnt := hL.2.2.2.1
  have hwF := hS.2.1.1
  have hhF := hS.2.1.2.1
  have hvF := hS.2.1.2.2.2
  have hH8 := hS.2.2.2.2.2.2.1
  have hU8 := hS.2.2.1
  have hK2 := hS.2.2.2.2.1
  have hLn := hS.2.2.2.2.2.2.2.2
  refine mRun.go (q_iload_n dX9_rain_0 rfl rfl) ?_
  refine mRun.go (q_i2l dX9_rain_1 hv) ?_
  refine mRun.go (q_lconst (a := 0) dX9_rain_2 (by decide)) ?_
  refine mRun.go (q_ldc2 (a := 3) dX9_rain_3 gw_1006) ?_
  refine mRun.go (q_callSi [ml v, ml 0, ml 3] [] dX9_rain_6 co_X9_114 ⟨Nat.le_of_ble_eq_true rfl, Nat.le_of_ble_eq_true rfl⟩ gw_855 rfl rfl (Nat.le_of_ble_eq_true rfl) (k_in (by omega) (by omega) (by omega))) ?_
  refine r_if_ne (tgt := 14) dX9_rain_9 (by decide) (by split <;> omega) (fun c9 => ?_) (fun c9 => ?_)
  · have h9 := ite01 c9
    refine mRun.go (q_aload_n dX9_rain_14 rfl rfl) ?_
    obtain ⟨v0, h0, hc0, rfl, K, rfl, hK, hlo, hRK⟩ := m_remember hM hS
    have hLRK : LRM K (sL S) := hRK.2.2.2.2.1
    have hFK : FRM K 147 0 (sL S) (sF S) := hRK.2.2.2.2.2.1
    refine mRun.go (q_callVv (r := 144) [] [] dX9_rain_15 co_X9_220 ⟨Nat.le_of_ble_eq_true rfl, Nat.le_of_ble_eq_true rfl⟩ gw_992 gs_47 rfl hD.1 rfl rfl rfl (Nat.le_of_ble_eq_true rfl) hc0) ?_
    refine mRun.go (q_aload_n dX9_rain_18 rfl rfl) ?_
    refine mRun.go (q_getR dX9_rain_19 fo_X9_16 hD.1 rfl) ?_
    refine mRun.go (q_iconst dX9_rain_22) ?_
    refine mRun.go (q_ialdE (x := fW (sF S)) dX9_rain_23 hD.2.2.2.1 (by omega) (by omega) hFK.1) ?_
    refine mRun.go (q_istore_n (ls' := [some (mr 144), some (mi v), some (mi (fW (sF S)))]) dX9_rain_24 rfl (Nat.le_of_ble_eq_true rfl) rfl) ?_
    refine mRun.go (q_aload_n dX9_rain_25 rfl rfl) ?_
    refine mRun.go (q_getR dX9_rain_26 fo_X9_16 hD.1 rfl) ?_
    refine mRun.go (q_iconst dX9_rain_29) ?_
    refine mRun.go (q_iload_n dX9_rain_30 rfl rfl) ?_
    refine mRun.go (q_iast dX9_rain_31 hD.2.2.2.1 (by omega) (by omega)) ?_
    refine mRun.go (q_iload_n dX9_rain_32 rfl rfl) ?_
    refine r_iret dX9_rain_33 rfl ?_
    have e0 : a_rain S v = fW (sF S) := by simp only [a_rain, isD, isP, isT, tvS, tlS]; first | (rw [if_pos (by omega)]; done) | (rw [if_neg (by omega)]; done) | (rw [if_pos (by omega), if_pos (by omega)]; done) | (rw [if_pos (by omega), if_neg (by omega)]; done) | (rw [if_neg (by omega), if_pos (by omega)]; done) | (rw [if_neg (by omega), if_neg (by omega)]; done)
    have e9 : z_rain S v = putU S (setW (sF S) v) := by simp only [z_rain, isD, isP, isT, tvS, tlS]; rw [if_pos (by omega)]
    have hfin : FRM (mup K 147 0 v) 147 0 (sL S) (setW (sF S) v) := (frm_wet hFK)
    rw [e0, e9]
    exact ⟨rfl, _, rfl, fun r hr => ((fun r p _ => mup_nf p) r (by omega) (by omega)).trans (hlo r hr), (nrm_mup hK hv), hD, rm_now (S := putU S (sF S)) hRK hL (fun r p _ => mup_nf p) hfin⟩
  · have h9 := ite00 (Classical.not_not.mp c9)
    refine mRun.go (q_iconst dX9_rain_12) ?_
    refine r_iret dX9_rain_13 rfl ?_
    have e0 : a_rain S v = (-1) := by simp only [a_rain, isD, isP, isT, tvS]; first | (rw [if_pos (by omega)]; done) | (rw [if_neg (by omega)]; done) | (rw [if_pos (by omega), if_pos (by omega)]; done) | (rw [if_pos (by omega), if_neg (by omega)]; done) | (rw [if_neg (by omega), if_pos (by omega)]; done) | (rw [if_neg (by omega), if_neg (by omega)]; done)
    have e9 : z_rain S v = S := by simp only [z_rain, isD, isP, isT, tvS]; rw [if_neg (by omega)]
    rw [e0, e9]
    exact outm_q hM hS hI frm_rf

set_option maxRecDepth 100000 in
theorem g_retune {σ : List mC} {I : mI} {S : Sx} {B : Int} {d x v : Int} (hM : MS σ I S) (hS : SxOk B S) (hd : -2147483648 ≤ d ∧ d < 2147483648) (hx : -2147483648 ≤ x ∧ x < 2147483648) (hv : -2147483648 ≤ v ∧ v < 2147483648) : mMt mX9_retune [mr 144, mi d, mi x, mi v] (σ, I) (OutM σ I (z_retune S d x v) (a_retune S d x v)) := by
  refine mMt.of pl_9 (Nat.le_of_ble_eq_true rfl) ?_
  show mRun mZt mX9_retune 0 [some (mr 144), some (mi d), some (mi x), some (mi v), none] [] (σ, I) _
  have hI := hM.1
  have hD := hM.2.1
  have hL := hS.1
  have hsz := hM.2.2.1
  have hLR := hM.2.2.2.2.2.2.1
  have hF := hM.2.2.2.2.2.2.2.1
  have hun := hM.2.2.2.2.2.2.2.2.1
  have hpa := hM.2.2.2.2.2.2.2.2.2.1
  have hkm := hM.2.2.2.2.2.2.2.2.2.2.1
  have hke := hM.2.2.2.2.2.2.2.2.2.2.2.1
  have hhm := hM.2.2.2.2.2.2.2.2.2.2.2.2.1
  have hhe := hM.2.2.2.2.2.2.2.2.2.2.2.2.2.1
  have hN := hM.2.2.2.2.2.2.2.2.2.2.2.2.2.2
  have hpr := lp_rng hL
  have hqe := lq_eq hL
  have hwr := hL.2.1
  have hrr := hL.1
  have hdr := hL.2.2.1
  have hnt := hL.2.2.2.1
  have hwF := hS.2.1.1
  have hhF := hS.2.1.2.1
  have hvF := hS.2.1.2.2.2
  have hH8 := hS.2.2.2.2.2.2.1
  have hU8 := hS.2.2.1
  have hK2 := hS.2.2.2.2.1
  have hLn := hS.2.2.2.2.2.2.2.2
  refine mRun.go (q_aload_n dX9_retune_0 rfl rfl) ?_
  refine mRun.go (q_iload_n dX9_retune_1 rfl rfl) ?_
  refine mRun.go (q_callVi (r := 144) [mi d] [] dX9_retune_2 co_X9_198 ⟨Nat.le_of_ble_eq_true rfl, Nat.le_of_ble_eq_true rfl⟩ gw_930 gs_39 rfl hD.1 rfl rfl rfl (Nat.le_of_ble_eq_true rfl) (m_isDrum hI hD hL hLR hd)) ?_
  refine r_if_eq (tgt := 28) dX9_retune_5 (by decide) (by split <;> omega) (fun c5 => ?_) (fun c5 => ?_)
  · have h5 := ite00 c5
    refine mRun.go (q_iconst dX9_retune_28) ?_
    refine r_iret dX9_retune_29 rfl ?_
    have e0 : a_retune S d x v = (-1) := by simp only [a_retune, isD, isP, isT, tvS]; first | (rw [if_pos (by omega)]; done) | (rw [if_neg (by omega)]; done) | (rw [if_pos (by omega), if_pos (by omega)]; done) | (rw [if_pos (by omega), if_neg (by omega)]; done) | (rw [if_neg (by omega), if_pos (by omega)]; done) | (rw [if_neg (by omega), if_neg (by omega)]; done)
    have e9 : z_retune S d x v = S := by simp only [z_retune, isD, isP, isT, tvS]; rw [if_neg (by omega)]
    rw [e0, e9]
    exact outm_q hM hS hI frm_rf
  · have h5 := ite01 c5
    refine mRun.go (q_aload_n dX9_retune_8 rfl rfl) ?_
    refine mRun.go (q_iload_n dX9_retune_9 rfl rfl) ?_
    refine mRun.go (q_callVi (r := 144) [mi x] [] dX9_retune_10 co_X9_195 ⟨Nat.le_of_ble_eq_true rfl, Nat.le_of_ble_eq_true rfl⟩ gw_922 gs_38 rfl hD.1 rfl rfl rfl (Nat.le_of_ble_eq_true rfl) (m_isPlace hI hD hL hLR hx)) ?_
    refine r_if_eq (tgt := 28) dX9_retune_13 (by decide) (by split <;> omega) (fun c13 => ?_) (fun c13 => ?_)
    · have h13 := ite00 c13
      refine mRun.go (q_iconst dX9_retune_28) ?_
      refine r_iret dX9_retune_29 rfl ?_
      have e0 : a_retune S d x v = (-1) := by simp only [a_retune, isD, isP, isT, tvS]; first | (rw [if_pos (by omega)]; done) | (rw [if_neg (by omega)]; done) | (rw [if_pos (by omega), if_pos (by omega)]; done) | (rw [if_pos (by omega), if_neg (by omega)]; done) | (rw [if_neg (by omega), if_pos (by omega)]; done) | (rw [if_neg (by omega), if_neg (by omega)]; done)
      have e9 : z_retune S d x v = S := by simp only [z_retune, isD, isP, isT, tvS]; rw [if_neg (by omega)]
      rw [e0, e9]
      exact outm_q hM hS hI frm_rf
    · have h13 := ite01 c13
      refine mRun.go (q_iload_n dX9_retune_16 rfl rfl) ?_
      refine mRun.go (q_i2l dX9_retune_17 hv) ?_
      refine mRun.go (q_lconst (a := 0) dX9_retune_18 (by decide)) ?_
      refine mRun.go (q_ldc2 (a := 3) dX9_retune_19 gw_1006) ?_
      refine mRun.go (q_callSi [ml v, ml 0, ml 3] [] dX9_retune_22 co_X9_114 ⟨Nat.le_of_ble_eq_true rfl, Nat.le_of_ble_eq_true rfl⟩ gw_855 rfl rfl (Nat.le_of_ble_eq_true rfl) (k_in (by omega) (by omega) (by omega))) ?_
      refine r_if_ne (tgt := 30) dX9_retune_25 (by decide) (by split <;> omega) (fun c25 => ?_) (fun c25 => ?_)
      · have h25 := ite01 c25
        refine mRun.go (q_aload_n dX9_retune_30 rfl rfl) ?_
        obtain ⟨v0, h0, hc0, rfl, K, rfl, hK, hlo, hRK⟩ := m_remember hM hS
        have hLRK : LRM K (sL S) := hRK.2.2.2.2.1
        have hFK : FRM K 147 0 (sL S) (sF S) := hRK.2.2.2.2.2.1
        refine mRun.go (q_callVv (r := 144) [] [] dX9_retune_31 co_X9_220 ⟨Nat.le_of_ble_eq_true rfl, Nat.le_of_ble_eq_true rfl⟩ gw_992 gs_47 rfl hD.1 rfl rfl rfl (Nat.le_of_ble_eq_true rfl) hc0) ?_
        refine mRun.go (q_aload_n dX9_retune_34 rfl rfl) ?_
        refine mRun.go (q_getR dX9_retune_35 fo_X9_16 hD.1 rfl) ?_
        refine mRun.go (q_iload_n dX9_retune_38 rfl rfl) ?_
        refine mRun.go (q_iload_n dX9_retune_39 rfl rfl) ?_
        refine mRun.go (q_callSi [mr 147, mi d, mi x] [] dX9_retune_40 co_X9_172 ⟨Nat.le_of_ble_eq_true rfl, Nat.le_of_ble_eq_true rfl⟩ gw_934 rfl rfl (Nat.le_of_ble_eq_true rfl) (m_tells hK hD hL hLRK hD.2.2.2.1 hFK (by omega) (by omega))) ?_
        refine mRun.go (q_istore (ls' := [some (mr 144), some (mi d), some (mi x), some (mi v), some (mi (fT (sF S) (36 * d + x)))]) dX9_retune_43 (Nat.le_of_ble_eq_true rfl) rfl) ?_
        refine mRun.go (q_aload_n dX9_retune_45 rfl rfl) ?_
        refine mRun.go (q_getR dX9_retune_46 fo_X9_16 hD.1 rfl) ?_
        refine mRun.go (q_iconst dX9_retune_49) ?_
        refine mRun.go (q_bipush dX9_retune_50 (by decide)) ?_
        refine mRun.go (q_iload_n dX9_retune_52 rfl rfl) ?_
        refine mRun.go (q_imul dX9_retune_53) ?_
        refine mRun.go (q_iadd dX9_retune_54) ?_
        refine mRun.go (q_iload_n dX9_retune_55 rfl rfl) ?_
        refine mRun.go (q_iadd dX9_retune_56) ?_
        refine mRun.go (q_iload_n dX9_retune_57 rfl rfl) ?_
        refine mRun.go (q_iast dX9_retune_58 hD.2.2.2.1 (by omega) (by omega)) ?_
        refine mRun.go (q_iload dX9_retune_59 rfl) ?_
        refine r_iret dX9_retune_61 rfl ?_
        have e0 : a_retune S d x v = fT (sF S) (36 * d + x) := by simp only [a_retune, isD, isP, isT, tvS, tlS]; first | (rw [if_pos (by omega)]; done) | (rw [if_neg (by omega)]; done) | (rw [if_pos (by omega), if_pos (by omega)]; done) | (rw [if_pos (by omega), if_neg (by omega)]; done) | (rw [if_neg (by omega), if_pos (by omega)]; done) | (rw [if_neg (by omega), if_neg (by omega)]; done)
        have e9 : z_retune S d x v = putU S (setTl (sF S) (36 * d + x) v) := by simp only [z_retune, isD, isP, isT, tvS, tlS]; rw [if_pos (by omega)]
        have hfin : FRM (mup K 147 (((2 + (36 * d)) + x).toNat) v) 147 0 (sL S) (setTl (sF S) (36 * d + x) v) := (frm_tlN hFK hL (by omega) (by omega))
        rw [e0, e9]
        exact ⟨rfl, _, rfl, fun r hr => ((fun r p _ => mup_nf p) r (by omega) (by omega)).trans (hlo r hr), (nrm_mup hK hv), hD, rm_now (S := putU S (sF S)) hRK hL (fun r p _ => mup_nf p) hfin⟩
      · have h25 := ite00 (Classical.not_not.mp c25)
        refine mRun.go (q_iconst dX9_retune_28) ?_
        refine r_iret dX9_retune_29 rfl ?_
        have e0 : a_retune S d x v = (-1) := by simp only [a_retune, isD, isP, isT, tvS]; first | (rw [if_pos (by omega)]; done) | (rw [if_neg (by omega)]; done) | (rw [if_pos (by omega), if_pos (by omega)]; done) | (rw [if_pos (by omega), if_neg (by omega)]; done) | (rw [if_neg (by omega), if_pos (by omega)]; done) | (rw [if_neg (by omega), if_neg (by omega)]; done)
        have e9 : z_retune S d x v = S := by simp only [z_retune, isD, isP, isT, tvS]; rw [if_neg (by omega)]
        rw [e0, e9]
        exact outm_q hM hS hI frm_rf

set_option maxRecDepth 100000 in
theorem g_give {σ : List mC} {I : mI} {S : Sx} {B : Int} {t d : Int} (hM : MS σ I S) (hS : SxOk B S) (ht : -2147483648 ≤ t ∧ t < 2147483648) (hd : -2147483648 ≤ d ∧ d < 2147483648) : mMt mX9_give [mr 144, mi t, mi d] (σ, I) (OutM σ I (z_give S t d) (a_give S t d)) := by
  refine mMt.of pl_9 (Nat.le_of_ble_eq_true rfl) ?_
  show mRun mZt mX9_give 0 [some (mr 144), some (mi t), some (mi d), none] [] (σ, I) _
  have hI := hM.1
  have hD := hM.2.1
  have hL := hS.1
  have hsz := hM.2.2.1
  have hLR := hM.2.2.2.2.2.2.1
  have hF := hM.2.2.2.2.2.2.2.1
  have hun := hM.2.2.2.2.2.2.2.2.1
  have hpa := hM.2.2.2.2.2.2.2.2.2.1
  have hkm := hM.2.2.2.2.2.2.2.2.2.2.1
  have hke := hM.2.2.2.2.2.2.2.2.2.2.2.1
  have hhm := hM.2.2.2.2.2.2.2.2.2.2.2.2.1
  have hhe := hM.2.2.2.2.2.2.2.2.2.2.2.2.2.1
  have hN := hM.2.2.2.2.2.2.2.2.2.2.2.2.2.2
  have hpr := lp_rng hL
  have hqe := lq_eq hL
  have hwr := hL.2.1
  have hrr := hL.1
  have hdr := hL.2.2.1
  have hnt := hL.2.2.2.1
  have hwF := hS.2.1.1
  have hhF := hS.2.1.2.1
  have hvF := hS.2.1.2.2.2
  have hH8 := hS.2.2.2.2.2.2.1
  have hU8 := hS.2.2.1
  have hK2 := hS.2.2.2.2.1
  have hLn := hS.2.2.2.2.2.2.2.2
  refine mRun.go (q_aload_n dX9_give_0 rfl rfl) ?_
  refine mRun.go (q_iload_n dX9_give_1 rfl rfl) ?_
  refine mRun.go (q_callVi (r := 144) [mi t] [] dX9_give_2 co_X9_203 ⟨Nat.le_of_ble_eq_true rfl, Nat.le_of_ble_eq_true rfl⟩ gw_950 gs_41 rfl hD.1 rfl rfl rfl (Nat.le_of_ble_eq_true rfl) (m_isTraveller hI hD hL hLR hN ht)) ?_
  refine r_if_eq (tgt := 16) dX9_give_5 (by decide) (by split <;> omega) (fun c5 => ?_) (fun c5 => ?_)
  · have h5 := ite00 c5
    refine mRun.go (q_iconst dX9_give_16) ?_
    refine r_iret dX9_give_17 rfl ?_
    have e0 : a_give S t d = (-1) := by simp only [a_give, isD, isP, isT, tvS]; first | (rw [if_pos (by omega)]; done) | (rw [if_neg (by omega)]; done) | (rw [if_pos (by omega), if_pos (by omega)]; done) | (rw [if_pos (by omega), if_neg (by omega)]; done) | (rw [if_neg (by omega), if_pos (by omega)]; done) | (rw [if_neg (by omega), if_neg (by omega)]; done)
    have e9 : z_give S t d = S := by simp only [z_give, isD, isP, isT, tvS]; rw [if_neg (by omega)]
    rw [e0, e9]
    exact outm_q hM hS hI frm_rf
  · have h5 := ite01 c5
    refine mRun.go (q_aload_n dX9_give_8 rfl rfl) ?_
    refine mRun.go (q_iload_n dX9_give_9 rfl rfl) ?_
    refine mRun.go (q_callVi (r := 144) [mi d] [] dX9_give_10 co_X9_198 ⟨Nat.le_of_ble_eq_true rfl, Nat.le_of_ble_eq_true rfl⟩ gw_930 gs_39 rfl hD.1 rfl rfl rfl (Nat.le_of_ble_eq_true rfl) (m_isDrum hI hD hL hLR hd)) ?_
    refine r_if_ne (tgt := 18) dX9_give_13 (by decide) (by split <;> omega) (fun c13 => ?_) (fun c13 => ?_)
    · have h13 := ite01 c13
      refine mRun.go (q_aload_n dX9_give_18 rfl rfl) ?_
      refine mRun.go (q_getR dX9_give_19 fo_X9_16 hD.1 rfl) ?_
      refine mRun.go (q_sipush dX9_give_22 (by decide)) ?_
      refine mRun.go (q_iload_n dX9_give_25 rfl rfl) ?_
      refine mRun.go (q_iadd dX9_give_26) ?_
      refine mRun.go (q_ialdE (x := (fV (sF S) t.toNat).2.2.2.1) dX9_give_27 hD.2.2.2.1 (by omega) (by omega) (by have h := (tv6i (hF.2.2.2 t.toNat (by omega))).2.2.2.1; rw [show ((t.toNat : Nat) : Int) = t by omega] at h; exact h)) ?_
      refine r_if_eq (tgt := 34) dX9_give_28 (by decide) (by have := hvF t.toNat (by omega); have := this.2.2.1; have := (hvF t.toNat (by omega)).2.2.2.1; omega) (fun c28 => ?_) (fun c28 => ?_)
      · refine mRun.go (q_aload_n dX9_give_34 rfl rfl) ?_
        obtain ⟨v0, h0, hc0, rfl, K, rfl, hK, hlo, hRK⟩ := m_remember hM hS
        have hLRK : LRM K (sL S) := hRK.2.2.2.2.1
        have hFK : FRM K 147 0 (sL S) (sF S) := hRK.2.2.2.2.2.1
        refine mRun.go (q_callVv (r := 144) [] [] dX9_give_35 co_X9_220 ⟨Nat.le_of_ble_eq_true rfl, Nat.le_of_ble_eq_true rfl⟩ gw_992 gs_47 rfl hD.1 rfl rfl rfl (Nat.le_of_ble_eq_true rfl) hc0) ?_
        refine mRun.go (q_aload_n dX9_give_38 rfl rfl) ?_
        refine mRun.go (q_getR dX9_give_39 fo_X9_16 hD.1 rfl) ?_
        refine mRun.go (q_sipush dX9_give_42 (by decide)) ?_
        refine mRun.go (q_iload_n dX9_give_45 rfl rfl) ?_
        refine mRun.go (q_iadd dX9_give_46) ?_
        refine mRun.go (q_ialdE (x := (fV (sF S) t.toNat).2.2.1) dX9_give_47 hD.2.2.2.1 (by omega) (by omega) (by have h := (tv6i (hFK.2.2.2 t.toNat (by omega))).2.2.1; rw [show ((t.toNat : Nat) : Int) = t by omega] at h; exact h)) ?_
        refine mRun.go (q_istore_n (ls' := [some (mr 144), some (mi t), some (mi d), some (mi ((fV (sF S) t.toNat).2.2.1))]) dX9_give_48 rfl (Nat.le_of_ble_eq_true rfl) rfl) ?_
        refine mRun.go (q_aload_n dX9_give_49 rfl rfl) ?_
        refine mRun.go (q_getR dX9_give_50 fo_X9_16 hD.1 rfl) ?_
        refine mRun.go (q_sipush dX9_give_53 (by decide)) ?_
        refine mRun.go (q_iload_n dX9_give_56 rfl rfl) ?_
        refine mRun.go (q_iadd dX9_give_57) ?_
        refine mRun.go (q_iload_n dX9_give_58 rfl rfl) ?_
        refine mRun.go (q_iast dX9_give_59 hD.2.2.2.1 (by omega) (by omega)) ?_
        refine mRun.go (q_iload_n dX9_give_60 rfl rfl) ?_
        refine r_iret dX9_give_61 rfl ?_
        have e0 : a_give S t d = (fV (sF S) t.toNat).2.2.1 := by simp only [a_give, isD, isP, isT, tvS, tlS]; first | (rw [if_pos (by omega)]; done) | (rw [if_neg (by omega)]; done) | (rw [if_pos (by omega), if_pos (by omega)]; done) | (rw [if_pos (by omega), if_neg (by omega)]; done) | (rw [if_neg (by omega), if_pos (by omega)]; done) | (rw [if_neg (by omega), if_neg (by omega)]; done)
        have e9 : z_give S t d = putU S (setV (sF S) t.toNat (sdr (fV (sF S) t.toNat) d)) := by simp only [z_give, isD, isP, isT, tvS, tlS]; rw [if_pos (by omega)]
        have hfin : FRM (mup K 147 ((154 + t).toNat) d) 147 0 (sL S) (setV (sF S) t.toNat (sdr (fV (sF S) t.toNat) d)) := (frm_drumN hFK hL (by omega))
        rw [e0, e9]
        exact ⟨rfl, _, rfl, fun r hr => ((fun r p _ => mup_nf p) r (by omega) (by omega)).trans (hlo r hr), (nrm_mup hK hd), hD, rm_now (S := putU S (sF S)) hRK hL (fun r p _ => mup_nf p) hfin⟩
      · refine mRun.go (q_bipush dX9_give_31 (by decide)) ?_
        refine r_iret dX9_give_33 rfl ?_
        have e0 : a_give S t d = (-2) := by simp only [a_give, isD, isP, isT, tvS]; first | (rw [if_pos (by omega)]; done) | (rw [if_neg (by omega)]; done) | (rw [if_pos (by omega), if_pos (by omega)]; done) | (rw [if_pos (by omega), if_neg (by omega)]; done) | (rw [if_neg (by omega), if_pos (by omega)]; done) | (rw [if_neg (by omega), if_neg (by omega)]; done)
        have e9 : z_give S t d = S := by simp only [z_give, isD, isP, isT, tvS]; rw [if_neg (by omega)]
        rw [e0, e9]
        exact outm_q hM hS hI frm_rf
    · have h13 := ite00 (Classical.not_not.mp c13)
      refine mRun.go (q_iconst dX9_give_16) ?_
      refine r_iret dX9_give_17 rfl ?_
      have e0 : a_give S t d = (-1) := by simp only [a_give, isD, isP, isT, tvS]; first | (rw [if_pos (by omega)]; done) | (rw [if_neg (by omega)]; done) | (rw [if_pos (by omega), if_pos (by omega)]; done) | (rw [if_pos (by omega), if_neg (by omega)]; done) | (rw [if_neg (by omega), if_pos (by omega)]; done) | (rw [if_neg (by omega), if_neg (by omega)]; done)
      have e9 : z_give S t d = S := by simp only [z_give, isD, isP, isT, tvS]; rw [if_neg (by omega)]
      rw [e0, e9]
      exact outm_q hM hS hI frm_rf
