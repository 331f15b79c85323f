/-! ===== the reference: hours of travellers ===== -/
theorem stepM_a {hp gr : Int → Int} {w : Int} {t : Tv} (h : ¬ t.2.2.2.1 = 0) : stepM hp gr w t = t := by unfold stepM; rw [if_pos h]
theorem stepM_b {hp gr : Int → Int} {w : Int} {t : Tv} (h : t.2.2.2.1 = 0) (h2 : t.2.2.2.2.2 = 0) (h3 : hp t.1 = -4) : stepM hp gr w t = t := by unfold stepM; rw [if_neg (fun q => q h), if_pos h2, if_pos h3]
theorem stepM_c {hp gr : Int → Int} {w : Int} {t : Tv} (h : t.2.2.2.1 = 0) (h2 : t.2.2.2.2.2 = 0) (h3 : ¬ hp t.1 = -4) (h4 : 1000000 ≤ hrs (gr (hp t.1)) w) : stepM hp gr w t = (t.1, t.2.1, t.2.2.1, 2, t.2.2.2.2.1, t.2.2.2.2.2) := by unfold stepM; rw [if_neg (fun q => q h), if_pos h2, if_neg h3, if_pos h4]
theorem stepM_d {hp gr : Int → Int} {w : Int} {t : Tv} (h : t.2.2.2.1 = 0) (h2 : t.2.2.2.2.2 = 0) (h3 : ¬ hp t.1 = -4) (h4 : ¬ 1000000 ≤ hrs (gr (hp t.1)) w) : stepM hp gr w t = arrM (t.1, t.2.1, t.2.2.1, t.2.2.2.1, hp t.1, hrs (gr (hp t.1)) w) := by unfold stepM; rw [if_neg (fun q => q h), if_pos h2, if_neg h3, if_neg h4]
theorem stepM_e {hp gr : Int → Int} {w : Int} {t : Tv} (h : t.2.2.2.1 = 0) (h2 : ¬ t.2.2.2.2.2 = 0) : stepM hp gr w t = arrM t := by unfold stepM; rw [if_neg (fun q => q h), if_neg h2]
theorem arrM_y {t : Tv} (h : t.2.2.2.2.2 - 1 = 0) : arrM t = (t.2.2.2.2.1, t.2.1, t.2.2.1, (if t.2.2.2.2.1 = t.2.1 then 1 else 0), -4, 0) := by unfold arrM; rw [if_pos (by omega)]
theorem arrM_n {t : Tv} (h : ¬ t.2.2.2.2.2 - 1 = 0) : arrM t = (t.1, t.2.1, t.2.2.1, t.2.2.2.1, t.2.2.2.2.1, t.2.2.2.2.2 - 1) := by unfold arrM; rw [if_neg (by omega)]
theorem tv6 {I : mI} {a t : Nat} {v : Tv} (h0 : I a (146 + (t : Int)).toNat = v.1) (h1 : I a (150 + (t : Int)).toNat = v.2.1) (h2 : I a (154 + (t : Int)).toNat = v.2.2.1) (h3 : I a (158 + (t : Int)).toNat = v.2.2.2.1) (h4 : I a (162 + (t : Int)).toNat = v.2.2.2.2.1) (h5 : I a (166 + (t : Int)).toNat = v.2.2.2.2.2) : tvM I a 0 t = v := by
  unfold tvM
  rw [show 0 + 146 + t = (146 + (t : Int)).toNat by omega, show 0 + 150 + t = (150 + (t : Int)).toNat by omega, show 0 + 154 + t = (154 + (t : Int)).toNat by omega, show 0 + 158 + t = (158 + (t : Int)).toNat by omega, show 0 + 162 + t = (162 + (t : Int)).toNat by omega, show 0 + 166 + t = (166 + (t : Int)).toNat by omega, h0, h1, h2, h3, h4, h5]
theorem tv6i {I : mI} {a t : Nat} {v : Tv} (h : tvM I a 0 t = v) : I a (146 + (t : Int)).toNat = v.1 ∧ I a (150 + (t : Int)).toNat = v.2.1 ∧ I a (154 + (t : Int)).toNat = v.2.2.1 ∧ I a (158 + (t : Int)).toNat = v.2.2.2.1 ∧ I a (162 + (t : Int)).toNat = v.2.2.2.2.1 ∧ I a (166 + (t : Int)).toNat = v.2.2.2.2.2 := by
  subst h
  unfold tvM
  rw [show 0 + 146 + t = (146 + (t : Int)).toNat by omega, show 0 + 150 + t = (150 + (t : Int)).toNat by omega, show 0 + 154 + t = (154 + (t : Int)).toNat by omega, show 0 + 158 + t = (158 + (t : Int)).toNat by omega, show 0 + 162 + t = (162 + (t : Int)).toNat by omega, show 0 + 166 + t = (166 + (t : Int)).toNat by omega]
  exact ⟨rfl, rfl, rfl, rfl, rfl, rfl⟩
theorem frm_setV {I K : mI} {a t : Nat} {L : Ld} {F : Fs} {v : Tv} (h : FRM I a 0 L F) (hL : LdOk L) (ht : (t : Int) < lTv L) (hf : ∀ k, k < 170 → k ≠ (146 + (t : Int)).toNat → k ≠ (150 + (t : Int)).toNat → k ≠ (154 + (t : Int)).toNat → k ≠ (158 + (t : Int)).toNat → k ≠ (162 + (t : Int)).toNat → k ≠ (166 + (t : Int)).toNat → K a k = I a k) (hv : tvM K a 0 t = v) : FRM K a 0 L (setV F t v) := by
  have hdr := hL.2.2.1
  have hpr := lp_rng hL
  have hnt := hL.2.2.2.1
  refine ⟨by rw [hf 0 (by omega) (by omega) (by omega) (by omega) (by omega) (by omega) (by omega)]; exact h.1, by rw [hf (0 + 1) (by omega) (by omega) (by omega) (by omega) (by omega) (by omega) (by omega)]; exact h.2.1, fun d x p q r s => by rw [hf _ (by omega) (by omega) (by omega) (by omega) (by omega) (by omega) (by omega)]; exact h.2.2.1 d x p q r s, fun u hu => ?_⟩
  show tvM K a 0 u = if u = t then v else fV F u
  by_cases z : u = t
  · rw [if_pos z, z]; exact hv
  · rw [if_neg z, ← h.2.2.2 u hu]
    unfold tvM
    rw [hf (0 + 146 + u) (by omega) (by omega) (by omega) (by omega) (by omega) (by omega) (by omega), hf (0 + 150 + u) (by omega) (by omega) (by omega) (by omega) (by omega) (by omega) (by omega), hf (0 + 154 + u) (by omega) (by omega) (by omega) (by omega) (by omega) (by omega) (by omega), hf (0 + 158 + u) (by omega) (by omega) (by omega) (by omega) (by omega) (by omega) (by omega), hf (0 + 162 + u) (by omega) (by omega) (by omega) (by omega) (by omega) (by omega) (by omega), hf (0 + 166 + u) (by omega) (by omega) (by omega) (by omega) (by omega) (by omega) (by omega)]
theorem setV_self {F : Fs} {t : Nat} {v : Tv} (h : fV F t = v) : setV F t v = F := by
  unfold setV
  have e : (fun u => if u = t then v else fV F u) = fV F := by
    funext u
    by_cases q : u = t
    · rw [if_pos q, q, h]
    · rw [if_neg q]
  rw [e]

set_option maxRecDepth 100000 in
theorem m_oneGoes {σ : List mC} {I : mI} {L : Ld} (hI : Nrm I) (hD : IsMd σ) (hL : LdOk L) (hLR : LRM I L) {a : Nat} {F : Fs} (ha : σ[a]? = some (.inr (.inl 170))) (hF : FRM I a 0 L F) (ha2 : a = 147 ∨ a = 148) {t : Nat} (ht : (t : Int) < lTv L) (hw : 0 ≤ fW F ∧ fW F ≤ 3) (hv : TvM (lP L) (lD L) (fV F t)) : mMt mX9_oneGoes [mr 144, mr a, mi (t : Int)] (σ, I) (fun v h => v = none ∧ ∃ K, h = (σ, K) ∧ Nrm K ∧ (∀ r, r ≠ 159 → r ≠ a → K r = I r) ∧ FRM K a 0 L (setV F t (stp L (fT F) (fW F) (fV F t)))) := by
  refine mMt.of pl_9 (Nat.le_of_ble_eq_true rfl) ?_
  show mRun mZt mX9_oneGoes 0 [some (mr 144), some (mr a), some (mi (t : Int)), none, none] [] (σ, I) _
  have hpr := lp_rng hL
  have hqe := lq_eq hL
  have hwr := hL.2.1
  have hrr := hL.1
  have hdr := hL.2.2.1
  have hnt := hL.2.2.2.1
  have h6 := tv6i (hF.2.2.2 t ht)
  obtain ⟨v1, v2, v3, v4, v5, v6⟩ := id hv
  refine mRun.go (q_aload_n dX9_oneGoes_0 rfl rfl) ?_
  refine mRun.go (q_sipush dX9_oneGoes_1 (by decide)) ?_
  refine mRun.go (q_iload_n dX9_oneGoes_4 rfl rfl) ?_
  refine mRun.go (q_iadd dX9_oneGoes_5) ?_
  refine mRun.go (q_ialdE (x := (fV F t).2.2.2.1) dX9_oneGoes_6 ha (by omega) (by omega) h6.2.2.2.1) ?_
  refine r_if_eq (tgt := 11) dX9_oneGoes_7 (by decide) (by omega) (fun c7 => ?_) (fun c7 => ?_)
  · refine mRun.go (q_aload_n dX9_oneGoes_11 rfl rfl) ?_
    refine mRun.go (q_sipush dX9_oneGoes_12 (by decide)) ?_
    refine mRun.go (q_iload_n dX9_oneGoes_15 rfl rfl) ?_
    refine mRun.go (q_iadd dX9_oneGoes_16) ?_
    refine mRun.go (q_ialdE (x := (fV F t).2.2.2.2.2) dX9_oneGoes_17 ha (by omega) (by omega) h6.2.2.2.2.2) ?_
    refine r_if_ne (tgt := 102) dX9_oneGoes_18 (by decide) (by omega) (fun c18 => ?_) (fun c18 => ?_)
    · refine mRun.go (q_aload_n dX9_oneGoes_102 rfl rfl) ?_
      refine mRun.go (q_sipush dX9_oneGoes_103 (by decide)) ?_
      refine mRun.go (q_iload_n dX9_oneGoes_106 rfl rfl) ?_
      refine mRun.go (q_iadd dX9_oneGoes_107) ?_
      refine mRun.go (q_dup2 dX9_oneGoes_108 rfl rfl) ?_
      refine mRun.go (q_ialdE (x := (fV F t).2.2.2.2.2) dX9_oneGoes_109 ha (by omega) (by omega) h6.2.2.2.2.2) ?_
      refine mRun.go (q_iconst dX9_oneGoes_110) ?_
      refine mRun.go (q_isub dX9_oneGoes_111) ?_
      refine mRun.go (q_iast dX9_oneGoes_112 ha (by omega) (by omega)) ?_
      refine mRun.go (q_aload_n dX9_oneGoes_113 rfl rfl) ?_
      refine mRun.go (q_sipush dX9_oneGoes_114 (by decide)) ?_
      refine mRun.go (q_iload_n dX9_oneGoes_117 rfl rfl) ?_
      refine mRun.go (q_iadd dX9_oneGoes_118) ?_
      refine mRun.go (q_ialdE (x := ((fV F t).2.2.2.2.2) - 1) dX9_oneGoes_119 ha (by omega) (by omega) (by rw [mup_self])) ?_
      refine r_if_ne (tgt := 175) dX9_oneGoes_120 (by decide) (by omega) (fun c120 => ?_) (fun c120 => ?_)
      · refine r_ret dX9_oneGoes_175 rfl ?_
        have es : stp L (fT F) (fW F) (fV F t) = _ := stepM_e c7 c18
        rw [arrM_n c120] at es
        refine ⟨rfl, mup I a ((166 + (t : Int)).toNat) (((fV F t).2.2.2.2.2) - 1), rfl, (nrm_mup hI (by omega)), fun r q1 q2 => ?_, ?_⟩
        · rw [mup_nf q2]
        · have hv : tvM (mup I a ((166 + (t : Int)).toNat) (((fV F t).2.2.2.2.2) - 1)) a 0 t = ((fV F t).1, (fV F t).2.1, (fV F t).2.2.1, (fV F t).2.2.2.1, (fV F t).2.2.2.2.1, ((fV F t).2.2.2.2.2) - 1) := tv6 (by exact (by rw [mup_ne2 (by omega)]; exact h6.1)) (by exact (by rw [mup_ne2 (by omega)]; exact h6.2.1)) (by exact (by rw [mup_ne2 (by omega)]; exact h6.2.2.1)) (by exact (by rw [mup_ne2 (by omega)]; exact h6.2.2.2.1)) (by exact (by rw [mup_ne2 (by omega)]; exact h6.2.2.2.2.1)) (by exact (by rw [mup_self]))
          have he : stp L (fT F) (fW F) (fV F t) = ((fV F t).1, (fV F t).2.1, (fV F t).2.2.1, (fV F t).2.2.2.1, (fV F t).2.2.2.2.1, ((fV F t).2.2.2.2.2) - 1) := by
            rw [es]
          rw [he]
          exact frm_setV hF hL ht (fun k hk n0 n1 n2 n3 n4 n5 => by rw [mup_ne2 (by assumption)]) hv
      · refine mRun.go (q_aload_n dX9_oneGoes_123 rfl rfl) ?_
        refine mRun.go (q_sipush dX9_oneGoes_124 (by decide)) ?_
        refine mRun.go (q_iload_n dX9_oneGoes_127 rfl rfl) ?_
        refine mRun.go (q_iadd dX9_oneGoes_128) ?_
        refine mRun.go (q_aload_n dX9_oneGoes_129 rfl rfl) ?_
        refine mRun.go (q_sipush dX9_oneGoes_130 (by decide)) ?_
        refine mRun.go (q_iload_n dX9_oneGoes_133 rfl rfl) ?_
        refine mRun.go (q_iadd dX9_oneGoes_134) ?_
        refine mRun.go (q_ialdE (x := (fV F t).2.2.2.2.1) dX9_oneGoes_135 ha (by omega) (by omega) (by rw [mup_ne2 (by omega)]; exact h6.2.2.2.2.1)) ?_
        refine mRun.go (q_iast dX9_oneGoes_136 ha (by omega) (by omega)) ?_
        refine mRun.go (q_aload_n dX9_oneGoes_137 rfl rfl) ?_
        refine mRun.go (q_sipush dX9_oneGoes_138 (by decide)) ?_
        refine mRun.go (q_iload_n dX9_oneGoes_141 rfl rfl) ?_
        refine mRun.go (q_iadd dX9_oneGoes_142) ?_
        refine mRun.go (q_bipush dX9_oneGoes_143 (by decide)) ?_
        refine mRun.go (q_iast dX9_oneGoes_145 ha (by omega) (by omega)) ?_
        refine mRun.go (q_aload_n dX9_oneGoes_146 rfl rfl) ?_
        refine mRun.go (q_sipush dX9_oneGoes_147 (by decide)) ?_
        refine mRun.go (q_iload_n dX9_oneGoes_150 rfl rfl) ?_
        refine mRun.go (q_iadd dX9_oneGoes_151) ?_
        refine mRun.go (q_aload_n dX9_oneGoes_152 rfl rfl) ?_
        refine mRun.go (q_sipush dX9_oneGoes_153 (by decide)) ?_
        refine mRun.go (q_iload_n dX9_oneGoes_156 rfl rfl) ?_
        refine mRun.go (q_iadd dX9_oneGoes_157) ?_
        refine mRun.go (q_ialdE (x := (fV F t).2.2.2.2.1) dX9_oneGoes_158 ha (by omega) (by omega) (by rw [mup_ne2 (by omega), mup_self])) ?_
        refine mRun.go (q_aload_n dX9_oneGoes_159 rfl rfl) ?_
        refine mRun.go (q_sipush dX9_oneGoes_160 (by decide)) ?_
        refine mRun.go (q_iload_n dX9_oneGoes_163 rfl rfl) ?_
        refine mRun.go (q_iadd dX9_oneGoes_164) ?_
        refine mRun.go (q_ialdE (x := (fV F t).2.1) dX9_oneGoes_165 ha (by omega) (by omega) (by rw [mup_ne2 (by omega), mup_ne2 (by omega), mup_ne2 (by omega)]; exact h6.2.1)) ?_
        refine r_icmp_ne (tgt := 173) dX9_oneGoes_166 (by decide) (by omega) (by omega) (fun c166 => ?_) (fun c166 => ?_)
        · refine mRun.go (q_iconst dX9_oneGoes_173) ?_
          refine mRun.go (q_iast dX9_oneGoes_174 ha (by omega) (by omega)) ?_
          refine r_ret dX9_oneGoes_175 rfl ?_
          have es : stp L (fT F) (fW F) (fV F t) = _ := stepM_e c7 c18
          rw [arrM_y (Classical.not_not.mp c120)] at es
          refine ⟨rfl, mup (mup (mup (mup I a ((166 + (t : Int)).toNat) (((fV F t).2.2.2.2.2) - 1)) a ((146 + (t : Int)).toNat) ((fV F t).2.2.2.2.1)) a ((162 + (t : Int)).toNat) (-4)) a ((158 + (t : Int)).toNat) 0, rfl, (nrm_mup (nrm_mup (nrm_mup (nrm_mup hI (by omega)) (by omega)) (by omega)) (by omega)), fun r q1 q2 => ?_, ?_⟩
          · rw [mup_nf q2, mup_nf q2, mup_nf q2, mup_nf q2]
          · have hv : tvM (mup (mup (mup (mup I a ((166 + (t : Int)).toNat) (((fV F t).2.2.2.2.2) - 1)) a ((146 + (t : Int)).toNat) ((fV F t).2.2.2.2.1)) a ((162 + (t : Int)).toNat) (-4)) a ((158 + (t : Int)).toNat) 0) a 0 t = ((fV F t).2.2.2.2.1, (fV F t).2.1, (fV F t).2.2.1, 0, (-4), ((fV F t).2.2.2.2.2) - 1) := tv6 (by exact (by rw [mup_ne2 (by omega), mup_ne2 (by omega), mup_self])) (by exact (by rw [mup_ne2 (by omega), mup_ne2 (by omega), mup_ne2 (by omega), mup_ne2 (by omega)]; exact h6.2.1)) (by exact (by rw [mup_ne2 (by omega), mup_ne2 (by omega), mup_ne2 (by omega), mup_ne2 (by omega)]; exact h6.2.2.1)) (by exact (by rw [mup_self])) (by exact (by rw [mup_ne2 (by omega), mup_self])) (by exact (by rw [mup_ne2 (by omega), mup_ne2 (by omega), mup_ne2 (by omega), mup_self]))
            have he : stp L (fT F) (fW F) (fV F t) = ((fV F t).2.2.2.2.1, (fV F t).2.1, (fV F t).2.2.1, 0, (-4), ((fV F t).2.2.2.2.2) - 1) := by
              rw [es, Classical.not_not.mp c120]; first | rw [if_pos (Classical.not_not.mp c166)] | rw [if_neg c166]
            rw [he]
            exact frm_setV hF hL ht (fun k hk n0 n1 n2 n3 n4 n5 => by rw [mup_ne2 (by assumption), mup_ne2 (by assumption), mup_ne2 (by assumption), mup_ne2 (by assumption)]) hv
        · refine mRun.go (q_iconst dX9_oneGoes_169) ?_
          refine mRun.go (q_goto (tgt := 174) dX9_oneGoes_170 (by decide)) ?_
          refine mRun.go (q_iast dX9_oneGoes_174 ha (by omega) (by omega)) ?_
          refine r_ret dX9_oneGoes_175 rfl ?_
          have es : stp L (fT F) (fW F) (fV F t) = _ := stepM_e c7 c18
          rw [arrM_y (Classical.not_not.mp c120)] at es
          refine ⟨rfl, mup (mup (mup (mup I a ((166 + (t : Int)).toNat) (((fV F t).2.2.2.2.2) - 1)) a ((146 + (t : Int)).toNat) ((fV F t).2.2.2.2.1)) a ((162 + (t : Int)).toNat) (-4)) a ((158 + (t : Int)).toNat) 1, rfl, (nrm_mup (nrm_mup (nrm_mup (nrm_mup hI (by omega)) (by omega)) (by omega)) (by omega)), fun r q1 q2 => ?_, ?_⟩
          · rw [mup_nf q2, mup_nf q2, mup_nf q2, mup_nf q2]
          · have hv : tvM (mup (mup (mup (mup I a ((166 + (t : Int)).toNat) (((fV F t).2.2.2.2.2) - 1)) a ((146 + (t : Int)).toNat) ((fV F t).2.2.2.2.1)) a ((162 + (t : Int)).toNat) (-4)) a ((158 + (t : Int)).toNat) 1) a 0 t = ((fV F t).2.2.2.2.1, (fV F t).2.1, (fV F t).2.2.1, 1, (-4), ((fV F t).2.2.2.2.2) - 1) := tv6 (by exact (by rw [mup_ne2 (by omega), mup_ne2 (by omega), mup_self])) (by exact (by rw [mup_ne2 (by omega), mup_ne2 (by omega), mup_ne2 (by omega), mup_ne2 (by omega)]; exact h6.2.1)) (by exact (by rw [mup_ne2 (by omega), mup_ne2 (by omega), mup_ne2 (by omega), mup_ne2 (by omega)]; exact h6.2.2.1)) (by exact (by rw [mup_self])) (by exact (by rw [mup_ne2 (by omega), mup_self])) (by exact (by rw [mup_ne2 (by omega), mup_ne2 (by omega), mup_ne2 (by omega), mup_self]))
            have he : stp L (fT F) (fW F) (fV F t) = ((fV F t).2.2.2.2.1, (fV F t).2.1, (fV F t).2.2.1, 1, (-4), ((fV F t).2.2.2.2.2) - 1) := by
              rw [es, Classical.not_not.mp c120]; first | rw [if_pos (Classical.not_not.mp c166)] | rw [if_neg c166]
            rw [he]
            exact frm_setV hF hL ht (fun k hk n0 n1 n2 n3 n4 n5 => by rw [mup_ne2 (by assumption), mup_ne2 (by assumption), mup_ne2 (by assumption), mup_ne2 (by assumption)]) hv
    · refine mRun.go (q_aload_n dX9_oneGoes_21 rfl rfl) ?_
      refine mRun.go (q_aload_n dX9_oneGoes_22 rfl rfl) ?_
      refine mRun.go (q_aload_n dX9_oneGoes_23 rfl rfl) ?_
      refine mRun.go (q_sipush dX9_oneGoes_24 (by decide)) ?_
      refine mRun.go (q_iload_n dX9_oneGoes_27 rfl rfl) ?_
      refine mRun.go (q_iadd dX9_oneGoes_28) ?_
      refine mRun.go (q_ialdE (x := (fV F t).2.2.1) dX9_oneGoes_29 ha (by omega) (by omega) h6.2.2.1) ?_
      refine mRun.go (q_aload_n dX9_oneGoes_30 rfl rfl) ?_
      refine mRun.go (q_sipush dX9_oneGoes_31 (by decide)) ?_
      refine mRun.go (q_iload_n dX9_oneGoes_34 rfl rfl) ?_
      refine mRun.go (q_iadd dX9_oneGoes_35) ?_
      refine mRun.go (q_ialdE (x := (fV F t).1) dX9_oneGoes_36 ha (by omega) (by omega) h6.1) ?_
      refine mRun.go (q_aload_n dX9_oneGoes_37 rfl rfl) ?_
      refine mRun.go (q_sipush dX9_oneGoes_38 (by decide)) ?_
      refine mRun.go (q_iload_n dX9_oneGoes_41 rfl rfl) ?_
      refine mRun.go (q_iadd dX9_oneGoes_42) ?_
      refine mRun.go (q_ialdE (x := (fV F t).2.1) dX9_oneGoes_43 ha (by omega) (by omega) h6.2.1) ?_
      obtain ⟨v0, h0, hc0, rfl, K, rfl, hK, hfK⟩ := m_firstOf (d := (fV F t).2.2.1) (x := ((fV F t).1).toNat) (y := ((fV F t).2.1).toNat) hI hD hL hLR ha hF ha2 (by omega) (by omega) (by omega)
      have hhe : hop (lQ L) (nbL L) (eM L F (fV F t).2.2.1) ((fV F t).2.1).toNat ((fV F t).1).toNat = hpS L (fT F) (fW F) (fV F t).2.2.1 (fV F t).2.1 (fV F t).1 := by rw [eM_d (by omega)]; rfl
      rw [hhe, show ((((fV F t).1).toNat : Nat) : Int) = (fV F t).1 by omega, show ((((fV F t).2.1).toNat : Nat) : Int) = (fV F t).2.1 by omega] at hc0
      have hhr := @hps_rng L (fT F) (fW F) (fV F t).2.2.1 (fV F t).2.1 (fV F t).1 hL (by omega)
      have hLRK : LRM K L := hLR.fr (by rw [hfK 144 (by decide)]) (by rw [hfK 144 (by decide)]) (by rw [hfK 144 (by decide)]) (by rw [hfK 144 (by decide)]) (hfK 145 (by decide)) (hfK 146 (by decide))
      have hFK : FRM K a 0 L F := hF.fr hL (fun k _ _ => by rw [hfK a (by omega)])
      have h6K := tv6i (hFK.2.2.2 t ht)
      refine mRun.go (q_callVi (r := 144) [mr a, mi ((fV F t).2.2.1), mi ((fV F t).1), mi ((fV F t).2.1)] [] dX9_oneGoes_44 co_X9_211 ⟨Nat.le_of_ble_eq_true rfl, Nat.le_of_ble_eq_true rfl⟩ gw_979 gs_46 rfl hD.1 rfl rfl rfl (Nat.le_of_ble_eq_true rfl) hc0) ?_
      refine mRun.go (q_istore_n (ls' := [some (mr 144), some (mr a), some (mi (t : Int)), some (mi (hpS L (fT F) (fW F) (fV F t).2.2.1 (fV F t).2.1 (fV F t).1)), none]) dX9_oneGoes_47 rfl (Nat.le_of_ble_eq_true rfl) rfl) ?_
      refine mRun.go (q_iload_n dX9_oneGoes_48 rfl rfl) ?_
      refine mRun.go (q_bipush dX9_oneGoes_49 (by decide)) ?_
      refine r_icmp_ne (tgt := 55) dX9_oneGoes_51 (by decide) (by omega) (by omega) (fun c51 => ?_) (fun c51 => ?_)
      · refine mRun.go (q_aload_n dX9_oneGoes_55 rfl rfl) ?_
        refine mRun.go (q_getR dX9_oneGoes_56 fo_X9_7 hD.1 rfl) ?_
        refine mRun.go (q_iload_n dX9_oneGoes_59 rfl rfl) ?_
        refine mRun.go (q_ialdE (x := lG L (hpS L (fT F) (fW F) (fV F t).2.2.1 (fV F t).2.1 (fV F t).1)) dX9_oneGoes_60 hD.2.1 (by omega) (by omega) (lrm_g hLRK (by omega))) ?_
        refine mRun.go (q_aload_n dX9_oneGoes_61 rfl rfl) ?_
        refine mRun.go (q_iconst dX9_oneGoes_62) ?_
        refine mRun.go (q_ialdE (x := fW F) dX9_oneGoes_63 ha (by omega) (by omega) hFK.1) ?_
        have hhs := @hrs_rng (lG L (hpS L (fT F) (fW F) (fV F t).2.2.1 (fV F t).2.1 (fV F t).1)) (fW F)
        refine mRun.go (q_callSi [mi (lG L (hpS L (fT F) (fW F) (fV F t).2.2.1 (fV F t).2.1 (fV F t).1)), mi (fW F)] [] dX9_oneGoes_64 co_X9_184 ⟨Nat.le_of_ble_eq_true rfl, Nat.le_of_ble_eq_true rfl⟩ gw_975 rfl rfl (Nat.le_of_ble_eq_true rfl) (k_hoursFor (by have := hL.2.2.2.2.1 (hpS L (fT F) (fW F) (fV F t).2.2.1 (fV F t).2.1 (fV F t).1) (by omega) (by omega); omega) (by omega))) ?_
        refine mRun.go (q_istore (ls' := [some (mr 144), some (mr a), some (mi (t : Int)), some (mi (hpS L (fT F) (fW F) (fV F t).2.2.1 (fV F t).2.1 (fV F t).1)), some (mi (hrs (lG L (hpS L (fT F) (fW F) (fV F t).2.2.1 (fV F t).2.1 (fV F t).1)) (fW F)))]) dX9_oneGoes_67 (Nat.le_of_ble_eq_true rfl) rfl) ?_
        refine mRun.go (q_iload dX9_oneGoes_69 rfl) ?_
        refine mRun.go (q_ldc (a := 1000000) dX9_oneGoes_71 gw_965) ?_
        refine r_icmp_lt (tgt := 85) dX9_oneGoes_73 (by decide) (by omega) (by omega) (fun c73 => ?_) (fun c73 => ?_)
        · refine mRun.go (q_aload_n dX9_oneGoes_85 rfl rfl) ?_
          refine mRun.go (q_sipush dX9_oneGoes_86 (by decide)) ?_
          refine mRun.go (q_iload_n dX9_oneGoes_89 rfl rfl) ?_
          refine mRun.go (q_iadd dX9_oneGoes_90) ?_
          refine mRun.go (q_iload_n dX9_oneGoes_91 rfl rfl) ?_
          refine mRun.go (q_iast dX9_oneGoes_92 ha (by omega) (by omega)) ?_
          refine mRun.go (q_aload_n dX9_oneGoes_93 rfl rfl) ?_
          refine mRun.go (q_sipush dX9_oneGoes_94 (by decide)) ?_
          refine mRun.go (q_iload_n dX9_oneGoes_97 rfl rfl) ?_
          refine mRun.go (q_iadd dX9_oneGoes_98) ?_
          refine mRun.go (q_iload dX9_oneGoes_99 rfl) ?_
          refine mRun.go (q_iast dX9_oneGoes_101 ha (by omega) (by omega)) ?_
          refine mRun.go (q_aload_n dX9_oneGoes_102 rfl rfl) ?_
          refine mRun.go (q_sipush dX9_oneGoes_103 (by decide)) ?_
          refine mRun.go (q_iload_n dX9_oneGoes_106 rfl rfl) ?_
          refine mRun.go (q_iadd dX9_oneGoes_107) ?_
          refine mRun.go (q_dup2 dX9_oneGoes_108 rfl rfl) ?_
          refine mRun.go (q_ialdE (x := hrs (lG L (hpS L (fT F) (fW F) (fV F t).2.2.1 (fV F t).2.1 (fV F t).1)) (fW F)) dX9_oneGoes_109 ha (by omega) (by omega) (by rw [mup_self])) ?_
          refine mRun.go (q_iconst dX9_oneGoes_110) ?_
          refine mRun.go (q_isub dX9_oneGoes_111) ?_
          refine mRun.go (q_iast dX9_oneGoes_112 ha (by omega) (by omega)) ?_
          refine mRun.go (q_aload_n dX9_oneGoes_113 rfl rfl) ?_
          refine mRun.go (q_sipush dX9_oneGoes_114 (by decide)) ?_
          refine mRun.go (q_iload_n dX9_oneGoes_117 rfl rfl) ?_
          refine mRun.go (q_iadd dX9_oneGoes_118) ?_
          refine mRun.go (q_ialdE (x := (hrs (lG L (hpS L (fT F) (fW F) (fV F t).2.2.1 (fV F t).2.1 (fV F t).1)) (fW F)) - 1) dX9_oneGoes_119 ha (by omega) (by omega) (by rw [mup_self])) ?_
          refine r_if_ne (tgt := 175) dX9_oneGoes_120 (by decide) (by omega) (fun c120 => ?_) (fun c120 => ?_)
          · refine r_ret dX9_oneGoes_175 rfl ?_
            have es : stp L (fT F) (fW F) (fV F t) = _ := stepM_d c7 (Classical.not_not.mp c18) c51 (by omega)
            rw [arrM_n c120] at es
            refine ⟨rfl, mup (mup (mup K a ((162 + (t : Int)).toNat) (hpS L (fT F) (fW F) (fV F t).2.2.1 (fV F t).2.1 (fV F t).1)) a ((166 + (t : Int)).toNat) (hrs (lG L (hpS L (fT F) (fW F) (fV F t).2.2.1 (fV F t).2.1 (fV F t).1)) (fW F))) a ((166 + (t : Int)).toNat) ((hrs (lG L (hpS L (fT F) (fW F) (fV F t).2.2.1 (fV F t).2.1 (fV F t).1)) (fW F)) - 1), rfl, (nrm_mup (nrm_mup (nrm_mup hK (by omega)) (by omega)) (by omega)), fun r q1 q2 => ?_, ?_⟩
            · rw [mup_nf q2, mup_nf q2, mup_nf q2]; exact hfK r q1
            · have hv : tvM (mup (mup (mup K a ((162 + (t : Int)).toNat) (hpS L (fT F) (fW F) (fV F t).2.2.1 (fV F t).2.1 (fV F t).1)) a ((166 + (t : Int)).toNat) (hrs (lG L (hpS L (fT F) (fW F) (fV F t).2.2.1 (fV F t).2.1 (fV F t).1)) (fW F))) a ((166 + (t : Int)).toNat) ((hrs (lG L (hpS L (fT F) (fW F) (fV F t).2.2.1 (fV F t).2.1 (fV F t).1)) (fW F)) - 1)) a 0 t = ((fV F t).1, (fV F t).2.1, (fV F t).2.2.1, (fV F t).2.2.2.1, hpS L (fT F) (fW F) (fV F t).2.2.1 (fV F t).2.1 (fV F t).1, (hrs (lG L (hpS L (fT F) (fW F) (fV F t).2.2.1 (fV F t).2.1 (fV F t).1)) (fW F)) - 1) := tv6 (by exact (by rw [mup_ne2 (by omega), mup_ne2 (by omega), mup_ne2 (by omega)]; exact h6K.1)) (by exact (by rw [mup_ne2 (by omega), mup_ne2 (by omega), mup_ne2 (by omega)]; exact h6K.2.1)) (by exact (by rw [mup_ne2 (by omega), mup_ne2 (by omega), mup_ne2 (by omega)]; exact h6K.2.2.1)) (by exact (by rw [mup_ne2 (by omega), mup_ne2 (by omega), mup_ne2 (by omega)]; exact h6K.2.2.2.1)) (by exact (by rw [mup_ne2 (by omega), mup_ne2 (by omega), mup_self])) (by exact (by rw [mup_self]))
              have he : stp L (fT F) (fW F) (fV F t) = ((fV F t).1, (fV F t).2.1, (fV F t).2.2.1, (fV F t).2.2.2.1, hpS L (fT F) (fW F) (fV F t).2.2.1 (fV F t).2.1 (fV F t).1, (hrs (lG L (hpS L (fT F) (fW F) (fV F t).2.2.1 (fV F t).2.1 (fV F t).1)) (fW F)) - 1) := by
                rw [es]
              rw [he]
              exact frm_setV hFK hL ht (fun k hk n0 n1 n2 n3 n4 n5 => by rw [mup_ne2 (by assumption), mup_ne2 (by assumption), mup_ne2 (by assumption)]) hv
          · refine mRun.go (q_aload_n dX9_oneGoes_123 rfl rfl) ?_
            refine mRun.go (q_sipush dX9_oneGoes_124 (by decide)) ?_
            refine mRun.go (q_iload_n dX9_oneGoes_127 rfl rfl) ?_
            refine mRun.go (q_iadd dX9_oneGoes_128) ?_
            refine mRun.go (q_aload_n dX9_oneGoes_129 rfl rfl) ?_
            refine mRun.go (q_sipush dX9_oneGoes_130 (by decide)) ?_
            refine mRun.go (q_iload_n dX9_oneGoes_133 rfl rfl) ?_
            refine mRun.go (q_iadd dX9_oneGoes_134) ?_
            refine mRun.go (q_ialdE (x := hpS L (fT F) (fW F) (fV F t).2.2.1 (fV F t).2.1 (fV F t).1) dX9_oneGoes_135 ha (by omega) (by omega) (by rw [mup_ne2 (by omega), mup_ne2 (by omega), mup_self])) ?_
            refine mRun.go (q_iast dX9_oneGoes_136 ha (by omega) (by omega)) ?_
            refine mRun.go (q_aload_n dX9_oneGoes_137 rfl rfl) ?_
            refine mRun.go (q_sipush dX9_oneGoes_138 (by decide)) ?_
            refine mRun.go (q_iload_n dX9_oneGoes_141 rfl rfl) ?_
            refine mRun.go (q_iadd dX9_oneGoes_142) ?_
            refine mRun.go (q_bipush dX9_oneGoes_143 (by decide)) ?_
            refine mRun.go (q_iast dX9_oneGoes_145 ha (by omega) (by omega)) ?_
            refine mRun.go (q_aload_n dX9_oneGoes_146 rfl rfl) ?_
            refine mRun.go (q_sipush dX9_oneGoes_147 (by decide)) ?_
            refine mRun.go (q_iload_n dX9_oneGoes_150 rfl rfl) ?_
            refine mRun.go (q_iadd dX9_oneGoes_151) ?_
            refine mRun.go (q_aload_n dX9_oneGoes_152 rfl rfl) ?_
            refine mRun.go (q_sipush dX9_oneGoes_153 (by decide)) ?_
            refine mRun.go (q_iload_n dX9_oneGoes_156 rfl rfl) ?_
            refine mRun.go (q_iadd dX9_oneGoes_157) ?_
            refine mRun.go (q_ialdE (x := hpS L (fT F) (fW F) (fV F t).2.2.1 (fV F t).2.1 (fV F t).1) dX9_oneGoes_158 ha (by omega) (by omega) (by rw [mup_ne2 (by omega), mup_self])) ?_
            refine mRun.go (q_aload_n dX9_oneGoes_159 rfl rfl) ?_
            refine mRun.go (q_sipush dX9_oneGoes_160 (by decide)) ?_
            refine mRun.go (q_iload_n dX9_oneGoes_163 rfl rfl) ?_
            refine mRun.go (q_iadd dX9_oneGoes_164) ?_
            refine mRun.go (q_ialdE (x := (fV F t).2.1) dX9_oneGoes_165 ha (by omega) (by omega) (by rw [mup_ne2 (by omega), mup_ne2 (by omega), mup_ne2 (by omega), mup_ne2 (by omega), mup_ne2 (by omega)]; exact h6K.2.1)) ?_
            refine r_icmp_ne (tgt := 173) dX9_oneGoes_166 (by decide) (by omega) (by omega) (fun c166 => ?_) (fun c166 => ?_)
            · refine mRun.go (q_iconst dX9_oneGoes_173) ?_
              refine mRun.go (q_iast dX9_oneGoes_174 ha (by omega) (by omega)) ?_
              refine r_ret dX9_oneGoes_175 rfl ?_
              have es : stp L (fT F) (fW F) (fV F t) = _ := stepM_d c7 (Classical.not_not.mp c18) c51 (by omega)
              rw [arrM_y (Classical.not_not.mp c120)] at es
              refine ⟨rfl, mup (mup (mup (mup (mup (mup K a ((162 + (t : Int)).toNat) (hpS L (fT F) (fW F) (fV F t).2.2.1 (fV F t).2.1 (fV F t).1)) a ((166 + (t : Int)).toNat) (hrs (lG L (hpS L (fT F) (fW F) (fV F t).2.2.1 (fV F t).2.1 (fV F t).1)) (fW F))) a ((166 + (t : Int)).toNat) ((hrs (lG L (hpS L (fT F) (fW F) (fV F t).2.2.1 (fV F t).2.1 (fV F t).1)) (fW F)) - 1)) a ((146 + (t : Int)).toNat) (hpS L (fT F) (fW F) (fV F t).2.2.1 (fV F t).2.1 (fV F t).1)) a ((162 + (t : Int)).toNat) (-4)) a ((158 + (t : Int)).toNat) 0, rfl, (nrm_mup (nrm_mup (nrm_mup (nrm_mup (nrm_mup (nrm_mup hK (by omega)) (by omega)) (by omega)) (by omega)) (by omega)) (by omega)), fun r q1 q2 => ?_, ?_⟩
              · rw [mup_nf q2, mup_nf q2, mup_nf q2, mup_nf q2, mup_nf q2, mup_nf q2]; exact hfK r q1
              · have hv : tvM (mup (mup (mup (mup (mup (mup K a ((162 + (t : Int)).toNat) (hpS L (fT F) (fW F) (fV F t).2.2.1 (fV F t).2.1 (fV F t).1)) a ((166 + (t : Int)).toNat) (hrs (lG L (hpS L (fT F) (fW F) (fV F t).2.2.1 (fV F t).2.1 (fV F t).1)) (fW F))) a ((166 + (t : Int)).toNat) ((hrs (lG L (hpS L (fT F) (fW F) (fV F t).2.2.1 (fV F t).2.1 (fV F t).1)) (fW F)) - 1)) a ((146 + (t : Int)).toNat) (hpS L (fT F) (fW F) (fV F t).2.2.1 (fV F t).2.1 (fV F t).1)) a ((162 + (t : Int)).toNat) (-4)) a ((158 + (t : Int)).toNat) 0) a 0 t = (hpS L (fT F) (fW F) (fV F t).2.2.1 (fV F t).2.1 (fV F t).1, (fV F t).2.1, (fV F t).2.2.1, 0, (-4), (hrs (lG L (hpS L (fT F) (fW F) (fV F t).2.2.1 (fV F t).2.1 (fV F t).1)) (fW F)) - 1) := tv6 (by exact (by rw [mup_ne2 (by omega), mup_ne2 (by omega), mup_self])) (by exact (by rw [mup_ne2 (by omega), mup_ne2 (by omega), mup_ne2 (by omega), mup_ne2 (by omega), mup_ne2 (by omega), mup_ne2 (by omega)]; exact h6K.2.1)) (by exact (by rw [mup_ne2 (by omega), mup_ne2 (by omega), mup_ne2 (by omega), mup_ne2 (by omega), mup_ne2 (by omega), mup_ne2 (by omega)]; exact h6K.2.2.1)) (by exact (by rw [mup_self])) (by exact (by rw [mup_ne2 (by omega), mup_self])) (by exact (by rw [mup_ne2 (by omega), mup_ne2 (by omega), mup_ne2 (by omega), mup_self]))
                have he : stp L (fT F) (fW F) (fV F t) = (hpS L (fT F) (fW F) (fV F t).2.2.1 (fV F t).2.1 (fV F t).1, (fV F t).2.1, (fV F t).2.2.1, 0, (-4), (hrs (lG L (hpS L (fT F) (fW F) (fV F t).2.2.1 (fV F t).2.1 (fV F t).1)) (fW F)) - 1) := by
                  rw [es, Classical.not_not.mp c120]; first | rw [if_pos (Classical.not_not.mp c166)] | rw [if_neg c166]
                rw [he]
                exact frm_setV hFK hL ht (fun k hk n0 n1 n2 n3 n4 n5 => by rw [mup_ne2 (by assumption), mup_ne2 (by assumption), mup_ne2 (by assumption), mup_ne2 (by assumption), mup_ne2 (by assumption), mup_ne2 (by assumption)]) hv
            · refine mRun.go (q_iconst dX9_oneGoes_169) ?_
              refine mRun.go (q_goto (tgt := 174) dX9_oneGoes_170 (by decide)) ?_
              refine mRun.go (q_iast dX9_oneGoes_174 ha (by omega) (by omega)) ?_
              refine r_ret dX9_oneGoes_175 rfl ?_
              have es : stp L (fT F) (fW F) (fV F t) = _ := stepM_d c7 (Classical.not_not.mp c18) c51 (by omega)
              rw [arrM_y (Classical.not_not.mp c120)] at es
              refine ⟨rfl, mup (mup (mup (mup (mup (mup K a ((162 + (t : Int)).toNat) (hpS L (fT F) (fW F) (fV F t).2.2.1 (fV F t).2.1 (fV F t).1)) a ((166 + (t : Int)).toNat) (hrs (lG L (hpS L (fT F) (fW F) (fV F t).2.2.1 (fV F t).2.1 (fV F t).1)) (fW F))) a ((166 + (t : Int)).toNat) ((hrs (lG L (hpS L (fT F) (fW F) (fV F t).2.2.1 (fV F t).2.1 (fV F t).1)) (fW F)) - 1)) a ((146 + (t : Int)).toNat) (hpS L (fT F) (fW F) (fV F t).2.2.1 (fV F t).2.1 (fV F t).1)) a ((162 + (t : Int)).toNat) (-4)) a ((158 + (t : Int)).toNat) 1, rfl, (nrm_mup (nrm_mup (nrm_mup (nrm_mup (nrm_mup (nrm_mup hK (by omega)) (by omega)) (by omega)) (by omega)) (by omega)) (by omega)), fun r q1 q2 => ?_, ?_⟩
              · rw [mup_nf q2, mup_nf q2, mup_nf q2, mup_nf q2, mup_nf q2, mup_nf q2]; exact hfK r q1
              · have hv : tvM (mup (mup (mup (mup (mup (mup K a ((162 + (t : Int)).toNat) (hpS L (fT F) (fW F) (fV F t).2.2.1 (fV F t).2.1 (fV F t).1)) a ((166 + (t : Int)).toNat) (hrs (lG L (hpS L (fT F) (fW F) (fV F t).2.2.1 (fV F t).2.1 (fV F t).1)) (fW F))) a ((166 + (t : Int)).toNat) ((hrs (lG L (hpS L (fT F) (fW F) (fV F t).2.2.1 (fV F t).2.1 (fV F t).1)) (fW F)) - 1)) a ((146 + (t : Int)).toNat) (hpS L (fT F) (fW F) (fV F t).2.2.1 (fV F t).2.1 (fV F t).1)) a ((162 + (t : Int)).toNat) (-4)) a ((158 + (t : Int)).toNat) 1) a 0 t = (hpS L (fT F) (fW F) (fV F t).2.2.1 (fV F t).2.1 (fV F t).1, (fV F t).2.1, (fV F t).2.2.1, 1, (-4), (hrs (lG L (hpS L (fT F) (fW F) (fV F t).2.2.1 (fV F t).2.1 (fV F t).1)) (fW F)) - 1) := tv6 (by exact (by rw [mup_ne2 (by omega), mup_ne2 (by omega), mup_self])) (by exact (by rw [mup_ne2 (by omega), mup_ne2 (by omega), mup_ne2 (by omega), mup_ne2 (by omega), mup_ne2 (by omega), mup_ne2 (by omega)]; exact h6K.2.1)) (by exact (by rw [mup_ne2 (by omega), mup_ne2 (by omega), mup_ne2 (by omega), mup_ne2 (by omega), mup_ne2 (by omega), mup_ne2 (by omega)]; exact h6K.2.2.1)) (by exact (by rw [mup_self])) (by exact (by rw [mup_ne2 (by omega), mup_self])) (by exact (by rw [mup_ne2 (by omega), mup_ne2 (by omega), mup_ne2 (by omega), mup_self]))
                have he : stp L (fT F) (fW F) (fV F t) = (hpS L (fT F) (fW F) (fV F t).2.2.1 (fV F t).2.1 (fV F t).1, (fV F t).2.1, (fV F t).2.2.1, 1, (-4), (hrs (lG L (hpS L (fT F) (fW F) (fV F t).2.2.1 (fV F t).2.1 (fV F t).1)) (fW F)) - 1) := by
                  rw [es, Classical.not_not.mp c120]; first | rw [if_pos (Classical.not_not.mp c166)] | rw [if_neg c166]
                rw [he]
                exact frm_setV hFK hL ht (fun k hk n0 n1 n2 n3 n4 n5 => by rw [mup_ne2 (by assumption), mup_ne2 (by assumption), mup_ne2 (by assumption), mup_ne2 (by assumption), mup_ne2 (by assumption), mup_ne2 (by assumption)]) hv
        · refine mRun.go (q_aload_n dX9_oneGoes_76 rfl rfl) ?_
          refine mRun.go (q_sipush dX9_oneGoes_77 (by decide)) ?_
          refine mRun.go (q_iload_n dX9_oneGoes_80 rfl rfl) ?_
          refine mRun.go (q_iadd dX9_oneGoes_81) ?_
          refine mRun.go (q_iconst dX9_oneGoes_82) ?_
          refine mRun.go (q_iast dX9_oneGoes_83 ha (by omega) (by omega)) ?_
          refine r_ret dX9_oneGoes_84 rfl ?_
          have es : stp L (fT F) (fW F) (fV F t) = _ := stepM_c c7 (Classical.not_not.mp c18) c51 (by omega)
          refine ⟨rfl, mup K a ((158 + (t : Int)).toNat) 2, rfl, (nrm_mup hK (by omega)), fun r q1 q2 => ?_, ?_⟩
          · rw [mup_nf q2]; exact hfK r q1
          · have hv : tvM (mup K a ((158 + (t : Int)).toNat) 2) a 0 t = ((fV F t).1, (fV F t).2.1, (fV F t).2.2.1, 2, (fV F t).2.2.2.2.1, (fV F t).2.2.2.2.2) := tv6 (by exact (by rw [mup_ne2 (by omega)]; exact h6K.1)) (by exact (by rw [mup_ne2 (by omega)]; exact h6K.2.1)) (by exact (by rw [mup_ne2 (by omega)]; exact h6K.2.2.1)) (by exact (by rw [mup_self])) (by exact (by rw [mup_ne2 (by omega)]; exact h6K.2.2.2.2.1)) (by exact (by rw [mup_ne2 (by omega)]; exact h6K.2.2.2.2.2))
            have he : stp L (fT F) (fW F) (fV F t) = ((fV F t).1, (fV F t).2.1, (fV F t).2.2.1, 2, (fV F t).2.2.2.2.1, (fV F t).2.2.2.2.2) := by
              rw [es]
            rw [he]
            exact frm_setV hFK hL ht (fun k hk n0 n1 n2 n3 n4 n5 => by rw [mup_ne2 (by assumption)]) hv
      · refine r_ret dX9_oneGoes_54 rfl ?_
        have es : stp L (fT F) (fW F) (fV F t) = _ := stepM_b c7 (Classical.not_not.mp c18) (Classical.not_not.mp c51)
        refine ⟨rfl, K, rfl, hK, fun r q1 q2 => ?_, ?_⟩
        · exact hfK r q1
        · have hv : tvM (K) a 0 t = ((fV F t).1, (fV F t).2.1, (fV F t).2.2.1, (fV F t).2.2.2.1, (fV F t).2.2.2.2.1, (fV F t).2.2.2.2.2) := tv6 (by exact h6K.1) (by exact h6K.2.1) (by exact h6K.2.2.1) (by exact h6K.2.2.2.1) (by exact h6K.2.2.2.2.1) (by exact h6K.2.2.2.2.2)
          have he : stp L (fT F) (fW F) (fV F t) = ((fV F t).1, (fV F t).2.1, (fV F t).2.2.1, (fV F t).2.2.2.1, (fV F t).2.2.2.2.1, (fV F t).2.2.2.2.2) := by
            rw [es]
          rw [he]
          exact frm_setV hFK hL ht (fun k hk n0 n1 n2 n3 n4 n5 => rfl) hv
  · refine r_ret dX9_oneGoes_10 rfl ?_
    have es : stp L (fT F) (fW F) (fV F t) = _ := stepM_a c7
    refine ⟨rfl, I, rfl, hI, fun r q1 q2 => ?_, ?_⟩
    · rfl
    · have hv : tvM (I) a 0 t = ((fV F t).1, (fV F t).2.1, (fV F t).2.2.1, (fV F t).2.2.2.1, (fV F t).2.2.2.2.1, (fV F t).2.2.2.2.2) := tv6 (by exact h6.1) (by exact h6.2.1) (by exact h6.2.2.1) (by exact h6.2.2.2.1) (by exact h6.2.2.2.2.1) (by exact h6.2.2.2.2.2)
      have he : stp L (fT F) (fW F) (fV F t) = ((fV F t).1, (fV F t).2.1, (fV F t).2.2.1, (fV F t).2.2.2.1, (fV F t).2.2.2.2.1, (fV F t).2.2.2.2.2) := by
        rw [es]
      rw [he]
      exact frm_setV hF hL ht (fun k hk n0 n1 n2 n3 n4 n5 => rfl) hv
