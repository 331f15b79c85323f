/-! ===== the reference: years ===== -/
set_option maxRecDepth 100000 in
theorem m_yearDraws {σ : List mC} {I : mI} {L : Ld} (hI : Nrm I) (hD : IsMd σ) (hL : LdOk L) (hLR : LRM I L) {F : Fs} (hF : FRM I 148 0 L F) (hv : ∀ t : Nat, (t : Int) < lTv L → TvM (lP L) (lD L) (fV F t)) (hN : I 144 5 = lTv L) {q : Int} (hq : 0 ≤ q ∧ q < 65521) : mMt mX9_yearDraws [mr 144, mi q] (σ, I) (fun v h => v = none ∧ ∃ K, h = (σ, K) ∧ Nrm K ∧ (∀ r, r ≠ 148 → K r = I r) ∧ FRM K 148 0 L (stirF L F q)) := by
  refine mMt.of pl_9 (Nat.le_of_ble_eq_true rfl) ?_
  show mRun mZt mX9_yearDraws 0 [some (mr 144), some (mi q), none] [] (σ, I) _
  have hpr := lp_rng hL
  have hqe := lq_eq hL
  have hwr := hL.2.1
  have hrr := hL.1
  have hdr := hL.2.2.1
  have hnt := hL.2.2.2.1
  have hpq : lR L * lW L = lP L := rfl
  have hd1 : 0 ≤ q / 8 % lD L := Int.emod_nonneg _ (by omega)
  have hd2 : q / 8 % lD L < lD L := Int.emod_lt_of_pos _ (by omega)
  have hx1 : 0 ≤ q / 32 % (lR L * lW L) := Int.emod_nonneg _ (by omega)
  have hx2 : q / 32 % (lR L * lW L) < lR L * lW L := Int.emod_lt_of_pos _ (by omega)
  have em1 : mdl (q / 8) (lD L) = q / 8 % lD L := by unfold mdl; rw [if_pos (by omega)]
  have em2 : mdl (q / 32) (lP L) = q / 32 % (lR L * lW L) := by unfold mdl; rw [if_pos (by omega)]; rfl
  refine mRun.go (q_iload_n dX9_yearDraws_0 rfl rfl) ?_
  refine mRun.go (q_bipush dX9_yearDraws_1 (by decide)) ?_
  refine mRun.go (q_irem dX9_yearDraws_3 (by omega) (by omega)) ?_
  refine mRun.go (q_istore_n (ls' := [some (mr 144), some (mi q), some (mi (q % 8))]) dX9_yearDraws_4 rfl (Nat.le_of_ble_eq_true rfl) rfl) ?_
  refine mRun.go (q_iload_n dX9_yearDraws_5 rfl rfl) ?_
  refine r_if_ne (tgt := 24) dX9_yearDraws_6 (by decide) (by omega) (fun c6 => ?_) (fun c6 => ?_)
  · refine mRun.go (q_iload_n dX9_yearDraws_24 rfl rfl) ?_
    refine mRun.go (q_iconst dX9_yearDraws_25) ?_
    refine r_icmp_ne (tgt := 73) dX9_yearDraws_26 (by decide) (by omega) (by omega) (fun c26 => ?_) (fun c26 => ?_)
    · refine mRun.go (q_iload_n dX9_yearDraws_73 rfl rfl) ?_
      refine mRun.go (q_iconst dX9_yearDraws_74) ?_
      refine r_icmp_ne (tgt := 137) dX9_yearDraws_75 (by decide) (by omega) (by omega) (fun c75 => ?_) (fun c75 => ?_)
      · refine r_ret dX9_yearDraws_137 rfl ?_
        have e : stirF L F q = F := by
          unfold stirF
          rw [if_neg (by omega), if_neg (by omega)]
          first | (rw [if_neg (by omega)]; done) | (rw [if_pos (by omega)]; unfold sendF; rw [if_neg (by have := (mdl_rng (x := q / 8) (n := lTv L) (by omega)).1; omega)]; done)
        rw [e]
        exact ⟨rfl, I, rfl, hI, fun _ _ => rfl, hF⟩
      · refine mRun.go (q_aload_n dX9_yearDraws_78 rfl rfl) ?_
        refine mRun.go (q_getE (x := lTv L) dX9_yearDraws_79 fo_X9_94 hD.1 rfl hN) ?_
        refine r_if_le (tgt := 137) dX9_yearDraws_82 (by decide) (by omega) (fun c82 => ?_) (fun c82 => ?_)
        · refine r_ret dX9_yearDraws_137 rfl ?_
          have e : stirF L F q = F := by
            unfold stirF
            rw [if_neg (by omega), if_neg (by omega)]
            first | (rw [if_neg (by omega)]; done) | (rw [if_pos (by omega)]; unfold sendF; rw [if_neg (by have := (mdl_rng (x := q / 8) (n := lTv L) (by omega)).1; omega)]; done)
          rw [e]
          exact ⟨rfl, I, rfl, hI, fun _ _ => rfl, hF⟩
        · have ht1 : 0 ≤ q / 8 % lTv L := Int.emod_nonneg _ (by omega)
          have ht2 : q / 8 % lTv L < lTv L := Int.emod_lt_of_pos _ (by omega)
          have em3 : mdl (q / 8) (lTv L) = q / 8 % lTv L := by unfold mdl; rw [if_pos (by omega)]
          refine mRun.go (q_aload_n dX9_yearDraws_85 rfl rfl) ?_
          refine mRun.go (q_getR dX9_yearDraws_86 fo_X9_19 hD.1 rfl) ?_
          refine mRun.go (q_sipush dX9_yearDraws_89 (by decide)) ?_
          refine mRun.go (q_iload_n dX9_yearDraws_92 rfl rfl) ?_
          refine mRun.go (q_bipush dX9_yearDraws_93 (by decide)) ?_
          refine mRun.go (q_idiv dX9_yearDraws_95 (by omega) (by omega)) ?_
          refine mRun.go (q_aload_n dX9_yearDraws_96 rfl rfl) ?_
          refine mRun.go (q_getE (x := lTv L) dX9_yearDraws_97 fo_X9_94 hD.1 rfl hN) ?_
          refine mRun.go (q_irem dX9_yearDraws_100 (by omega) (by omega)) ?_
          refine mRun.go (q_iadd dX9_yearDraws_101) ?_
          refine mRun.go (q_ialdE (x := (fV F (q / 8 % lTv L).toNat).2.2.2.1) dX9_yearDraws_102 hD.2.2.2.2.1 (by omega) (by omega) (by have h := (tv6i (hF.2.2.2 (q / 8 % lTv L).toNat (by omega))).2.2.2.1; rw [show (((q / 8 % lTv L).toNat : Nat) : Int) = q / 8 % lTv L by omega] at h; exact h)) ?_
          refine mRun.go (q_iconst dX9_yearDraws_103) ?_
          refine r_icmp_eq (tgt := 137) dX9_yearDraws_104 (by decide) (by have := (hv (q / 8 % lTv L).toNat (by omega)).2.2.2.1; omega) (by omega) (fun c104 => ?_) (fun c104 => ?_)
          · refine r_ret dX9_yearDraws_137 rfl ?_
            have e : stirF L F q = F := by unfold stirF; rw [if_neg (by omega), if_neg (by omega), if_pos (by omega)]; unfold sendF; rw [em3, if_neg (by omega)]
            rw [e]
            exact ⟨rfl, I, rfl, hI, fun _ _ => rfl, hF⟩
          · refine mRun.go (q_aload_n dX9_yearDraws_107 rfl rfl) ?_
            refine mRun.go (q_getR dX9_yearDraws_108 fo_X9_19 hD.1 rfl) ?_
            refine mRun.go (q_iload_n dX9_yearDraws_111 rfl rfl) ?_
            refine mRun.go (q_bipush dX9_yearDraws_112 (by decide)) ?_
            refine mRun.go (q_idiv dX9_yearDraws_114 (by omega) (by omega)) ?_
            refine mRun.go (q_aload_n dX9_yearDraws_115 rfl rfl) ?_
            refine mRun.go (q_getE (x := lTv L) dX9_yearDraws_116 fo_X9_94 hD.1 rfl hN) ?_
            refine mRun.go (q_irem dX9_yearDraws_119 (by omega) (by omega)) ?_
            refine mRun.go (q_iload_n dX9_yearDraws_120 rfl rfl) ?_
            refine mRun.go (q_bipush dX9_yearDraws_121 (by decide)) ?_
            refine mRun.go (q_idiv dX9_yearDraws_123 (by omega) (by omega)) ?_
            refine mRun.go (q_aload_n dX9_yearDraws_124 rfl rfl) ?_
            refine mRun.go (q_getE (x := lR L) dX9_yearDraws_125 fo_X9_85 hD.1 rfl hLR.1) ?_
            refine mRun.go (q_aload_n dX9_yearDraws_128 rfl rfl) ?_
            refine mRun.go (q_getE (x := lW L) dX9_yearDraws_129 fo_X9_88 hD.1 rfl hLR.2.1) ?_
            refine mRun.go (q_imul dX9_yearDraws_132) ?_
            refine mRun.go (q_irem dX9_yearDraws_133 (by omega) (by omega)) ?_
            obtain ⟨v1, h1, hc1, rfl, J, rfl, hJ, hfJ, hFJ⟩ := m_sends (t := (q / 8 % lTv L).toNat) (y := q / 32 % (lR L * lW L)) hI hL hD.2.2.2.2.1 hF (by omega) (hv _ (by omega)) (by omega)
            rw [show (((q / 8 % lTv L).toNat : Nat) : Int) = q / 8 % lTv L by omega] at hc1
            refine mRun.go (q_callSv [mr 148, mi ((q / 8) % (lTv L)), mi ((q / 32) % ((lR L) * (lW L)))] [] dX9_yearDraws_134 co_X9_229 ⟨Nat.le_of_ble_eq_true rfl, Nat.le_of_ble_eq_true rfl⟩ gw_1020 rfl rfl (Nat.le_of_ble_eq_true rfl) hc1) ?_
            refine r_ret dX9_yearDraws_137 rfl ?_
            have e : stirF L F q = setV F (q / 8 % lTv L).toNat (goToT (fV F (q / 8 % lTv L).toNat) (q / 32 % (lR L * lW L))) := by unfold stirF; rw [if_neg (by omega), if_neg (by omega), if_pos (by omega)]; unfold sendF; rw [em2, em3, if_pos (by omega)]
            rw [e]
            exact ⟨rfl, J, rfl, hJ, hfJ, hFJ⟩
    · refine mRun.go (q_aload_n dX9_yearDraws_29 rfl rfl) ?_
      refine mRun.go (q_getR dX9_yearDraws_30 fo_X9_19 hD.1 rfl) ?_
      refine mRun.go (q_iconst dX9_yearDraws_33) ?_
      refine mRun.go (q_bipush dX9_yearDraws_34 (by decide)) ?_
      refine mRun.go (q_iload_n dX9_yearDraws_36 rfl rfl) ?_
      refine mRun.go (q_bipush dX9_yearDraws_37 (by decide)) ?_
      refine mRun.go (q_idiv dX9_yearDraws_39 (by omega) (by omega)) ?_
      refine mRun.go (q_aload_n dX9_yearDraws_40 rfl rfl) ?_
      refine mRun.go (q_getE (x := lD L) dX9_yearDraws_41 fo_X9_91 hD.1 rfl hLR.2.2.1) ?_
      refine mRun.go (q_irem dX9_yearDraws_44 (by omega) (by omega)) ?_
      refine mRun.go (q_imul dX9_yearDraws_45) ?_
      refine mRun.go (q_iadd dX9_yearDraws_46) ?_
      refine mRun.go (q_iload_n dX9_yearDraws_47 rfl rfl) ?_
      refine mRun.go (q_bipush dX9_yearDraws_48 (by decide)) ?_
      refine mRun.go (q_idiv dX9_yearDraws_50 (by omega) (by omega)) ?_
      refine mRun.go (q_aload_n dX9_yearDraws_51 rfl rfl) ?_
      refine mRun.go (q_getE (x := lR L) dX9_yearDraws_52 fo_X9_85 hD.1 rfl hLR.1) ?_
      refine mRun.go (q_aload_n dX9_yearDraws_55 rfl rfl) ?_
      refine mRun.go (q_getE (x := lW L) dX9_yearDraws_56 fo_X9_88 hD.1 rfl hLR.2.1) ?_
      refine mRun.go (q_imul dX9_yearDraws_59) ?_
      refine mRun.go (q_irem dX9_yearDraws_60 (by omega) (by omega)) ?_
      refine mRun.go (q_iadd dX9_yearDraws_61) ?_
      refine mRun.go (q_iload_n dX9_yearDraws_62 rfl rfl) ?_
      refine mRun.go (q_sipush dX9_yearDraws_63 (by decide)) ?_
      refine mRun.go (q_idiv dX9_yearDraws_66 (by omega) (by omega)) ?_
      refine mRun.go (q_iconst dX9_yearDraws_67) ?_
      refine mRun.go (q_irem dX9_yearDraws_68 (by omega) (by omega)) ?_
      refine mRun.go (q_iast dX9_yearDraws_69 hD.2.2.2.2.1 (by omega) (by omega)) ?_
      refine mRun.go (q_goto (tgt := 137) dX9_yearDraws_70 (by decide)) ?_
      refine r_ret dX9_yearDraws_137 rfl ?_
      have e : stirF L F q = setTl F (36 * (q / 8 % lD L) + q / 32 % (lR L * lW L)) (q / 2048 % 4) := by unfold stirF; rw [if_neg (by omega), if_pos (by omega), em1, em2]
      rw [e]
      exact ⟨rfl, _, rfl, (nrm_mup hI (by omega)), fun r h => mup_nf h, frm_tlN hF hL (by omega) (by omega)⟩
  · refine mRun.go (q_aload_n dX9_yearDraws_9 rfl rfl) ?_
    refine mRun.go (q_getR dX9_yearDraws_10 fo_X9_19 hD.1 rfl) ?_
    refine mRun.go (q_iconst dX9_yearDraws_13) ?_
    refine mRun.go (q_iload_n dX9_yearDraws_14 rfl rfl) ?_
    refine mRun.go (q_bipush dX9_yearDraws_15 (by decide)) ?_
    refine mRun.go (q_idiv dX9_yearDraws_17 (by omega) (by omega)) ?_
    refine mRun.go (q_iconst dX9_yearDraws_18) ?_
    refine mRun.go (q_irem dX9_yearDraws_19 (by omega) (by omega)) ?_
    refine mRun.go (q_iast dX9_yearDraws_20 hD.2.2.2.2.1 (by omega) (by omega)) ?_
    refine mRun.go (q_goto (tgt := 137) dX9_yearDraws_21 (by decide)) ?_
    refine r_ret dX9_yearDraws_137 rfl ?_
    have e : stirF L F q = setW F (q / 8 % 4) := by unfold stirF; rw [if_pos (by omega)]
    rw [e]
    exact ⟨rfl, _, rfl, (nrm_mup hI (by omega)), fun r h => mup_nf h, frm_wet hF⟩

set_option maxRecDepth 100000 in
theorem g_year_loop {σ : List mC} {I : mI} {S : Sx} {B z v : Int} {N : Nat} (hM : MS σ I S) (hS : SxOk B S) (hB : B ≤ 1000000) (hz : 0 ≤ z ∧ z ≤ 9999) (hv2 : 0 ≤ v ∧ v ≤ 1) (hN6 : N ≤ 60) : ∀ (n m : Nat) (K : mI) {o5 o6 : Option mV}, N - m < n → m ≤ N → Nrm K → FrM I K → FRM K 148 0 (sL S) (yearS (sL S) (sF S) z m) → mRun mZt mX9_year 55 [some (mr 144), some (mi z), some (mi (N : Int)), some (mi v), some (mi (m : Int)), o5, o6] [] (σ, K) (OutM σ I S (manyS (sL S) (yearS (sL S) (sF S) z N) (if v = 0 then 1 else 2))) := by
  intro n
  induction n with
  | zero => intro m K o5 o6 h; omega
  | succ n ih =>
    intro m K o5 o6 hn hm hK hfr hFK
    have hI := hM.1
    have hD := hM.2.1
    have hL := hS.1
    have hsz := hM.2.2.1
    have hLR := hM.2.2.2.2.2.2.1
    have hF := hM.2.2.2.2.2.2.2.1
    have hun := hM.2.2.2.2.2.2.2.2.1
    have hpa := hM.2.2.2.2.2.2.2.2.2.1
    have hkm := hM.2.2.2.2.2.2.2.2.2.2.1
    have hke := hM.2.2.2.2.2.2.2.2.2.2.2.1
    have hhm := hM.2.2.2.2.2.2.2.2.2.2.2.2.1
    have hhe := hM.2.2.2.2.2.2.2.2.2.2.2.2.2.1
    have hN := hM.2.2.2.2.2.2.2.2.2.2.2.2.2.2
    have hpr := lp_rng hL
    have hqe := lq_eq hL
    have hwr := hL.2.1
    have hrr := hL.1
    have hdr := hL.2.2.1
    have hnt := hL.2.2.2.1
    have hwF := hS.2.1.1
    have hhF := hS.2.1.2.1
    have hvF := hS.2.1.2.2.2
    have hH8 := hS.2.2.2.2.2.2.1
    have hU8 := hS.2.2.1
    have hK2 := hS.2.2.2.2.1
    have hLn := hS.2.2.2.2.2.2.2.2
    refine mRun.go (q_iload dX9_year_55 rfl) ?_
    refine mRun.go (q_iload_n dX9_year_57 rfl rfl) ?_
    refine r_icmp_ge (tgt := 107) dX9_year_58 (by decide) (by omega) (by omega) (fun c58 => ?_) (fun c58 => ?_)
    · refine mRun.go (q_aload_n dX9_year_107 rfl rfl) ?_
      refine mRun.go (q_aload_n dX9_year_108 rfl rfl) ?_
      refine mRun.go (q_getR dX9_year_109 fo_X9_19 hD.1 rfl) ?_
      refine mRun.go (q_iload_n dX9_year_112 rfl rfl) ?_
      have j113 : ∀ {post : Option mV → mH → Prop}, mRun mZt mX9_year 121 [some (mr 144), some (mi z), some (mi (N : Int)), some (mi v), some (mi (m : Int)), o5, o6] [mi (if v = 0 then 1 else 2), mr 148, mr 144] (σ, K) post → mRun mZt mX9_year 113 [some (mr 144), some (mi z), some (mi (N : Int)), some (mi v), some (mi (m : Int)), o5, o6] [mi v, mr 148, mr 144] (σ, K) post := by
        intro post k
        refine r_if_ne (tgt := 120) dX9_year_113 (by decide) (by omega) (fun c113 => ?_) (fun c113 => ?_)
        · refine mRun.go (q_iconst dX9_year_120) ?_
          first | (rw [if_pos (by omega)] at k; exact k) | (rw [if_neg (by omega)] at k; exact k)
        · refine mRun.go (q_iconst dX9_year_116) ?_
          refine mRun.go (q_goto (tgt := 121) dX9_year_117 (by decide)) ?_
          first | (rw [if_pos (by omega)] at k; exact k) | (rw [if_neg (by omega)] at k; exact k)
      refine j113 ?_
      have hme : m = N := by omega
      subst hme
      have hok := yearS_ok (z := z) hS.1 hS.2.1 m
      have hmn := m_manyOf (s := if v = 0 then 1 else 2) hK hD hL (hLR.frm hfr) hD.2.2.2.2.1 hFK (Or.inr rfl) ((hfr.2 5 (by decide)).trans hN) (by split <;> omega) hok.2.2.2
      refine mRun.go (q_callVi (r := 144) [mr 148, mi (if v = 0 then 1 else 2)] [] dX9_year_121 co_X9_269 ⟨Nat.le_of_ble_eq_true rfl, Nat.le_of_ble_eq_true rfl⟩ gw_1114 gs_54 rfl hD.1 rfl rfl rfl (Nat.le_of_ble_eq_true rfl) hmn) ?_
      refine r_iret dX9_year_124 rfl ?_
      exact outm_q hM hS hK hfr
    · refine mRun.go (q_ldc2 (a := 7919) dX9_year_61 gw_1105) ?_
      refine mRun.go (q_iload_n dX9_year_64 rfl rfl) ?_
      refine mRun.go (q_i2l dX9_year_65 (by omega)) ?_
      refine mRun.go (q_lmul dX9_year_66) ?_
      refine mRun.go (q_ldc2 (a := 6151) dX9_year_67 gw_1106) ?_
      refine mRun.go (q_iload dX9_year_70 rfl) ?_
      refine mRun.go (q_i2l dX9_year_72 (by omega)) ?_
      refine mRun.go (q_lmul dX9_year_73) ?_
      refine mRun.go (q_ladd dX9_year_74) ?_
      refine mRun.go (q_lconst (a := 1) dX9_year_75 (by decide)) ?_
      refine mRun.go (q_ladd dX9_year_76) ?_
      refine mRun.go (q_lstore (ls' := [some (mr 144), some (mi z), some (mi (N : Int)), some (mi v), some (mi (m : Int)), some (ml (((7919 * z) + (6151 * (m : Int))) + 1)), none]) dX9_year_77 (Nat.le_of_ble_eq_true rfl) rfl) ?_
      refine mRun.go (q_aload_n dX9_year_79 rfl rfl) ?_
      refine mRun.go (q_lload dX9_year_80 rfl) ?_
      refine mRun.go (q_lload dX9_year_82 rfl) ?_
      refine mRun.go (q_lmul dX9_year_84) ?_
      refine mRun.go (q_ldc2 (a := 65521) dX9_year_85 gw_1107) ?_
      refine mRun.go (q_lrem dX9_year_88 (draw_sq (by omega) (by omega)) (by decide)) ?_
      refine mRun.go (q_l2i dX9_year_89) ?_
      have hok := yearS_ok (z := z) hS.1 hS.2.1 m
      have hdq := draw_rng z (m : Int)
      obtain ⟨v0, h0, hc0, rfl, J, rfl, hJ, hfJ, hFJ⟩ := m_yearDraws (q := drawS z (m : Int)) hK hD hL (hLR.frm hfr) hFK hok.2.2.2 ((hfr.2 5 (by decide)).trans hN) hdq
      have hfr2 : FrM I J := frm_tr hfr (frm_a (fun r a b => hfJ r b))
      have hok2 := stirF_ok (w := drawS z (m : Int)) hS.1 hok hdq
      refine mRun.go (q_callVv (r := 144) [mi (((((7919 * z) + (6151 * (m : Int))) + 1) * (((7919 * z) + (6151 * (m : Int))) + 1)) % 65521)] [] dX9_year_90 co_X9_265 ⟨Nat.le_of_ble_eq_true rfl, Nat.le_of_ble_eq_true rfl⟩ gw_1110 gs_53 rfl hD.1 rfl rfl rfl (Nat.le_of_ble_eq_true rfl) hc0) ?_
      refine mRun.go (q_aload_n dX9_year_93 rfl rfl) ?_
      refine mRun.go (q_aload_n dX9_year_94 rfl rfl) ?_
      refine mRun.go (q_getR dX9_year_95 fo_X9_19 hD.1 rfl) ?_
      obtain ⟨v1, h1, hc1, rfl, K2, rfl, hK2, hfK2, hFK2⟩ := m_hourGoes (F := stirF (sL S) (yearS (sL S) (sF S) z m) (drawS z (m : Int))) hJ hD hL (hLR.frm hfr2) hD.2.2.2.2.1 hFJ (Or.inr rfl) ((hfr2.2 5 (by decide)).trans hN) hok2.1 ⟨hok2.2.1.1, by have h8 : fH (stirF (sL S) (yearS (sL S) (sF S) z m) (drawS z (m : Int))) ≤ B + m := hok2.2.1.2; omega⟩ hok2.2.2.2
      refine mRun.go (q_callVv (r := 144) [mr 148] [] dX9_year_98 co_X9_223 ⟨Nat.le_of_ble_eq_true rfl, Nat.le_of_ble_eq_true rfl⟩ gw_996 gs_48 rfl hD.1 rfl rfl rfl (Nat.le_of_ble_eq_true rfl) hc1) ?_
      refine mRun.go (q_iinc (ls' := [some (mr 144), some (mi z), some (mi (N : Int)), some (mi v), some (mi ((m : Int) + 1)), some (ml (((7919 * z) + (6151 * (m : Int))) + 1)), none]) dX9_year_101 rfl (Nat.le_of_ble_eq_true rfl) rfl) ?_
      refine mRun.go (q_goto (tgt := 55) dX9_year_104 (by decide)) ?_
      have e1 : ((m : Int) + 1) = ((m + 1 : Nat) : Int) := by omega
      rw [e1]
      exact ih (m + 1) K2 (by omega) (by omega) hK2 (frm_tr hfr2 (frm_a hfK2)) hFK2

set_option maxRecDepth 100000 in
theorem g_year {σ : List mC} {I : mI} {S : Sx} {B : Int} {z n v : Int} (hM : MS σ I S) (hS : SxOk B S) (hB : B ≤ 1000000) (hz : -2147483648 ≤ z ∧ z < 2147483648) (hn : -2147483648 ≤ n ∧ n < 2147483648) (hv : -2147483648 ≤ v ∧ v < 2147483648) : mMt mX9_year [mr 144, mi z, mi n, mi v] (σ, I) (OutM σ I S (a_year S z n v)) := by
  refine mMt.of pl_9 (Nat.le_of_ble_eq_true rfl) ?_
  show mRun mZt mX9_year 0 [some (mr 144), some (mi z), some (mi n), some (mi v), none, none, none] [] (σ, I) _
  have hI := hM.1
  have hD := hM.2.1
  have hL := hS.1
  have hsz := hM.2.2.1
  have hLR := hM.2.2.2.2.2.2.1
  have hF := hM.2.2.2.2.2.2.2.1
  have hun := hM.2.2.2.2.2.2.2.2.1
  have hpa := hM.2.2.2.2.2.2.2.2.2.1
  have hkm := hM.2.2.2.2.2.2.2.2.2.2.1
  have hke := hM.2.2.2.2.2.2.2.2.2.2.2.1
  have hhm := hM.2.2.2.2.2.2.2.2.2.2.2.2.1
  have hhe := hM.2.2.2.2.2.2.2.2.2.2.2.2.2.1
  have hN := hM.2.2.2.2.2.2.2.2.2.2.2.2.2.2
  have hpr := lp_rng hL
  have hqe := lq_eq hL
  have hwr := hL.2.1
  have hrr := hL.1
  have hdr := hL.2.2.1
  have hnt := hL.2.2.2.1
  have hwF := hS.2.1.1
  have hhF := hS.2.1.2.1
  have hvF := hS.2.1.2.2.2
  have hH8 := hS.2.2.2.2.2.2.1
  have hU8 := hS.2.2.1
  have hK2 := hS.2.2.2.2.1
  have hLn := hS.2.2.2.2.2.2.2.2
  refine mRun.go (q_iload_n dX9_year_0 rfl rfl) ?_
  refine mRun.go (q_i2l dX9_year_1 hz) ?_
  refine mRun.go (q_lconst (a := 0) dX9_year_2 (by decide)) ?_
  refine mRun.go (q_ldc2 (a := 9999) dX9_year_3 gw_1103) ?_
  refine mRun.go (q_callSi [ml z, ml 0, ml 9999] [] dX9_year_6 co_X9_114 ⟨Nat.le_of_ble_eq_true rfl, Nat.le_of_ble_eq_true rfl⟩ gw_855 rfl rfl (Nat.le_of_ble_eq_true rfl) (k_in (by omega) (by omega) (by omega))) ?_
  refine r_if_eq (tgt := 34) dX9_year_9 (by decide) (by split <;> omega) (fun c9 => ?_) (fun c9 => ?_)
  · have h9 := ite00 c9
    refine mRun.go (q_iconst dX9_year_34) ?_
    refine r_iret dX9_year_35 rfl ?_
    have e0 : a_year S z n v = -1 := by unfold a_year; rw [if_neg (by omega)]
    rw [e0]
    exact outm_q hM hS hI frm_rf
  · have h9 := ite01 c9
    refine mRun.go (q_iload_n dX9_year_12 rfl rfl) ?_
    refine mRun.go (q_i2l dX9_year_13 hn) ?_
    refine mRun.go (q_lconst (a := 1) dX9_year_14 (by decide)) ?_
    refine mRun.go (q_ldc2 (a := 60) dX9_year_15 gw_1104) ?_
    refine mRun.go (q_callSi [ml n, ml 1, ml 60] [] dX9_year_18 co_X9_114 ⟨Nat.le_of_ble_eq_true rfl, Nat.le_of_ble_eq_true rfl⟩ gw_855 rfl rfl (Nat.le_of_ble_eq_true rfl) (k_in (by omega) (by omega) (by omega))) ?_
    refine r_if_eq (tgt := 34) dX9_year_21 (by decide) (by split <;> omega) (fun c21 => ?_) (fun c21 => ?_)
    · have h21 := ite00 c21
      refine mRun.go (q_iconst dX9_year_34) ?_
      refine r_iret dX9_year_35 rfl ?_
      have e0 : a_year S z n v = -1 := by unfold a_year; rw [if_neg (by omega)]
      rw [e0]
      exact outm_q hM hS hI frm_rf
    · have h21 := ite01 c21
      refine mRun.go (q_iload_n dX9_year_24 rfl rfl) ?_
      refine mRun.go (q_i2l dX9_year_25 hv) ?_
      refine mRun.go (q_lconst (a := 0) dX9_year_26 (by decide)) ?_
      refine mRun.go (q_lconst (a := 1) dX9_year_27 (by decide)) ?_
      refine mRun.go (q_callSi [ml v, ml 0, ml 1] [] dX9_year_28 co_X9_114 ⟨Nat.le_of_ble_eq_true rfl, Nat.le_of_ble_eq_true rfl⟩ gw_855 rfl rfl (Nat.le_of_ble_eq_true rfl) (k_in (by omega) (by omega) (by omega))) ?_
      refine r_if_ne (tgt := 36) dX9_year_31 (by decide) (by split <;> omega) (fun c31 => ?_) (fun c31 => ?_)
      · have h31 := ite01 c31
        refine mRun.go (q_aload_n dX9_year_36 rfl rfl) ?_
        refine mRun.go (q_getR dX9_year_37 fo_X9_16 hD.1 rfl) ?_
        refine mRun.go (q_iconst dX9_year_40) ?_
        refine mRun.go (q_aload_n dX9_year_41 rfl rfl) ?_
        refine mRun.go (q_getR dX9_year_42 fo_X9_19 hD.1 rfl) ?_
        refine mRun.go (q_iconst dX9_year_45) ?_
        refine mRun.go (q_sipush dX9_year_46 (by decide)) ?_
        refine mRun.go (q_callSv [mr 147, mi 0, mr 148, mi 0, mi 170] [] dX9_year_49 co_X9_97 ⟨Nat.le_of_ble_eq_true rfl, Nat.le_of_ble_eq_true rfl⟩ gw_755 rfl rfl (Nat.le_of_ble_eq_true rfl) (m_copies (i := 0) (j := 0) (m := 170) hI hD.2.2.2.1 hD.2.2.2.2.1 (by decide) (by decide) (by decide) (by decide) (by decide))) ?_
        refine mRun.go (q_iconst dX9_year_52) ?_
        refine mRun.go (q_istore (ls' := [some (mr 144), some (mi z), some (mi n), some (mi v), some (mi 0), none, none]) dX9_year_53 (Nat.le_of_ble_eq_true rfl) rfl) ?_
        have e0 : a_year S z n v = manyS (sL S) (yearS (sL S) (sF S) z n.toNat) (if v = 0 then 1 else 2) := by unfold a_year; rw [if_pos (by omega)]
        rw [e0]
        have h := g_year_loop (N := n.toNat) (z := z) (v := v) (o5 := none) (o6 := none) hM hS hB (by omega) (by omega) (by omega) (n.toNat + 1) 0 (asd I) (by omega) (by omega) (nrm_mcp hI) asd_m (asd_f hF hL)
        rw [show ((n.toNat : Nat) : Int) = n by omega] at h
        exact h
      · have h31 := ite00 (Classical.not_not.mp c31)
        refine mRun.go (q_iconst dX9_year_34) ?_
        refine r_iret dX9_year_35 rfl ?_
        have e0 : a_year S z n v = -1 := by unfold a_year; rw [if_neg (by omega)]
        rw [e0]
        exact outm_q hM hS hI frm_rf
