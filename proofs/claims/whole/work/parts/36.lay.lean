/-! ===== DrumMaps: laying a text ===== -/
def ldR (R : Rd) : Ld := (rRows R, rWid R, rDr R, rNt R, rGr R, rKd R)
def fsR (R : Rd) : Fs := (rWet R, 0, fun i => if rOd R i = -1 then rGr R (i % 36) else rOd R i, fun t => nrmT (stv (rTv R (t : Int))))
def rdS (c : Int → Int) (L : Int) : Rd := (prs c L 201 0 rd0).2
def layd (c : Int → Int) (L : Int) : Bool := decide ((prs c L 201 0 rd0).1 = -4 ∧ rPl (rdS c L) ≠ 0 ∧ rDr (rdS c L) ≠ 0)
theorem ldR_ok {R : Rd} (h : RdOk R) (h1 : rPl R ≠ 0) (h2 : rDr R ≠ 0) : LdOk (ldR R) := by
  obtain ⟨k1, k2, k3, k4, k5, k6, k7, k8, k9, k10⟩ := h
  have hr : rRows R ≠ 0 := fun q => h1 (by show rRows R * rWid R = 0; rw [q, Int.zero_mul])
  have hw : rWid R ≠ 0 := fun q => h1 (by show rRows R * rWid R = 0; rw [q, Int.mul_zero])
  exact ⟨⟨by show 1 ≤ rRows R; omega, k1.2⟩, ⟨by show 1 ≤ rWid R; omega, k2.2⟩, ⟨by show 1 ≤ rDr R; omega, k4.2⟩, k5, fun x a b => k7 x a b, fun d _ _ => k8 d⟩
theorem stv_ok {P nd : Int} {p : Int × Int × Int} (h1 : 0 ≤ p.1 ∧ p.1 < P) (h2 : 0 ≤ p.2.1 ∧ p.2.1 < P) (h3 : 0 ≤ p.2.2 ∧ p.2.2 < nd) : TvOk P nd (stv p) := by
  refine ⟨h1, h2, h3, ?_, h1, ⟨(by decide : (0 : Int) ≤ 0), (by decide : (0 : Int) ≤ 4)⟩, fun q => absurd q (by decide : ¬ (0 : Int) < 0)⟩
  show 0 ≤ (if p.1 = p.2.1 then (1 : Int) else 0) ∧ (if p.1 = p.2.1 then (1 : Int) else 0) ≤ 2
  split <;> omega
theorem fsR_ok {R : Rd} (h : RdOk R) (h1 : rPl R ≠ 0) (h2 : rDr R ≠ 0) : FsOk (ldR R) 0 (fsR R) := by
  have hp := pl_rng h
  obtain ⟨k1, k2, k3, k4, k5, k6, k7, k8, k9, k10⟩ := h
  refine ⟨k6, ⟨Int.le_refl 0, Int.le_refl 0⟩, fun d x a b c e => ?_, fun t ht => ?_⟩
  · have e : x < rPl R := e
    show 0 ≤ (if rOd R (36 * d + x) = -1 then rGr R ((36 * d + x) % 36) else rOd R (36 * d + x)) ∧ (if rOd R (36 * d + x) = -1 then rGr R ((36 * d + x) % 36) else rOd R (36 * d + x)) ≤ 3
    have e2 : (36 * d + x) % 36 = x := by omega
    rw [e2]
    have := k7 x c e
    have := k9 (36 * d + x)
    split <;> omega
  · have := k10 (t : Int) (by omega) ht
    exact tvm_of (stv_ok this.1 this.2.1 this.2.2)
theorem lcp_v {J : mI} : lcp J 21 4 21 3 = J 4 3 ∧ lcp J 21 4 21 4 = J 4 4 ∧ lcp J 21 4 21 6 = J 4 6 ∧ lcp J 21 4 21 7 = J 4 7 ∧ (∀ i, i < 36 → lcp J 21 4 23 i = J 6 i) ∧ (∀ k, k < 4 → lcp J 21 4 25 k = J 8 k) ∧ ∀ r, r ≠ 21 → r ≠ 23 → r ≠ 25 → lcp J 21 4 r = J r := by
  refine ⟨by simp [lcp, mup, mcp], by simp [lcp, mup, mcp], by simp [lcp, mup, mcp], by simp [lcp, mup, mcp], fun i hi => by simp [lcp, mup, mcp, hi], fun k hk => by simp [lcp, mup, mcp, hk], fun r h1 h2 h3 => ?_⟩
  funext k
  simp [lcp, mup, mcp, h1, h2, h3]
theorem fcp_v {J : mI} : fcp J 28 11 28 2 = J 11 2 ∧ fcp J 28 11 28 3 = J 11 3 ∧ (∀ i, i < 144 → fcp J 28 11 30 i = J 13 i) ∧ ∀ t, t < 4 → tget (fcp J 28 11) (28 + 4 + t) = tget J (15 + t) := by
  refine ⟨by simp [fcp], by simp [fcp], fun i hi => by simp [fcp, hi], fun t ht => ?_⟩
  have e : ∀ k, k < 6 → fcp J 28 11 (28 + 4 + t) k = J (15 + t) k := fun k hk => by
    unfold fcp
    rw [if_pos ⟨by omega, Or.inr (Or.inr ⟨by omega, by omega, hk⟩)⟩, show 11 + (28 + 4 + t - 28) = 15 + t by omega]
  simp only [tget, e 0 (by decide), e 1 (by decide), e 2 (by decide), e 3 (by decide), e 4 (by decide), e 5 (by decide)]

set_option maxRecDepth 100000 in
theorem k_layText {σ : List mC} {I : mI} {c : Int → Int} {L : Int} {sd : List (Option Nat)} (hI : Nrm I) (hD : IsDM σ) (hU : IsShelf σ 36 sd) (hT : TXt I c L) : mMt mX8_layText [mr 0] (σ, I) (fun v h => v = some (mi (if layd c L = true then 1 else 0)) ∧ ∃ K, h = (σ, K) ∧ Nrm K ∧ (∀ r, (r = 1 ∨ r = 2 ∨ (36 < r ∧ r ≠ 102)) → K r = I r) ∧ (layd c L = false → FrQ I K) ∧ (layd c L = true → LRC K (ldR (rdS c L)) ∧ FRC K 28 (ldR (rdS c L)) (fsR (rdS c L)) ∧ K 0 8 = 0 ∧ K 36 1 = 0 ∧ K 102 1 = 0)) := by
  refine mMt.of pl_8 (Nat.le_of_ble_eq_true rfl) ?_
  show mRun mZt mX8_layText 0 [some (mr 0)] [] (σ, I) _
  refine mRun.go (q_aload_n dX8_layText_0 rfl rfl) ?_
  refine mRun.go (q_getR dX8_layText_1 fo_X8_19 hD.1 rfl) ?_
  refine mRun.go (q_aload_n dX8_layText_4 rfl rfl) ?_
  refine mRun.go (q_getR dX8_layText_5 fo_X8_10 hD.1 rfl) ?_
  obtain ⟨v0, h0, hc0, rfl, J, rfl, hJ, hfJ, hJR⟩ := k_firstFault (dm_r hD) hI hT
  have hrok : RdOk (rdS c L) := prs_ok 201 0 rd0 rd0_ok
  have hprg := prs_rng (c := c) (L := L) 201 0 rd0 (Int.le_refl 0)
  have hLr := hT.1
  have hplr := pl_rng hrok
  have hdrr := hrok.2.2.2.1
  refine mRun.go (q_callVi (r := 3) [mr 1] [] dX8_layText_8 co_X8_109 ⟨Nat.le_of_ble_eq_true rfl, Nat.le_of_ble_eq_true rfl⟩ gw_277 gw_278 rfl (dm_r hD).2.1 rfl rfl rfl (Nat.le_of_ble_eq_true rfl) hc0) ?_
  refine mRun.go (q_bipush dX8_layText_11 (by decide)) ?_
  refine r_icmp_ne (tgt := 42) dX8_layText_13 (by decide) (by omega) (by omega) (fun c13 => ?_) (fun c13 => ?_)
  · refine mRun.go (q_iconst dX8_layText_42) ?_
    refine r_zret dX8_layText_43 rfl (by simp) ?_
    have hly : layd c L = false := decide_eq_false (fun q => by first | exact c13 q.1 | exact q.2.1 c26 | exact q.2.2 (Classical.not_not.mp c39))
    rw [if_neg (by rw [hly]; decide)]
    exact ⟨rfl, J, rfl, hJ, fun r a => hfJ r (by omega), fun _ r a => hfJ r (by omega), fun z => absurd (hly.symm.trans z) (by decide)⟩
  · have hcode : (prs c L 201 0 rd0).1 = -4 := Classical.not_not.mp c13
    refine mRun.go (q_aload_n dX8_layText_16 rfl rfl) ?_
    refine mRun.go (q_getR dX8_layText_17 fo_X8_19 hD.1 rfl) ?_
    refine mRun.go (q_getR dX8_layText_20 fo_X8_285 (dm_r hD).2.1 rfl) ?_
    refine mRun.go (q_getE (x := rPl (rdS c L)) dX8_layText_23 fo_X8_113 (dm_r hD).2.2.1.1 rfl (hJR hcode).1) ?_
    refine r_if_eq (tgt := 42) dX8_layText_26 (by decide) (by omega) (fun c26 => ?_) (fun c26 => ?_)
    · refine mRun.go (q_iconst dX8_layText_42) ?_
      refine r_zret dX8_layText_43 rfl (by simp) ?_
      have hly : layd c L = false := decide_eq_false (fun q => by first | exact c13 q.1 | exact q.2.1 c26 | exact q.2.2 (Classical.not_not.mp c39))
      rw [if_neg (by rw [hly]; decide)]
      exact ⟨rfl, J, rfl, hJ, fun r a => hfJ r (by omega), fun _ r a => hfJ r (by omega), fun z => absurd (hly.symm.trans z) (by decide)⟩
    · refine mRun.go (q_aload_n dX8_layText_29 rfl rfl) ?_
      refine mRun.go (q_getR dX8_layText_30 fo_X8_19 hD.1 rfl) ?_
      refine mRun.go (q_getR dX8_layText_33 fo_X8_285 (dm_r hD).2.1 rfl) ?_
      refine mRun.go (q_getE (x := rDr (rdS c L)) dX8_layText_36 fo_X8_225 (dm_r hD).2.2.1.1 rfl (hJR hcode).2.2.2.1) ?_
      refine r_if_ne (tgt := 44) dX8_layText_39 (by decide) (by omega) (fun c39 => ?_) (fun c39 => ?_)
      · refine mRun.go (q_aload_n dX8_layText_44 rfl rfl) ?_
        refine mRun.go (q_getR dX8_layText_45 fo_X8_26 hD.1 rfl) ?_
        refine mRun.go (q_aload_n dX8_layText_48 rfl rfl) ?_
        refine mRun.go (q_getR dX8_layText_49 fo_X8_19 hD.1 rfl) ?_
        refine mRun.go (q_getR dX8_layText_52 fo_X8_285 (dm_r hD).2.1 rfl) ?_
        have hly : layd c L = true := decide_eq_true ⟨hcode, c26, c39⟩
        have hr : RepC J (rdS c L) := hJR hcode
        have hld := ldR_ok hrok c26 c39
        have hlv := @lcp_v J
        refine mRun.go (q_callVv (r := 21) [mr 4] [] dX8_layText_55 co_X8_286 ⟨Nat.le_of_ble_eq_true rfl, Nat.le_of_ble_eq_true rfl⟩ gw_364 gw_365 rfl (dm_l hD).1 rfl rfl rfl (Nat.le_of_ble_eq_true rfl) (k_lcopy (dm_l hD) (dm_r hD).2.2.1 hJ (by decide))) ?_
        refine mRun.go (q_aload_n dX8_layText_58 rfl rfl) ?_
        refine mRun.go (q_getR dX8_layText_59 fo_X8_26 hD.1 rfl) ?_
        obtain ⟨v1, h1, hc1, rfl, J2, rfl, hJ2, hfJ2, hnb⟩ := k_link (P := (rPl (rdS c L)).toNat) (W := rWid (rdS c L)) (nrm_lcp hJ) (dm_l hD) (by omega) (by rw [hlv.1]; exact hr.1.trans (by omega)) (by rw [hlv.2.1]; exact hr.2.1) (by have := hld.2.1; exact ⟨by show 0 < lW (ldR (rdS c L)); omega, this.2⟩)
        refine mRun.go (q_callVv (r := 21) [] [] dX8_layText_62 co_X8_289 ⟨Nat.le_of_ble_eq_true rfl, Nat.le_of_ble_eq_true rfl⟩ gw_378 gw_379 rfl (dm_l hD).1 rfl rfl rfl (Nat.le_of_ble_eq_true rfl) hc1) ?_
        refine mRun.go (q_aload_n dX8_layText_65 rfl rfl) ?_
        refine mRun.go (q_getR dX8_layText_66 fo_X8_33 hD.1 rfl) ?_
        refine mRun.go (q_aload_n dX8_layText_69 rfl rfl) ?_
        refine mRun.go (q_getR dX8_layText_70 fo_X8_19 hD.1 rfl) ?_
        refine mRun.go (q_getR dX8_layText_73 fo_X8_292 (dm_r hD).2.1 rfl) ?_
        refine mRun.go (q_callVv (r := 28) [mr 11] [] dX8_layText_76 co_X8_232 ⟨Nat.le_of_ble_eq_true rfl, Nat.le_of_ble_eq_true rfl⟩ gw_386 gw_387 rfl (dm_n hD).1 rfl rfl rfl (Nat.le_of_ble_eq_true rfl) (k_fcopy (dm_n hD) (dm_r hD).2.2.2.1 hJ2 (by decide))) ?_
        refine mRun.go (q_aload_n dX8_layText_79 rfl rfl) ?_
        refine mRun.go (q_iconst dX8_layText_80) ?_
        refine mRun.go (q_putI dX8_layText_81 fo_X8_242 fp_8_8 hD.1 rfl) ?_
        refine mRun.go (q_aload_n dX8_layText_84 rfl rfl) ?_
        refine mRun.go (q_getR dX8_layText_85 fo_X8_42 hD.1 rfl) ?_
        refine mRun.go (q_iconst dX8_layText_88) ?_
        refine mRun.go (q_putI dX8_layText_89 fo_X8_209 fp_4_1 hU.1 rfl) ?_
        refine mRun.go (q_aload_n dX8_layText_92 rfl rfl) ?_
        refine mRun.go (q_getR dX8_layText_93 fo_X8_46 hD.1 rfl) ?_
        refine mRun.go (q_iconst dX8_layText_96) ?_
        refine mRun.go (q_putI dX8_layText_97 fo_X8_209 fp_4_1 (dm_k hD).1 rfl) ?_
        refine mRun.go (q_iconst dX8_layText_100) ?_
        refine r_zret dX8_layText_101 rfl (by simp) ?_
        rw [if_pos hly]
        have hfv := @fcp_v J2
        have hz : ∀ r, r ≠ 0 → r ≠ 36 → r ≠ 102 → (mup (mup (mup (fcp J2 28 11) 0 8 0) 36 1 0) 102 1 0) r = fcp J2 28 11 r := fun r a b c => by rw [mup_nf c, mup_nf b, mup_nf a]
        have hlow : ∀ r, r < 28 → r ≠ 0 → (mup (mup (mup (fcp J2 28 11) 0 8 0) 36 1 0) 102 1 0) r = J2 r := fun r a b => by rw [hz r b (by omega) (by omega), fcp_fr (by omega)]
        have hjl : ∀ r, r ≠ 21 → r ≠ 23 → r ≠ 25 → r ≠ 27 → J2 r = J r := fun r a b c e => by rw [hfJ2 r e, hlv.2.2.2.2.2.2 r a b c]
        refine ⟨rfl, _, rfl, nrm_mup (nrm_mup (nrm_mup (nrm_fcp hJ2) (by decide)) (by decide)) (by decide), fun r a => ?_, fun z => absurd (hly.symm.trans z) (by decide), fun _ => ⟨⟨?_, ?_, ?_, ?_, fun i hi => ?_, fun k hk => ?_, fun x hx s hs => ?_⟩, ⟨?_, ?_, fun d x a b e1 e2 => ?_, fun t ht => ?_⟩, by simp [mup], by simp [mup], by simp [mup]⟩⟩
        · rw [hz r (by omega) (by omega) (by omega), fcp_fr (by omega), hjl r (by omega) (by omega) (by omega) (by omega), hfJ r (by omega)]
        · rw [hlow 21 (by decide) (by decide), hfJ2 21 (by decide), hlv.1]; exact hr.1
        · rw [hlow 21 (by decide) (by decide), hfJ2 21 (by decide), hlv.2.1]; exact hr.2.1
        · rw [hlow 21 (by decide) (by decide), hfJ2 21 (by decide), hlv.2.2.1]; exact hr.2.2.2.1
        · rw [hlow 21 (by decide) (by decide), hfJ2 21 (by decide), hlv.2.2.2.1]; exact hr.2.2.2.2.1
        · rw [hlow 23 (by decide) (by decide), hfJ2 23 (by decide), hlv.2.2.2.2.1 i (by have : (i : Int) < rPl (rdS c L) := hi; omega)]; exact hr.2.2.2.2.2.1 i hi
        · rw [hlow 25 (by decide) (by decide), hfJ2 25 (by decide), hlv.2.2.2.2.2.1 k (by have : (k : Int) < rDr (rdS c L) := hk; omega)]; exact hr.2.2.2.2.2.2.1 k hk
        · rw [show nbC (mup (mup (mup (fcp J2 28 11) 0 8 0) 36 1 0) 102 1 0) 21 x s = nbC J2 21 x s by show (mup (mup (mup (fcp J2 28 11) 0 8 0) 36 1 0) 102 1 0) 27 _ = J2 27 _; rw [hlow 27 (by decide) (by decide)]]
          have := hnb x hx s hs
          rw [show (((rPl (rdS c L)).toNat : Nat) : Int) = rPl (rdS c L) by omega] at this
          exact this
        · rw [hz 28 (by decide) (by decide) (by decide), hfv.1, hjl 11 (by decide) (by decide) (by decide) (by decide)]; exact hr.2.2.2.2.2.2.2.2.2.1
        · rw [hz 28 (by decide) (by decide) (by decide), hfv.2.1, hjl 11 (by decide) (by decide) (by decide) (by decide)]; exact hr.2.2.2.2.2.2.2.2.2.2
        · have e2 : x < rPl (rdS c L) := e2
          have b : d < rDr (rdS c L) := b
          have q1 : rat (mup (mup (mup (fcp J2 28 11) 0 8 0) 36 1 0) 102 1 0) (28 + 1) 144 (d * 36 + x) = rOd (rdS c L) (36 * d + x) := by
            rw [rat_nat (k := (36 * d + x).toNat) (by omega) (by omega)]
            show (mup (mup (mup (fcp J2 28 11) 0 8 0) 36 1 0) 102 1 0) 30 _ = _
            rw [hz 30 (by decide) (by decide) (by decide), hfv.2.2.1 _ (by omega), hjl 13 (by decide) (by decide) (by decide) (by decide), hr.2.2.2.2.2.2.2.1 _ (by omega), show (((36 * d + x).toNat : Nat) : Int) = 36 * d + x by omega]
          have q2 : rat (mup (mup (mup (fcp J2 28 11) 0 8 0) 36 1 0) 102 1 0) (21 + 1) 36 x = rGr (rdS c L) x := by
            rw [rat_nat (k := x.toNat) (by omega) (by omega)]
            show (mup (mup (mup (fcp J2 28 11) 0 8 0) 36 1 0) 102 1 0) 23 _ = _
            rw [hlow 23 (by decide) (by decide), hfJ2 23 (by decide), hlv.2.2.2.2.1 _ (by omega), hr.2.2.2.2.2.1 _ (by omega), show ((x.toNat : Nat) : Int) = x by omega]
          unfold tel
          rw [q1, q2]
          show _ = if rOd (rdS c L) (36 * d + x) = -1 then rGr (rdS c L) ((36 * d + x) % 36) else rOd (rdS c L) (36 * d + x)
          rw [show (36 * d + x) % 36 = x by omega]
        · have ht : (t : Int) < rNt (rdS c L) := ht
          have hn4 := hrok.2.2.2.2.1
          have q1 : tget (mup (mup (mup (fcp J2 28 11) 0 8 0) 36 1 0) 102 1 0) (28 + 4 + t) = stv (rTv (rdS c L) t) := by
            rw [tget_mup_ne (by omega), tget_mup_ne (by omega), tget_mup_ne (by omega), hfv.2.2.2 t (by omega), ← hr.2.2.2.2.2.2.2.2.1 t ht]
            simp only [tget]
            rw [hjl (15 + t) (by omega) (by omega) (by omega) (by omega)]
          rw [q1]
          have hv := hrok.2.2.2.2.2.2.2.2.2 (t : Int) (by omega) ht
          exact ⟨rfl, stv_ok hv.1 hv.2.1 hv.2.2⟩
      · refine mRun.go (q_iconst dX8_layText_42) ?_
        refine r_zret dX8_layText_43 rfl (by simp) ?_
        have hly : layd c L = false := decide_eq_false (fun q => by first | exact c13 q.1 | exact q.2.1 c26 | exact q.2.2 (Classical.not_not.mp c39))
        rw [if_neg (by rw [hly]; decide)]
        exact ⟨rfl, J, rfl, hJ, fun r a => hfJ r (by omega), fun _ r a => hfJ r (by omega), fun z => absurd (hly.symm.trans z) (by decide)⟩
