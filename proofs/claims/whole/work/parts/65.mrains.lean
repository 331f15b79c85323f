/-! ===== the reference: chances of rain ===== -/
theorem mcmp_eq (x y : Int) : mcmp x y = 0 ↔ x = y := by
  unfold mcmp
  split
  · omega
  · split <;> omega
theorem setVWV {F : Fs} {t : Nat} {v u : Tv} {w w' : Int} : setV (setW (setV (setW F w') t v) w) t u = setV (setW F w) t u := by
  have e : (fun q => if q = t then u else (if q = t then v else fV F q)) = fun q => if q = t then u else fV F q := by
    funext q
    by_cases z : q = t
    · rw [if_pos z, if_pos z]
    · rw [if_neg z, if_neg z, if_neg z]
  show (w, fH F, fT F, fun q => if q = t then u else (if q = t then v else fV F q)) = _
  rw [e]
  rfl
theorem rnT_M {L : Ld} {T : Int → Int} {w d g x m : Int} {t : Tv} (hL : LdOk L) (ht : TvM (lP L) (lD L) t) : ∀ n : Nat, TvM (lP L) (lD L) (rnT (sfx L T w d g) (sfx L T 3 d g) x m t n).2 ∧ (rnT (sfx L T w d g) (sfx L T 3 d g) x m t n).2.2.2.1 = t.2.2.1 ∧ (rnT (sfx L T w d g) (sfx L T 3 d g) x m t n).2.2.1 = t.2.1 := by
  intro n
  induction n with
  | zero => exact ⟨ht, rfl, rfl⟩
  | succ n ih =>
    obtain ⟨a, b, c⟩ := ih
    simp only [rnT]
    split
    · exact ⟨sfx_ok hL a, (@stepM_dg (hpS L T 3 d g) (lG L) 3 _).2.trans b, (@stepM_dg (hpS L T 3 d g) (lG L) 3 _).1.trans c⟩
    · exact ⟨sfx_ok hL a, (@stepM_dg (hpS L T w d g) (lG L) w _).2.trans b, (@stepM_dg (hpS L T w d g) (lG L) w _).1.trans c⟩

set_option maxRecDepth 100000 in
theorem m_has1 {h : mH} {a b : Int} (hb : mand (mshr a b) 1 = 1) : mCt mX9_has [mi a, mi b] h (some (mi 1)) h := by
  refine mCt.eq ?_
  refine mMt.of pl_9 (Nat.le_of_ble_eq_true rfl) ?_
  show mRun mZt mX9_has 0 [some (mi a), some (mi b)] [] h _
  refine mRun.go (q_iload_n dX9_has_0 rfl rfl) ?_
  refine mRun.go (q_iload_n dX9_has_1 rfl rfl) ?_
  refine mRun.go (q_ishr dX9_has_2) ?_
  refine mRun.go (q_iconst dX9_has_3) ?_
  refine mRun.go (q_iand dX9_has_4) ?_
  refine mRun.go (q_iconst dX9_has_5) ?_
  refine mRun.go (q_icmp_ne_f (tgt := 13) dX9_has_6 (by decide) (mand_rng _ _) (by omega) (fun q => q hb)) ?_
  refine mRun.go (q_iconst dX9_has_9) ?_
  refine mRun.go (q_goto (tgt := 14) dX9_has_10 (by decide)) ?_
  refine r_zret dX9_has_14 rfl (by simp) ?_
  exact ⟨rfl, rfl⟩

set_option maxRecDepth 100000 in
theorem m_has0 {h : mH} {a b : Int} (hb : ¬ mand (mshr a b) 1 = 1) : mCt mX9_has [mi a, mi b] h (some (mi 0)) h := by
  refine mCt.eq ?_
  refine mMt.of pl_9 (Nat.le_of_ble_eq_true rfl) ?_
  show mRun mZt mX9_has 0 [some (mi a), some (mi b)] [] h _
  refine mRun.go (q_iload_n dX9_has_0 rfl rfl) ?_
  refine mRun.go (q_iload_n dX9_has_1 rfl rfl) ?_
  refine mRun.go (q_ishr dX9_has_2) ?_
  refine mRun.go (q_iconst dX9_has_3) ?_
  refine mRun.go (q_iand dX9_has_4) ?_
  refine mRun.go (q_iconst dX9_has_5) ?_
  refine mRun.go (q_icmp_ne_t (tgt := 13) dX9_has_6 (by decide) (mand_rng _ _) (by omega) hb) ?_
  refine mRun.go (q_iconst dX9_has_13) ?_
  refine r_zret dX9_has_14 rfl (by simp) ?_
  exact ⟨rfl, rfl⟩

set_option maxRecDepth 100000 in
theorem m_lowest_loop {h : mH} {u v G : Nat} {p : Int} (hu : u ≤ 100000000) (hv : v ≤ 100000000) (hp : 0 ≤ p ∧ p ≤ 1) (hG : 0 < G) (hGd : Nat.gcd u v = G) : ∀ (n a b : Nat) {o9 o10 : Option mV}, b < n → a ≤ 100000000 → b ≤ 100000000 → Nat.gcd a b = G → mRun mZt mX9_lowest 6 [some (ml (u : Int)), none, some (ml (v : Int)), none, some (mi p), some (ml (a : Int)), none, some (ml (b : Int)), none, o9, o10] [] h (fun w h' => w = some (mi (lwt (u : Int) (v : Int) p)) ∧ h' = h) := by
  intro n
  induction n with
  | zero => intro a b o9 o10 h; omega
  | succ n ih =>
    intro a b o9 o10 hn ha hb hg
    refine mRun.go (q_lload dX9_lowest_6 rfl) ?_
    refine mRun.go (q_lconst (a := 0) dX9_lowest_8 (by decide)) ?_
    refine mRun.go (q_lcmp dX9_lowest_9 (by omega) (by omega)) ?_
    refine r_if_eq (tgt := 31) dX9_lowest_10 (by decide) (by have := mcmp_rng (b : Int) 0; omega) (fun c10 => ?_) (fun c10 => ?_)
    · have hb0 : b = 0 := by have := (mcmp_eq (b : Int) 0).mp c10; omega
      subst hb0
      rw [Nat.gcd_zero_right] at hg
      subst hg
      refine mRun.go (q_iload dX9_lowest_31 rfl) ?_
      refine r_if_ne (tgt := 43) dX9_lowest_33 (by decide) (by omega) (fun c33 => ?_) (fun c33 => ?_)
      · refine mRun.go (q_lload_n dX9_lowest_43 rfl rfl) ?_
        refine mRun.go (q_lload dX9_lowest_44 rfl) ?_
        refine mRun.go (q_ldiv dX9_lowest_46 (by omega) (by omega)) ?_
        refine mRun.go (q_l2i dX9_lowest_47) ?_
        refine r_iret dX9_lowest_48 rfl ?_
        have e : lwt (u : Int) (v : Int) p = (v : Int) / (a : Int) := by
          unfold lwt
          rw [show ((u : Int)).toNat = u by omega, show ((v : Int)).toNat = v by omega, hGd]
          first | (rw [if_pos (by omega)]; done) | (rw [if_neg (by omega)]; done)
        rw [e]
        exact ⟨rfl, rfl⟩
      · refine mRun.go (q_lload_n dX9_lowest_36 rfl rfl) ?_
        refine mRun.go (q_lload dX9_lowest_37 rfl) ?_
        refine mRun.go (q_ldiv dX9_lowest_39 (by omega) (by omega)) ?_
        refine mRun.go (q_goto (tgt := 47) dX9_lowest_40 (by decide)) ?_
        refine mRun.go (q_l2i dX9_lowest_47) ?_
        refine r_iret dX9_lowest_48 rfl ?_
        have e : lwt (u : Int) (v : Int) p = (u : Int) / (a : Int) := by
          unfold lwt
          rw [show ((u : Int)).toNat = u by omega, show ((v : Int)).toNat = v by omega, hGd]
          first | (rw [if_pos (by omega)]; done) | (rw [if_neg (by omega)]; done)
        rw [e]
        exact ⟨rfl, rfl⟩
    · have hbn : ¬ (b : Int) = 0 := fun q => c10 ((mcmp_eq _ _).mpr q)
      refine mRun.go (q_lload dX9_lowest_13 rfl) ?_
      refine mRun.go (q_lload dX9_lowest_15 rfl) ?_
      refine mRun.go (q_lrem dX9_lowest_17 (by omega) (by omega)) ?_
      refine mRun.go (q_lstore (ls' := [some (ml (u : Int)), none, some (ml (v : Int)), none, some (mi p), some (ml (a : Int)), none, some (ml (b : Int)), none, some (ml ((a : Int) % (b : Int))), none]) dX9_lowest_18 (Nat.le_of_ble_eq_true rfl) rfl) ?_
      refine mRun.go (q_lload dX9_lowest_20 rfl) ?_
      refine mRun.go (q_lstore (ls' := [some (ml (u : Int)), none, some (ml (v : Int)), none, some (mi p), some (ml (b : Int)), none, some (ml (b : Int)), none, some (ml ((a : Int) % (b : Int))), none]) dX9_lowest_22 (Nat.le_of_ble_eq_true rfl) rfl) ?_
      refine mRun.go (q_lload dX9_lowest_24 rfl) ?_
      refine mRun.go (q_lstore (ls' := [some (ml (u : Int)), none, some (ml (v : Int)), none, some (mi p), some (ml (b : Int)), none, some (ml ((a : Int) % (b : Int))), none, some (ml ((a : Int) % (b : Int))), none]) dX9_lowest_26 (Nat.le_of_ble_eq_true rfl) rfl) ?_
      refine mRun.go (q_goto (tgt := 6) dX9_lowest_28 (by decide)) ?_
      have e2 : (a : Int) % (b : Int) = ((a % b : Nat) : Int) := by omega
      rw [e2]
      have hml := Nat.mod_lt a (show 0 < b by omega)
      exact ih b (a % b) (by omega) (by omega) (by omega) (by rw [← hg, Nat.gcd_comm a b, Nat.gcd_rec b a]; exact Nat.gcd_comm _ _)

set_option maxRecDepth 100000 in
theorem m_lowest {h : mH} {u v : Nat} {p : Int} (hu : u ≤ 100000000) (hv : v ≤ 100000000) (hv1 : 1 ≤ v) (hp : 0 ≤ p ∧ p ≤ 1) : mCt mX9_lowest [ml (u : Int), ml (v : Int), mi p] h (some (mi (lwt (u : Int) (v : Int) p))) h := by
  refine mCt.eq ?_
  refine mMt.of pl_9 (Nat.le_of_ble_eq_true rfl) ?_
  show mRun mZt mX9_lowest 0 [some (ml (u : Int)), none, some (ml (v : Int)), none, some (mi p), none, none, none, none, none, none] [] h _
  refine mRun.go (q_lload_n dX9_lowest_0 rfl rfl) ?_
  refine mRun.go (q_lstore (ls' := [some (ml (u : Int)), none, some (ml (v : Int)), none, some (mi p), some (ml (u : Int)), none, none, none, none, none]) dX9_lowest_1 (Nat.le_of_ble_eq_true rfl) rfl) ?_
  refine mRun.go (q_lload_n dX9_lowest_3 rfl rfl) ?_
  refine mRun.go (q_lstore (ls' := [some (ml (u : Int)), none, some (ml (v : Int)), none, some (mi p), some (ml (u : Int)), none, some (ml (v : Int)), none, none, none]) dX9_lowest_4 (Nat.le_of_ble_eq_true rfl) rfl) ?_
  exact m_lowest_loop hu hv hp (Nat.gcd_pos_of_pos_right u (by omega)) rfl (v + 1) u v (Nat.lt_succ_self v) hu hv rfl

set_option maxRecDepth 100000 in
theorem m_rain_in {σ : List mC} {I : mI} {S : Sx} {B t x p : Int} {N : Nat} (hM : MS σ I S) (hS : SxOk B S) (ht : isT S t) (hN8 : N ≤ 8) (hx : 0 ≤ x ∧ x ≤ 10) (hp : 0 ≤ p ∧ p ≤ 1) {a b : Int} {m : Nat} (hm : m < 256) {post : Option mV → mH → Prop} (kk : ∀ K : mI, Nrm K → FrM I K → K 148 (158 + t).toNat = (rnT (sfx (sL S) (fT (sF S)) (fW (sF S)) (tvS S t).2.2.1 (tvS S t).2.1) (sfx (sL S) (fT (sF S)) 3 (tvS S t).2.2.1 (tvS S t).2.1) x (m : Int) (tvS S t) N).2.2.2.2.1 → mRun mZt mX9_rains 179 [some (mr 144), some (mi t), some (mi (N : Int)), some (mi x), some (mi p), some (ml a), none, some (ml b), none, some (mi (m : Int)), some (ml ((rnT (sfx (sL S) (fT (sF S)) (fW (sF S)) (tvS S t).2.2.1 (tvS S t).2.1) (sfx (sL S) (fT (sF S)) 3 (tvS S t).2.2.1 (tvS S t).2.1) x (m : Int) (tvS S t) N).1)), none, some (mi (N : Int))] [] (σ, K) post) : ∀ (n k : Nat) (q : Int) (K : mI), N - k < n → k ≤ N → Nrm K → FrM I K → (0 ≤ q ∧ q ≤ 3) → FRM K 148 0 (sL S) (setV (setW (sF S) q) t.toNat (rnT (sfx (sL S) (fT (sF S)) (fW (sF S)) (tvS S t).2.2.1 (tvS S t).2.1) (sfx (sL S) (fT (sF S)) 3 (tvS S t).2.2.1 (tvS S t).2.1) x (m : Int) (tvS S t) k).2) → mRun mZt mX9_rains 107 [some (mr 144), some (mi t), some (mi (N : Int)), some (mi x), some (mi p), some (ml a), none, some (ml b), none, some (mi (m : Int)), some (ml ((rnT (sfx (sL S) (fT (sF S)) (fW (sF S)) (tvS S t).2.2.1 (tvS S t).2.1) (sfx (sL S) (fT (sF S)) 3 (tvS S t).2.2.1 (tvS S t).2.1) x (m : Int) (tvS S t) k).1)), none, some (mi (k : Int))] [] (σ, K) post := by
  intro n
  induction n with
  | zero => intro k q K h; omega
  | succ n ih =>
    intro k q K hn hk hK hfr hq hFK
    have hI := hM.1
    have hD := hM.2.1
    have hL := hS.1
    have hsz := hM.2.2.1
    have hLR := hM.2.2.2.2.2.2.1
    have hF := hM.2.2.2.2.2.2.2.1
    have hun := hM.2.2.2.2.2.2.2.2.1
    have hpa := hM.2.2.2.2.2.2.2.2.2.1
    have hkm := hM.2.2.2.2.2.2.2.2.2.2.1
    have hke := hM.2.2.2.2.2.2.2.2.2.2.2.1
    have hhm := hM.2.2.2.2.2.2.2.2.2.2.2.2.1
    have hhe := hM.2.2.2.2.2.2.2.2.2.2.2.2.2.1
    have hN := hM.2.2.2.2.2.2.2.2.2.2.2.2.2.2
    have hpr := lp_rng hL
    have hqe := lq_eq hL
    have hwr := hL.2.1
    have hrr := hL.1
    have hdr := hL.2.2.1
    have hnt := hL.2.2.2.1
    have hwF := hS.2.1.1
    have hhF := hS.2.1.2.1
    have hvF := hS.2.1.2.2.2
    have hH8 := hS.2.2.2.2.2.2.1
    have hU8 := hS.2.2.1
    have hK2 := hS.2.2.2.2.1
    have hLn := hS.2.2.2.2.2.2.2.2
    have ht : 0 ≤ t ∧ t < lTv (sL S) := ht
    have hrM := rnT_M (t := tvS S t) (T := fT (sF S)) (w := fW (sF S)) (d := (tvS S t).2.2.1) (g := (tvS S t).2.1) (x := x) (m := (m : Int)) hL (hvF t.toNat (by omega)) k
    have hvk := hrM.1
    have hdg := hrM.2
    refine mRun.go (q_iload dX9_rains_107 rfl) ?_
    refine mRun.go (q_iload_n dX9_rains_109 rfl rfl) ?_
    refine r_icmp_ge (tgt := 179) dX9_rains_110 (by decide) (by omega) (by omega) (fun c110 => ?_) (fun c110 => ?_)
    · have hke : k = N := by omega
      subst hke
      exact kk K hK hfr (by have h := (tv6i (hFK.2.2.2 t.toNat (by omega))).2.2.2.1; rw [setV_at, show ((t.toNat : Nat) : Int) = t by omega] at h; exact h)
    · by_cases hb : mand (mshr (m : Int) (k : Int)) 1 = 1
      · refine mRun.go (q_lload dX9_rains_113 rfl) ?_
        refine mRun.go (q_iload dX9_rains_115 rfl) ?_
        refine mRun.go (q_iload dX9_rains_117 rfl) ?_
        refine mRun.go (q_callSi [mi (m : Int), mi (k : Int)] [ml ((rnT (sfx (sL S) (fT (sF S)) (fW (sF S)) (tvS S t).2.2.1 (tvS S t).2.1) (sfx (sL S) (fT (sF S)) 3 (tvS S t).2.2.1 (tvS S t).2.1) x (m : Int) (tvS S t) k).1)] dX9_rains_119 co_X9_248 ⟨Nat.le_of_ble_eq_true rfl, Nat.le_of_ble_eq_true rfl⟩ gw_1094 rfl rfl (Nat.le_of_ble_eq_true rfl) (m_has1 hb)) ?_
        refine mRun.go (q_if_eq_f (tgt := 130) dX9_rains_122 (by decide) (by omega) (by decide)) ?_
        refine mRun.go (q_iload_n dX9_rains_125 rfl rfl) ?_
        refine mRun.go (q_i2l dX9_rains_126 (by omega)) ?_
        refine mRun.go (q_goto (tgt := 135) dX9_rains_127 (by decide)) ?_
        refine mRun.go (q_lmul dX9_rains_135) ?_
        refine mRun.go (q_lstore (ls' := [some (mr 144), some (mi t), some (mi (N : Int)), some (mi x), some (mi p), some (ml a), none, some (ml b), none, some (mi (m : Int)), some (ml (((rnT (sfx (sL S) (fT (sF S)) (fW (sF S)) (tvS S t).2.2.1 (tvS S t).2.1) (sfx (sL S) (fT (sF S)) 3 (tvS S t).2.2.1 (tvS S t).2.1) x (m : Int) (tvS S t) k).1) * x)), none, some (mi (k : Int))]) dX9_rains_136 (Nat.le_of_ble_eq_true rfl) rfl) ?_
        refine mRun.go (q_aload_n dX9_rains_138 rfl rfl) ?_
        refine mRun.go (q_getR dX9_rains_139 fo_X9_19 hD.1 rfl) ?_
        refine mRun.go (q_iconst dX9_rains_142) ?_
        refine mRun.go (q_iload dX9_rains_143 rfl) ?_
        refine mRun.go (q_iload dX9_rains_145 rfl) ?_
        refine mRun.go (q_callSi [mi (m : Int), mi (k : Int)] [mi 0, mr 148] dX9_rains_147 co_X9_248 ⟨Nat.le_of_ble_eq_true rfl, Nat.le_of_ble_eq_true rfl⟩ gw_1094 rfl rfl (Nat.le_of_ble_eq_true rfl) (m_has1 hb)) ?_
        refine mRun.go (q_if_eq_f (tgt := 157) dX9_rains_150 (by decide) (by omega) (by decide)) ?_
        refine mRun.go (q_iconst dX9_rains_153) ?_
        refine mRun.go (q_goto (tgt := 163) dX9_rains_154 (by decide)) ?_
        refine mRun.go (q_iast dX9_rains_163 hD.2.2.2.2.1 (by omega) (by omega)) ?_
        refine mRun.go (q_aload_n dX9_rains_164 rfl rfl) ?_
        refine mRun.go (q_aload_n dX9_rains_165 rfl rfl) ?_
        refine mRun.go (q_getR dX9_rains_166 fo_X9_19 hD.1 rfl) ?_
        refine mRun.go (q_iload_n dX9_rains_169 rfl rfl) ?_
        have hN1 : Nrm (mup K 148 0 3) := nrm_mup hK (by omega)
        have hF1 : FRM (mup K 148 0 3) 148 0 (sL S) (setW (setV (setW (sF S) q) t.toNat (rnT (sfx (sL S) (fT (sF S)) (fW (sF S)) (tvS S t).2.2.1 (tvS S t).2.1) (sfx (sL S) (fT (sF S)) 3 (tvS S t).2.2.1 (tvS S t).2.1) x (m : Int) (tvS S t) k).2) 3) := frm_wet hFK
        have hfr1 : FrM I (mup K 148 0 3) := frm_tr hfr (frm_a (fun r a b => mup_nf b))
        have hat : fV (setW (setV (setW (sF S) q) t.toNat (rnT (sfx (sL S) (fT (sF S)) (fW (sF S)) (tvS S t).2.2.1 (tvS S t).2.1) (sfx (sL S) (fT (sF S)) 3 (tvS S t).2.2.1 (tvS S t).2.1) x (m : Int) (tvS S t) k).2) 3) t.toNat = (rnT (sfx (sL S) (fT (sF S)) (fW (sF S)) (tvS S t).2.2.1 (tvS S t).2.1) (sfx (sL S) (fT (sF S)) 3 (tvS S t).2.2.1 (tvS S t).2.1) x (m : Int) (tvS S t) k).2 := if_pos rfl
        obtain ⟨v1, h1, hc1, rfl, J, rfl, hJ, hfJ, hFJ⟩ := m_oneGoes (t := t.toNat) hN1 hD hL (hLR.frm hfr1) hD.2.2.2.2.1 hF1 (Or.inr rfl) (by omega) (show (0 : Int) ≤ 3 ∧ (3 : Int) ≤ 3 by omega) (by rw [hat]; exact hvk)
        rw [show ((t.toNat : Nat) : Int) = t by omega] at hc1
        rw [hat] at hFJ
        have hst : stp (sL S) (fT (setW (setV (setW (sF S) q) t.toNat (rnT (sfx (sL S) (fT (sF S)) (fW (sF S)) (tvS S t).2.2.1 (tvS S t).2.1) (sfx (sL S) (fT (sF S)) 3 (tvS S t).2.2.1 (tvS S t).2.1) x (m : Int) (tvS S t) k).2) 3)) (fW (setW (setV (setW (sF S) q) t.toNat (rnT (sfx (sL S) (fT (sF S)) (fW (sF S)) (tvS S t).2.2.1 (tvS S t).2.1) (sfx (sL S) (fT (sF S)) 3 (tvS S t).2.2.1 (tvS S t).2.1) x (m : Int) (tvS S t) k).2) 3)) (rnT (sfx (sL S) (fT (sF S)) (fW (sF S)) (tvS S t).2.2.1 (tvS S t).2.1) (sfx (sL S) (fT (sF S)) 3 (tvS S t).2.2.1 (tvS S t).2.1) x (m : Int) (tvS S t) k).2 = (sfx (sL S) (fT (sF S)) 3 (tvS S t).2.2.1 (tvS S t).2.1) (rnT (sfx (sL S) (fT (sF S)) (fW (sF S)) (tvS S t).2.2.1 (tvS S t).2.1) (sfx (sL S) (fT (sF S)) 3 (tvS S t).2.2.1 (tvS S t).2.1) x (m : Int) (tvS S t) k).2 := by
          show sfx (sL S) (fT (sF S)) 3 (rnT (sfx (sL S) (fT (sF S)) (fW (sF S)) (tvS S t).2.2.1 (tvS S t).2.1) (sfx (sL S) (fT (sF S)) 3 (tvS S t).2.2.1 (tvS S t).2.1) x (m : Int) (tvS S t) k).2.2.2.1 (rnT (sfx (sL S) (fT (sF S)) (fW (sF S)) (tvS S t).2.2.1 (tvS S t).2.1) (sfx (sL S) (fT (sF S)) 3 (tvS S t).2.2.1 (tvS S t).2.1) x (m : Int) (tvS S t) k).2.2.1 (rnT (sfx (sL S) (fT (sF S)) (fW (sF S)) (tvS S t).2.2.1 (tvS S t).2.1) (sfx (sL S) (fT (sF S)) 3 (tvS S t).2.2.1 (tvS S t).2.1) x (m : Int) (tvS S t) k).2 = _
          rw [hdg.1, hdg.2]
        rw [hst, setVWV] at hFJ
        refine mRun.go (q_callVv (r := 144) [mr 148, mi t] [] dX9_rains_170 co_X9_214 ⟨Nat.le_of_ble_eq_true rfl, Nat.le_of_ble_eq_true rfl⟩ gw_1000 gs_49 rfl hD.1 rfl rfl rfl (Nat.le_of_ble_eq_true rfl) hc1) ?_
        refine mRun.go (q_iinc (ls' := [some (mr 144), some (mi t), some (mi (N : Int)), some (mi x), some (mi p), some (ml a), none, some (ml b), none, some (mi (m : Int)), some (ml (((rnT (sfx (sL S) (fT (sF S)) (fW (sF S)) (tvS S t).2.2.1 (tvS S t).2.1) (sfx (sL S) (fT (sF S)) 3 (tvS S t).2.2.1 (tvS S t).2.1) x (m : Int) (tvS S t) k).1) * x)), none, some (mi ((k : Int) + 1))]) dX9_rains_173 rfl (Nat.le_of_ble_eq_true rfl) rfl) ?_
        refine mRun.go (q_goto (tgt := 107) dX9_rains_176 (by decide)) ?_
        have e1 : ((k : Int) + 1) = ((k + 1 : Nat) : Int) := by omega
        have e2 : (rnT (sfx (sL S) (fT (sF S)) (fW (sF S)) (tvS S t).2.2.1 (tvS S t).2.1) (sfx (sL S) (fT (sF S)) 3 (tvS S t).2.2.1 (tvS S t).2.1) x (m : Int) (tvS S t) (k + 1)) = ((rnT (sfx (sL S) (fT (sF S)) (fW (sF S)) (tvS S t).2.2.1 (tvS S t).2.1) (sfx (sL S) (fT (sF S)) 3 (tvS S t).2.2.1 (tvS S t).2.1) x (m : Int) (tvS S t) k).1 * x, (sfx (sL S) (fT (sF S)) 3 (tvS S t).2.2.1 (tvS S t).2.1) (rnT (sfx (sL S) (fT (sF S)) (fW (sF S)) (tvS S t).2.2.1 (tvS S t).2.1) (sfx (sL S) (fT (sF S)) 3 (tvS S t).2.2.1 (tvS S t).2.1) x (m : Int) (tvS S t) k).2) := by simp only [rnT]; rw [if_pos hb]
        have h := ih (k + 1) 3 J (by omega) (by omega) hJ (frm_tr hfr1 (frm_a hfJ)) (by omega) (by rw [e2]; exact hFJ)
        rw [e2] at h
        rw [e1]
        exact h
      · refine mRun.go (q_lload dX9_rains_113 rfl) ?_
        refine mRun.go (q_iload dX9_rains_115 rfl) ?_
        refine mRun.go (q_iload dX9_rains_117 rfl) ?_
        refine mRun.go (q_callSi [mi (m : Int), mi (k : Int)] [ml ((rnT (sfx (sL S) (fT (sF S)) (fW (sF S)) (tvS S t).2.2.1 (tvS S t).2.1) (sfx (sL S) (fT (sF S)) 3 (tvS S t).2.2.1 (tvS S t).2.1) x (m : Int) (tvS S t) k).1)] dX9_rains_119 co_X9_248 ⟨Nat.le_of_ble_eq_true rfl, Nat.le_of_ble_eq_true rfl⟩ gw_1094 rfl rfl (Nat.le_of_ble_eq_true rfl) (m_has0 hb)) ?_
        refine mRun.go (q_if_eq_t (tgt := 130) dX9_rains_122 (by decide) (by omega) rfl) ?_
        refine mRun.go (q_bipush dX9_rains_130 (by decide)) ?_
        refine mRun.go (q_iload_n dX9_rains_132 rfl rfl) ?_
        refine mRun.go (q_isub dX9_rains_133) ?_
        refine mRun.go (q_i2l dX9_rains_134 (by omega)) ?_
        refine mRun.go (q_lmul dX9_rains_135) ?_
        refine mRun.go (q_lstore (ls' := [some (mr 144), some (mi t), some (mi (N : Int)), some (mi x), some (mi p), some (ml a), none, some (ml b), none, some (mi (m : Int)), some (ml (((rnT (sfx (sL S) (fT (sF S)) (fW (sF S)) (tvS S t).2.2.1 (tvS S t).2.1) (sfx (sL S) (fT (sF S)) 3 (tvS S t).2.2.1 (tvS S t).2.1) x (m : Int) (tvS S t) k).1) * (10 - x))), none, some (mi (k : Int))]) dX9_rains_136 (Nat.le_of_ble_eq_true rfl) rfl) ?_
        refine mRun.go (q_aload_n dX9_rains_138 rfl rfl) ?_
        refine mRun.go (q_getR dX9_rains_139 fo_X9_19 hD.1 rfl) ?_
        refine mRun.go (q_iconst dX9_rains_142) ?_
        refine mRun.go (q_iload dX9_rains_143 rfl) ?_
        refine mRun.go (q_iload dX9_rains_145 rfl) ?_
        refine mRun.go (q_callSi [mi (m : Int), mi (k : Int)] [mi 0, mr 148] dX9_rains_147 co_X9_248 ⟨Nat.le_of_ble_eq_true rfl, Nat.le_of_ble_eq_true rfl⟩ gw_1094 rfl rfl (Nat.le_of_ble_eq_true rfl) (m_has0 hb)) ?_
        refine mRun.go (q_if_eq_t (tgt := 157) dX9_rains_150 (by decide) (by omega) rfl) ?_
        refine mRun.go (q_aload_n dX9_rains_157 rfl rfl) ?_
        refine mRun.go (q_getR dX9_rains_158 fo_X9_16 hD.1 rfl) ?_
        refine mRun.go (q_iconst dX9_rains_161) ?_
        refine mRun.go (q_ialdE (x := fW (sF S)) dX9_rains_162 hD.2.2.2.1 (by omega) (by omega) (by rw [hfr.1 147 (by decide) (by decide) (by decide)]; exact hF.1)) ?_
        refine mRun.go (q_iast dX9_rains_163 hD.2.2.2.2.1 (by omega) (by omega)) ?_
        refine mRun.go (q_aload_n dX9_rains_164 rfl rfl) ?_
        refine mRun.go (q_aload_n dX9_rains_165 rfl rfl) ?_
        refine mRun.go (q_getR dX9_rains_166 fo_X9_19 hD.1 rfl) ?_
        refine mRun.go (q_iload_n dX9_rains_169 rfl rfl) ?_
        have hN1 : Nrm (mup K 148 0 (fW (sF S))) := nrm_mup hK (by omega)
        have hF1 : FRM (mup K 148 0 (fW (sF S))) 148 0 (sL S) (setW (setV (setW (sF S) q) t.toNat (rnT (sfx (sL S) (fT (sF S)) (fW (sF S)) (tvS S t).2.2.1 (tvS S t).2.1) (sfx (sL S) (fT (sF S)) 3 (tvS S t).2.2.1 (tvS S t).2.1) x (m : Int) (tvS S t) k).2) (fW (sF S))) := frm_wet hFK
        have hfr1 : FrM I (mup K 148 0 (fW (sF S))) := frm_tr hfr (frm_a (fun r a b => mup_nf b))
        have hat : fV (setW (setV (setW (sF S) q) t.toNat (rnT (sfx (sL S) (fT (sF S)) (fW (sF S)) (tvS S t).2.2.1 (tvS S t).2.1) (sfx (sL S) (fT (sF S)) 3 (tvS S t).2.2.1 (tvS S t).2.1) x (m : Int) (tvS S t) k).2) (fW (sF S))) t.toNat = (rnT (sfx (sL S) (fT (sF S)) (fW (sF S)) (tvS S t).2.2.1 (tvS S t).2.1) (sfx (sL S) (fT (sF S)) 3 (tvS S t).2.2.1 (tvS S t).2.1) x (m : Int) (tvS S t) k).2 := if_pos rfl
        obtain ⟨v1, h1, hc1, rfl, J, rfl, hJ, hfJ, hFJ⟩ := m_oneGoes (t := t.toNat) hN1 hD hL (hLR.frm hfr1) hD.2.2.2.2.1 hF1 (Or.inr rfl) (by omega) (show (0 : Int) ≤ (fW (sF S)) ∧ ((fW (sF S)) : Int) ≤ 3 by omega) (by rw [hat]; exact hvk)
        rw [show ((t.toNat : Nat) : Int) = t by omega] at hc1
        rw [hat] at hFJ
        have hst : stp (sL S) (fT (setW (setV (setW (sF S) q) t.toNat (rnT (sfx (sL S) (fT (sF S)) (fW (sF S)) (tvS S t).2.2.1 (tvS S t).2.1) (sfx (sL S) (fT (sF S)) 3 (tvS S t).2.2.1 (tvS S t).2.1) x (m : Int) (tvS S t) k).2) (fW (sF S)))) (fW (setW (setV (setW (sF S) q) t.toNat (rnT (sfx (sL S) (fT (sF S)) (fW (sF S)) (tvS S t).2.2.1 (tvS S t).2.1) (sfx (sL S) (fT (sF S)) 3 (tvS S t).2.2.1 (tvS S t).2.1) x (m : Int) (tvS S t) k).2) (fW (sF S)))) (rnT (sfx (sL S) (fT (sF S)) (fW (sF S)) (tvS S t).2.2.1 (tvS S t).2.1) (sfx (sL S) (fT (sF S)) 3 (tvS S t).2.2.1 (tvS S t).2.1) x (m : Int) (tvS S t) k).2 = (sfx (sL S) (fT (sF S)) (fW (sF S)) (tvS S t).2.2.1 (tvS S t).2.1) (rnT (sfx (sL S) (fT (sF S)) (fW (sF S)) (tvS S t).2.2.1 (tvS S t).2.1) (sfx (sL S) (fT (sF S)) 3 (tvS S t).2.2.1 (tvS S t).2.1) x (m : Int) (tvS S t) k).2 := by
          show sfx (sL S) (fT (sF S)) (fW (sF S)) (rnT (sfx (sL S) (fT (sF S)) (fW (sF S)) (tvS S t).2.2.1 (tvS S t).2.1) (sfx (sL S) (fT (sF S)) 3 (tvS S t).2.2.1 (tvS S t).2.1) x (m : Int) (tvS S t) k).2.2.2.1 (rnT (sfx (sL S) (fT (sF S)) (fW (sF S)) (tvS S t).2.2.1 (tvS S t).2.1) (sfx (sL S) (fT (sF S)) 3 (tvS S t).2.2.1 (tvS S t).2.1) x (m : Int) (tvS S t) k).2.2.1 (rnT (sfx (sL S) (fT (sF S)) (fW (sF S)) (tvS S t).2.2.1 (tvS S t).2.1) (sfx (sL S) (fT (sF S)) 3 (tvS S t).2.2.1 (tvS S t).2.1) x (m : Int) (tvS S t) k).2 = _
          rw [hdg.1, hdg.2]
        rw [hst, setVWV] at hFJ
        refine mRun.go (q_callVv (r := 144) [mr 148, mi t] [] dX9_rains_170 co_X9_214 ⟨Nat.le_of_ble_eq_true rfl, Nat.le_of_ble_eq_true rfl⟩ gw_1000 gs_49 rfl hD.1 rfl rfl rfl (Nat.le_of_ble_eq_true rfl) hc1) ?_
        refine mRun.go (q_iinc (ls' := [some (mr 144), some (mi t), some (mi (N : Int)), some (mi x), some (mi p), some (ml a), none, some (ml b), none, some (mi (m : Int)), some (ml (((rnT (sfx (sL S) (fT (sF S)) (fW (sF S)) (tvS S t).2.2.1 (tvS S t).2.1) (sfx (sL S) (fT (sF S)) 3 (tvS S t).2.2.1 (tvS S t).2.1) x (m : Int) (tvS S t) k).1) * (10 - x))), none, some (mi ((k : Int) + 1))]) dX9_rains_173 rfl (Nat.le_of_ble_eq_true rfl) rfl) ?_
        refine mRun.go (q_goto (tgt := 107) dX9_rains_176 (by decide)) ?_
        have e1 : ((k : Int) + 1) = ((k + 1 : Nat) : Int) := by omega
        have e2 : (rnT (sfx (sL S) (fT (sF S)) (fW (sF S)) (tvS S t).2.2.1 (tvS S t).2.1) (sfx (sL S) (fT (sF S)) 3 (tvS S t).2.2.1 (tvS S t).2.1) x (m : Int) (tvS S t) (k + 1)) = ((rnT (sfx (sL S) (fT (sF S)) (fW (sF S)) (tvS S t).2.2.1 (tvS S t).2.1) (sfx (sL S) (fT (sF S)) 3 (tvS S t).2.2.1 (tvS S t).2.1) x (m : Int) (tvS S t) k).1 * (10 - x), (sfx (sL S) (fT (sF S)) (fW (sF S)) (tvS S t).2.2.1 (tvS S t).2.1) (rnT (sfx (sL S) (fT (sF S)) (fW (sF S)) (tvS S t).2.2.1 (tvS S t).2.1) (sfx (sL S) (fT (sF S)) 3 (tvS S t).2.2.1 (tvS S t).2.1) x (m : Int) (tvS S t) k).2) := by simp only [rnT]; rw [if_neg hb]
        have h := ih (k + 1) (fW (sF S)) J (by omega) (by omega) hJ (frm_tr hfr1 (frm_a hfJ)) (by omega) (by rw [e2]; exact hFJ)
        rw [e2] at h
        rw [e1]
        exact h

set_option maxRecDepth 100000 in
theorem g_rains_loop2 {σ : List mC} {I : mI} {S : Sx} {B t x p : Int} {N : Nat} (hM : MS σ I S) (hS : SxOk B S) (ht : isT S t) (hN8 : N ≤ 8) (hx : 0 ≤ x ∧ x ≤ 10) (hp : 0 ≤ p ∧ p ≤ 1) {M W : Nat} (hsh : mshl 1 (N : Int) = (M : Int)) (hM6 : M ≤ 256) (hW : 1 ≤ W ∧ W ≤ 100000000) (hsum : ∀ m, m ≤ M → 0 ≤ (sumN (wgX S x (tvS S t) N) m) ∧ (sumN (wgX S x (tvS S t) N) m) ≤ W) : ∀ (n m : Nat) (K : mI) {o10 o11 o12 : Option mV}, M - m < n → m ≤ M → Nrm K → FrM I K → mRun mZt mX9_rains 77 [some (mr 144), some (mi t), some (mi (N : Int)), some (mi x), some (mi p), some (ml (sumN (wgX S x (tvS S t) N) m)), none, some (ml (W : Int)), none, some (mi (m : Int)), o10, o11, o12] [] (σ, K) (OutM σ I S (lwt (sumN (wgX S x (tvS S t) N) M) (W : Int) p)) := by
  intro n
  induction n with
  | zero => intro m K o10 o11 o12 h; omega
  | succ n ih =>
    intro m K o10 o11 o12 hn hm hK hfr
    have hI := hM.1
    have hD := hM.2.1
    have hL := hS.1
    have hsz := hM.2.2.1
    have hLR := hM.2.2.2.2.2.2.1
    have hF := hM.2.2.2.2.2.2.2.1
    have hun := hM.2.2.2.2.2.2.2.2.1
    have hpa := hM.2.2.2.2.2.2.2.2.2.1
    have hkm := hM.2.2.2.2.2.2.2.2.2.2.1
    have hke := hM.2.2.2.2.2.2.2.2.2.2.2.1
    have hhm := hM.2.2.2.2.2.2.2.2.2.2.2.2.1
    have hhe := hM.2.2.2.2.2.2.2.2.2.2.2.2.2.1
    have hN := hM.2.2.2.2.2.2.2.2.2.2.2.2.2.2
    have hpr := lp_rng hL
    have hqe := lq_eq hL
    have hwr := hL.2.1
    have hrr := hL.1
    have hdr := hL.2.2.1
    have hnt := hL.2.2.2.1
    have hwF := hS.2.1.1
    have hhF := hS.2.1.2.1
    have hvF := hS.2.1.2.2.2
    have hH8 := hS.2.2.2.2.2.2.1
    have hU8 := hS.2.2.1
    have hK2 := hS.2.2.2.2.1
    have hLn := hS.2.2.2.2.2.2.2.2
    have ht : 0 ≤ t ∧ t < lTv (sL S) := ht
    have hws := hsum m hm
    have hvN := (rnT_M (t := tvS S t) (T := fT (sF S)) (w := fW (sF S)) (d := (tvS S t).2.2.1) (g := (tvS S t).2.1) (x := x) (m := (m : Int)) hL (hvF t.toNat (by omega)) N).1
    refine mRun.go (q_iload dX9_rains_77 rfl) ?_
    refine mRun.go (q_iconst dX9_rains_79) ?_
    refine mRun.go (q_iload_n dX9_rains_80 rfl rfl) ?_
    refine mRun.go (q_ishl dX9_rains_81) ?_
    refine r_icmp_ge (tgt := 210) dX9_rains_82 (by decide) (by omega) (by omega) (fun c82 => ?_) (fun c82 => ?_)
    · refine mRun.go (q_lload dX9_rains_210 rfl) ?_
      refine mRun.go (q_lload dX9_rains_212 rfl) ?_
      refine mRun.go (q_iload dX9_rains_214 rfl) ?_
      have hme : M = m := by rw [hsh] at c82; omega
      have hlo := @m_lowest (σ, K) (sumN (wgX S x (tvS S t) N) m).toNat W p (by omega) (by omega) (by omega) hp
      rw [show (((sumN (wgX S x (tvS S t) N) m).toNat : Nat) : Int) = (sumN (wgX S x (tvS S t) N) m) by omega] at hlo
      refine mRun.go (q_callSi [ml (sumN (wgX S x (tvS S t) N) m), ml (W : Int), mi p] [] dX9_rains_216 co_X9_251 ⟨Nat.le_of_ble_eq_true rfl, Nat.le_of_ble_eq_true rfl⟩ gw_1097 rfl rfl (Nat.le_of_ble_eq_true rfl) hlo) ?_
      refine r_iret dX9_rains_219 rfl ?_
      rw [hme]
      exact outm_q hM hS hK hfr
    · refine mRun.go (q_lconst (a := 1) dX9_rains_85 (by decide)) ?_
      refine mRun.go (q_lstore (ls' := [some (mr 144), some (mi t), some (mi (N : Int)), some (mi x), some (mi p), some (ml (sumN (wgX S x (tvS S t) N) m)), none, some (ml (W : Int)), none, some (mi (m : Int)), some (ml 1), none, o12]) dX9_rains_86 (Nat.le_of_ble_eq_true rfl) rfl) ?_
      refine mRun.go (q_aload_n dX9_rains_88 rfl rfl) ?_
      refine mRun.go (q_getR dX9_rains_89 fo_X9_16 hD.1 rfl) ?_
      refine mRun.go (q_iconst dX9_rains_92) ?_
      refine mRun.go (q_aload_n dX9_rains_93 rfl rfl) ?_
      refine mRun.go (q_getR dX9_rains_94 fo_X9_19 hD.1 rfl) ?_
      refine mRun.go (q_iconst dX9_rains_97) ?_
      refine mRun.go (q_sipush dX9_rains_98 (by decide)) ?_
      have hFc : FRM (asd K) 148 0 (sL S) (sF S) := asd_f (hF.frm hL hfr (by decide) (by decide) (by decide)) hL
      refine mRun.go (q_callSv [mr 147, mi 0, mr 148, mi 0, mi 170] [] dX9_rains_101 co_X9_97 ⟨Nat.le_of_ble_eq_true rfl, Nat.le_of_ble_eq_true rfl⟩ gw_755 rfl rfl (Nat.le_of_ble_eq_true rfl) (m_copies (i := 0) (j := 0) (m := 170) hK hD.2.2.2.1 hD.2.2.2.2.1 (by decide) (by decide) (by decide) (by decide) (by decide))) ?_
      refine mRun.go (q_iconst dX9_rains_104) ?_
      refine mRun.go (q_istore (ls' := [some (mr 144), some (mi t), some (mi (N : Int)), some (mi x), some (mi p), some (ml (sumN (wgX S x (tvS S t) N) m)), none, some (ml (W : Int)), none, some (mi (m : Int)), some (ml 1), none, some (mi 0)]) dX9_rains_105 (Nat.le_of_ble_eq_true rfl) rfl) ?_
      have hF0 : FRM (asd K) 148 0 (sL S) (setV (setW (sF S) (fW (sF S))) t.toNat (rnT (sfx (sL S) (fT (sF S)) (fW (sF S)) (tvS S t).2.2.1 (tvS S t).2.1) (sfx (sL S) (fT (sF S)) 3 (tvS S t).2.2.1 (tvS S t).2.1) x (m : Int) (tvS S t) 0).2) := by
        show FRM (asd K) 148 0 (sL S) (setV (sF S) t.toNat (fV (sF S) t.toNat))
        rw [setV_self rfl]
        exact hFc
      refine m_rain_in hM hS ht hN8 hx hp (m := m) (by omega) ?_ (N + 1) 0 (fW (sF S)) (asd K) (by omega) (by omega) (nrm_mcp hK) (frm_tr hfr asd_m) hwF hF0
      intro K2 hK2 hfr2 hst2
      refine mRun.go (q_lload dX9_rains_179 rfl) ?_
      refine mRun.go (q_aload_n dX9_rains_181 rfl rfl) ?_
      refine mRun.go (q_getR dX9_rains_182 fo_X9_19 hD.1 rfl) ?_
      refine mRun.go (q_sipush dX9_rains_185 (by decide)) ?_
      refine mRun.go (q_iload_n dX9_rains_188 rfl rfl) ?_
      refine mRun.go (q_iadd dX9_rains_189) ?_
      refine mRun.go (q_ialdE (x := (rnT (sfx (sL S) (fT (sF S)) (fW (sF S)) (tvS S t).2.2.1 (tvS S t).2.1) (sfx (sL S) (fT (sF S)) 3 (tvS S t).2.2.1 (tvS S t).2.1) x (m : Int) (tvS S t) N).2.2.2.2.1) dX9_rains_190 hD.2.2.2.2.1 (by omega) (by omega) hst2) ?_
      refine mRun.go (q_iconst dX9_rains_191) ?_
      have j192 : ∀ {post : Option mV → mH → Prop}, mRun mZt mX9_rains 201 [some (mr 144), some (mi t), some (mi (N : Int)), some (mi x), some (mi p), some (ml (sumN (wgX S x (tvS S t) N) m)), none, some (ml (W : Int)), none, some (mi (m : Int)), some (ml ((rnT (sfx (sL S) (fT (sF S)) (fW (sF S)) (tvS S t).2.2.1 (tvS S t).2.1) (sfx (sL S) (fT (sF S)) 3 (tvS S t).2.2.1 (tvS S t).2.1) x (m : Int) (tvS S t) N).1)), none, some (mi (N : Int))] [ml (if (rnT (sfx (sL S) (fT (sF S)) (fW (sF S)) (tvS S t).2.2.1 (tvS S t).2.1) (sfx (sL S) (fT (sF S)) 3 (tvS S t).2.2.1 (tvS S t).2.1) x (m : Int) (tvS S t) N).2.2.2.2.1 = 1 then (rnT (sfx (sL S) (fT (sF S)) (fW (sF S)) (tvS S t).2.2.1 (tvS S t).2.1) (sfx (sL S) (fT (sF S)) 3 (tvS S t).2.2.1 (tvS S t).2.1) x (m : Int) (tvS S t) N).1 else 0), ml (sumN (wgX S x (tvS S t) N) m)] (σ, K2) post → mRun mZt mX9_rains 192 [some (mr 144), some (mi t), some (mi (N : Int)), some (mi x), some (mi p), some (ml (sumN (wgX S x (tvS S t) N) m)), none, some (ml (W : Int)), none, some (mi (m : Int)), some (ml ((rnT (sfx (sL S) (fT (sF S)) (fW (sF S)) (tvS S t).2.2.1 (tvS S t).2.1) (sfx (sL S) (fT (sF S)) 3 (tvS S t).2.2.1 (tvS S t).2.1) x (m : Int) (tvS S t) N).1)), none, some (mi (N : Int))] [mi 1, mi ((rnT (sfx (sL S) (fT (sF S)) (fW (sF S)) (tvS S t).2.2.1 (tvS S t).2.1) (sfx (sL S) (fT (sF S)) 3 (tvS S t).2.2.1 (tvS S t).2.1) x (m : Int) (tvS S t) N).2.2.2.2.1), ml (sumN (wgX S x (tvS S t) N) m)] (σ, K2) post := by
        intro post k
        refine r_icmp_ne (tgt := 200) dX9_rains_192 (by decide) (by have := hvN.2.2.2.1; omega) (by omega) (fun c192 => ?_) (fun c192 => ?_)
        · refine mRun.go (q_lconst (a := 0) dX9_rains_200 (by decide)) ?_
          first | (rw [if_pos (by omega)] at k; exact k) | (rw [if_neg (by omega)] at k; exact k)
        · refine mRun.go (q_lload dX9_rains_195 rfl) ?_
          refine mRun.go (q_goto (tgt := 201) dX9_rains_197 (by decide)) ?_
          first | (rw [if_pos (by omega)] at k; exact k) | (rw [if_neg (by omega)] at k; exact k)
      refine j192 ?_
      refine mRun.go (q_ladd dX9_rains_201) ?_
      refine mRun.go (q_lstore (ls' := [some (mr 144), some (mi t), some (mi (N : Int)), some (mi x), some (mi p), some (ml ((sumN (wgX S x (tvS S t) N) m) + (if (rnT (sfx (sL S) (fT (sF S)) (fW (sF S)) (tvS S t).2.2.1 (tvS S t).2.1) (sfx (sL S) (fT (sF S)) 3 (tvS S t).2.2.1 (tvS S t).2.1) x (m : Int) (tvS S t) N).2.2.2.2.1 = 1 then (rnT (sfx (sL S) (fT (sF S)) (fW (sF S)) (tvS S t).2.2.1 (tvS S t).2.1) (sfx (sL S) (fT (sF S)) 3 (tvS S t).2.2.1 (tvS S t).2.1) x (m : Int) (tvS S t) N).1 else 0))), none, some (ml (W : Int)), none, some (mi (m : Int)), some (ml ((rnT (sfx (sL S) (fT (sF S)) (fW (sF S)) (tvS S t).2.2.1 (tvS S t).2.1) (sfx (sL S) (fT (sF S)) 3 (tvS S t).2.2.1 (tvS S t).2.1) x (m : Int) (tvS S t) N).1)), none, some (mi (N : Int))]) dX9_rains_202 (Nat.le_of_ble_eq_true rfl) rfl) ?_
      refine mRun.go (q_iinc (ls' := [some (mr 144), some (mi t), some (mi (N : Int)), some (mi x), some (mi p), some (ml ((sumN (wgX S x (tvS S t) N) m) + (if (rnT (sfx (sL S) (fT (sF S)) (fW (sF S)) (tvS S t).2.2.1 (tvS S t).2.1) (sfx (sL S) (fT (sF S)) 3 (tvS S t).2.2.1 (tvS S t).2.1) x (m : Int) (tvS S t) N).2.2.2.2.1 = 1 then (rnT (sfx (sL S) (fT (sF S)) (fW (sF S)) (tvS S t).2.2.1 (tvS S t).2.1) (sfx (sL S) (fT (sF S)) 3 (tvS S t).2.2.1 (tvS S t).2.1) x (m : Int) (tvS S t) N).1 else 0))), none, some (ml (W : Int)), none, some (mi ((m : Int) + 1)), some (ml ((rnT (sfx (sL S) (fT (sF S)) (fW (sF S)) (tvS S t).2.2.1 (tvS S t).2.1) (sfx (sL S) (fT (sF S)) 3 (tvS S t).2.2.1 (tvS S t).2.1) x (m : Int) (tvS S t) N).1)), none, some (mi (N : Int))]) dX9_rains_204 rfl (Nat.le_of_ble_eq_true rfl) rfl) ?_
      refine mRun.go (q_goto (tgt := 77) dX9_rains_207 (by decide)) ?_
      have e1 : ((m : Int) + 1) = ((m + 1 : Nat) : Int) := by omega
      have e2 : (sumN (wgX S x (tvS S t) N) m) + (if (rnT (sfx (sL S) (fT (sF S)) (fW (sF S)) (tvS S t).2.2.1 (tvS S t).2.1) (sfx (sL S) (fT (sF S)) 3 (tvS S t).2.2.1 (tvS S t).2.1) x (m : Int) (tvS S t) N).2.2.2.2.1 = 1 then (rnT (sfx (sL S) (fT (sF S)) (fW (sF S)) (tvS S t).2.2.1 (tvS S t).2.1) (sfx (sL S) (fT (sF S)) 3 (tvS S t).2.2.1 (tvS S t).2.1) x (m : Int) (tvS S t) N).1 else 0) = (sumN (wgX S x (tvS S t) N) (m + 1)) := rfl
      rw [e1, e2]
      exact ih (m + 1) K2 (by omega) (by omega) hK2 hfr2

set_option maxRecDepth 100000 in
theorem g_rains_loop1 {σ : List mC} {I : mI} {S : Sx} {B t x p : Int} {N : Nat} (hM : MS σ I S) (hS : SxOk B S) (ht : isT S t) (hN8 : N ≤ 8) (hx : 0 ≤ x ∧ x ≤ 10) (hp : 0 ≤ p ∧ p ≤ 1) {M W : Nat} (hW10 : (10 : Int) ^ N = (W : Int)) (hsh : mshl 1 (N : Int) = (M : Int)) (hM6 : M ≤ 256) (hW : 1 ≤ W ∧ W ≤ 100000000) (hsum : ∀ m, m ≤ M → 0 ≤ (sumN (wgX S x (tvS S t) N) m) ∧ (sumN (wgX S x (tvS S t) N) m) ≤ W) {o10 o11 o12 : Option mV} : ∀ (n m : Nat), N - m < n → m ≤ N → mRun mZt mX9_rains 54 [some (mr 144), some (mi t), some (mi (N : Int)), some (mi x), some (mi p), some (ml 0), none, some (ml ((10 : Int) ^ m)), none, some (mi (m : Int)), o10, o11, o12] [] (σ, I) (OutM σ I S (lwt (sumN (wgX S x (tvS S t) N) M) (W : Int) p)) := by
  intro n
  induction n with
  | zero => intro m h; omega
  | succ n ih =>
    intro m hn hm
    refine mRun.go (q_iload dX9_rains_54 rfl) ?_
    refine mRun.go (q_iload_n dX9_rains_56 rfl rfl) ?_
    refine r_icmp_ge (tgt := 74) dX9_rains_57 (by decide) (by omega) (by omega) (fun c57 => ?_) (fun c57 => ?_)
    · refine mRun.go (q_iconst dX9_rains_74) ?_
      refine mRun.go (q_istore (ls' := [some (mr 144), some (mi t), some (mi (N : Int)), some (mi x), some (mi p), some (ml 0), none, some (ml ((10 : Int) ^ m)), none, some (mi 0), o10, o11, o12]) dX9_rains_75 (Nat.le_of_ble_eq_true rfl) rfl) ?_
      have hme : m = N := by omega
      subst hme
      rw [hW10]
      exact g_rains_loop2 hM hS ht hN8 hx hp hsh hM6 hW hsum (M + 1) 0 I (by omega) (by omega) hM.1 frm_rf
    · refine mRun.go (q_lload dX9_rains_60 rfl) ?_
      refine mRun.go (q_ldc2 (a := 10) dX9_rains_62 gw_1092) ?_
      refine mRun.go (q_lmul dX9_rains_65) ?_
      refine mRun.go (q_lstore (ls' := [some (mr 144), some (mi t), some (mi (N : Int)), some (mi x), some (mi p), some (ml 0), none, some (ml (((10 : Int) ^ m) * 10)), none, some (mi (m : Int)), o10, o11, o12]) dX9_rains_66 (Nat.le_of_ble_eq_true rfl) rfl) ?_
      refine mRun.go (q_iinc (ls' := [some (mr 144), some (mi t), some (mi (N : Int)), some (mi x), some (mi p), some (ml 0), none, some (ml (((10 : Int) ^ m) * 10)), none, some (mi ((m : Int) + 1)), o10, o11, o12]) dX9_rains_68 rfl (Nat.le_of_ble_eq_true rfl) rfl) ?_
      refine mRun.go (q_goto (tgt := 54) dX9_rains_71 (by decide)) ?_
      have e1 : ((m : Int) + 1) = ((m + 1 : Nat) : Int) := by omega
      have e2 : (10 : Int) ^ m * 10 = 10 ^ (m + 1) := (Int.pow_succ 10 m).symm
      rw [e1, e2]
      exact ih (m + 1) (by omega) (by omega)

set_option maxRecDepth 100000 in
theorem g_rains {σ : List mC} {I : mI} {S : Sx} {B : Int} {t n x p : Int} (hM : MS σ I S) (hS : SxOk B S) (ht : -2147483648 ≤ t ∧ t < 2147483648) (hn : -2147483648 ≤ n ∧ n < 2147483648) (hx : -2147483648 ≤ x ∧ x < 2147483648) (hp : -2147483648 ≤ p ∧ p < 2147483648) : mMt mX9_rains [mr 144, mi t, mi n, mi x, mi p] (σ, I) (OutM σ I S (a_rains S t n x p)) := by
  refine mMt.of pl_9 (Nat.le_of_ble_eq_true rfl) ?_
  show mRun mZt mX9_rains 0 [some (mr 144), some (mi t), some (mi n), some (mi x), some (mi p), none, none, none, none, none, none, none, none] [] (σ, I) _
  have hI := hM.1
  have hD := hM.2.1
  have hL := hS.1
  have hsz := hM.2.2.1
  have hLR := hM.2.2.2.2.2.2.1
  have hF := hM.2.2.2.2.2.2.2.1
  have hun := hM.2.2.2.2.2.2.2.2.1
  have hpa := hM.2.2.2.2.2.2.2.2.2.1
  have hkm := hM.2.2.2.2.2.2.2.2.2.2.1
  have hke := hM.2.2.2.2.2.2.2.2.2.2.2.1
  have hhm := hM.2.2.2.2.2.2.2.2.2.2.2.2.1
  have hhe := hM.2.2.2.2.2.2.2.2.2.2.2.2.2.1
  have hN := hM.2.2.2.2.2.2.2.2.2.2.2.2.2.2
  have hpr := lp_rng hL
  have hqe := lq_eq hL
  have hwr := hL.2.1
  have hrr := hL.1
  have hdr := hL.2.2.1
  have hnt := hL.2.2.2.1
  have hwF := hS.2.1.1
  have hhF := hS.2.1.2.1
  have hvF := hS.2.1.2.2.2
  have hH8 := hS.2.2.2.2.2.2.1
  have hU8 := hS.2.2.1
  have hK2 := hS.2.2.2.2.1
  have hLn := hS.2.2.2.2.2.2.2.2
  refine mRun.go (q_aload_n dX9_rains_0 rfl rfl) ?_
  refine mRun.go (q_iload_n dX9_rains_1 rfl rfl) ?_
  refine mRun.go (q_callVi (r := 144) [mi t] [] dX9_rains_2 co_X9_203 ⟨Nat.le_of_ble_eq_true rfl, Nat.le_of_ble_eq_true rfl⟩ gw_950 gs_41 rfl hD.1 rfl rfl rfl (Nat.le_of_ble_eq_true rfl) (m_isTraveller hI hD hL hLR hN ht)) ?_
  refine r_if_eq (tgt := 43) dX9_rains_5 (by decide) (by split <;> omega) (fun c5 => ?_) (fun c5 => ?_)
  · have h5 := ite00 c5
    refine mRun.go (q_iconst dX9_rains_43) ?_
    refine r_iret dX9_rains_44 rfl ?_
    have e0 : a_rains S t n x p = -1 := by simp only [a_rains, isT]; rw [if_neg (by omega)]
    rw [e0]
    exact outm_q hM hS hI frm_rf
  · have h5 := ite01 c5
    refine mRun.go (q_iload_n dX9_rains_8 rfl rfl) ?_
    refine mRun.go (q_i2l dX9_rains_9 hn) ?_
    refine mRun.go (q_lconst (a := 0) dX9_rains_10 (by decide)) ?_
    refine mRun.go (q_ldc2 (a := 8) dX9_rains_11 gw_1091) ?_
    refine mRun.go (q_callSi [ml n, ml 0, ml 8] [] dX9_rains_14 co_X9_114 ⟨Nat.le_of_ble_eq_true rfl, Nat.le_of_ble_eq_true rfl⟩ gw_855 rfl rfl (Nat.le_of_ble_eq_true rfl) (k_in (by omega) (by omega) (by omega))) ?_
    refine r_if_eq (tgt := 43) dX9_rains_17 (by decide) (by split <;> omega) (fun c17 => ?_) (fun c17 => ?_)
    · have h17 := ite00 c17
      refine mRun.go (q_iconst dX9_rains_43) ?_
      refine r_iret dX9_rains_44 rfl ?_
      have e0 : a_rains S t n x p = -1 := by simp only [a_rains, isT]; rw [if_neg (by omega)]
      rw [e0]
      exact outm_q hM hS hI frm_rf
    · have h17 := ite01 c17
      refine mRun.go (q_iload_n dX9_rains_20 rfl rfl) ?_
      refine mRun.go (q_i2l dX9_rains_21 hx) ?_
      refine mRun.go (q_lconst (a := 0) dX9_rains_22 (by decide)) ?_
      refine mRun.go (q_ldc2 (a := 10) dX9_rains_23 gw_1092) ?_
      refine mRun.go (q_callSi [ml x, ml 0, ml 10] [] dX9_rains_26 co_X9_114 ⟨Nat.le_of_ble_eq_true rfl, Nat.le_of_ble_eq_true rfl⟩ gw_855 rfl rfl (Nat.le_of_ble_eq_true rfl) (k_in (by omega) (by omega) (by omega))) ?_
      refine r_if_eq (tgt := 43) dX9_rains_29 (by decide) (by split <;> omega) (fun c29 => ?_) (fun c29 => ?_)
      · have h29 := ite00 c29
        refine mRun.go (q_iconst dX9_rains_43) ?_
        refine r_iret dX9_rains_44 rfl ?_
        have e0 : a_rains S t n x p = -1 := by simp only [a_rains, isT]; rw [if_neg (by omega)]
        rw [e0]
        exact outm_q hM hS hI frm_rf
      · have h29 := ite01 c29
        refine mRun.go (q_iload dX9_rains_32 rfl) ?_
        refine mRun.go (q_i2l dX9_rains_34 hp) ?_
        refine mRun.go (q_lconst (a := 0) dX9_rains_35 (by decide)) ?_
        refine mRun.go (q_lconst (a := 1) dX9_rains_36 (by decide)) ?_
        refine mRun.go (q_callSi [ml p, ml 0, ml 1] [] dX9_rains_37 co_X9_114 ⟨Nat.le_of_ble_eq_true rfl, Nat.le_of_ble_eq_true rfl⟩ gw_855 rfl rfl (Nat.le_of_ble_eq_true rfl) (k_in (by omega) (by omega) (by omega))) ?_
        refine r_if_ne (tgt := 45) dX9_rains_40 (by decide) (by split <;> omega) (fun c40 => ?_) (fun c40 => ?_)
        · have h40 := ite01 c40
          refine mRun.go (q_lconst (a := 0) dX9_rains_45 (by decide)) ?_
          refine mRun.go (q_lstore (ls' := [some (mr 144), some (mi t), some (mi n), some (mi x), some (mi p), some (ml 0), none, none, none, none, none, none, none]) dX9_rains_46 (Nat.le_of_ble_eq_true rfl) rfl) ?_
          refine mRun.go (q_lconst (a := 1) dX9_rains_48 (by decide)) ?_
          refine mRun.go (q_lstore (ls' := [some (mr 144), some (mi t), some (mi n), some (mi x), some (mi p), some (ml 0), none, some (ml 1), none, none, none, none, none]) dX9_rains_49 (Nat.le_of_ble_eq_true rfl) rfl) ?_
          refine mRun.go (q_iconst dX9_rains_51) ?_
          refine mRun.go (q_istore (ls' := [some (mr 144), some (mi t), some (mi n), some (mi x), some (mi p), some (ml 0), none, some (ml 1), none, some (mi 0), none, none, none]) dX9_rains_52 (Nat.le_of_ble_eq_true rfl) rfl) ?_
          have e0 : a_rains S t n x p = lwt (sumN (wgX S x (tvS S t) n.toNat) (2 ^ n.toNat)) (10 ^ n.toNat) p := by simp only [a_rains, isT]; rw [if_pos (by omega)]
          have hn8 : n.toNat ≤ 8 := by omega
          have h10 := nat10 hn8
          rw [e0, h10.1]
          have h := g_rains_loop1 (N := n.toNat) (M := 2 ^ n.toNat) (W := 10 ^ n.toNat) (o10 := none) (o11 := none) (o12 := none) hM hS (show isT S t by omega) hn8 (show 0 ≤ x ∧ x ≤ 10 by omega) (show 0 ≤ p ∧ p ≤ 1 by omega) h10.1 (shl_eq ⟨n.toNat, by omega⟩) (p2_8 hn8) h10.2 (fun m hm => by rw [← h10.1]; exact wg_sum (show 0 ≤ x ∧ x ≤ 10 by omega) hn8 hm) (n.toNat + 1) 0 (by omega) (by omega)
          rw [show ((n.toNat : Nat) : Int) = n by omega] at h
          exact h
        · have h40 := ite00 (Classical.not_not.mp c40)
          refine mRun.go (q_iconst dX9_rains_43) ?_
          refine r_iret dX9_rains_44 rfl ?_
          have e0 : a_rains S t n x p = -1 := by simp only [a_rains, isT]; rw [if_neg (by omega)]
          rw [e0]
          exact outm_q hM hS hI frm_rf
