/-! ===== DrumMaps: chances of rain ===== -/
theorem shl_eq : ∀ n : Fin 9, mshl 1 ((n.val : Nat) : Int) = ((2 ^ n.val : Nat) : Int) := by decide +kernel
theorem p2_8 {n : Nat} (h : n ≤ 8) : 2 ^ n ≤ 256 := by
  have := Nat.pow_le_pow_right (show 0 < 2 by decide) h
  omega
theorem nat10 {n : Nat} (h : n ≤ 8) : (10 : Int) ^ n = ((10 ^ n : Nat) : Int) ∧ 1 ≤ 10 ^ n ∧ 10 ^ n ≤ 100000000 := by
  refine ⟨by rw [Int.natCast_pow]; rfl, Nat.one_le_pow _ _ (by decide), ?_⟩
  have := Nat.pow_le_pow_right (show 0 < 10 by decide) h
  omega

set_option maxRecDepth 100000 in
theorem f_rains_loop2 {σ : List mC} {I : mI} {S : Sx} {B t x part : Int} {N : Nat} (hC : CS σ I S) (hS : SxOk B S) (ht : isT S t) (hN : N ≤ 8) (hx : 0 ≤ x ∧ x ≤ 10) (hp : 0 ≤ part ∧ part ≤ 1) {M W : Nat} (hsh : mshl 1 (N : Int) = (M : Int)) (hM : M ≤ 256) (hW : 1 ≤ W ∧ W ≤ 100000000) (hsum : ∀ m, m ≤ M → 0 ≤ sumN (wgX S x (tvS S t) N) m ∧ sumN (wgX S x (tvS S t) N) m ≤ W) : ∀ (n m : Nat) (K : mI) {o9 : Option mV}, M - m < n → m ≤ M → Nrm K → (∀ r, (r < 132 ∧ (r < 3 ∨ (20 < r ∧ r < 124)) ∨ 143 < r) → K r = I r) → Knows K 134 (lQ (sL S)) (nbL (sL S)) (ent (sL S) (fT (sF S)) (fW (sF S)) (tvS S t).2.2.1) (tvS S t).2.1.toNat → Knows K 139 (lQ (sL S)) (nbL (sL S)) (ent (sL S) (fT (sF S)) 3 (tvS S t).2.2.1) (tvS S t).2.1.toNat → mRun mZt mX8_rains 153 [some (mr 0), some (mi t), some (mi (N : Int)), some (mi x), some (mi part), some (mr (28 + 4 + t.toNat)), some (mi ((W : Int))), some (mi (sumN (wgX S x (tvS S t) N) m)), some (mi (m : Int)), o9] [] (σ, K) (Out σ I S (lwt (sumN (wgX S x (tvS S t) N) M) (W : Int) part)) := by
  intro n
  induction n with
  | zero => intro m K o9 h; omega
  | succ n ih =>
    intro m K o9 hn hm hK hfr hk1 hk2
    obtain ⟨q, hq1, hq2, hU, hq4⟩ := hC.2.2.1
    have hI := hC.1
    have hD := hC.2.1
    have hL := hS.1
    have hT := hC.2.2.2.1
    have hLR := hC.2.2.2.2.1
    have hF := hC.2.2.2.2.2.1
    have hpr := lp_rng hL
    have hqe := lq_eq hL
    have hwr := hL.2.1
    have hdr := hL.2.2.1
    have hnt := hL.2.2.2.1
    have hwF := hS.2.1.1
    have hhF := hS.2.1.2.1
    have hH8 := hS.2.2.2.2.2.2.1
    have hU8 := hS.2.2.1
    have hK2 := hS.2.2.2.2.1
    have hLn := hS.2.2.2.2.2.2.2.2
    have ht : 0 ≤ t ∧ t < lTv (sL S) := ht
    have hto := hF.2.2.2 t.toNat (by omega)
    have hws := hsum m hm
    have hLRK : LRC K (sL S) := hLR.fr (fun r a b => hfr r (by omega))
    have hFK : FRC K 28 (sL S) (sF S) := hF.fr hL (fun r a b => hfr r (by omega)) (hfr 23 (by omega))
    refine mRun.go (q_iload dX8_rains_153 rfl) ?_
    refine mRun.go (q_iconst dX8_rains_155) ?_
    refine mRun.go (q_iload_n dX8_rains_156 rfl rfl) ?_
    refine mRun.go (q_ishl dX8_rains_157) ?_
    refine r_icmp_ge (tgt := 182) dX8_rains_158 (by decide) (by omega) (by rw [hsh]; omega) (fun c158 => ?_) (fun c158 => ?_)
    · refine mRun.go (q_iload dX8_rains_182 rfl) ?_
      refine mRun.go (q_iload dX8_rains_184 rfl) ?_
      have hme : M = m := by rw [hsh] at c158; omega
      have hgc := @k_gcd (σ, K) W (sumN (wgX S x (tvS S t) N) m).toNat (by omega) (by omega)
      rw [show (((sumN (wgX S x (tvS S t) N) m).toNat : Nat) : Int) = sumN (wgX S x (tvS S t) N) m by omega] at hgc
      have hgp : 0 < Nat.gcd W (sumN (wgX S x (tvS S t) N) m).toNat := Nat.gcd_pos_of_pos_left _ (by omega)
      have hgl : Nat.gcd W (sumN (wgX S x (tvS S t) N) m).toNat ≤ W := Nat.gcd_le_left _ (by omega)
      refine mRun.go (q_callSi [mi (W : Int), mi (sumN (wgX S x (tvS S t) N) m)] [] dX8_rains_186 co_X8_260 ⟨Nat.le_of_ble_eq_true rfl, Nat.le_of_ble_eq_true rfl⟩ gw_690 rfl rfl (Nat.le_of_ble_eq_true rfl) hgc) ?_
      refine mRun.go (q_istore (ls' := [some (mr 0), some (mi t), some (mi (N : Int)), some (mi x), some (mi part), some (mr (28 + 4 + t.toNat)), some (mi (W : Int)), some (mi (sumN (wgX S x (tvS S t) N) m)), some (mi ((Nat.gcd W (sumN (wgX S x (tvS S t) N) m).toNat : Nat) : Int)), o9]) dX8_rains_189 (Nat.le_of_ble_eq_true rfl) rfl) ?_
      refine mRun.go (q_iload dX8_rains_191 rfl) ?_
      have j193 : ∀ {post : Option mV → mH → Prop}, mRun mZt mX8_rains 203 [some (mr 0), some (mi t), some (mi (N : Int)), some (mi x), some (mi part), some (mr (28 + 4 + t.toNat)), some (mi (W : Int)), some (mi (sumN (wgX S x (tvS S t) N) m)), some (mi ((Nat.gcd W (sumN (wgX S x (tvS S t) N) m).toNat : Nat) : Int)), o9] [mi (if part = 0 then sumN (wgX S x (tvS S t) N) m else (W : Int))] (σ, K) post → mRun mZt mX8_rains 193 [some (mr 0), some (mi t), some (mi (N : Int)), some (mi x), some (mi part), some (mr (28 + 4 + t.toNat)), some (mi (W : Int)), some (mi (sumN (wgX S x (tvS S t) N) m)), some (mi ((Nat.gcd W (sumN (wgX S x (tvS S t) N) m).toNat : Nat) : Int)), o9] [mi part] (σ, K) post := by
        intro post k
        refine r_if_ne (tgt := 201) dX8_rains_193 (by decide) (by omega) (fun c193 => ?_) (fun c193 => ?_)
        · refine mRun.go (q_iload dX8_rains_201 rfl) ?_
          first | (rw [if_pos (Classical.not_not.mp c193)] at k; exact k) | (rw [if_neg c193] at k; exact k)
        · refine mRun.go (q_iload dX8_rains_196 rfl) ?_
          refine mRun.go (q_goto (tgt := 203) dX8_rains_198 (by decide)) ?_
          first | (rw [if_pos (Classical.not_not.mp c193)] at k; exact k) | (rw [if_neg c193] at k; exact k)
      refine j193 ?_
      refine mRun.go (q_istore (ls' := [some (mr 0), some (mi t), some (mi (N : Int)), some (mi x), some (mi part), some (mr (28 + 4 + t.toNat)), some (mi (W : Int)), some (mi (sumN (wgX S x (tvS S t) N) m)), some (mi ((Nat.gcd W (sumN (wgX S x (tvS S t) N) m).toNat : Nat) : Int)), some (mi (if part = 0 then sumN (wgX S x (tvS S t) N) m else (W : Int)))]) dX8_rains_203 (Nat.le_of_ble_eq_true rfl) rfl) ?_
      refine mRun.go (q_iload dX8_rains_205 rfl) ?_
      refine mRun.go (q_if_le_f (tgt := 218) dX8_rains_207 (by decide) (by omega) (by omega)) ?_
      refine mRun.go (q_iload dX8_rains_210 rfl) ?_
      refine mRun.go (q_iload dX8_rains_212 rfl) ?_
      refine mRun.go (q_idiv dX8_rains_214 (by split <;> omega) (by omega)) ?_
      refine mRun.go (q_goto (tgt := 220) dX8_rains_215 (by decide)) ?_
      refine r_iret dX8_rains_220 rfl ?_
      rw [hme]
      have e : lwt (sumN (wgX S x (tvS S t) N) m) (W : Int) part = (if part = 0 then sumN (wgX S x (tvS S t) N) m else (W : Int)) / ((Nat.gcd W (sumN (wgX S x (tvS S t) N) m).toNat : Nat) : Int) := by
        unfold lwt
        rw [show ((W : Int)).toNat = W by omega, Nat.gcd_comm]
      rw [e]
      exact out_q hC hS hK (fun r a => hfr r (by omega))
    · refine mRun.go (q_iload dX8_rains_161 rfl) ?_
      refine mRun.go (q_aload_n dX8_rains_163 rfl rfl) ?_
      refine mRun.go (q_aload dX8_rains_164 rfl) ?_
      refine mRun.go (q_iload dX8_rains_166 rfl) ?_
      refine mRun.go (q_iload_n dX8_rains_168 rfl rfl) ?_
      refine mRun.go (q_iload_n dX8_rains_169 rfl rfl) ?_
      have hrK : tget K (28 + 4 + t.toNat) = tget I (28 + 4 + t.toNat) := by simp only [tget]; rw [hfr (28 + 4 + t.toNat) (by omega)]
      obtain ⟨v0, h0, hc0, rfl, J, rfl, hJ, hfJ⟩ := k_weight (r := 28 + 4 + t.toNat) (n := N) (x := x) (m := (m : Int)) (d := (tvS S t).2.2.1) (g := (tvS S t).2.1) hK hD hL hLRK hFK hwF ((dm_n hD).2.2.2 t.toNat (by omega)) (by omega) (by rw [hrK]; exact hto.2) (by omega) (by omega) (by omega) hk1 hk2
      rw [hrK, show nrmT (tget I (28 + 4 + t.toNat)) = tvS S t from hto.1] at hc0
      refine mRun.go (q_callVi (r := 0) [mr (28 + 4 + t.toNat), mi (m : Int), mi (N : Int), mi x] [mi (sumN (wgX S x (tvS S t) N) m)] dX8_rains_170 co_X8_256 ⟨Nat.le_of_ble_eq_true rfl, Nat.le_of_ble_eq_true rfl⟩ gw_687 gs_20 rfl hD.1 rfl rfl rfl (Nat.le_of_ble_eq_true rfl) hc0) ?_
      refine mRun.go (q_iadd dX8_rains_173) ?_
      refine mRun.go (q_istore (ls' := [some (mr 0), some (mi t), some (mi (N : Int)), some (mi x), some (mi part), some (mr (28 + 4 + t.toNat)), some (mi (W : Int)), some (mi ((sumN (wgX S x (tvS S t) N) m) + (wgX S x (tvS S t) N m))), some (mi (m : Int)), o9]) dX8_rains_174 (Nat.le_of_ble_eq_true rfl) rfl) ?_
      refine mRun.go (q_iinc (ls' := [some (mr 0), some (mi t), some (mi (N : Int)), some (mi x), some (mi part), some (mr (28 + 4 + t.toNat)), some (mi (W : Int)), some (mi ((sumN (wgX S x (tvS S t) N) m) + (wgX S x (tvS S t) N m))), some (mi ((m : Int) + 1)), o9]) dX8_rains_176 rfl (Nat.le_of_ble_eq_true rfl) rfl) ?_
      refine mRun.go (q_goto (tgt := 153) dX8_rains_179 (by decide)) ?_
      have e1 : ((m : Int) + 1) = ((m + 1 : Nat) : Int) := by omega
      rw [e1]
      exact ih (m + 1) J (by omega) (by omega) hJ (fun r a => (hfJ r (by omega)).trans (hfr r a)) (knows_fr hk1 (hfJ _ (by decide)) (hfJ _ (by decide))) (knows_fr hk2 (hfJ _ (by decide)) (hfJ _ (by decide)))

set_option maxRecDepth 100000 in
theorem f_rains_loop1 {σ : List mC} {I : mI} {S : Sx} {B t x part : Int} {N : Nat} (hC : CS σ I S) (hS : SxOk B S) (ht : isT S t) (hN : N ≤ 8) (hx : 0 ≤ x ∧ x ≤ 10) (hp : 0 ≤ part ∧ part ≤ 1) {M W : Nat} (hW10 : (10 : Int) ^ N = (W : Int)) (hsh : mshl 1 (N : Int) = (M : Int)) (hM : M ≤ 256) (hW : 1 ≤ W ∧ W ≤ 100000000) (hsum : ∀ m, m ≤ M → 0 ≤ sumN (wgX S x (tvS S t) N) m ∧ sumN (wgX S x (tvS S t) N) m ≤ W) {K : mI} {o8 o9 : Option mV} (hK : Nrm K) (hfr : ∀ r, (r < 132 ∧ (r < 3 ∨ (20 < r ∧ r < 124)) ∨ 143 < r) → K r = I r) (hk1 : Knows K 134 (lQ (sL S)) (nbL (sL S)) (ent (sL S) (fT (sF S)) (fW (sF S)) (tvS S t).2.2.1) (tvS S t).2.1.toNat) (hk2 : Knows K 139 (lQ (sL S)) (nbL (sL S)) (ent (sL S) (fT (sF S)) 3 (tvS S t).2.2.1) (tvS S t).2.1.toNat) : ∀ (n m : Nat), N - m < n → m ≤ N → mRun mZt mX8_rains 128 [some (mr 0), some (mi t), some (mi (N : Int)), some (mi x), some (mi part), some (mr (28 + 4 + t.toNat)), some (mi ((10 : Int) ^ m)), some (mi (m : Int)), o8, o9] [] (σ, K) (Out σ I S (lwt (sumN (wgX S x (tvS S t) N) M) (W : Int) part)) := by
  intro n
  induction n with
  | zero => intro m h; omega
  | succ n ih =>
    intro m hn hm
    refine mRun.go (q_iload dX8_rains_128 rfl) ?_
    refine mRun.go (q_iload_n dX8_rains_130 rfl rfl) ?_
    refine r_icmp_ge (tgt := 147) dX8_rains_131 (by decide) (by omega) (by omega) (fun c131 => ?_) (fun c131 => ?_)
    · refine mRun.go (q_iconst dX8_rains_147) ?_
      refine mRun.go (q_istore (ls' := [some (mr 0), some (mi t), some (mi (N : Int)), some (mi x), some (mi part), some (mr (28 + 4 + t.toNat)), some (mi ((10 : Int) ^ m)), some (mi 0), o8, o9]) dX8_rains_148 (Nat.le_of_ble_eq_true rfl) rfl) ?_
      refine mRun.go (q_iconst dX8_rains_150) ?_
      refine mRun.go (q_istore (ls' := [some (mr 0), some (mi t), some (mi (N : Int)), some (mi x), some (mi part), some (mr (28 + 4 + t.toNat)), some (mi ((10 : Int) ^ m)), some (mi 0), some (mi 0), o9]) dX8_rains_151 (Nat.le_of_ble_eq_true rfl) rfl) ?_
      have hme : m = N := by omega
      subst hme
      rw [hW10]
      exact f_rains_loop2 hC hS ht hN hx hp hsh hM hW hsum (M + 1) 0 K (by omega) (by omega) hK hfr hk1 hk2
    · refine mRun.go (q_iload dX8_rains_134 rfl) ?_
      refine mRun.go (q_bipush dX8_rains_136 (by decide)) ?_
      refine mRun.go (q_imul dX8_rains_138) ?_
      refine mRun.go (q_istore (ls' := [some (mr 0), some (mi t), some (mi (N : Int)), some (mi x), some (mi part), some (mr (28 + 4 + t.toNat)), some (mi (((10 : Int) ^ m) * 10)), some (mi (m : Int)), o8, o9]) dX8_rains_139 (Nat.le_of_ble_eq_true rfl) rfl) ?_
      refine mRun.go (q_iinc (ls' := [some (mr 0), some (mi t), some (mi (N : Int)), some (mi x), some (mi part), some (mr (28 + 4 + t.toNat)), some (mi (((10 : Int) ^ m) * 10)), some (mi ((m : Int) + 1)), o8, o9]) dX8_rains_141 rfl (Nat.le_of_ble_eq_true rfl) rfl) ?_
      refine mRun.go (q_goto (tgt := 128) dX8_rains_144 (by decide)) ?_
      have e1 : ((m : Int) + 1) = ((m + 1 : Nat) : Int) := by omega
      have e2 : (10 : Int) ^ m * 10 = 10 ^ (m + 1) := (Int.pow_succ 10 m).symm
      rw [e1, e2]
      exact ih (m + 1) (by omega) (by omega)

set_option maxRecDepth 100000 in
theorem f_rains {σ : List mC} {I : mI} {S : Sx} {B : Int} {t n x part : Int} (hC : CS σ I S) (hS : SxOk B S) (ht : -2147483648 ≤ t ∧ t < 2147483648) (hn : -2147483648 ≤ n ∧ n < 2147483648) (hx : -2147483648 ≤ x ∧ x < 2147483648) (hpart : -2147483648 ≤ part ∧ part < 2147483648) : mMt mX8_rains [mr 0, mi t, mi n, mi x, mi part] (σ, I) (Out σ I S (a_rains S t n x part)) := by
  refine mMt.of pl_8 (Nat.le_of_ble_eq_true rfl) ?_
  show mRun mZt mX8_rains 0 [some (mr 0), some (mi t), some (mi n), some (mi x), some (mi part), none, none, none, none, none] [] (σ, I) _
  obtain ⟨q, hq1, hq2, hU, hq4⟩ := hC.2.2.1
  have hI := hC.1
  have hD := hC.2.1
  have hL := hS.1
  have hT := hC.2.2.2.1
  have hLR := hC.2.2.2.2.1
  have hF := hC.2.2.2.2.2.1
  have hpr := lp_rng hL
  have hqe := lq_eq hL
  have hwr := hL.2.1
  have hdr := hL.2.2.1
  have hnt := hL.2.2.2.1
  have hwF := hS.2.1.1
  have hhF := hS.2.1.2.1
  have hH8 := hS.2.2.2.2.2.2.1
  have hU8 := hS.2.2.1
  have hK2 := hS.2.2.2.2.1
  have hLn := hS.2.2.2.2.2.2.2.2
  refine mRun.go (q_aload_n dX8_rains_0 rfl rfl) ?_
  refine mRun.go (q_getR dX8_rains_1 fo_X8_26 hD.1 rfl) ?_
  refine mRun.go (q_iload_n dX8_rains_4 rfl rfl) ?_
  have hh5 := @k_hasTrv σ I 21 t (dm_l hD) hI ht
  rw [hLR.2.2.2.1] at hh5
  refine mRun.go (q_callVi (r := 21) [mi t] [] dX8_rains_5 co_X8_146 ⟨Nat.le_of_ble_eq_true rfl, Nat.le_of_ble_eq_true rfl⟩ gw_489 gw_490 rfl (dm_l hD).1 rfl rfl rfl (Nat.le_of_ble_eq_true rfl) hh5) ?_
  refine r_if_eq (tgt := 41) dX8_rains_8 (by decide) (by split <;> omega) (fun c8 => ?_) (fun c8 => ?_)
  · have h8 := ite00 c8
    refine mRun.go (q_iconst dX8_rains_41) ?_
    refine r_iret dX8_rains_42 rfl ?_
    have e0 : a_rains S t n x part = (-1) := by simp only [a_rains, isT]; rw [if_neg (by omega)]
    rw [e0]
    exact out_q hC hS hI frq_rf
  · have h8 := ite01 c8
    refine mRun.go (q_iload_n dX8_rains_11 rfl rfl) ?_
    refine mRun.go (q_iconst dX8_rains_12) ?_
    refine mRun.go (q_bipush dX8_rains_13 (by decide)) ?_
    refine mRun.go (q_callSi [mi n, mi 0, mi 8] [] dX8_rains_15 co_X8_105 ⟨Nat.le_of_ble_eq_true rfl, Nat.le_of_ble_eq_true rfl⟩ gw_308 rfl rfl (Nat.le_of_ble_eq_true rfl) (k_within hn (by omega) (by omega))) ?_
    refine r_if_eq (tgt := 41) dX8_rains_18 (by decide) (by split <;> omega) (fun c18 => ?_) (fun c18 => ?_)
    · have h18 := ite00 c18
      refine mRun.go (q_iconst dX8_rains_41) ?_
      refine r_iret dX8_rains_42 rfl ?_
      have e0 : a_rains S t n x part = (-1) := by simp only [a_rains, isT]; rw [if_neg (by omega)]
      rw [e0]
      exact out_q hC hS hI frq_rf
    · have h18 := ite01 c18
      refine mRun.go (q_iload_n dX8_rains_21 rfl rfl) ?_
      refine mRun.go (q_iconst dX8_rains_22) ?_
      refine mRun.go (q_bipush dX8_rains_23 (by decide)) ?_
      refine mRun.go (q_callSi [mi x, mi 0, mi 10] [] dX8_rains_25 co_X8_105 ⟨Nat.le_of_ble_eq_true rfl, Nat.le_of_ble_eq_true rfl⟩ gw_308 rfl rfl (Nat.le_of_ble_eq_true rfl) (k_within hx (by omega) (by omega))) ?_
      refine r_if_eq (tgt := 41) dX8_rains_28 (by decide) (by split <;> omega) (fun c28 => ?_) (fun c28 => ?_)
      · have h28 := ite00 c28
        refine mRun.go (q_iconst dX8_rains_41) ?_
        refine r_iret dX8_rains_42 rfl ?_
        have e0 : a_rains S t n x part = (-1) := by simp only [a_rains, isT]; rw [if_neg (by omega)]
        rw [e0]
        exact out_q hC hS hI frq_rf
      · have h28 := ite01 c28
        refine mRun.go (q_iload dX8_rains_31 rfl) ?_
        refine mRun.go (q_iconst dX8_rains_33) ?_
        refine mRun.go (q_iconst dX8_rains_34) ?_
        refine mRun.go (q_callSi [mi part, mi 0, mi 1] [] dX8_rains_35 co_X8_105 ⟨Nat.le_of_ble_eq_true rfl, Nat.le_of_ble_eq_true rfl⟩ gw_308 rfl rfl (Nat.le_of_ble_eq_true rfl) (k_within hpart (by omega) (by omega))) ?_
        refine r_if_ne (tgt := 43) dX8_rains_38 (by decide) (by split <;> omega) (fun c38 => ?_) (fun c38 => ?_)
        · have h38 := ite01 c38
          refine mRun.go (q_aload_n dX8_rains_43 rfl rfl) ?_
          refine mRun.go (q_getR dX8_rains_44 fo_X8_33 hD.1 rfl) ?_
          refine mRun.go (q_iload_n dX8_rains_47 rfl rfl) ?_
          refine mRun.go (q_callVi (r := 28) [mi t] [] dX8_rains_48 co_X8_149 ⟨Nat.le_of_ble_eq_true rfl, Nat.le_of_ble_eq_true rfl⟩ gw_348 gw_349 rfl (dm_n hD).1 rfl rfl rfl (Nat.le_of_ble_eq_true rfl) (k_who (dm_n hD) (by omega))) ?_
          refine mRun.go (q_astore (ls' := [some (mr 0), some (mi t), some (mi n), some (mi x), some (mi part), some (mr (28 + 4 + t.toNat)), none, none, none, none]) dX8_rains_51 (Nat.le_of_ble_eq_true rfl) rfl) ?_
          refine mRun.go (q_aload_n dX8_rains_53 rfl rfl) ?_
          refine mRun.go (q_getR dX8_rains_54 fo_X8_75 hD.1 rfl) ?_
          refine mRun.go (q_aload_n dX8_rains_57 rfl rfl) ?_
          refine mRun.go (q_getR dX8_rains_58 fo_X8_26 hD.1 rfl) ?_
          refine mRun.go (q_aload_n dX8_rains_61 rfl rfl) ?_
          refine mRun.go (q_getR dX8_rains_62 fo_X8_33 hD.1 rfl) ?_
          refine mRun.go (q_aload dX8_rains_65 rfl) ?_
          refine mRun.go (q_getE (x := (tvS S t).2.2.1) dX8_rains_67 fo_X8_159 ((dm_n hD).2.2.2 t.toNat (by omega)) rfl (by show _ = (fV (sF S) t.toNat).2.2.1; rw [← (hF.2.2.2 t.toNat (by omega)).1]; rfl)) ?_
          refine mRun.go (q_aload dX8_rains_70 rfl) ?_
          refine mRun.go (q_getE (x := (tvS S t).2.1) dX8_rains_72 fo_X8_156 ((dm_n hD).2.2.2 t.toNat (by omega)) rfl (by show _ = (fV (sF S) t.toNat).2.1; rw [← (hF.2.2.2 t.toNat (by omega)).1]; rfl)) ?_
          have hto := hF.2.2.2 t.toNat (by omega)
          have htm := hS.2.1.2.2.2 t.toNat (by omega)
          obtain ⟨v0, h0, hc0, rfl, K, rfl, hK, hfK, hkn⟩ := k_lrn (w := 134) (d := (tvS S t).2.2.1) (g := (tvS S t).2.1) hI (dm_y hD) (dm_l hD) (dm_n hD) hL hLR hF htm.2.2.1 htm.2.1 (by decide) (by omega)
          refine mRun.go (q_callVv (r := 134) [mr 21, mr 28, mi ((tvS S t).2.2.1), mi ((tvS S t).2.1)] [] dX8_rains_75 co_X8_174 ⟨Nat.le_of_ble_eq_true rfl, Nat.le_of_ble_eq_true rfl⟩ gw_502 gw_503 rfl (dm_y hD).1 rfl rfl rfl (Nat.le_of_ble_eq_true rfl) hc0) ?_
          refine mRun.go (q_aload_n dX8_rains_78 rfl rfl) ?_
          refine mRun.go (q_getR dX8_rains_79 fo_X8_59 hD.1 rfl) ?_
          refine mRun.go (q_aload_n dX8_rains_82 rfl rfl) ?_
          refine mRun.go (q_getR dX8_rains_83 fo_X8_33 hD.1 rfl) ?_
          refine mRun.go (q_callVv (r := 124) [mr 28] [] dX8_rains_86 co_X8_232 ⟨Nat.le_of_ble_eq_true rfl, Nat.le_of_ble_eq_true rfl⟩ gw_386 gw_387 rfl (dm_s hD).1 rfl rfl rfl (Nat.le_of_ble_eq_true rfl) (k_fcopy (dm_s hD) (dm_n hD) hK (by decide))) ?_
          refine mRun.go (q_aload_n dX8_rains_89 rfl rfl) ?_
          refine mRun.go (q_getR dX8_rains_90 fo_X8_59 hD.1 rfl) ?_
          refine mRun.go (q_iconst dX8_rains_93) ?_
          refine mRun.go (q_putI dX8_rains_94 fo_X8_136 fp_0_2 (dm_s hD).1 rfl) ?_
          refine mRun.go (q_aload_n dX8_rains_97 rfl rfl) ?_
          refine mRun.go (q_getR dX8_rains_98 fo_X8_79 hD.1 rfl) ?_
          refine mRun.go (q_aload_n dX8_rains_101 rfl rfl) ?_
          refine mRun.go (q_getR dX8_rains_102 fo_X8_26 hD.1 rfl) ?_
          refine mRun.go (q_aload_n dX8_rains_105 rfl rfl) ?_
          refine mRun.go (q_getR dX8_rains_106 fo_X8_59 hD.1 rfl) ?_
          refine mRun.go (q_aload dX8_rains_109 rfl) ?_
          refine mRun.go (q_getE (x := (tvS S t).2.2.1) dX8_rains_111 fo_X8_159 ((dm_n hD).2.2.2 t.toNat (by omega)) rfl (by rw [mup_nf (by omega), fcp_fr (by omega), hfK _ (by omega) (by omega)]; show _ = (fV (sF S) t.toNat).2.2.1; rw [← (hF.2.2.2 t.toNat (by omega)).1]; rfl)) ?_
          refine mRun.go (q_aload dX8_rains_114 rfl) ?_
          refine mRun.go (q_getE (x := (tvS S t).2.1) dX8_rains_116 fo_X8_156 ((dm_n hD).2.2.2 t.toNat (by omega)) rfl (by rw [mup_nf (by omega), fcp_fr (by omega), hfK _ (by omega) (by omega)]; show _ = (fV (sF S) t.toNat).2.1; rw [← (hF.2.2.2 t.toNat (by omega)).1]; rfl)) ?_
          have hFK : FRC K 28 (sL S) (sF S) := hF.fr hL (fun r a b => hfK r (by omega) (by omega)) (hfK 23 (by decide) (by decide))
          have hFS : FRC (mup (fcp K 124 28) 124 2 3) 124 (sL S) (setW (sF S) 3) := frc_setW (frc_cp hFK hL (by decide) (by decide)) hL (by decide)
          have hN2 : Nrm (mup (fcp K 124 28) 124 2 3) := nrm_mup (nrm_fcp hK) (by decide)
          have hfP : ∀ r, (r < 124 ∨ 131 < r) → mup (fcp K 124 28) 124 2 3 r = K r := fun r a => by rw [mup_nf (by omega), fcp_fr (by omega)]
          obtain ⟨v1, h1, hc1, rfl, J, rfl, hJ, hfJ, hkn2⟩ := k_lrn (w := 139) (d := (tvS S t).2.2.1) (g := (tvS S t).2.1) hN2 (dm_z hD) (dm_l hD) (dm_s hD) hL (hLR.fr (fun r a b => (hfP r (by omega)).trans (hfK r (by omega) (by omega)))) hFS htm.2.2.1 htm.2.1 (by decide) (by omega)
          refine mRun.go (q_callVv (r := 139) [mr 21, mr 124, mi ((tvS S t).2.2.1), mi ((tvS S t).2.1)] [] dX8_rains_119 co_X8_174 ⟨Nat.le_of_ble_eq_true rfl, Nat.le_of_ble_eq_true rfl⟩ gw_502 gw_503 rfl (dm_z hD).1 rfl rfl rfl (Nat.le_of_ble_eq_true rfl) hc1) ?_
          refine mRun.go (q_iconst dX8_rains_122) ?_
          refine mRun.go (q_istore (ls' := [some (mr 0), some (mi t), some (mi n), some (mi x), some (mi part), some (mr (28 + 4 + t.toNat)), some (mi 1), none, none, none]) dX8_rains_123 (Nat.le_of_ble_eq_true rfl) rfl) ?_
          refine mRun.go (q_iconst dX8_rains_125) ?_
          refine mRun.go (q_istore (ls' := [some (mr 0), some (mi t), some (mi n), some (mi x), some (mi part), some (mr (28 + 4 + t.toNat)), some (mi 1), some (mi 0), none, none]) dX8_rains_126 (Nat.le_of_ble_eq_true rfl) rfl) ?_
          have e0 : a_rains S t n x part = lwt (sumN (wgX S x (tvS S t) n.toNat) (2 ^ n.toNat)) (10 ^ n.toNat) part := by simp only [a_rains, isT]; rw [if_pos (by omega)]
          have hn8 : n.toNat ≤ 8 := by omega
          have h10 := nat10 hn8
          rw [e0, h10.1]
          have h := f_rains_loop1 (N := n.toNat) (M := 2 ^ n.toNat) (W := 10 ^ n.toNat) (o8 := none) (o9 := none) hC hS (by omega) hn8 (show 0 ≤ x ∧ x ≤ 10 by omega) (show 0 ≤ part ∧ part ≤ 1 by omega) h10.1 (shl_eq ⟨n.toNat, by omega⟩) (p2_8 hn8) h10.2 (fun m hm => by rw [← h10.1]; exact wg_sum (show 0 ≤ x ∧ x ≤ 10 by omega) hn8 hm) hJ (fun r a => (hfJ r (by omega) (by omega)).trans ((hfP r (by omega)).trans (hfK r (by omega) (by omega)))) (knows_fr hkn ((hfJ _ (by decide) (by decide)).trans (hfP _ (by decide))) ((hfJ _ (by decide) (by decide)).trans (hfP _ (by decide)))) hkn2 (n.toNat + 1) 0 (by omega) (by omega)
          rw [show ((n.toNat : Nat) : Int) = n by omega] at h
          exact h
        · have h38 := ite00 (Classical.not_not.mp c38)
          refine mRun.go (q_iconst dX8_rains_41) ?_
          refine r_iret dX8_rains_42 rfl ?_
          have e0 : a_rains S t n x part = (-1) := by simp only [a_rains, isT]; rw [if_neg (by omega)]
          rw [e0]
          exact out_q hC hS hI frq_rf
