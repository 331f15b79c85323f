/-! ===== the reference: bits ===== -/
theorem mor_0 {x : Int} (h : -2147483648 ≤ x ∧ x < 2147483648) : mor x 0 = x := by
  unfold mor
  rw [z32, show Int32.ofInt x ||| 0 = Int32.ofInt x by simp]
  exact o32 h
theorem mor_rng (x y : Int) : -2147483648 ≤ mor x y ∧ mor x y < 2147483648 := by
  unfold mor
  exact ⟨Int32.le_toInt _, Int32.toInt_lt _⟩
theorem bts_rng (p : Nat → Bool) : ∀ n : Nat, -2147483648 ≤ bts p n ∧ bts p n < 2147483648 := by
  intro n
  induction n with
  | zero => exact ⟨by simp [bts], by simp [bts]⟩
  | succ n ih =>
    simp only [bts]
    split
    · exact mor_rng _ _
    · exact ih
theorem bts_s {p : Nat → Bool} {n : Nat} {c : Prop} [Decidable c] (h : p n = true ↔ c) : mor (bts p n) (if c then mshl 1 (n : Int) else 0) = bts p (n + 1) := by
  simp only [bts]
  by_cases q : c
  · rw [if_pos q, if_pos (h.mpr q)]
  · rw [if_neg q, if_neg (fun z => q (h.mp z)), mor_0 (bts_rng p n)]

set_option maxRecDepth 100000 in
theorem g_right_loop {σ : List mC} {S : Sx} {B x y : Int} (hS : SxOk B S) (hx2 : isP S x) (hy2 : isP S y) (htr : -4 ≤ trS S x y ∧ trS S x y ≤ 1000000) (htr4 : ¬ trS S x y = -4) : ∀ (n d : Nat) (I : mI) (o6 : Option mV), (lD (sL S)).toNat - d < n → d ≤ (lD (sL S)).toNat → MS σ I S → mRun mZt mX9_right 36 [some (mr 144), some (mi x), some (mi y), some (mi (trS S x y)), some (mi (bts (rgB S x y) d)), some (mi (d : Int)), o6] [] (σ, I) (OutM σ I S (bts (rgB S x y) (lD (sL S)).toNat)) := by
  intro n
  induction n with
  | zero => intro d I o6 h; omega
  | succ n ih =>
    intro d I o6 hn hd0 hM
    have hI := hM.1
    have hD := hM.2.1
    have hL := hS.1
    have hsz := hM.2.2.1
    have hLR := hM.2.2.2.2.2.2.1
    have hF := hM.2.2.2.2.2.2.2.1
    have hun := hM.2.2.2.2.2.2.2.2.1
    have hpa := hM.2.2.2.2.2.2.2.2.2.1
    have hkm := hM.2.2.2.2.2.2.2.2.2.2.1
    have hke := hM.2.2.2.2.2.2.2.2.2.2.2.1
    have hhm := hM.2.2.2.2.2.2.2.2.2.2.2.2.1
    have hhe := hM.2.2.2.2.2.2.2.2.2.2.2.2.2.1
    have hN := hM.2.2.2.2.2.2.2.2.2.2.2.2.2.2
    have hpr := lp_rng hL
    have hqe := lq_eq hL
    have hwr := hL.2.1
    have hrr := hL.1
    have hdr := hL.2.2.1
    have hnt := hL.2.2.2.1
    have hwF := hS.2.1.1
    have hhF := hS.2.1.2.1
    have hvF := hS.2.1.2.2.2
    have hH8 := hS.2.2.2.2.2.2.1
    have hU8 := hS.2.2.1
    have hK2 := hS.2.2.2.2.1
    have hLn := hS.2.2.2.2.2.2.2.2
    have hx2 : 0 ≤ x ∧ x < lP (sL S) := hx2
    have hy2 : 0 ≤ y ∧ y < lP (sL S) := hy2
    refine mRun.go (q_iload dX9_right_36 rfl) ?_
    refine mRun.go (q_aload_n dX9_right_38 rfl rfl) ?_
    refine mRun.go (q_getE (x := lD (sL S)) dX9_right_39 fo_X9_91 hD.1 rfl hLR.2.2.1) ?_
    refine r_icmp_ge (tgt := 93) dX9_right_42 (by decide) (by omega) (by omega) (fun c42 => ?_) (fun c42 => ?_)
    · refine mRun.go (q_iload dX9_right_93 rfl) ?_
      refine r_iret dX9_right_95 rfl ?_
      have hde : d = (lD (sL S)).toNat := by omega
      subst hde
      exact outm_q hM hS hI frm_rf
    · refine mRun.go (q_iload_n dX9_right_45 rfl rfl) ?_
      refine mRun.go (q_bipush dX9_right_46 (by decide)) ?_
      refine mRun.go (q_icmp_eq_f (tgt := 93) dX9_right_48 (by decide) (by omega) (by omega) htr4) ?_
      refine mRun.go (q_aload_n dX9_right_51 rfl rfl) ?_
      refine mRun.go (q_iload dX9_right_52 rfl) ?_
      refine mRun.go (q_iload_n dX9_right_54 rfl rfl) ?_
      refine mRun.go (q_iload_n dX9_right_55 rfl rfl) ?_
      obtain ⟨v0, h0, hc0, rfl, K, rfl, hK, hfK⟩ := m_ledBy (d := (d : Int)) (x := x) (y := y) hM hS (by omega) hx2 hy2 (by omega) (by omega) (by omega)
      have har := @anS_rng S 1 (ledT x y (d : Int))
      refine mRun.go (q_callVi (r := 144) [mi (d : Int), mi x, mi y] [] dX9_right_56 co_X9_238 ⟨Nat.le_of_ble_eq_true rfl, Nat.le_of_ble_eq_true rfl⟩ gw_1048 gs_52 rfl hD.1 rfl rfl rfl (Nat.le_of_ble_eq_true rfl) hc0) ?_
      refine mRun.go (q_istore (ls' := [some (mr 144), some (mi x), some (mi y), some (mi (trS S x y)), some (mi (bts (rgB S x y) d)), some (mi (d : Int)), some (mi (anS S 1 (ledT x y (d : Int))))]) dX9_right_59 (Nat.le_of_ble_eq_true rfl) rfl) ?_
      refine mRun.go (q_iload dX9_right_61 rfl) ?_
      refine mRun.go (q_iload dX9_right_63 rfl) ?_
      refine mRun.go (q_bipush dX9_right_65 (by decide)) ?_
      have j67 : ∀ {post : Option mV → mH → Prop}, mRun mZt mX9_right 84 [some (mr 144), some (mi x), some (mi y), some (mi (trS S x y)), some (mi (bts (rgB S x y) d)), some (mi (d : Int)), some (mi (anS S 1 (ledT x y (d : Int))))] [mi (if anS S 1 (ledT x y (d : Int)) ≠ -4 ∧ anS S 1 (ledT x y (d : Int)) ≤ trS S x y then mshl 1 (d : Int) else 0), mi (bts (rgB S x y) d)] (σ, K) post → mRun mZt mX9_right 67 [some (mr 144), some (mi x), some (mi y), some (mi (trS S x y)), some (mi (bts (rgB S x y) d)), some (mi (d : Int)), some (mi (anS S 1 (ledT x y (d : Int))))] [mi (-4), mi (anS S 1 (ledT x y (d : Int))), mi (bts (rgB S x y) d)] (σ, K) post := by
        intro post k
        refine r_icmp_eq (tgt := 83) dX9_right_67 (by decide) (by omega) (by omega) (fun c67 => ?_) (fun c67 => ?_)
        · refine mRun.go (q_iconst dX9_right_83) ?_
          first | (rw [if_pos (show anS S 1 (ledT x y (d : Int)) ≠ -4 ∧ anS S 1 (ledT x y (d : Int)) ≤ trS S x y from ⟨by omega, by omega⟩)] at k; exact k) | (rw [if_neg (show ¬ (anS S 1 (ledT x y (d : Int)) ≠ -4 ∧ anS S 1 (ledT x y (d : Int)) ≤ trS S x y) from fun q => by omega)] at k; exact k)
        · refine mRun.go (q_iload dX9_right_70 rfl) ?_
          refine mRun.go (q_iload_n dX9_right_72 rfl rfl) ?_
          refine r_icmp_gt (tgt := 83) dX9_right_73 (by decide) (by omega) (by omega) (fun c73 => ?_) (fun c73 => ?_)
          · refine mRun.go (q_iconst dX9_right_83) ?_
            first | (rw [if_pos (show anS S 1 (ledT x y (d : Int)) ≠ -4 ∧ anS S 1 (ledT x y (d : Int)) ≤ trS S x y from ⟨by omega, by omega⟩)] at k; exact k) | (rw [if_neg (show ¬ (anS S 1 (ledT x y (d : Int)) ≠ -4 ∧ anS S 1 (ledT x y (d : Int)) ≤ trS S x y) from fun q => by omega)] at k; exact k)
          · refine mRun.go (q_iconst dX9_right_76) ?_
            refine mRun.go (q_iload dX9_right_77 rfl) ?_
            refine mRun.go (q_ishl dX9_right_79) ?_
            refine mRun.go (q_goto (tgt := 84) dX9_right_80 (by decide)) ?_
            first | (rw [if_pos (show anS S 1 (ledT x y (d : Int)) ≠ -4 ∧ anS S 1 (ledT x y (d : Int)) ≤ trS S x y from ⟨by omega, by omega⟩)] at k; exact k) | (rw [if_neg (show ¬ (anS S 1 (ledT x y (d : Int)) ≠ -4 ∧ anS S 1 (ledT x y (d : Int)) ≤ trS S x y) from fun q => by omega)] at k; exact k)
      refine j67 ?_
      refine mRun.go (q_ior dX9_right_84) ?_
      refine mRun.go (q_istore (ls' := [some (mr 144), some (mi x), some (mi y), some (mi (trS S x y)), some (mi (mor (bts (rgB S x y) d) (if anS S 1 (ledT x y (d : Int)) ≠ -4 ∧ anS S 1 (ledT x y (d : Int)) ≤ trS S x y then mshl 1 (d : Int) else 0))), some (mi (d : Int)), some (mi (anS S 1 (ledT x y (d : Int))))]) dX9_right_85 (Nat.le_of_ble_eq_true rfl) rfl) ?_
      refine mRun.go (q_iinc (ls' := [some (mr 144), some (mi x), some (mi y), some (mi (trS S x y)), some (mi (mor (bts (rgB S x y) d) (if anS S 1 (ledT x y (d : Int)) ≠ -4 ∧ anS S 1 (ledT x y (d : Int)) ≤ trS S x y then mshl 1 (d : Int) else 0))), some (mi ((d : Int) + 1)), some (mi (anS S 1 (ledT x y (d : Int))))]) dX9_right_87 rfl (Nat.le_of_ble_eq_true rfl) rfl) ?_
      refine mRun.go (q_goto (tgt := 36) dX9_right_90 (by decide)) ?_
      have e1 : ((d : Int) + 1) = ((d + 1 : Nat) : Int) := by omega
      rw [e1, bts_s (p := (rgB S x y)) (n := d) (by unfold rgB; exact decide_eq_true_iff)]
      exact mRun.im (ih (d + 1) K _ (by omega) (by omega) (ms_q hM hS hK hfK)) (fun v h => outm_tr (frm_lo hfK))

set_option maxRecDepth 100000 in
theorem g_right {σ : List mC} {I : mI} {S : Sx} {B : Int} {x y : Int} (hM : MS σ I S) (hS : SxOk B S) (hx : -2147483648 ≤ x ∧ x < 2147483648) (hy : -2147483648 ≤ y ∧ y < 2147483648) : mMt mX9_right [mr 144, mi x, mi y] (σ, I) (OutM σ I S (a_right S x y)) := by
  refine mMt.of pl_9 (Nat.le_of_ble_eq_true rfl) ?_
  show mRun mZt mX9_right 0 [some (mr 144), some (mi x), some (mi y), none, none, none, none] [] (σ, I) _
  have hI := hM.1
  have hD := hM.2.1
  have hL := hS.1
  have hsz := hM.2.2.1
  have hLR := hM.2.2.2.2.2.2.1
  have hF := hM.2.2.2.2.2.2.2.1
  have hun := hM.2.2.2.2.2.2.2.2.1
  have hpa := hM.2.2.2.2.2.2.2.2.2.1
  have hkm := hM.2.2.2.2.2.2.2.2.2.2.1
  have hke := hM.2.2.2.2.2.2.2.2.2.2.2.1
  have hhm := hM.2.2.2.2.2.2.2.2.2.2.2.2.1
  have hhe := hM.2.2.2.2.2.2.2.2.2.2.2.2.2.1
  have hN := hM.2.2.2.2.2.2.2.2.2.2.2.2.2.2
  have hpr := lp_rng hL
  have hqe := lq_eq hL
  have hwr := hL.2.1
  have hrr := hL.1
  have hdr := hL.2.2.1
  have hnt := hL.2.2.2.1
  have hwF := hS.2.1.1
  have hhF := hS.2.1.2.1
  have hvF := hS.2.1.2.2.2
  have hH8 := hS.2.2.2.2.2.2.1
  have hU8 := hS.2.2.1
  have hK2 := hS.2.2.2.2.1
  have hLn := hS.2.2.2.2.2.2.2.2
  refine mRun.go (q_aload_n dX9_right_0 rfl rfl) ?_
  refine mRun.go (q_iload_n dX9_right_1 rfl rfl) ?_
  refine mRun.go (q_callVi (r := 144) [mi x] [] dX9_right_2 co_X9_195 ⟨Nat.le_of_ble_eq_true rfl, Nat.le_of_ble_eq_true rfl⟩ gw_922 gs_38 rfl hD.1 rfl rfl rfl (Nat.le_of_ble_eq_true rfl) (m_isPlace hI hD hL hLR hx)) ?_
  refine r_if_eq (tgt := 16) dX9_right_5 (by decide) (by split <;> omega) (fun c5 => ?_) (fun c5 => ?_)
  · have h5 := ite00 c5
    refine mRun.go (q_iconst dX9_right_16) ?_
    refine r_iret dX9_right_17 rfl ?_
    have e0 : a_right S x y = (-1) := by simp only [a_right, isP]; first | (rw [if_neg (by omega)]; done) | (rw [if_pos (by omega), if_pos (by omega)]; done)
    rw [e0]
    exact outm_q hM hS hI frm_rf
  · have h5 := ite01 c5
    refine mRun.go (q_aload_n dX9_right_8 rfl rfl) ?_
    refine mRun.go (q_iload_n dX9_right_9 rfl rfl) ?_
    refine mRun.go (q_callVi (r := 144) [mi y] [] dX9_right_10 co_X9_195 ⟨Nat.le_of_ble_eq_true rfl, Nat.le_of_ble_eq_true rfl⟩ gw_922 gs_38 rfl hD.1 rfl rfl rfl (Nat.le_of_ble_eq_true rfl) (m_isPlace hI hD hL hLR hy)) ?_
    refine r_if_ne (tgt := 18) dX9_right_13 (by decide) (by split <;> omega) (fun c13 => ?_) (fun c13 => ?_)
    · have h13 := ite01 c13
      refine mRun.go (q_aload_n dX9_right_18 rfl rfl) ?_
      refine mRun.go (q_aload_n dX9_right_19 rfl rfl) ?_
      refine mRun.go (q_getR dX9_right_20 fo_X9_16 hD.1 rfl) ?_
      refine mRun.go (q_iconst dX9_right_23) ?_
      refine mRun.go (q_iload_n dX9_right_24 rfl rfl) ?_
      refine mRun.go (q_iload_n dX9_right_25 rfl rfl) ?_
      obtain ⟨v0, h0, hc0, rfl, K, rfl, hK, hfK⟩ := m_lengthOf (d := (-1)) (x := x.toNat) (y := y.toNat) hI hD hL hLR hD.2.2.2.1 hF (Or.inl rfl) (by omega) (by omega) (by omega)
      rw [show ((x.toNat : Nat) : Int) = x by omega, show ((y.toNat : Nat) : Int) = y by omega, eM_t (by decide)] at hc0
      have htr : -4 ≤ trS S x y ∧ trS S x y ≤ 1000000 := by
        unfold trS fin
        have hb2 : 0 ≤ awT (sL S) (fW (sF S)) y x.toNat ∧ awT (sL S) (fW (sF S)) y x.toNat ≤ 1000000 := (dst_bell (g := y.toNat) (wfg_t (w := fW (sF S)) hL)).1 x.toNat (by omega)
        split <;> omega
      have hfQ : FrM I K := ⟨fun r p q s => hfK r (by omega), fun k hk => by rw [hfK 144 (by decide)]⟩
      refine mRun.go (q_callVi (r := 144) [mr 147, mi (-1), mi x, mi y] [] dX9_right_26 co_X9_208 ⟨Nat.le_of_ble_eq_true rfl, Nat.le_of_ble_eq_true rfl⟩ gw_959 gs_42 rfl hD.1 rfl rfl rfl (Nat.le_of_ble_eq_true rfl) hc0) ?_
      refine mRun.go (q_istore_n (ls' := [some (mr 144), some (mi x), some (mi y), some (mi (trS S x y)), none, none, none]) dX9_right_29 rfl (Nat.le_of_ble_eq_true rfl) rfl) ?_
      refine mRun.go (q_iconst dX9_right_30) ?_
      refine mRun.go (q_istore (ls' := [some (mr 144), some (mi x), some (mi y), some (mi (trS S x y)), some (mi 0), none, none]) dX9_right_31 (Nat.le_of_ble_eq_true rfl) rfl) ?_
      refine mRun.go (q_iconst dX9_right_33) ?_
      refine mRun.go (q_istore (ls' := [some (mr 144), some (mi x), some (mi y), some (mi (trS S x y)), some (mi 0), some (mi 0), none]) dX9_right_34 (Nat.le_of_ble_eq_true rfl) rfl) ?_
      by_cases htr4 : trS S x y = -4
      · refine mRun.go (q_iload dX9_right_36 rfl) ?_
        refine mRun.go (q_aload_n dX9_right_38 rfl rfl) ?_
        refine mRun.go (q_getE (x := lD (sL S)) dX9_right_39 fo_X9_91 hD.1 rfl (hLR.frm hfQ).2.2.1) ?_
        refine mRun.go (q_icmp_ge_f (tgt := 93) dX9_right_42 (by decide) (by omega) (by omega) (by omega)) ?_
        refine mRun.go (q_iload_n dX9_right_45 rfl rfl) ?_
        refine mRun.go (q_bipush dX9_right_46 (by decide)) ?_
        refine mRun.go (q_icmp_eq_t (tgt := 93) dX9_right_48 (by decide) (by omega) (by omega) htr4) ?_
        refine mRun.go (q_iload dX9_right_93 rfl) ?_
        refine r_iret dX9_right_95 rfl ?_
        have e0 : a_right S x y = 0 := by simp only [a_right, isP]; first | (rw [if_neg (by omega)]; done) | (rw [if_pos (by omega), if_pos (by omega)]; done)
        rw [e0]
        exact outm_q hM hS hK hfQ
      · have e0 : a_right S x y = bts (rgB S x y) (lD (sL S)).toNat := by simp only [a_right, isP]; rw [if_pos (by omega), if_neg htr4]
        rw [e0]
        exact mRun.im (g_right_loop hS (by omega) (by omega) htr htr4 ((lD (sL S)).toNat + 1) 0 K none (by omega) (by omega) (ms_q hM hS hK hfQ)) (fun v h => outm_tr (frm_lo hfQ))
    · have h13 := ite00 (Classical.not_not.mp c13)
      refine mRun.go (q_iconst dX9_right_16) ?_
      refine r_iret dX9_right_17 rfl ?_
      have e0 : a_right S x y = (-1) := by simp only [a_right, isP]; first | (rw [if_neg (by omega)]; done) | (rw [if_pos (by omega), if_pos (by omega)]; done)
      rw [e0]
      exact outm_q hM hS hI frm_rf

set_option maxRecDepth 100000 in
theorem m_which_in {σ : List mC} {I : mI} {S : Sx} {B b : Int} (hM : MS σ I S) (hS : SxOk B S) {d : Nat} (hd : (d : Int) < lD (sL S)) {post : Option mV → mH → Prop} (kk : ∀ m : Int, mRun mZt mX9_which 71 [some (mr 144), some (mi b), some (mi (d : Int)), some (mi (if toldB (sF S) (sH S) (d : Int) = true then 1 else 0)), some (mi (2 * ((sH S).1 : Int)))] [] (σ, I) post) : ∀ (n k : Nat), (sH S).1 - k < n → k ≤ (sH S).1 → mRun mZt mX9_which 17 [some (mr 144), some (mi b), some (mi (d : Int)), some (mi (if allB (fun k => decide (fT (sF S) (36 * (d : Int) + (sH S).2.1 k) = (sH S).2.2 k)) k = true then 1 else 0)), some (mi (2 * (k : Int)))] [] (σ, I) post := by
  intro n
  induction n with
  | zero => intro k h; omega
  | succ n ih =>
    intro k hn hk0
    have hI := hM.1
    have hD := hM.2.1
    have hL := hS.1
    have hsz := hM.2.2.1
    have hLR := hM.2.2.2.2.2.2.1
    have hF := hM.2.2.2.2.2.2.2.1
    have hun := hM.2.2.2.2.2.2.2.2.1
    have hpa := hM.2.2.2.2.2.2.2.2.2.1
    have hkm := hM.2.2.2.2.2.2.2.2.2.2.1
    have hke := hM.2.2.2.2.2.2.2.2.2.2.2.1
    have hhm := hM.2.2.2.2.2.2.2.2.2.2.2.2.1
    have hhe := hM.2.2.2.2.2.2.2.2.2.2.2.2.2.1
    have hN := hM.2.2.2.2.2.2.2.2.2.2.2.2.2.2
    have hpr := lp_rng hL
    have hqe := lq_eq hL
    have hwr := hL.2.1
    have hrr := hL.1
    have hdr := hL.2.2.1
    have hnt := hL.2.2.2.1
    have hwF := hS.2.1.1
    have hhF := hS.2.1.2.1
    have hvF := hS.2.1.2.2.2
    have hH8 := hS.2.2.2.2.2.2.1
    have hU8 := hS.2.2.1
    have hK2 := hS.2.2.2.2.1
    have hLn := hS.2.2.2.2.2.2.2.2
    refine mRun.go (q_iload dX9_which_17 rfl) ?_
    refine mRun.go (q_iconst dX9_which_19) ?_
    refine mRun.go (q_aload_n dX9_which_20 rfl rfl) ?_
    refine mRun.go (q_getE (x := ((sH S).1 : Int)) dX9_which_21 fo_X9_107 hD.1 rfl hhm) ?_
    refine mRun.go (q_imul dX9_which_24) ?_
    refine r_icmp_ge (tgt := 71) dX9_which_25 (by decide) (by omega) (by omega) (fun c25 => ?_) (fun c25 => ?_)
    · have hke : k = (sH S).1 := by omega
      subst hke
      exact kk 0
    · have hkk := hS.2.2.2.2.2.2.2.1 k (by omega)
      refine mRun.go (q_iload_n dX9_which_28 rfl rfl) ?_
      have j29 : ∀ {post : Option mV → mH → Prop}, mRun mZt mX9_which 64 [some (mr 144), some (mi b), some (mi (d : Int)), some (mi (if allB (fun k => decide (fT (sF S) (36 * (d : Int) + (sH S).2.1 k) = (sH S).2.2 k)) k = true then 1 else 0)), some (mi (2 * (k : Int)))] [mi (if allB (fun k => decide (fT (sF S) (36 * (d : Int) + (sH S).2.1 k) = (sH S).2.2 k)) (k + 1) = true then 1 else 0)] (σ, I) post → mRun mZt mX9_which 29 [some (mr 144), some (mi b), some (mi (d : Int)), some (mi (if allB (fun k => decide (fT (sF S) (36 * (d : Int) + (sH S).2.1 k) = (sH S).2.2 k)) k = true then 1 else 0)), some (mi (2 * (k : Int)))] [mi (if allB (fun k => decide (fT (sF S) (36 * (d : Int) + (sH S).2.1 k) = (sH S).2.2 k)) k = true then 1 else 0)] (σ, I) post := by
        intro post kq
        refine r_if_eq (tgt := 63) dX9_which_29 (by decide) (by split <;> omega) (fun c29 => ?_) (fun c29 => ?_)
        · have h29 := ite00 c29
          refine mRun.go (q_iconst dX9_which_63) ?_
          first | (rw [allB_n c29] at kq; exact kq) | (rw [allB_y c29 (decide_eq_true (Classical.not_not.mp c56))] at kq; exact kq) | (rw [allB_m (decide_eq_false c56)] at kq; exact kq)
        · have h29 := ite01 c29
          refine mRun.go (q_aload_n dX9_which_32 rfl rfl) ?_
          refine mRun.go (q_getR dX9_which_33 fo_X9_16 hD.1 rfl) ?_
          refine mRun.go (q_iload_n dX9_which_36 rfl rfl) ?_
          refine mRun.go (q_aload_n dX9_which_37 rfl rfl) ?_
          refine mRun.go (q_getR dX9_which_38 fo_X9_28 hD.1 rfl) ?_
          refine mRun.go (q_iload dX9_which_41 rfl) ?_
          refine mRun.go (q_ialdE (x := (sH S).2.1 k) dX9_which_43 hD.2.2.2.2.2.2.2.1 (by omega) (by omega) (by rw [show (2 * (k : Int)).toNat = 2 * k by omega]; exact (hhe k (by omega)).1)) ?_
          refine mRun.go (q_callSi [mr 147, mi (d : Int), mi ((sH S).2.1 k)] [] dX9_which_44 co_X9_172 ⟨Nat.le_of_ble_eq_true rfl, Nat.le_of_ble_eq_true rfl⟩ gw_934 rfl rfl (Nat.le_of_ble_eq_true rfl) (m_tells hI hD hL hLR hD.2.2.2.1 hF (by omega) hkk.1)) ?_
          refine mRun.go (q_aload_n dX9_which_47 rfl rfl) ?_
          refine mRun.go (q_getR dX9_which_48 fo_X9_28 hD.1 rfl) ?_
          refine mRun.go (q_iload dX9_which_51 rfl) ?_
          refine mRun.go (q_iconst dX9_which_53) ?_
          refine mRun.go (q_iadd dX9_which_54) ?_
          refine mRun.go (q_ialdE (x := (sH S).2.2 k) dX9_which_55 hD.2.2.2.2.2.2.2.1 (by omega) (by omega) (by rw [show (2 * (k : Int) + 1).toNat = 2 * k + 1 by omega]; exact (hhe k (by omega)).2)) ?_
          refine r_icmp_ne (tgt := 63) dX9_which_56 (by decide) (tellsM_rng hI hF (by omega) hkk.1) (by omega) (fun c56 => ?_) (fun c56 => ?_)
          · refine mRun.go (q_iconst dX9_which_63) ?_
            first | (rw [allB_n c29] at kq; exact kq) | (rw [allB_y c29 (decide_eq_true (Classical.not_not.mp c56))] at kq; exact kq) | (rw [allB_m (decide_eq_false c56)] at kq; exact kq)
          · refine mRun.go (q_iconst dX9_which_59) ?_
            refine mRun.go (q_goto (tgt := 64) dX9_which_60 (by decide)) ?_
            first | (rw [allB_n c29] at kq; exact kq) | (rw [allB_y c29 (decide_eq_true (Classical.not_not.mp c56))] at kq; exact kq) | (rw [allB_m (decide_eq_false c56)] at kq; exact kq)
      refine j29 ?_
      refine mRun.go (q_istore_n (ls' := [some (mr 144), some (mi b), some (mi (d : Int)), some (mi (if allB (fun k => decide (fT (sF S) (36 * (d : Int) + (sH S).2.1 k) = (sH S).2.2 k)) (k + 1) = true then 1 else 0)), some (mi (2 * (k : Int)))]) dX9_which_64 rfl (Nat.le_of_ble_eq_true rfl) rfl) ?_
      refine mRun.go (q_iinc (ls' := [some (mr 144), some (mi b), some (mi (d : Int)), some (mi (if allB (fun k => decide (fT (sF S) (36 * (d : Int) + (sH S).2.1 k) = (sH S).2.2 k)) (k + 1) = true then 1 else 0)), some (mi ((2 * (k : Int)) + 2))]) dX9_which_65 rfl (Nat.le_of_ble_eq_true rfl) rfl) ?_
      refine mRun.go (q_goto (tgt := 17) dX9_which_68 (by decide)) ?_
      have e1 : (2 * (k : Int) + 2) = 2 * ((k + 1 : Nat) : Int) := by omega
      rw [e1]
      exact ih (k + 1) (by omega) (by omega)

set_option maxRecDepth 100000 in
theorem g_which_loop {σ : List mC} {I : mI} {S : Sx} {B : Int} (hM : MS σ I S) (hS : SxOk B S) : ∀ (n d : Nat) (o3 o4 : Option mV), (lD (sL S)).toNat - d < n → d ≤ (lD (sL S)).toNat → mRun mZt mX9_which 4 [some (mr 144), some (mi (bts (fun d => toldB (sF S) (sH S) ((d : Nat) : Int)) d)), some (mi (d : Int)), o3, o4] [] (σ, I) (OutM σ I S (a_which S)) := by
  intro n
  induction n with
  | zero => intro d o3 o4 h; omega
  | succ n ih =>
    intro d o3 o4 hn hd0
    have hI := hM.1
    have hD := hM.2.1
    have hL := hS.1
    have hsz := hM.2.2.1
    have hLR := hM.2.2.2.2.2.2.1
    have hF := hM.2.2.2.2.2.2.2.1
    have hun := hM.2.2.2.2.2.2.2.2.1
    have hpa := hM.2.2.2.2.2.2.2.2.2.1
    have hkm := hM.2.2.2.2.2.2.2.2.2.2.1
    have hke := hM.2.2.2.2.2.2.2.2.2.2.2.1
    have hhm := hM.2.2.2.2.2.2.2.2.2.2.2.2.1
    have hhe := hM.2.2.2.2.2.2.2.2.2.2.2.2.2.1
    have hN := hM.2.2.2.2.2.2.2.2.2.2.2.2.2.2
    have hpr := lp_rng hL
    have hqe := lq_eq hL
    have hwr := hL.2.1
    have hrr := hL.1
    have hdr := hL.2.2.1
    have hnt := hL.2.2.2.1
    have hwF := hS.2.1.1
    have hhF := hS.2.1.2.1
    have hvF := hS.2.1.2.2.2
    have hH8 := hS.2.2.2.2.2.2.1
    have hU8 := hS.2.2.1
    have hK2 := hS.2.2.2.2.1
    have hLn := hS.2.2.2.2.2.2.2.2
    refine mRun.go (q_iload_n dX9_which_4 rfl rfl) ?_
    refine mRun.go (q_aload_n dX9_which_5 rfl rfl) ?_
    refine mRun.go (q_getE (x := lD (sL S)) dX9_which_6 fo_X9_91 hD.1 rfl hLR.2.2.1) ?_
    refine r_icmp_ge (tgt := 91) dX9_which_9 (by decide) (by omega) (by omega) (fun c9 => ?_) (fun c9 => ?_)
    · refine mRun.go (q_iload_n dX9_which_91 rfl rfl) ?_
      refine r_iret dX9_which_92 rfl ?_
      have hde : d = (lD (sL S)).toNat := by omega
      subst hde
      exact outm_q hM hS hI frm_rf
    · refine mRun.go (q_iconst dX9_which_12) ?_
      refine mRun.go (q_istore_n (ls' := [some (mr 144), some (mi (bts (fun d => toldB (sF S) (sH S) ((d : Nat) : Int)) d)), some (mi (d : Int)), some (mi 1), o4]) dX9_which_13 rfl (Nat.le_of_ble_eq_true rfl) rfl) ?_
      refine mRun.go (q_iconst dX9_which_14) ?_
      refine mRun.go (q_istore (ls' := [some (mr 144), some (mi (bts (fun d => toldB (sF S) (sH S) ((d : Nat) : Int)) d)), some (mi (d : Int)), some (mi 1), some (mi 0)]) dX9_which_15 (Nat.le_of_ble_eq_true rfl) rfl) ?_
      refine m_which_in hM hS (by omega) (fun _ => ?_) ((sH S).1 + 1) 0 (by omega) (by omega)
      refine mRun.go (q_iload_n dX9_which_71 rfl rfl) ?_
      refine mRun.go (q_iload_n dX9_which_72 rfl rfl) ?_
      have j73 : ∀ {post : Option mV → mH → Prop}, mRun mZt mX9_which 83 [some (mr 144), some (mi (bts (fun d => toldB (sF S) (sH S) ((d : Nat) : Int)) d)), some (mi (d : Int)), some (mi (if toldB (sF S) (sH S) (d : Int) = true then 1 else 0)), some (mi (2 * ((sH S).1 : Int)))] [mi (if toldB (sF S) (sH S) (d : Int) = true then mshl 1 (d : Int) else 0), mi (bts (fun d => toldB (sF S) (sH S) ((d : Nat) : Int)) d)] (σ, I) post → mRun mZt mX9_which 73 [some (mr 144), some (mi (bts (fun d => toldB (sF S) (sH S) ((d : Nat) : Int)) d)), some (mi (d : Int)), some (mi (if toldB (sF S) (sH S) (d : Int) = true then 1 else 0)), some (mi (2 * ((sH S).1 : Int)))] [mi (if toldB (sF S) (sH S) (d : Int) = true then 1 else 0), mi (bts (fun d => toldB (sF S) (sH S) ((d : Nat) : Int)) d)] (σ, I) post := by
        intro post k
        refine r_if_eq (tgt := 82) dX9_which_73 (by decide) (by split <;> omega) (fun c73 => ?_) (fun c73 => ?_)
        · refine mRun.go (q_iconst dX9_which_82) ?_
          first | (rw [if_neg (ite00 c73), if_neg (ite00 c73)] at k; rw [if_neg (ite00 c73)]; exact k) | (rw [if_pos (ite01 c73), if_pos (ite01 c73)] at k; rw [if_pos (ite01 c73)]; exact k)
        · refine mRun.go (q_iconst dX9_which_76) ?_
          refine mRun.go (q_iload_n dX9_which_77 rfl rfl) ?_
          refine mRun.go (q_ishl dX9_which_78) ?_
          refine mRun.go (q_goto (tgt := 83) dX9_which_79 (by decide)) ?_
          first | (rw [if_neg (ite00 c73), if_neg (ite00 c73)] at k; rw [if_neg (ite00 c73)]; exact k) | (rw [if_pos (ite01 c73), if_pos (ite01 c73)] at k; rw [if_pos (ite01 c73)]; exact k)
      refine j73 ?_
      refine mRun.go (q_ior dX9_which_83) ?_
      refine mRun.go (q_istore_n (ls' := [some (mr 144), some (mi (mor (bts (fun d => toldB (sF S) (sH S) ((d : Nat) : Int)) d) (if toldB (sF S) (sH S) (d : Int) = true then mshl 1 (d : Int) else 0))), some (mi (d : Int)), some (mi (if toldB (sF S) (sH S) (d : Int) = true then 1 else 0)), some (mi (2 * ((sH S).1 : Int)))]) dX9_which_84 rfl (Nat.le_of_ble_eq_true rfl) rfl) ?_
      refine mRun.go (q_iinc (ls' := [some (mr 144), some (mi (mor (bts (fun d => toldB (sF S) (sH S) ((d : Nat) : Int)) d) (if toldB (sF S) (sH S) (d : Int) = true then mshl 1 (d : Int) else 0))), some (mi ((d : Int) + 1)), some (mi (if toldB (sF S) (sH S) (d : Int) = true then 1 else 0)), some (mi (2 * ((sH S).1 : Int)))]) dX9_which_85 rfl (Nat.le_of_ble_eq_true rfl) rfl) ?_
      refine mRun.go (q_goto (tgt := 4) dX9_which_88 (by decide)) ?_
      have e1 : ((d : Int) + 1) = ((d + 1 : Nat) : Int) := by omega
      rw [e1, bts_s (p := (fun d => toldB (sF S) (sH S) ((d : Nat) : Int))) (n := d) Iff.rfl]
      exact ih (d + 1) _ _ (by omega) (by omega)

set_option maxRecDepth 100000 in
theorem g_which {σ : List mC} {I : mI} {S : Sx} {B : Int} (hM : MS σ I S) (hS : SxOk B S)  : mMt mX9_which [mr 144] (σ, I) (OutM σ I S (a_which S)) := by
  refine mMt.of pl_9 (Nat.le_of_ble_eq_true rfl) ?_
  show mRun mZt mX9_which 0 [some (mr 144), none, none, none, none] [] (σ, I) _
  have hI := hM.1
  have hD := hM.2.1
  have hL := hS.1
  have hsz := hM.2.2.1
  have hLR := hM.2.2.2.2.2.2.1
  have hF := hM.2.2.2.2.2.2.2.1
  have hun := hM.2.2.2.2.2.2.2.2.1
  have hpa := hM.2.2.2.2.2.2.2.2.2.1
  have hkm := hM.2.2.2.2.2.2.2.2.2.2.1
  have hke := hM.2.2.2.2.2.2.2.2.2.2.2.1
  have hhm := hM.2.2.2.2.2.2.2.2.2.2.2.2.1
  have hhe := hM.2.2.2.2.2.2.2.2.2.2.2.2.2.1
  have hN := hM.2.2.2.2.2.2.2.2.2.2.2.2.2.2
  have hpr := lp_rng hL
  have hqe := lq_eq hL
  have hwr := hL.2.1
  have hrr := hL.1
  have hdr := hL.2.2.1
  have hnt := hL.2.2.2.1
  have hwF := hS.2.1.1
  have hhF := hS.2.1.2.1
  have hvF := hS.2.1.2.2.2
  have hH8 := hS.2.2.2.2.2.2.1
  have hU8 := hS.2.2.1
  have hK2 := hS.2.2.2.2.1
  have hLn := hS.2.2.2.2.2.2.2.2
  refine mRun.go (q_iconst dX9_which_0) ?_
  refine mRun.go (q_istore_n (ls' := [some (mr 144), some (mi 0), none, none, none]) dX9_which_1 rfl (Nat.le_of_ble_eq_true rfl) rfl) ?_
  refine mRun.go (q_iconst dX9_which_2) ?_
  refine mRun.go (q_istore_n (ls' := [some (mr 144), some (mi 0), some (mi 0), none, none]) dX9_which_3 rfl (Nat.le_of_ble_eq_true rfl) rfl) ?_
  exact g_which_loop hM hS ((lD (sL S)).toNat + 1) 0 none none (by omega) (by omega)
