/-! ===== the reference's ways ===== -/
theorem mcmp_rng (x y : Int) : -1 ≤ mcmp x y ∧ mcmp x y ≤ 1 := by unfold mcmp; split; · omega
                                                                  · split <;> omega
theorem mcmp_lt (x y : Int) : mcmp x y < 0 ↔ x < y := by unfold mcmp; split; · omega
                                                         · split <;> omega
theorem mcmp_gt (x y : Int) : 0 < mcmp x y ↔ y < x := by unfold mcmp; split; · omega
                                                         · split <;> omega

set_option maxRecDepth 100000 in
theorem k_in {h : mH} {x a b : Int} (hx : -4294967296 ≤ x ∧ x < 4294967296) (ha : -4294967296 ≤ a ∧ a < 4294967296) (hb : -4294967296 ≤ b ∧ b < 4294967296) : mCt mX9_in [ml x, ml a, ml b] h (some (mi (if a ≤ x ∧ x ≤ b then 1 else 0))) h := by
  refine mCt.eq ?_
  refine mMt.of pl_9 (Nat.le_of_ble_eq_true rfl) ?_
  show mRun mZt mX9_in 0 [some (ml x), none, some (ml a), none, some (ml b), none] [] h _
  refine mRun.go (q_lload_n dX9_in_0 rfl rfl) ?_
  refine mRun.go (q_lload_n dX9_in_1 rfl rfl) ?_
  refine mRun.go (q_lcmp dX9_in_2 (by omega) (by omega)) ?_
  refine r_if_lt (tgt := 17) dX9_in_3 (by decide) (by have := mcmp_rng x a; omega) (fun c3 => ?_) (fun c3 => ?_)
  · refine mRun.go (q_iconst dX9_in_17) ?_
    refine r_zret dX9_in_18 rfl (by simp) ?_
    have q1 := mcmp_lt x a
    have q2 := mcmp_gt x b
    first | (rw [if_pos (by omega)]; exact ⟨rfl, rfl⟩) | (rw [if_neg (by omega)]; exact ⟨rfl, rfl⟩)
  · refine mRun.go (q_lload_n dX9_in_6 rfl rfl) ?_
    refine mRun.go (q_lload dX9_in_7 rfl) ?_
    refine mRun.go (q_lcmp dX9_in_9 (by omega) (by omega)) ?_
    refine r_if_gt (tgt := 17) dX9_in_10 (by decide) (by have := mcmp_rng x b; omega) (fun c10 => ?_) (fun c10 => ?_)
    · refine mRun.go (q_iconst dX9_in_17) ?_
      refine r_zret dX9_in_18 rfl (by simp) ?_
      have q1 := mcmp_lt x a
      have q2 := mcmp_gt x b
      first | (rw [if_pos (by omega)]; exact ⟨rfl, rfl⟩) | (rw [if_neg (by omega)]; exact ⟨rfl, rfl⟩)
    · refine mRun.go (q_iconst dX9_in_13) ?_
      refine mRun.go (q_goto (tgt := 18) dX9_in_14 (by decide)) ?_
      refine r_zret dX9_in_18 rfl (by simp) ?_
      have q1 := mcmp_lt x a
      have q2 := mcmp_gt x b
      first | (rw [if_pos (by omega)]; exact ⟨rfl, rfl⟩) | (rw [if_neg (by omega)]; exact ⟨rfl, rfl⟩)

set_option maxRecDepth 100000 in
theorem k_hoursFor {h : mH} {x y : Int} (hx : -2147483648 ≤ x ∧ x < 2147483648) (hy : -2147483648 ≤ y ∧ y < 2147483648) : mCt mX9_hoursFor [mi x, mi y] h (some (mi (hrs x y))) h := by
  refine mCt.eq ?_
  refine mMt.of pl_9 (Nat.le_of_ble_eq_true rfl) ?_
  show mRun mZt mX9_hoursFor 0 [some (mi x), some (mi y), none] [] h _
  refine mRun.go (q_iload_n dX9_hoursFor_0 rfl rfl) ?_
  refine mRun.go (q_iconst dX9_hoursFor_1) ?_
  refine r_icmp_ne (tgt := 9) dX9_hoursFor_2 (by decide) (by omega) (by omega) (fun c2 => ?_) (fun c2 => ?_)
  · refine mRun.go (q_iload_n dX9_hoursFor_9 rfl rfl) ?_
    refine mRun.go (q_iconst dX9_hoursFor_10) ?_
    refine r_icmp_ne (tgt := 18) dX9_hoursFor_11 (by decide) (by omega) (by omega) (fun c11 => ?_) (fun c11 => ?_)
    · refine mRun.go (q_iconst dX9_hoursFor_18) ?_
      refine mRun.go (q_istore_n (ls' := [some (mi x), some (mi y), some (mi 1)]) dX9_hoursFor_19 rfl (Nat.le_of_ble_eq_true rfl) rfl) ?_
      refine mRun.go (q_iload_n dX9_hoursFor_20 rfl rfl) ?_
      refine mRun.go (q_iconst dX9_hoursFor_21) ?_
      refine r_icmp_ge (tgt := 29) dX9_hoursFor_22 (by decide) (by omega) (by omega) (fun c22 => ?_) (fun c22 => ?_)
      · refine mRun.go (q_iload_n dX9_hoursFor_29 rfl rfl) ?_
        refine mRun.go (q_iconst dX9_hoursFor_30) ?_
        refine r_icmp_ne (tgt := 39) dX9_hoursFor_31 (by decide) (by omega) (by omega) (fun c31 => ?_) (fun c31 => ?_)
        · refine mRun.go (q_iload_n dX9_hoursFor_39 rfl rfl) ?_
          refine mRun.go (q_iconst dX9_hoursFor_40) ?_
          refine mRun.go (q_iadd dX9_hoursFor_41) ?_
          refine r_iret dX9_hoursFor_42 rfl ?_
          have e : hrs x y = 1 + 1 := by unfold hrs; first | (rw [if_pos (by omega), if_pos (by omega)]; first | done | rfl) | (rw [if_pos (by omega), if_neg (by omega), if_pos (by omega)]; first | done | rfl) | (rw [if_pos (by omega), if_neg (by omega), if_neg (by omega), if_pos (by omega)]; first | done | rfl) | (rw [if_pos (by omega), if_neg (by omega), if_neg (by omega), if_neg (by omega)]; first | done | rfl) | (rw [if_neg (by omega), if_pos (by omega)]; first | done | rfl) | (rw [if_neg (by omega), if_neg (by omega), if_pos (by omega)]; first | done | rfl) | (rw [if_neg (by omega), if_neg (by omega), if_neg (by omega)]; first | done | rfl)
          rw [e]
          exact ⟨rfl, rfl⟩
        · refine mRun.go (q_ldc (a := 1000000) dX9_hoursFor_34 gw_965) ?_
          refine mRun.go (q_goto (tgt := 42) dX9_hoursFor_36 (by decide)) ?_
          refine r_iret dX9_hoursFor_42 rfl ?_
          have e : hrs x y = 1000000 := by unfold hrs; first | (rw [if_pos (by omega), if_pos (by omega)]; first | done | rfl) | (rw [if_pos (by omega), if_neg (by omega), if_pos (by omega)]; first | done | rfl) | (rw [if_pos (by omega), if_neg (by omega), if_neg (by omega), if_pos (by omega)]; first | done | rfl) | (rw [if_pos (by omega), if_neg (by omega), if_neg (by omega), if_neg (by omega)]; first | done | rfl) | (rw [if_neg (by omega), if_pos (by omega)]; first | done | rfl) | (rw [if_neg (by omega), if_neg (by omega), if_pos (by omega)]; first | done | rfl) | (rw [if_neg (by omega), if_neg (by omega), if_neg (by omega)]; first | done | rfl)
          rw [e]
          exact ⟨rfl, rfl⟩
      · refine mRun.go (q_iload_n dX9_hoursFor_25 rfl rfl) ?_
        refine mRun.go (q_goto (tgt := 42) dX9_hoursFor_26 (by decide)) ?_
        refine r_iret dX9_hoursFor_42 rfl ?_
        have e : hrs x y = 1 := by unfold hrs; first | (rw [if_pos (by omega), if_pos (by omega)]; first | done | rfl) | (rw [if_pos (by omega), if_neg (by omega), if_pos (by omega)]; first | done | rfl) | (rw [if_pos (by omega), if_neg (by omega), if_neg (by omega), if_pos (by omega)]; first | done | rfl) | (rw [if_pos (by omega), if_neg (by omega), if_neg (by omega), if_neg (by omega)]; first | done | rfl) | (rw [if_neg (by omega), if_pos (by omega)]; first | done | rfl) | (rw [if_neg (by omega), if_neg (by omega), if_pos (by omega)]; first | done | rfl) | (rw [if_neg (by omega), if_neg (by omega), if_neg (by omega)]; first | done | rfl)
        rw [e]
        exact ⟨rfl, rfl⟩
    · refine mRun.go (q_iconst dX9_hoursFor_14) ?_
      refine mRun.go (q_goto (tgt := 19) dX9_hoursFor_15 (by decide)) ?_
      refine mRun.go (q_istore_n (ls' := [some (mi x), some (mi y), some (mi 2)]) dX9_hoursFor_19 rfl (Nat.le_of_ble_eq_true rfl) rfl) ?_
      refine mRun.go (q_iload_n dX9_hoursFor_20 rfl rfl) ?_
      refine mRun.go (q_iconst dX9_hoursFor_21) ?_
      refine r_icmp_ge (tgt := 29) dX9_hoursFor_22 (by decide) (by omega) (by omega) (fun c22 => ?_) (fun c22 => ?_)
      · refine mRun.go (q_iload_n dX9_hoursFor_29 rfl rfl) ?_
        refine mRun.go (q_iconst dX9_hoursFor_30) ?_
        refine r_icmp_ne (tgt := 39) dX9_hoursFor_31 (by decide) (by omega) (by omega) (fun c31 => ?_) (fun c31 => ?_)
        · refine mRun.go (q_iload_n dX9_hoursFor_39 rfl rfl) ?_
          refine mRun.go (q_iconst dX9_hoursFor_40) ?_
          refine mRun.go (q_iadd dX9_hoursFor_41) ?_
          refine r_iret dX9_hoursFor_42 rfl ?_
          have e : hrs x y = 2 + 1 := by unfold hrs; first | (rw [if_pos (by omega), if_pos (by omega)]; first | done | rfl) | (rw [if_pos (by omega), if_neg (by omega), if_pos (by omega)]; first | done | rfl) | (rw [if_pos (by omega), if_neg (by omega), if_neg (by omega), if_pos (by omega)]; first | done | rfl) | (rw [if_pos (by omega), if_neg (by omega), if_neg (by omega), if_neg (by omega)]; first | done | rfl) | (rw [if_neg (by omega), if_pos (by omega)]; first | done | rfl) | (rw [if_neg (by omega), if_neg (by omega), if_pos (by omega)]; first | done | rfl) | (rw [if_neg (by omega), if_neg (by omega), if_neg (by omega)]; first | done | rfl)
          rw [e]
          exact ⟨rfl, rfl⟩
        · refine mRun.go (q_ldc (a := 1000000) dX9_hoursFor_34 gw_965) ?_
          refine mRun.go (q_goto (tgt := 42) dX9_hoursFor_36 (by decide)) ?_
          refine r_iret dX9_hoursFor_42 rfl ?_
          have e : hrs x y = 1000000 := by unfold hrs; first | (rw [if_pos (by omega), if_pos (by omega)]; first | done | rfl) | (rw [if_pos (by omega), if_neg (by omega), if_pos (by omega)]; first | done | rfl) | (rw [if_pos (by omega), if_neg (by omega), if_neg (by omega), if_pos (by omega)]; first | done | rfl) | (rw [if_pos (by omega), if_neg (by omega), if_neg (by omega), if_neg (by omega)]; first | done | rfl) | (rw [if_neg (by omega), if_pos (by omega)]; first | done | rfl) | (rw [if_neg (by omega), if_neg (by omega), if_pos (by omega)]; first | done | rfl) | (rw [if_neg (by omega), if_neg (by omega), if_neg (by omega)]; first | done | rfl)
          rw [e]
          exact ⟨rfl, rfl⟩
      · refine mRun.go (q_iload_n dX9_hoursFor_25 rfl rfl) ?_
        refine mRun.go (q_goto (tgt := 42) dX9_hoursFor_26 (by decide)) ?_
        refine r_iret dX9_hoursFor_42 rfl ?_
        have e : hrs x y = 2 := by unfold hrs; first | (rw [if_pos (by omega), if_pos (by omega)]; first | done | rfl) | (rw [if_pos (by omega), if_neg (by omega), if_pos (by omega)]; first | done | rfl) | (rw [if_pos (by omega), if_neg (by omega), if_neg (by omega), if_pos (by omega)]; first | done | rfl) | (rw [if_pos (by omega), if_neg (by omega), if_neg (by omega), if_neg (by omega)]; first | done | rfl) | (rw [if_neg (by omega), if_pos (by omega)]; first | done | rfl) | (rw [if_neg (by omega), if_neg (by omega), if_pos (by omega)]; first | done | rfl) | (rw [if_neg (by omega), if_neg (by omega), if_neg (by omega)]; first | done | rfl)
        rw [e]
        exact ⟨rfl, rfl⟩
  · refine mRun.go (q_iconst dX9_hoursFor_5) ?_
    refine mRun.go (q_goto (tgt := 19) dX9_hoursFor_6 (by decide)) ?_
    refine mRun.go (q_istore_n (ls' := [some (mi x), some (mi y), some (mi 3)]) dX9_hoursFor_19 rfl (Nat.le_of_ble_eq_true rfl) rfl) ?_
    refine mRun.go (q_iload_n dX9_hoursFor_20 rfl rfl) ?_
    refine mRun.go (q_iconst dX9_hoursFor_21) ?_
    refine r_icmp_ge (tgt := 29) dX9_hoursFor_22 (by decide) (by omega) (by omega) (fun c22 => ?_) (fun c22 => ?_)
    · refine mRun.go (q_iload_n dX9_hoursFor_29 rfl rfl) ?_
      refine mRun.go (q_iconst dX9_hoursFor_30) ?_
      refine r_icmp_ne (tgt := 39) dX9_hoursFor_31 (by decide) (by omega) (by omega) (fun c31 => ?_) (fun c31 => ?_)
      · refine mRun.go (q_iload_n dX9_hoursFor_39 rfl rfl) ?_
        refine mRun.go (q_iconst dX9_hoursFor_40) ?_
        refine mRun.go (q_iadd dX9_hoursFor_41) ?_
        refine r_iret dX9_hoursFor_42 rfl ?_
        have e : hrs x y = 3 + 1 := by unfold hrs; first | (rw [if_pos (by omega), if_pos (by omega)]; first | done | rfl) | (rw [if_pos (by omega), if_neg (by omega), if_pos (by omega)]; first | done | rfl) | (rw [if_pos (by omega), if_neg (by omega), if_neg (by omega), if_pos (by omega)]; first | done | rfl) | (rw [if_pos (by omega), if_neg (by omega), if_neg (by omega), if_neg (by omega)]; first | done | rfl) | (rw [if_neg (by omega), if_pos (by omega)]; first | done | rfl) | (rw [if_neg (by omega), if_neg (by omega), if_pos (by omega)]; first | done | rfl) | (rw [if_neg (by omega), if_neg (by omega), if_neg (by omega)]; first | done | rfl)
        rw [e]
        exact ⟨rfl, rfl⟩
      · refine mRun.go (q_ldc (a := 1000000) dX9_hoursFor_34 gw_965) ?_
        refine mRun.go (q_goto (tgt := 42) dX9_hoursFor_36 (by decide)) ?_
        refine r_iret dX9_hoursFor_42 rfl ?_
        have e : hrs x y = 1000000 := by unfold hrs; first | (rw [if_pos (by omega), if_pos (by omega)]; first | done | rfl) | (rw [if_pos (by omega), if_neg (by omega), if_pos (by omega)]; first | done | rfl) | (rw [if_pos (by omega), if_neg (by omega), if_neg (by omega), if_pos (by omega)]; first | done | rfl) | (rw [if_pos (by omega), if_neg (by omega), if_neg (by omega), if_neg (by omega)]; first | done | rfl) | (rw [if_neg (by omega), if_pos (by omega)]; first | done | rfl) | (rw [if_neg (by omega), if_neg (by omega), if_pos (by omega)]; first | done | rfl) | (rw [if_neg (by omega), if_neg (by omega), if_neg (by omega)]; first | done | rfl)
        rw [e]
        exact ⟨rfl, rfl⟩
    · refine mRun.go (q_iload_n dX9_hoursFor_25 rfl rfl) ?_
      refine mRun.go (q_goto (tgt := 42) dX9_hoursFor_26 (by decide)) ?_
      refine r_iret dX9_hoursFor_42 rfl ?_
      have e : hrs x y = 3 := by unfold hrs; first | (rw [if_pos (by omega), if_pos (by omega)]; first | done | rfl) | (rw [if_pos (by omega), if_neg (by omega), if_pos (by omega)]; first | done | rfl) | (rw [if_pos (by omega), if_neg (by omega), if_neg (by omega), if_pos (by omega)]; first | done | rfl) | (rw [if_pos (by omega), if_neg (by omega), if_neg (by omega), if_neg (by omega)]; first | done | rfl) | (rw [if_neg (by omega), if_pos (by omega)]; first | done | rfl) | (rw [if_neg (by omega), if_neg (by omega), if_pos (by omega)]; first | done | rfl) | (rw [if_neg (by omega), if_neg (by omega), if_neg (by omega)]; first | done | rfl)
      rw [e]
      exact ⟨rfl, rfl⟩

set_option maxRecDepth 100000 in
theorem m_beside {σ : List mC} {I : mI} {L : Ld} (hI : Nrm I) (hD : IsMd σ) (hL : LdOk L) (hLR : LRM I L) {x s : Nat} (hx : x < lQ L) (hs : s < 4) : mCt mX9_beside [mr 144, mi (x : Int), mi (s : Int)] (σ, I) (some (mi (nbL L x s))) (σ, I) := by
  refine mCt.eq ?_
  refine mMt.of pl_9 (Nat.le_of_ble_eq_true rfl) ?_
  show mRun mZt mX9_beside 0 [some (mr 144), some (mi (x : Int)), some (mi (s : Int))] [] (σ, I) _
  have hpr := lp_rng hL
  have hqe := lq_eq hL
  have hwr := hL.2.1
  have hrr := hL.1
  have hdr := hL.2.2.1
  have hnt := hL.2.2.2.1
  have hm1 : 0 ≤ (x : Int) % lW L := Int.emod_nonneg _ (by omega)
  have hm2 : (x : Int) % lW L < lW L := Int.emod_lt_of_pos _ (by omega)
  have hm3 : lW L * (lR L - 1) = lP L - lW L := by show _ = lR L * lW L - lW L; rw [Int.mul_sub, Int.mul_one, Int.mul_comm]
  refine mRun.go (q_iload_n dX9_beside_0 rfl rfl) ?_
  refine r_if_ne (tgt := 24) dX9_beside_1 (by decide) (by omega) (fun c1 => ?_) (fun c1 => ?_)
  · refine mRun.go (q_iload_n dX9_beside_24 rfl rfl) ?_
    refine mRun.go (q_iconst dX9_beside_25) ?_
    refine r_icmp_ne (tgt := 47) dX9_beside_26 (by decide) (by omega) (by omega) (fun c26 => ?_) (fun c26 => ?_)
    · refine mRun.go (q_iload_n dX9_beside_47 rfl rfl) ?_
      refine mRun.go (q_iconst dX9_beside_48) ?_
      refine r_icmp_ne (tgt := 76) dX9_beside_49 (by decide) (by omega) (by omega) (fun c49 => ?_) (fun c49 => ?_)
      · refine mRun.go (q_iload_n dX9_beside_76 rfl rfl) ?_
        refine mRun.go (q_aload_n dX9_beside_77 rfl rfl) ?_
        refine mRun.go (q_getE (x := lW L) dX9_beside_78 fo_X9_88 hD.1 rfl hLR.2.1) ?_
        refine mRun.go (q_aload_n dX9_beside_81 rfl rfl) ?_
        refine mRun.go (q_getE (x := lR L) dX9_beside_82 fo_X9_85 hD.1 rfl hLR.1) ?_
        refine mRun.go (q_iconst dX9_beside_85) ?_
        refine mRun.go (q_isub dX9_beside_86) ?_
        refine mRun.go (q_imul dX9_beside_87) ?_
        refine r_icmp_lt (tgt := 96) dX9_beside_88 (by decide) (by omega) (by omega) (fun c88 => ?_) (fun c88 => ?_)
        · refine mRun.go (q_iload_n dX9_beside_96 rfl rfl) ?_
          refine mRun.go (q_aload_n dX9_beside_97 rfl rfl) ?_
          refine mRun.go (q_getE (x := lW L) dX9_beside_98 fo_X9_88 hD.1 rfl hLR.2.1) ?_
          refine mRun.go (q_iadd dX9_beside_101) ?_
          refine r_iret dX9_beside_102 rfl ?_
          have e : nbL L x s = (x : Int) + (lW L) := by
            unfold nbL nbs
            first | (rw [if_pos (by omega), if_pos (by omega)]; done) | (rw [if_pos (by omega), if_neg (by omega)]; done) | (rw [if_neg (by omega), if_pos (by omega), if_pos (by omega)]; done) | (rw [if_neg (by omega), if_pos (by omega), if_neg (by omega)]; done) | (rw [if_neg (by omega), if_neg (by omega), if_pos (by omega), if_pos (by omega)]; done) | (rw [if_neg (by omega), if_neg (by omega), if_pos (by omega), if_neg (by omega)]; done) | (rw [if_neg (by omega), if_neg (by omega), if_neg (by omega), if_pos (by omega)]; done) | (rw [if_neg (by omega), if_neg (by omega), if_neg (by omega), if_neg (by omega)]; done)
          rw [e]
          exact ⟨rfl, rfl⟩
        · refine mRun.go (q_bipush dX9_beside_91 (by decide)) ?_
          refine mRun.go (q_goto (tgt := 102) dX9_beside_93 (by decide)) ?_
          refine r_iret dX9_beside_102 rfl ?_
          have e : nbL L x s = (-4) := by
            unfold nbL nbs
            first | (rw [if_pos (by omega), if_pos (by omega)]; done) | (rw [if_pos (by omega), if_neg (by omega)]; done) | (rw [if_neg (by omega), if_pos (by omega), if_pos (by omega)]; done) | (rw [if_neg (by omega), if_pos (by omega), if_neg (by omega)]; done) | (rw [if_neg (by omega), if_neg (by omega), if_pos (by omega), if_pos (by omega)]; done) | (rw [if_neg (by omega), if_neg (by omega), if_pos (by omega), if_neg (by omega)]; done) | (rw [if_neg (by omega), if_neg (by omega), if_neg (by omega), if_pos (by omega)]; done) | (rw [if_neg (by omega), if_neg (by omega), if_neg (by omega), if_neg (by omega)]; done)
          rw [e]
          exact ⟨rfl, rfl⟩
      · refine mRun.go (q_iload_n dX9_beside_52 rfl rfl) ?_
        refine mRun.go (q_aload_n dX9_beside_53 rfl rfl) ?_
        refine mRun.go (q_getE (x := lW L) dX9_beside_54 fo_X9_88 hD.1 rfl hLR.2.1) ?_
        refine mRun.go (q_irem dX9_beside_57 (by omega) (by omega)) ?_
        refine mRun.go (q_aload_n dX9_beside_58 rfl rfl) ?_
        refine mRun.go (q_getE (x := lW L) dX9_beside_59 fo_X9_88 hD.1 rfl hLR.2.1) ?_
        refine mRun.go (q_iconst dX9_beside_62) ?_
        refine mRun.go (q_isub dX9_beside_63) ?_
        refine r_icmp_ne (tgt := 72) dX9_beside_64 (by decide) (by omega) (by omega) (fun c64 => ?_) (fun c64 => ?_)
        · refine mRun.go (q_iload_n dX9_beside_72 rfl rfl) ?_
          refine mRun.go (q_iconst dX9_beside_73) ?_
          refine mRun.go (q_iadd dX9_beside_74) ?_
          refine r_iret dX9_beside_75 rfl ?_
          have e : nbL L x s = (x : Int) + 1 := by
            unfold nbL nbs
            first | (rw [if_pos (by omega), if_pos (by omega)]; done) | (rw [if_pos (by omega), if_neg (by omega)]; done) | (rw [if_neg (by omega), if_pos (by omega), if_pos (by omega)]; done) | (rw [if_neg (by omega), if_pos (by omega), if_neg (by omega)]; done) | (rw [if_neg (by omega), if_neg (by omega), if_pos (by omega), if_pos (by omega)]; done) | (rw [if_neg (by omega), if_neg (by omega), if_pos (by omega), if_neg (by omega)]; done) | (rw [if_neg (by omega), if_neg (by omega), if_neg (by omega), if_pos (by omega)]; done) | (rw [if_neg (by omega), if_neg (by omega), if_neg (by omega), if_neg (by omega)]; done)
          rw [e]
          exact ⟨rfl, rfl⟩
        · refine mRun.go (q_bipush dX9_beside_67 (by decide)) ?_
          refine mRun.go (q_goto (tgt := 75) dX9_beside_69 (by decide)) ?_
          refine r_iret dX9_beside_75 rfl ?_
          have e : nbL L x s = (-4) := by
            unfold nbL nbs
            first | (rw [if_pos (by omega), if_pos (by omega)]; done) | (rw [if_pos (by omega), if_neg (by omega)]; done) | (rw [if_neg (by omega), if_pos (by omega), if_pos (by omega)]; done) | (rw [if_neg (by omega), if_pos (by omega), if_neg (by omega)]; done) | (rw [if_neg (by omega), if_neg (by omega), if_pos (by omega), if_pos (by omega)]; done) | (rw [if_neg (by omega), if_neg (by omega), if_pos (by omega), if_neg (by omega)]; done) | (rw [if_neg (by omega), if_neg (by omega), if_neg (by omega), if_pos (by omega)]; done) | (rw [if_neg (by omega), if_neg (by omega), if_neg (by omega), if_neg (by omega)]; done)
          rw [e]
          exact ⟨rfl, rfl⟩
    · refine mRun.go (q_iload_n dX9_beside_29 rfl rfl) ?_
      refine mRun.go (q_aload_n dX9_beside_30 rfl rfl) ?_
      refine mRun.go (q_getE (x := lW L) dX9_beside_31 fo_X9_88 hD.1 rfl hLR.2.1) ?_
      refine mRun.go (q_irem dX9_beside_34 (by omega) (by omega)) ?_
      refine r_if_ne (tgt := 43) dX9_beside_35 (by decide) (by omega) (fun c35 => ?_) (fun c35 => ?_)
      · refine mRun.go (q_iload_n dX9_beside_43 rfl rfl) ?_
        refine mRun.go (q_iconst dX9_beside_44) ?_
        refine mRun.go (q_isub dX9_beside_45) ?_
        refine r_iret dX9_beside_46 rfl ?_
        have e : nbL L x s = (x : Int) - 1 := by
          unfold nbL nbs
          first | (rw [if_pos (by omega), if_pos (by omega)]; done) | (rw [if_pos (by omega), if_neg (by omega)]; done) | (rw [if_neg (by omega), if_pos (by omega), if_pos (by omega)]; done) | (rw [if_neg (by omega), if_pos (by omega), if_neg (by omega)]; done) | (rw [if_neg (by omega), if_neg (by omega), if_pos (by omega), if_pos (by omega)]; done) | (rw [if_neg (by omega), if_neg (by omega), if_pos (by omega), if_neg (by omega)]; done) | (rw [if_neg (by omega), if_neg (by omega), if_neg (by omega), if_pos (by omega)]; done) | (rw [if_neg (by omega), if_neg (by omega), if_neg (by omega), if_neg (by omega)]; done)
        rw [e]
        exact ⟨rfl, rfl⟩
      · refine mRun.go (q_bipush dX9_beside_38 (by decide)) ?_
        refine mRun.go (q_goto (tgt := 46) dX9_beside_40 (by decide)) ?_
        refine r_iret dX9_beside_46 rfl ?_
        have e : nbL L x s = (-4) := by
          unfold nbL nbs
          first | (rw [if_pos (by omega), if_pos (by omega)]; done) | (rw [if_pos (by omega), if_neg (by omega)]; done) | (rw [if_neg (by omega), if_pos (by omega), if_pos (by omega)]; done) | (rw [if_neg (by omega), if_pos (by omega), if_neg (by omega)]; done) | (rw [if_neg (by omega), if_neg (by omega), if_pos (by omega), if_pos (by omega)]; done) | (rw [if_neg (by omega), if_neg (by omega), if_pos (by omega), if_neg (by omega)]; done) | (rw [if_neg (by omega), if_neg (by omega), if_neg (by omega), if_pos (by omega)]; done) | (rw [if_neg (by omega), if_neg (by omega), if_neg (by omega), if_neg (by omega)]; done)
        rw [e]
        exact ⟨rfl, rfl⟩
  · refine mRun.go (q_iload_n dX9_beside_4 rfl rfl) ?_
    refine mRun.go (q_aload_n dX9_beside_5 rfl rfl) ?_
    refine mRun.go (q_getE (x := lW L) dX9_beside_6 fo_X9_88 hD.1 rfl hLR.2.1) ?_
    refine r_icmp_ge (tgt := 17) dX9_beside_9 (by decide) (by omega) (by omega) (fun c9 => ?_) (fun c9 => ?_)
    · refine mRun.go (q_iload_n dX9_beside_17 rfl rfl) ?_
      refine mRun.go (q_aload_n dX9_beside_18 rfl rfl) ?_
      refine mRun.go (q_getE (x := lW L) dX9_beside_19 fo_X9_88 hD.1 rfl hLR.2.1) ?_
      refine mRun.go (q_isub dX9_beside_22) ?_
      refine r_iret dX9_beside_23 rfl ?_
      have e : nbL L x s = (x : Int) - (lW L) := by
        unfold nbL nbs
        first | (rw [if_pos (by omega), if_pos (by omega)]; done) | (rw [if_pos (by omega), if_neg (by omega)]; done) | (rw [if_neg (by omega), if_pos (by omega), if_pos (by omega)]; done) | (rw [if_neg (by omega), if_pos (by omega), if_neg (by omega)]; done) | (rw [if_neg (by omega), if_neg (by omega), if_pos (by omega), if_pos (by omega)]; done) | (rw [if_neg (by omega), if_neg (by omega), if_pos (by omega), if_neg (by omega)]; done) | (rw [if_neg (by omega), if_neg (by omega), if_neg (by omega), if_pos (by omega)]; done) | (rw [if_neg (by omega), if_neg (by omega), if_neg (by omega), if_neg (by omega)]; done)
      rw [e]
      exact ⟨rfl, rfl⟩
    · refine mRun.go (q_bipush dX9_beside_12 (by decide)) ?_
      refine mRun.go (q_goto (tgt := 23) dX9_beside_14 (by decide)) ?_
      refine r_iret dX9_beside_23 rfl ?_
      have e : nbL L x s = (-4) := by
        unfold nbL nbs
        first | (rw [if_pos (by omega), if_pos (by omega)]; done) | (rw [if_pos (by omega), if_neg (by omega)]; done) | (rw [if_neg (by omega), if_pos (by omega), if_pos (by omega)]; done) | (rw [if_neg (by omega), if_pos (by omega), if_neg (by omega)]; done) | (rw [if_neg (by omega), if_neg (by omega), if_pos (by omega), if_pos (by omega)]; done) | (rw [if_neg (by omega), if_neg (by omega), if_pos (by omega), if_neg (by omega)]; done) | (rw [if_neg (by omega), if_neg (by omega), if_neg (by omega), if_pos (by omega)]; done) | (rw [if_neg (by omega), if_neg (by omega), if_neg (by omega), if_neg (by omega)]; done)
      rw [e]
      exact ⟨rfl, rfl⟩

set_option maxRecDepth 100000 in
theorem m_tells {σ : List mC} {I : mI} {L : Ld} (hI : Nrm I) (hD : IsMd σ) (hL : LdOk L) (hLR : LRM I L) {a : Nat} {F : Fs} (ha : σ[a]? = some (.inr (.inl 170))) (hF : FRM I a 0 L F) {d x : Int} (hd : 0 ≤ d ∧ d < lD L) (hx : 0 ≤ x ∧ x < lP L) : mCt mX9_tells [mr a, mi d, mi x] (σ, I) (some (mi (fT F (36 * d + x)))) (σ, I) := by
  refine mCt.eq ?_
  refine mMt.of pl_9 (Nat.le_of_ble_eq_true rfl) ?_
  show mRun mZt mX9_tells 0 [some (mr a), some (mi d), some (mi x)] [] (σ, I) _
  have hpr := lp_rng hL
  have hqe := lq_eq hL
  have hwr := hL.2.1
  have hrr := hL.1
  have hdr := hL.2.2.1
  have hnt := hL.2.2.2.1
  refine mRun.go (q_aload_n dX9_tells_0 rfl rfl) ?_
  refine mRun.go (q_iconst dX9_tells_1) ?_
  refine mRun.go (q_bipush dX9_tells_2 (by decide)) ?_
  refine mRun.go (q_iload_n dX9_tells_4 rfl rfl) ?_
  refine mRun.go (q_imul dX9_tells_5) ?_
  refine mRun.go (q_iadd dX9_tells_6) ?_
  refine mRun.go (q_iload_n dX9_tells_7 rfl rfl) ?_
  refine mRun.go (q_iadd dX9_tells_8) ?_
  refine mRun.go (q_ialdE (x := fT F (36 * d + x)) dX9_tells_9 ha (by omega) (by omega) (by rw [show (2 + 36 * d + x).toNat = 0 + 2 + (36 * d + x).toNat by omega]; exact hF.2.2.1 d x (by omega) (by omega) (by omega) (by omega))) ?_
  refine r_iret dX9_tells_10 rfl ?_
  exact ⟨rfl, rfl⟩

theorem tellsM_rng {I : mI} {L : Ld} {a : Nat} {F : Fs} {d x : Int} (hI : Nrm I) (hF : FRM I a 0 L F) (hd : 0 ≤ d ∧ d < lD L) (hx : 0 ≤ x ∧ x < lP L) : -2147483648 ≤ fT F (36 * d + x) ∧ fT F (36 * d + x) < 2147483648 := by
  rw [← hF.2.2.1 d x hd.1 hd.2 hx.1 hx.2]
  exact hI _ _
/-- what is taken: by a drum, or (-1) in truth -/
def tkM (L : Ld) (F : Fs) (d x : Int) : Int := if d < 0 then lG L x else takv (lK L d) (fT F (36 * d + x))
def eM (L : Ld) (F : Fs) (d : Int) : Nat → Int := fun y => hrs (tkM L F d (y : Int)) (fW F)
theorem eM_d {L : Ld} {F : Fs} {d : Int} (h : 0 ≤ d) : eM L F d = ent L (fT F) (fW F) d := by
  funext y
  unfold eM tkM ent
  rw [if_neg (by omega)]
theorem eM_t {L : Ld} {F : Fs} {d : Int} (h : d < 0) : eM L F d = entT L (fW F) := by
  funext y
  unfold eM tkM entT
  rw [if_pos h]
theorem wfg_m {L : Ld} {F : Fs} {d : Int} (h : LdOk L) : Wfg (lQ L) (nbL L) (eM L F d) := ⟨nbl_rng h, fun _ _ => hrs_rng⟩

set_option maxRecDepth 100000 in
theorem m_taken {σ : List mC} {I : mI} {L : Ld} (hI : Nrm I) (hD : IsMd σ) (hL : LdOk L) (hLR : LRM I L) {a : Nat} {F : Fs} (ha : σ[a]? = some (.inr (.inl 170))) (hF : FRM I a 0 L F) {d x : Int} (hd : -1 ≤ d ∧ d < lD L) (hx : 0 ≤ x ∧ x < lP L) : mCt mX9_taken [mr 144, mr a, mi d, mi x] (σ, I) (some (mi (tkM L F d x))) (σ, I) := by
  refine mCt.eq ?_
  refine mMt.of pl_9 (Nat.le_of_ble_eq_true rfl) ?_
  show mRun mZt mX9_taken 0 [some (mr 144), some (mr a), some (mi d), some (mi x), none] [] (σ, I) _
  have hpr := lp_rng hL
  have hqe := lq_eq hL
  have hwr := hL.2.1
  have hrr := hL.1
  have hdr := hL.2.2.1
  have hnt := hL.2.2.2.1
  refine mRun.go (q_iload_n dX9_taken_0 rfl rfl) ?_
  refine r_if_ge (tgt := 11) dX9_taken_1 (by decide) (by omega) (fun c1 => ?_) (fun c1 => ?_)
  · refine mRun.go (q_aload_n dX9_taken_11 rfl rfl) ?_
    refine mRun.go (q_iload_n dX9_taken_12 rfl rfl) ?_
    refine mRun.go (q_iload_n dX9_taken_13 rfl rfl) ?_
    have htr := tellsM_rng hI hF (d := d) (x := x) (by omega) hx
    have hkr := hL.2.2.2.2.2 d (by omega) (by omega)
    refine mRun.go (q_callSi [mr a, mi d, mi x] [] dX9_taken_14 co_X9_172 ⟨Nat.le_of_ble_eq_true rfl, Nat.le_of_ble_eq_true rfl⟩ gw_934 rfl rfl (Nat.le_of_ble_eq_true rfl) (m_tells hI hD hL hLR ha hF (by omega) hx)) ?_
    refine mRun.go (q_istore (ls' := [some (mr 144), some (mr a), some (mi d), some (mi x), some (mi (fT F (36 * d + x)))]) dX9_taken_17 (Nat.le_of_ble_eq_true rfl) rfl) ?_
    refine mRun.go (q_aload_n dX9_taken_19 rfl rfl) ?_
    refine mRun.go (q_getR dX9_taken_20 fo_X9_13 hD.1 rfl) ?_
    refine mRun.go (q_iload_n dX9_taken_23 rfl rfl) ?_
    refine mRun.go (q_ialdE (x := lK L d) dX9_taken_24 hD.2.2.1 (by omega) (by omega) (lrm_k hLR (by omega))) ?_
    refine r_if_le (tgt := 43) dX9_taken_25 (by decide) (by have := hL.2.2.2.2.2 d (by omega) (by omega); omega) (fun c25 => ?_) (fun c25 => ?_)
    · refine mRun.go (q_iload dX9_taken_43 rfl) ?_
      refine r_iret dX9_taken_45 rfl ?_
      have e : tkM L F d x = fT F (36 * d + x) := by
        unfold tkM takv
        first | (rw [if_pos (by omega)]; done) | (rw [if_neg (by omega)]; (repeat (first | (rw [if_pos (by omega)]) | (rw [if_neg (by omega)]))); try omega)
      rw [e]
      exact ⟨rfl, rfl⟩
    · refine mRun.go (q_aload_n dX9_taken_28 rfl rfl) ?_
      refine mRun.go (q_getR dX9_taken_29 fo_X9_13 hD.1 rfl) ?_
      refine mRun.go (q_iload_n dX9_taken_32 rfl rfl) ?_
      refine mRun.go (q_ialdE (x := lK L d) dX9_taken_33 hD.2.2.1 (by omega) (by omega) (lrm_k hLR (by omega))) ?_
      refine mRun.go (q_iload dX9_taken_34 rfl) ?_
      refine r_icmp_ne (tgt := 43) dX9_taken_36 (by decide) (by have := hL.2.2.2.2.2 d (by omega) (by omega); omega) (by omega) (fun c36 => ?_) (fun c36 => ?_)
      · refine mRun.go (q_iload dX9_taken_43 rfl) ?_
        refine r_iret dX9_taken_45 rfl ?_
        have e : tkM L F d x = fT F (36 * d + x) := by
          unfold tkM takv
          first | (rw [if_pos (by omega)]; done) | (rw [if_neg (by omega)]; (repeat (first | (rw [if_pos (by omega)]) | (rw [if_neg (by omega)]))); try omega)
        rw [e]
        exact ⟨rfl, rfl⟩
      · refine mRun.go (q_iconst dX9_taken_39) ?_
        refine mRun.go (q_goto (tgt := 45) dX9_taken_40 (by decide)) ?_
        refine r_iret dX9_taken_45 rfl ?_
        have e : tkM L F d x = 0 := by
          unfold tkM takv
          first | (rw [if_pos (by omega)]; done) | (rw [if_neg (by omega)]; (repeat (first | (rw [if_pos (by omega)]) | (rw [if_neg (by omega)]))); try omega)
        rw [e]
        exact ⟨rfl, rfl⟩
  · refine mRun.go (q_aload_n dX9_taken_4 rfl rfl) ?_
    refine mRun.go (q_getR dX9_taken_5 fo_X9_7 hD.1 rfl) ?_
    refine mRun.go (q_iload_n dX9_taken_8 rfl rfl) ?_
    refine mRun.go (q_ialdE (x := lG L x) dX9_taken_9 hD.2.1 (by omega) (by omega) (lrm_g hLR (by omega))) ?_
    refine r_iret dX9_taken_10 rfl ?_
    have e : tkM L F d x = lG L x := by
      unfold tkM takv
      first | (rw [if_pos (by omega)]; done) | (rw [if_neg (by omega)]; (repeat (first | (rw [if_pos (by omega)]) | (rw [if_neg (by omega)]))); try omega)
    rw [e]
    exact ⟨rfl, rfl⟩

theorem tkM_rng {I : mI} {L : Ld} {a : Nat} {F : Fs} {d x : Int} (hI : Nrm I) (hL : LdOk L) (hF : FRM I a 0 L F) (hd : -1 ≤ d ∧ d < lD L) (hx : 0 ≤ x ∧ x < lP L) : -2147483648 ≤ tkM L F d x ∧ tkM L F d x < 2147483648 := by
  unfold tkM
  split
  · have := hL.2.2.2.2.1 x hx.1 hx.2; omega
  · exact takv_rng (tellsM_rng hI hF (by omega) hx)
/-- hours of the way that starts at a side -/
def bwv (nb : Nat → Nat → Int) (e a : Nat → Int) (x s : Nat) : Int := if nb x s = -4 ∨ 1000000 ≤ a (nb x s).toNat then 1000000 else if 1000000 ≤ e (nb x s).toNat then 1000000 else e (nb x s).toNat + a (nb x s).toNat
theorem bwv_cst {P : Nat} {nb : Nat → Nat → Int} {e a : Nat → Int} (hw : Wfg P nb e) (ha : ∀ y, y < P → 0 ≤ a y ∧ a y ≤ 1000000) {x s : Nat} (hx : x < P) (hs : s < 4) : (1 ≤ bwv nb e a x s ∧ bwv nb e a x s ≤ 2000000) ∧ ∀ v : Int, v ≤ 1000000 → ((bwv nb e a x s < v ↔ cst nb e a x s < v) ∧ (bwv nb e a x s < v → bwv nb e a x s = cst nb e a x s)) := by
  unfold bwv cst
  rcases hw.1 x hx s hs with q | q
  · rw [if_pos (Or.inl q), if_pos q]
    exact ⟨by omega, fun v hv => ⟨by omega, fun _ => rfl⟩⟩
  · have h1 := hw.2 (nb x s).toNat (by omega)
    have h2 := ha (nb x s).toNat (by omega)
    rw [if_neg (show ¬ nb x s = -4 by omega)]
    split
    · next z => exact ⟨by omega, fun v hv => ⟨by omega, fun z2 => by omega⟩⟩
    · split
      · next z => exact ⟨by omega, fun v hv => ⟨by omega, fun z2 => by omega⟩⟩
      · exact ⟨by omega, fun v hv => ⟨Iff.rfl, fun _ => rfl⟩⟩
def aM (I : mI) : Nat → Int := fun p => I 159 p

set_option maxRecDepth 100000 in
theorem m_byWay {σ : List mC} {I : mI} {L : Ld} (hI : Nrm I) (hD : IsMd σ) (hL : LdOk L) (hLR : LRM I L) {a : Nat} {F : Fs} (ha : σ[a]? = some (.inr (.inl 170))) (hF : FRM I a 0 L F) {d : Int} (hd : -1 ≤ d ∧ d < lD L) {x s : Nat} (hx : x < lQ L) (hs : s < 4) : mCt mX9_byWay [mr 144, mr a, mi d, mi (x : Int), mi (s : Int)] (σ, I) (some (mi (bwv (nbL L) (eM L F d) (aM I) x s))) (σ, I) := by
  refine mCt.eq ?_
  refine mMt.of pl_9 (Nat.le_of_ble_eq_true rfl) ?_
  show mRun mZt mX9_byWay 0 [some (mr 144), some (mr a), some (mi d), some (mi (x : Int)), some (mi (s : Int)), none, none] [] (σ, I) _
  have hpr := lp_rng hL
  have hqe := lq_eq hL
  have hwr := hL.2.1
  have hrr := hL.1
  have hdr := hL.2.2.1
  have hnt := hL.2.2.2.1
  have hnr := nbl_rng hL x hx s hs
  refine mRun.go (q_aload_n dX9_byWay_0 rfl rfl) ?_
  refine mRun.go (q_iload_n dX9_byWay_1 rfl rfl) ?_
  refine mRun.go (q_iload dX9_byWay_2 rfl) ?_
  refine mRun.go (q_callVi (r := 144) [mi (x : Int), mi (s : Int)] [] dX9_byWay_4 co_X9_177 ⟨Nat.le_of_ble_eq_true rfl, Nat.le_of_ble_eq_true rfl⟩ gw_972 gs_45 rfl hD.1 rfl rfl rfl (Nat.le_of_ble_eq_true rfl) (m_beside hI hD hL hLR hx hs)) ?_
  refine mRun.go (q_istore (ls' := [some (mr 144), some (mr a), some (mi d), some (mi (x : Int)), some (mi (s : Int)), some (mi (nbL L x s)), none]) dX9_byWay_7 (Nat.le_of_ble_eq_true rfl) rfl) ?_
  refine mRun.go (q_iload dX9_byWay_9 rfl) ?_
  refine mRun.go (q_bipush dX9_byWay_11 (by decide)) ?_
  refine r_icmp_eq (tgt := 28) dX9_byWay_13 (by decide) (by omega) (by omega) (fun c13 => ?_) (fun c13 => ?_)
  · refine mRun.go (q_ldc (a := 1000000) dX9_byWay_28 gw_965) ?_
    refine r_iret dX9_byWay_30 rfl ?_
    have e : bwv (nbL L) (eM L F d) (aM I) x s = 1000000 := by
      unfold bwv
      first | (rw [if_pos (by omega)]; done) | (rw [if_neg (by omega), if_pos (by omega)]; done) | (rw [if_neg (by omega), if_neg (by omega)]; done)
    rw [e]
    exact ⟨rfl, rfl⟩
  · refine mRun.go (q_aload_n dX9_byWay_16 rfl rfl) ?_
    refine mRun.go (q_getR dX9_byWay_17 fo_X9_52 hD.1 rfl) ?_
    refine mRun.go (q_iload dX9_byWay_20 rfl) ?_
    refine mRun.go (q_ialdE (x := aM I (nbL L x s).toNat) dX9_byWay_22 hD.2.2.2.2.2.2.2.2.2.2.2.2.2.2.2 (by omega) (by omega) rfl) ?_
    refine mRun.go (q_ldc (a := 1000000) dX9_byWay_23 gw_965) ?_
    refine r_icmp_lt (tgt := 31) dX9_byWay_25 (by decide) (hI _ _) (by omega) (fun c25 => ?_) (fun c25 => ?_)
    · refine mRun.go (q_aload_n dX9_byWay_31 rfl rfl) ?_
      refine mRun.go (q_aload_n dX9_byWay_32 rfl rfl) ?_
      refine mRun.go (q_iload_n dX9_byWay_33 rfl rfl) ?_
      refine mRun.go (q_iload dX9_byWay_34 rfl) ?_
      refine mRun.go (q_callVi (r := 144) [mr a, mi d, mi (nbL L x s)] [] dX9_byWay_36 co_X9_181 ⟨Nat.le_of_ble_eq_true rfl, Nat.le_of_ble_eq_true rfl⟩ gw_938 gs_40 rfl hD.1 rfl rfl rfl (Nat.le_of_ble_eq_true rfl) (m_taken hI hD hL hLR ha hF hd (by omega))) ?_
      refine mRun.go (q_aload_n dX9_byWay_39 rfl rfl) ?_
      refine mRun.go (q_iconst dX9_byWay_40) ?_
      refine mRun.go (q_ialdE (x := fW F) dX9_byWay_41 ha (by omega) (by omega) hF.1) ?_
      have hhr := @hrs_rng (tkM L F d (nbL L x s)) (fW F)
      have hee : hrs (tkM L F d (nbL L x s)) (fW F) = eM L F d (nbL L x s).toNat := by unfold eM; rw [show (((nbL L x s).toNat : Nat) : Int) = nbL L x s by omega]
      rw [hee] at hhr
      have hhf := @k_hoursFor (σ, I) (tkM L F d (nbL L x s)) (fW F) (tkM_rng hI hL hF hd (by omega)) (by rw [← hF.1]; exact hI _ _)
      rw [hee] at hhf
      refine mRun.go (q_callSi [mi (tkM L F d (nbL L x s)), mi (fW F)] [] dX9_byWay_42 co_X9_184 ⟨Nat.le_of_ble_eq_true rfl, Nat.le_of_ble_eq_true rfl⟩ gw_975 rfl rfl (Nat.le_of_ble_eq_true rfl) hhf) ?_
      refine mRun.go (q_istore (ls' := [some (mr 144), some (mr a), some (mi d), some (mi (x : Int)), some (mi (s : Int)), some (mi (nbL L x s)), some (mi (eM L F d (nbL L x s).toNat))]) dX9_byWay_45 (Nat.le_of_ble_eq_true rfl) rfl) ?_
      refine mRun.go (q_iload dX9_byWay_47 rfl) ?_
      refine mRun.go (q_ldc (a := 1000000) dX9_byWay_49 gw_965) ?_
      refine r_icmp_lt (tgt := 59) dX9_byWay_51 (by decide) (by omega) (by omega) (fun c51 => ?_) (fun c51 => ?_)
      · refine mRun.go (q_iload dX9_byWay_59 rfl) ?_
        refine mRun.go (q_aload_n dX9_byWay_61 rfl rfl) ?_
        refine mRun.go (q_getR dX9_byWay_62 fo_X9_52 hD.1 rfl) ?_
        refine mRun.go (q_iload dX9_byWay_65 rfl) ?_
        refine mRun.go (q_ialdE (x := aM I (nbL L x s).toNat) dX9_byWay_67 hD.2.2.2.2.2.2.2.2.2.2.2.2.2.2.2 (by omega) (by omega) rfl) ?_
        refine mRun.go (q_iadd dX9_byWay_68) ?_
        refine r_iret dX9_byWay_69 rfl ?_
        have e : bwv (nbL L) (eM L F d) (aM I) x s = (eM L F d (nbL L x s).toNat) + (aM I (nbL L x s).toNat) := by
          unfold bwv
          first | (rw [if_pos (by omega)]; done) | (rw [if_neg (by omega), if_pos (by omega)]; done) | (rw [if_neg (by omega), if_neg (by omega)]; done)
        rw [e]
        exact ⟨rfl, rfl⟩
      · refine mRun.go (q_ldc (a := 1000000) dX9_byWay_54 gw_965) ?_
        refine mRun.go (q_goto (tgt := 69) dX9_byWay_56 (by decide)) ?_
        refine r_iret dX9_byWay_69 rfl ?_
        have e : bwv (nbL L) (eM L F d) (aM I) x s = 1000000 := by
          unfold bwv
          first | (rw [if_pos (by omega)]; done) | (rw [if_neg (by omega), if_pos (by omega)]; done) | (rw [if_neg (by omega), if_neg (by omega)]; done)
        rw [e]
        exact ⟨rfl, rfl⟩
    · refine mRun.go (q_ldc (a := 1000000) dX9_byWay_28 gw_965) ?_
      refine r_iret dX9_byWay_30 rfl ?_
      have e : bwv (nbL L) (eM L F d) (aM I) x s = 1000000 := by
        unfold bwv
        first | (rw [if_pos (by omega)]; done) | (rw [if_neg (by omega), if_pos (by omega)]; done) | (rw [if_neg (by omega), if_neg (by omega)]; done)
      rw [e]
      exact ⟨rfl, rfl⟩
