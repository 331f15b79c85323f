/-! ===== the reference: copies, hours of a state, looking ahead ===== -/
theorem mcp_0 {I : mI} {r1 r0 sp dp : Nat} : mcp I r1 r0 sp dp 0 = I := by
  funext r k
  unfold mcp
  split
  · next h =>
    split
    · omega
    · rw [h]
  · rfl
theorem mcp_s {I : mI} {r1 r0 sp dp n : Nat} (hne : r0 ≠ r1) : mup (mcp I r1 r0 sp dp n) r1 (dp + n) (I r0 (sp + n)) = mcp I r1 r0 sp dp (n + 1) := by
  funext r k
  unfold mup mcp
  by_cases h : r = r1
  · subst h
    by_cases h2 : k = dp + n
    · rw [if_pos ⟨rfl, h2⟩, if_pos rfl, if_pos (by omega), show sp + (k - dp) = sp + n by omega]
    · rw [if_neg (fun q => h2 q.2), if_pos rfl, if_pos rfl]
      by_cases h3 : dp ≤ k ∧ k < dp + n
      · rw [if_pos h3, if_pos (by omega)]
      · rw [if_neg h3, if_neg (by omega)]
  · rw [if_neg (fun q => h q.1), if_neg h, if_neg h]
theorem setV_setV {F : Fs} {t : Nat} {v w : Tv} : setV (setV F t v) t w = setV F t w := by
  have e : (fun u => if u = t then w else (if u = t then v else fV F u)) = fun u => if u = t then w else fV F u := by
    funext u
    by_cases q : u = t
    · rw [if_pos q, if_pos q]
    · rw [if_neg q, if_neg q, if_neg q]
  show (fW F, fH F, fT F, fun u => if u = t then w else (if u = t then v else fV F u)) = _
  rw [e]
  rfl
theorem setV_at {F : Fs} {t : Nat} {v : Tv} : fV (setV F t v) t = v := if_pos rfl
def hrF (L : Ld) (F : Fs) (t : Nat) (f : Tv → Tv) : Fs := (fW F, fH F, fT F, fun u => if u < t then f (fV F u) else fV F u)
theorem hrF_s {L : Ld} {F : Fs} {t : Nat} {f : Tv → Tv} : setV (hrF L F t f) t (f (fV F t)) = hrF L F (t + 1) f := by
  have e : (fun u => if u = t then f (fV F t) else (if u < t then f (fV F u) else fV F u)) = fun u => if u < t + 1 then f (fV F u) else fV F u := by
    funext u
    by_cases q : u = t
    · rw [if_pos q, if_pos (by omega), q]
    · rw [if_neg q]
      by_cases z : u < t
      · rw [if_pos z, if_pos (by omega)]
      · rw [if_neg z, if_neg (by omega)]
  show (fW F, fH F, fT F, fun u => if u = t then f (fV F t) else (if u < t then f (fV F u) else fV F u)) = _
  rw [e]
  rfl

set_option maxRecDepth 100000 in
theorem m_copies_loop {σ : List mC} {I : mI} {r0 r1 n0 n1 i j m : Nat} (hI : Nrm I) (h0 : σ[r0]? = some (.inr (.inl n0))) (h1 : σ[r1]? = some (.inr (.inl n1))) (hne : r0 ≠ r1) (hi : i + m ≤ n0) (hj : j + m ≤ n1) (hn0 : n0 < 100000) (hn1 : n1 < 100000) : ∀ (n k : Nat), m - k < n → k ≤ m → mRun mZt mX9_copies 3 [some (mr r0), some (mi (i : Int)), some (mr r1), some (mi (j : Int)), some (mi (m : Int)), some (mi (k : Int))] [] (σ, mcp I r1 r0 i j k) (fun v h => v = none ∧ h = (σ, mcp I r1 r0 i j m)) := by
  intro n
  induction n with
  | zero => intro k h; omega
  | succ n ih =>
    intro k hn hk
    refine mRun.go (q_iload dX9_copies_3 rfl) ?_
    refine mRun.go (q_iload dX9_copies_5 rfl) ?_
    refine r_icmp_ge (tgt := 28) dX9_copies_7 (by decide) (by omega) (by omega) (fun c7 => ?_) (fun c7 => ?_)
    · refine r_ret dX9_copies_28 rfl ?_
      have hkm : k = m := by omega
      subst hkm
      exact ⟨rfl, rfl⟩
    · refine mRun.go (q_aload_n dX9_copies_10 rfl rfl) ?_
      refine mRun.go (q_iload_n dX9_copies_11 rfl rfl) ?_
      refine mRun.go (q_iload dX9_copies_12 rfl) ?_
      refine mRun.go (q_iadd dX9_copies_14) ?_
      refine mRun.go (q_aload_n dX9_copies_15 rfl rfl) ?_
      refine mRun.go (q_iload_n dX9_copies_16 rfl rfl) ?_
      refine mRun.go (q_iload dX9_copies_17 rfl) ?_
      refine mRun.go (q_iadd dX9_copies_19) ?_
      refine mRun.go (q_ialdE (x := I r0 (i + k)) dX9_copies_20 h0 (by omega) (by omega) (by rw [show ((i : Int) + (k : Int)).toNat = i + k by omega, mcp_ne hne])) ?_
      refine mRun.go (q_iast dX9_copies_21 h1 (by omega) (by omega)) ?_
      refine mRun.go (q_iinc (ls' := [some (mr r0), some (mi (i : Int)), some (mr r1), some (mi (j : Int)), some (mi (m : Int)), some (mi ((k : Int) + 1))]) dX9_copies_22 rfl (Nat.le_of_ble_eq_true rfl) rfl) ?_
      refine mRun.go (q_goto (tgt := 3) dX9_copies_25 (by decide)) ?_
      have e1 : ((k : Int) + 1) = ((k + 1 : Nat) : Int) := by omega
      rw [e1, show ((j : Int) + (k : Int)).toNat = j + k by omega, mcp_s hne]
      exact ih (k + 1) (by omega) (by omega)

set_option maxRecDepth 100000 in
theorem m_copies {σ : List mC} {I : mI} {r0 r1 n0 n1 i j m : Nat} (hI : Nrm I) (h0 : σ[r0]? = some (.inr (.inl n0))) (h1 : σ[r1]? = some (.inr (.inl n1))) (hne : r0 ≠ r1) (hi : i + m ≤ n0) (hj : j + m ≤ n1) (hn0 : n0 < 100000) (hn1 : n1 < 100000)  : mCt mX9_copies [mr r0, mi (i : Int), mr r1, mi (j : Int), mi (m : Int)] (σ, I) none (σ, mcp I r1 r0 i j m) := by
  refine mCt.eq ?_
  refine mMt.of pl_9 (Nat.le_of_ble_eq_true rfl) ?_
  show mRun mZt mX9_copies 0 [some (mr r0), some (mi (i : Int)), some (mr r1), some (mi (j : Int)), some (mi (m : Int)), none] [] (σ, I) _
  refine mRun.go (q_iconst dX9_copies_0) ?_
  refine mRun.go (q_istore (ls' := [some (mr r0), some (mi (i : Int)), some (mr r1), some (mi (j : Int)), some (mi (m : Int)), some (mi 0)]) dX9_copies_1 (Nat.le_of_ble_eq_true rfl) rfl) ?_
  have h := m_copies_loop hI h0 h1 hne hi hj hn0 hn1 (m + 1) 0 (by omega) (by omega)
  rw [mcp_0] at h
  exact h

set_option maxRecDepth 100000 in
theorem m_sends {σ : List mC} {I : mI} {L : Ld} (hI : Nrm I) (hL : LdOk L) {a : Nat} {F : Fs} (ha : σ[a]? = some (.inr (.inl 170))) (hF : FRM I a 0 L F) {t : Nat} {y : Int} (ht : (t : Int) < lTv L) (hv : TvM (lP L) (lD L) (fV F t)) (hy : -1000 ≤ y ∧ y < 1000) : mMt mX9_sends [mr a, mi (t : Int), mi y] (σ, I) (fun v h => v = none ∧ ∃ K, h = (σ, K) ∧ Nrm K ∧ (∀ r, r ≠ a → K r = I r) ∧ FRM K a 0 L (setV F t (goToT (fV F t) y))) := by
  refine mMt.of pl_9 (Nat.le_of_ble_eq_true rfl) ?_
  show mRun mZt mX9_sends 0 [some (mr a), some (mi (t : Int)), some (mi y)] [] (σ, I) _
  have hpr := lp_rng hL
  have hdr := hL.2.2.1
  have hnt := hL.2.2.2.1
  have h6 := tv6i (hF.2.2.2 t ht)
  obtain ⟨v1, v2, v3, v4, v5, v6⟩ := id hv
  refine mRun.go (q_aload_n dX9_sends_0 rfl rfl) ?_
  refine mRun.go (q_sipush dX9_sends_1 (by decide)) ?_
  refine mRun.go (q_iload_n dX9_sends_4 rfl rfl) ?_
  refine mRun.go (q_iadd dX9_sends_5) ?_
  refine mRun.go (q_iload_n dX9_sends_6 rfl rfl) ?_
  refine mRun.go (q_iast dX9_sends_7 ha (by omega) (by omega)) ?_
  refine mRun.go (q_aload_n dX9_sends_8 rfl rfl) ?_
  refine mRun.go (q_sipush dX9_sends_9 (by decide)) ?_
  refine mRun.go (q_iload_n dX9_sends_12 rfl rfl) ?_
  refine mRun.go (q_iadd dX9_sends_13) ?_
  refine mRun.go (q_aload_n dX9_sends_14 rfl rfl) ?_
  refine mRun.go (q_sipush dX9_sends_15 (by decide)) ?_
  refine mRun.go (q_iload_n dX9_sends_18 rfl rfl) ?_
  refine mRun.go (q_iadd dX9_sends_19) ?_
  refine mRun.go (q_ialdE (x := (fV F t).2.2.2.2.2) dX9_sends_20 ha (by omega) (by omega) (by rw [mup_ne2 (by omega)]; exact h6.2.2.2.2.2)) ?_
  refine r_if_ne (tgt := 39) dX9_sends_21 (by decide) (by omega) (fun c21 => ?_) (fun c21 => ?_)
  · refine mRun.go (q_iconst dX9_sends_39) ?_
    refine mRun.go (q_iast dX9_sends_40 ha (by omega) (by omega)) ?_
    refine r_ret dX9_sends_41 rfl ?_
    have hvv : tvM (mup (mup I a ((150 + (t : Int)).toNat) y) a ((158 + (t : Int)).toNat) 0) a 0 t = ((fV F t).1, y, (fV F t).2.2.1, 0, (fV F t).2.2.2.2.1, (fV F t).2.2.2.2.2) := tv6 (by exact (by rw [mup_ne2 (by omega), mup_ne2 (by omega)]; exact h6.1)) (by exact (by rw [mup_ne2 (by omega), mup_self])) (by exact (by rw [mup_ne2 (by omega), mup_ne2 (by omega)]; exact h6.2.2.1)) (by exact (by rw [mup_self])) (by exact (by rw [mup_ne2 (by omega), mup_ne2 (by omega)]; exact h6.2.2.2.2.1)) (by exact (by rw [mup_ne2 (by omega), mup_ne2 (by omega)]; exact h6.2.2.2.2.2))
    have he : goToT (fV F t) y = ((fV F t).1, y, (fV F t).2.2.1, 0, (fV F t).2.2.2.2.1, (fV F t).2.2.2.2.2) := by unfold goToT; first | (rw [if_pos (by omega)]; done) | (rw [if_neg (by omega)]; done)
    refine ⟨rfl, mup (mup I a ((150 + (t : Int)).toNat) y) a ((158 + (t : Int)).toNat) 0, rfl, (nrm_mup (nrm_mup hI (by omega)) (by omega)), fun r q => ?_, ?_⟩
    · rw [mup_nf q, mup_nf q]
    · rw [he]
      exact frm_setV hF hL ht (fun k hk n0 n1 n2 n3 n4 n5 => by rw [mup_ne2 (by assumption), mup_ne2 (by assumption)]) hvv
  · refine mRun.go (q_aload_n dX9_sends_24 rfl rfl) ?_
    refine mRun.go (q_sipush dX9_sends_25 (by decide)) ?_
    refine mRun.go (q_iload_n dX9_sends_28 rfl rfl) ?_
    refine mRun.go (q_iadd dX9_sends_29) ?_
    refine mRun.go (q_ialdE (x := (fV F t).1) dX9_sends_30 ha (by omega) (by omega) (by rw [mup_ne2 (by omega)]; exact h6.1)) ?_
    refine mRun.go (q_iload_n dX9_sends_31 rfl rfl) ?_
    refine r_icmp_ne (tgt := 39) dX9_sends_32 (by decide) (by omega) (by omega) (fun c32 => ?_) (fun c32 => ?_)
    · refine mRun.go (q_iconst dX9_sends_39) ?_
      refine mRun.go (q_iast dX9_sends_40 ha (by omega) (by omega)) ?_
      refine r_ret dX9_sends_41 rfl ?_
      have hvv : tvM (mup (mup I a ((150 + (t : Int)).toNat) y) a ((158 + (t : Int)).toNat) 0) a 0 t = ((fV F t).1, y, (fV F t).2.2.1, 0, (fV F t).2.2.2.2.1, (fV F t).2.2.2.2.2) := tv6 (by exact (by rw [mup_ne2 (by omega), mup_ne2 (by omega)]; exact h6.1)) (by exact (by rw [mup_ne2 (by omega), mup_self])) (by exact (by rw [mup_ne2 (by omega), mup_ne2 (by omega)]; exact h6.2.2.1)) (by exact (by rw [mup_self])) (by exact (by rw [mup_ne2 (by omega), mup_ne2 (by omega)]; exact h6.2.2.2.2.1)) (by exact (by rw [mup_ne2 (by omega), mup_ne2 (by omega)]; exact h6.2.2.2.2.2))
      have he : goToT (fV F t) y = ((fV F t).1, y, (fV F t).2.2.1, 0, (fV F t).2.2.2.2.1, (fV F t).2.2.2.2.2) := by unfold goToT; first | (rw [if_pos (by omega)]; done) | (rw [if_neg (by omega)]; done)
      refine ⟨rfl, mup (mup I a ((150 + (t : Int)).toNat) y) a ((158 + (t : Int)).toNat) 0, rfl, (nrm_mup (nrm_mup hI (by omega)) (by omega)), fun r q => ?_, ?_⟩
      · rw [mup_nf q, mup_nf q]
      · rw [he]
        exact frm_setV hF hL ht (fun k hk n0 n1 n2 n3 n4 n5 => by rw [mup_ne2 (by assumption), mup_ne2 (by assumption)]) hvv
    · refine mRun.go (q_iconst dX9_sends_35) ?_
      refine mRun.go (q_goto (tgt := 40) dX9_sends_36 (by decide)) ?_
      refine mRun.go (q_iast dX9_sends_40 ha (by omega) (by omega)) ?_
      refine r_ret dX9_sends_41 rfl ?_
      have hvv : tvM (mup (mup I a ((150 + (t : Int)).toNat) y) a ((158 + (t : Int)).toNat) 1) a 0 t = ((fV F t).1, y, (fV F t).2.2.1, 1, (fV F t).2.2.2.2.1, (fV F t).2.2.2.2.2) := tv6 (by exact (by rw [mup_ne2 (by omega), mup_ne2 (by omega)]; exact h6.1)) (by exact (by rw [mup_ne2 (by omega), mup_self])) (by exact (by rw [mup_ne2 (by omega), mup_ne2 (by omega)]; exact h6.2.2.1)) (by exact (by rw [mup_self])) (by exact (by rw [mup_ne2 (by omega), mup_ne2 (by omega)]; exact h6.2.2.2.2.1)) (by exact (by rw [mup_ne2 (by omega), mup_ne2 (by omega)]; exact h6.2.2.2.2.2))
      have he : goToT (fV F t) y = ((fV F t).1, y, (fV F t).2.2.1, 1, (fV F t).2.2.2.2.1, (fV F t).2.2.2.2.2) := by unfold goToT; first | (rw [if_pos (by omega)]; done) | (rw [if_neg (by omega)]; done)
      refine ⟨rfl, mup (mup I a ((150 + (t : Int)).toNat) y) a ((158 + (t : Int)).toNat) 1, rfl, (nrm_mup (nrm_mup hI (by omega)) (by omega)), fun r q => ?_, ?_⟩
      · rw [mup_nf q, mup_nf q]
      · rw [he]
        exact frm_setV hF hL ht (fun k hk n0 n1 n2 n3 n4 n5 => by rw [mup_ne2 (by assumption), mup_ne2 (by assumption)]) hvv

set_option maxRecDepth 100000 in
theorem m_manyOf_loop {σ : List mC} {I : mI} {L : Ld} (hI : Nrm I) (hD : IsMd σ) (hL : LdOk L) (hLR : LRM I L) {a : Nat} {F : Fs} (ha : σ[a]? = some (.inr (.inl 170))) (hF : FRM I a 0 L F) (ha2 : a = 147 ∨ a = 148) (hN : I 144 5 = lTv L) {s : Int} (hs : -2147483648 ≤ s ∧ s < 2147483648) (hv : ∀ t : Nat, (t : Int) < lTv L → TvM (lP L) (lD L) (fV F t)) : ∀ (n t : Nat), (lTv L).toNat - t < n → t ≤ (lTv L).toNat → mRun mZt mX9_manyOf 5 [some (mr 144), some (mr a), some (mi s), some (mi (cntB (fun t => decide ((fV F t).2.2.2.1 = s)) t)), some (mi (t : Int))] [] (σ, I) (fun v h => v = some (mi (manyS L F s)) ∧ h = (σ, I)) := by
  intro n
  induction n with
  | zero => intro t h; omega
  | succ n ih =>
    intro t hn ht0
    have hpr := lp_rng hL
    have hqe := lq_eq hL
    have hwr := hL.2.1
    have hrr := hL.1
    have hdr := hL.2.2.1
    have hnt := hL.2.2.2.1
    have hcr := cntB_rng (fun t => decide ((fV F t).2.2.2.1 = s)) t
    refine mRun.go (q_iload dX9_manyOf_5 rfl) ?_
    refine mRun.go (q_aload_n dX9_manyOf_7 rfl rfl) ?_
    refine mRun.go (q_getE (x := lTv L) dX9_manyOf_8 fo_X9_94 hD.1 rfl hN) ?_
    refine r_icmp_ge (tgt := 40) dX9_manyOf_11 (by decide) (by omega) (by omega) (fun c11 => ?_) (fun c11 => ?_)
    · refine mRun.go (q_iload_n dX9_manyOf_40 rfl rfl) ?_
      refine r_iret dX9_manyOf_41 rfl ?_
      have hte : t = (lTv L).toNat := by omega
      subst hte
      exact ⟨rfl, rfl⟩
    · refine mRun.go (q_iload_n dX9_manyOf_14 rfl rfl) ?_
      refine mRun.go (q_aload_n dX9_manyOf_15 rfl rfl) ?_
      refine mRun.go (q_sipush dX9_manyOf_16 (by decide)) ?_
      refine mRun.go (q_iload dX9_manyOf_19 rfl) ?_
      refine mRun.go (q_iadd dX9_manyOf_21) ?_
      refine mRun.go (q_ialdE (x := (fV F t).2.2.2.1) dX9_manyOf_22 ha (by omega) (by omega) (tv6i (hF.2.2.2 t (by omega))).2.2.2.1) ?_
      refine mRun.go (q_iload_n dX9_manyOf_23 rfl rfl) ?_
      have j24 : ∀ {post : Option mV → mH → Prop}, mRun mZt mX9_manyOf 32 [some (mr 144), some (mr a), some (mi s), some (mi (cntB (fun t => decide ((fV F t).2.2.2.1 = s)) t)), some (mi (t : Int))] [mi (if decide ((fV F t).2.2.2.1 = s) = true then 1 else 0), mi (cntB (fun t => decide ((fV F t).2.2.2.1 = s)) t)] (σ, I) post → mRun mZt mX9_manyOf 24 [some (mr 144), some (mr a), some (mi s), some (mi (cntB (fun t => decide ((fV F t).2.2.2.1 = s)) t)), some (mi (t : Int))] [mi s, mi ((fV F t).2.2.2.1), mi (cntB (fun t => decide ((fV F t).2.2.2.1 = s)) t)] (σ, I) post := by
        intro post k
        refine r_icmp_ne (tgt := 31) dX9_manyOf_24 (by decide) (by have := (hv t (by omega)).2.2.2.1; omega) hs (fun c24 => ?_) (fun c24 => ?_)
        · refine mRun.go (q_iconst dX9_manyOf_31) ?_
          first | (rw [if_pos (decide_eq_true (Classical.not_not.mp c24))] at k; exact k) | (rw [if_neg (fun q => c24 (of_decide_eq_true q))] at k; exact k)
        · refine mRun.go (q_iconst dX9_manyOf_27) ?_
          refine mRun.go (q_goto (tgt := 32) dX9_manyOf_28 (by decide)) ?_
          first | (rw [if_pos (decide_eq_true (Classical.not_not.mp c24))] at k; exact k) | (rw [if_neg (fun q => c24 (of_decide_eq_true q))] at k; exact k)
      refine j24 ?_
      refine mRun.go (q_iadd dX9_manyOf_32) ?_
      refine mRun.go (q_istore_n (ls' := [some (mr 144), some (mr a), some (mi s), some (mi ((cntB (fun t => decide ((fV F t).2.2.2.1 = s)) t) + (if decide ((fV F t).2.2.2.1 = s) = true then 1 else 0))), some (mi (t : Int))]) dX9_manyOf_33 rfl (Nat.le_of_ble_eq_true rfl) rfl) ?_
      refine mRun.go (q_iinc (ls' := [some (mr 144), some (mr a), some (mi s), some (mi ((cntB (fun t => decide ((fV F t).2.2.2.1 = s)) t) + (if decide ((fV F t).2.2.2.1 = s) = true then 1 else 0))), some (mi ((t : Int) + 1))]) dX9_manyOf_34 rfl (Nat.le_of_ble_eq_true rfl) rfl) ?_
      refine mRun.go (q_goto (tgt := 5) dX9_manyOf_37 (by decide)) ?_
      have e1 : ((t : Int) + 1) = ((t + 1 : Nat) : Int) := by omega
      rw [e1]
      exact ih (t + 1) (by omega) (by omega)

set_option maxRecDepth 100000 in
theorem m_manyOf {σ : List mC} {I : mI} {L : Ld} (hI : Nrm I) (hD : IsMd σ) (hL : LdOk L) (hLR : LRM I L) {a : Nat} {F : Fs} (ha : σ[a]? = some (.inr (.inl 170))) (hF : FRM I a 0 L F) (ha2 : a = 147 ∨ a = 148) (hN : I 144 5 = lTv L) {s : Int} (hs : -2147483648 ≤ s ∧ s < 2147483648) (hv : ∀ t : Nat, (t : Int) < lTv L → TvM (lP L) (lD L) (fV F t))  : mCt mX9_manyOf [mr 144, mr a, mi s] (σ, I) (some (mi (manyS L F s))) (σ, I) := by
  refine mCt.eq ?_
  refine mMt.of pl_9 (Nat.le_of_ble_eq_true rfl) ?_
  show mRun mZt mX9_manyOf 0 [some (mr 144), some (mr a), some (mi s), none, none] [] (σ, I) _
  refine mRun.go (q_iconst dX9_manyOf_0) ?_
  refine mRun.go (q_istore_n (ls' := [some (mr 144), some (mr a), some (mi s), some (mi 0), none]) dX9_manyOf_1 rfl (Nat.le_of_ble_eq_true rfl) rfl) ?_
  refine mRun.go (q_iconst dX9_manyOf_2) ?_
  refine mRun.go (q_istore (ls' := [some (mr 144), some (mr a), some (mi s), some (mi 0), some (mi 0)]) dX9_manyOf_3 (Nat.le_of_ble_eq_true rfl) rfl) ?_
  exact m_manyOf_loop hI hD hL hLR ha hF ha2 hN hs hv ((lTv L).toNat + 1) 0 (by omega) (by omega)

set_option maxRecDepth 100000 in
theorem m_hour_loop {σ : List mC} {I : mI} {L : Ld} (hI : Nrm I) (hD : IsMd σ) (hL : LdOk L) (hLR : LRM I L) {a : Nat} {F : Fs} (ha : σ[a]? = some (.inr (.inl 170))) (hF : FRM I a 0 L F) (ha2 : a = 147 ∨ a = 148) (hN : I 144 5 = lTv L) (hw : 0 ≤ fW F ∧ fW F ≤ 3) (hh : 0 ≤ fH F ∧ fH F ≤ 2000000000) (hv : ∀ t : Nat, (t : Int) < lTv L → TvM (lP L) (lD L) (fV F t)) : ∀ (n t : Nat) (K : mI), (lTv L).toNat - t < n → t ≤ (lTv L).toNat → Nrm K → (∀ r, r ≠ 159 → r ≠ a → K r = I r) → FRM K a 0 L (hrF L F t (stp L (fT F) (fW F))) → mRun mZt mX9_hourGoes 2 [some (mr 144), some (mr a), some (mi (t : Int))] [] (σ, K) (fun v h => v = none ∧ ∃ K, h = (σ, K) ∧ Nrm K ∧ (∀ r, r ≠ 159 → r ≠ a → K r = I r) ∧ FRM K a 0 L (hourF L F)) := by
  intro n
  induction n with
  | zero => intro t K h; omega
  | succ n ih =>
    intro t K hn ht0 hK hfr hFK
    have hpr := lp_rng hL
    have hqe := lq_eq hL
    have hwr := hL.2.1
    have hrr := hL.1
    have hdr := hL.2.2.1
    have hnt := hL.2.2.2.1
    refine mRun.go (q_iload_n dX9_hourGoes_2 rfl rfl) ?_
    refine mRun.go (q_aload_n dX9_hourGoes_3 rfl rfl) ?_
    refine mRun.go (q_getE (x := lTv L) dX9_hourGoes_4 fo_X9_94 hD.1 rfl (by rw [hfr 144 (by decide) (by omega)]; exact hN)) ?_
    refine r_icmp_ge (tgt := 22) dX9_hourGoes_7 (by decide) (by omega) (by omega) (fun c7 => ?_) (fun c7 => ?_)
    · refine mRun.go (q_aload_n dX9_hourGoes_22 rfl rfl) ?_
      refine mRun.go (q_iconst dX9_hourGoes_23) ?_
      refine mRun.go (q_dup2 dX9_hourGoes_24 rfl rfl) ?_
      refine mRun.go (q_ialdE (x := fH F) dX9_hourGoes_25 ha (by omega) (by omega) (by exact hFK.2.1)) ?_
      refine mRun.go (q_iconst dX9_hourGoes_26) ?_
      refine mRun.go (q_iadd dX9_hourGoes_27) ?_
      refine mRun.go (q_iast dX9_hourGoes_28 ha (by omega) (by omega)) ?_
      refine r_ret dX9_hourGoes_29 rfl ?_
      have hte : (t : Int) = lTv L := by omega
      refine ⟨rfl, _, rfl, nrm_mup hK (by omega), fun r p q => (mup_nf q).trans (hfr r p q), ?_⟩
      have e9 : hourF L F = (fW F, fH F + 1, fT F, fV (hrF L F t (stp L (fT F) (fW F)))) := by
        have e : (fun u : Nat => if (u : Int) < lTv L then stp L (fT F) (fW F) (fV F u) else fV F u) = fun u => if u < t then stp L (fT F) (fW F) (fV F u) else fV F u := by
          funext u
          by_cases q : u < t
          · rw [if_pos q, if_pos (by omega)]
          · rw [if_neg q, if_neg (by omega)]
        show (fW F, fH F + 1, fT F, fun u : Nat => if (u : Int) < lTv L then stp L (fT F) (fW F) (fV F u) else fV F u) = _
        rw [e]
        rfl
      rw [e9]
      refine ⟨by rw [mup_ne2 (by decide)]; exact hFK.1, mup_self, fun d x p q r s => by rw [mup_ne2 (by omega)]; exact hFK.2.2.1 d x p q r s, fun u hu => ?_⟩
      rw [← hFK.2.2.2 u hu]
      unfold tvM
      rw [mup_ne2 (by omega), mup_ne2 (by omega), mup_ne2 (by omega), mup_ne2 (by omega), mup_ne2 (by omega), mup_ne2 (by omega)]
    · refine mRun.go (q_aload_n dX9_hourGoes_10 rfl rfl) ?_
      refine mRun.go (q_aload_n dX9_hourGoes_11 rfl rfl) ?_
      refine mRun.go (q_iload_n dX9_hourGoes_12 rfl rfl) ?_
      have hLRK : LRM K L := hLR.fr (by rw [hfr 144 (by decide) (by omega)]) (by rw [hfr 144 (by decide) (by omega)]) (by rw [hfr 144 (by decide) (by omega)]) (by rw [hfr 144 (by decide) (by omega)]) (hfr 145 (by decide) (by omega)) (hfr 146 (by decide) (by omega))
      have hft : fV (hrF L F t (stp L (fT F) (fW F))) t = fV F t := if_neg (Nat.lt_irrefl t)
      obtain ⟨v0, h0, hc0, rfl, J, rfl, hJ, hfJ, hFJ⟩ := m_oneGoes (t := t) hK hD hL hLRK ha hFK ha2 (by omega) hw (by rw [hft]; exact hv t (by omega))
      rw [hft] at hFJ
      have hFJ2 : FRM J a 0 L (hrF L F (t + 1) (stp L (fT F) (fW F))) := by rw [← hrF_s]; exact hFJ
      refine mRun.go (q_callVv (r := 144) [mr a, mi (t : Int)] [] dX9_hourGoes_13 co_X9_214 ⟨Nat.le_of_ble_eq_true rfl, Nat.le_of_ble_eq_true rfl⟩ gw_1000 gs_49 rfl hD.1 rfl rfl rfl (Nat.le_of_ble_eq_true rfl) hc0) ?_
      refine mRun.go (q_iinc (ls' := [some (mr 144), some (mr a), some (mi ((t : Int) + 1))]) dX9_hourGoes_16 rfl (Nat.le_of_ble_eq_true rfl) rfl) ?_
      refine mRun.go (q_goto (tgt := 2) dX9_hourGoes_19 (by decide)) ?_
      have e1 : ((t : Int) + 1) = ((t + 1 : Nat) : Int) := by omega
      rw [e1]
      exact ih (t + 1) J (by omega) (by omega) hJ (fun r p q => (hfJ r p q).trans (hfr r p q)) hFJ2

set_option maxRecDepth 100000 in
theorem m_hourGoes {σ : List mC} {I : mI} {L : Ld} (hI : Nrm I) (hD : IsMd σ) (hL : LdOk L) (hLR : LRM I L) {a : Nat} {F : Fs} (ha : σ[a]? = some (.inr (.inl 170))) (hF : FRM I a 0 L F) (ha2 : a = 147 ∨ a = 148) (hN : I 144 5 = lTv L) (hw : 0 ≤ fW F ∧ fW F ≤ 3) (hh : 0 ≤ fH F ∧ fH F ≤ 2000000000) (hv : ∀ t : Nat, (t : Int) < lTv L → TvM (lP L) (lD L) (fV F t))  : mMt mX9_hourGoes [mr 144, mr a] (σ, I) (fun v h => v = none ∧ ∃ K, h = (σ, K) ∧ Nrm K ∧ (∀ r, r ≠ 159 → r ≠ a → K r = I r) ∧ FRM K a 0 L (hourF L F)) := by
  refine mMt.of pl_9 (Nat.le_of_ble_eq_true rfl) ?_
  show mRun mZt mX9_hourGoes 0 [some (mr 144), some (mr a), none] [] (σ, I) _
  refine mRun.go (q_iconst dX9_hourGoes_0) ?_
  refine mRun.go (q_istore_n (ls' := [some (mr 144), some (mr a), some (mi 0)]) dX9_hourGoes_1 rfl (Nat.le_of_ble_eq_true rfl) rfl) ?_
  exact m_hour_loop hI hD hL hLR ha hF ha2 hN hw hh hv ((lTv L).toNat + 1) 0 I (by omega) (by omega) hI (fun _ _ _ => rfl) hF

set_option maxRecDepth 100000 in
theorem m_until_loop {σ : List mC} {I : mI} {L : Ld} (hI : Nrm I) (hD : IsMd σ) (hL : LdOk L) (hLR : LRM I L) {F : Fs} (hF : FRM I 148 0 L F) {t : Nat} (ht : (t : Int) < lTv L) (hw : 0 ≤ fW F ∧ fW F ≤ 3) (hv : TvM (lP L) (lD L) (fV F t)) {s : Int} (hs : -2147483648 ≤ s ∧ s < 2147483648) {A : Int} : ∀ (n m : Nat) (K : mI) (v : Tv), 61 - m < n → m ≤ 61 → Nrm K → (∀ r, r ≠ 159 → r ≠ 148 → K r = I r) → FRM K 148 0 L (setV F t v) → TvM (lP L) (lD L) v → (v.2.2.1 = (fV F t).2.2.1 ∧ v.2.1 = (fV F t).2.1) → untl (sfx L (fT F) (fW F) (fV F t).2.2.1 (fV F t).2.1) s (61 - m) m v = A → mRun mZt mX9_untilSo 2 [some (mr 144), some (mi (t : Int)), some (mi s), some (mi (m : Int))] [] (σ, K) (fun v h => v = some (mi A) ∧ ∃ K, h = (σ, K) ∧ Nrm K ∧ (∀ r, r ≠ 159 → r ≠ 148 → K r = I r)) := by
  intro n
  induction n with
  | zero => intro m K v h; omega
  | succ n ih =>
    intro m K v hn hm hK hfr hFK hvk hdg hA
    have hpr := lp_rng hL
    have hqe := lq_eq hL
    have hwr := hL.2.1
    have hrr := hL.1
    have hdr := hL.2.2.1
    have hnt := hL.2.2.2.1
    refine mRun.go (q_iload_n dX9_untilSo_2 rfl rfl) ?_
    refine mRun.go (q_bipush dX9_untilSo_3 (by decide)) ?_
    refine r_icmp_ge (tgt := 39) dX9_untilSo_5 (by decide) (by omega) (by omega) (fun c5 => ?_) (fun c5 => ?_)
    · refine mRun.go (q_bipush dX9_untilSo_39 (by decide)) ?_
      refine r_iret dX9_untilSo_41 rfl ?_
      have e2 : untl (sfx L (fT F) (fW F) (fV F t).2.2.1 (fV F t).2.1) s (61 - m) m v = -4 := by rw [show 61 - m = 0 by omega]; rfl
      exact ⟨by rw [← hA, e2], K, rfl, hK, hfr⟩
    · refine mRun.go (q_aload_n dX9_untilSo_8 rfl rfl) ?_
      refine mRun.go (q_getR dX9_untilSo_9 fo_X9_19 hD.1 rfl) ?_
      refine mRun.go (q_sipush dX9_untilSo_12 (by decide)) ?_
      refine mRun.go (q_iload_n dX9_untilSo_15 rfl rfl) ?_
      refine mRun.go (q_iadd dX9_untilSo_16) ?_
      refine mRun.go (q_ialdE (x := v.2.2.2.1) dX9_untilSo_17 hD.2.2.2.2.1 (by omega) (by omega) (by have h := (tv6i (hFK.2.2.2 t ht)).2.2.2.1; rw [setV_at] at h; exact h)) ?_
      refine mRun.go (q_iload_n dX9_untilSo_18 rfl rfl) ?_
      refine r_icmp_ne (tgt := 24) dX9_untilSo_19 (by decide) (by have := hvk.2.2.2.1; omega) hs (fun c19 => ?_) (fun c19 => ?_)
      · refine mRun.go (q_aload_n dX9_untilSo_24 rfl rfl) ?_
        refine mRun.go (q_aload_n dX9_untilSo_25 rfl rfl) ?_
        refine mRun.go (q_getR dX9_untilSo_26 fo_X9_19 hD.1 rfl) ?_
        refine mRun.go (q_iload_n dX9_untilSo_29 rfl rfl) ?_
        have hLRK : LRM K L := hLR.fr (by rw [hfr 144 (by decide) (by decide)]) (by rw [hfr 144 (by decide) (by decide)]) (by rw [hfr 144 (by decide) (by decide)]) (by rw [hfr 144 (by decide) (by decide)]) (hfr 145 (by decide) (by decide)) (hfr 146 (by decide) (by decide))
        obtain ⟨v0, h0, hc0, rfl, J, rfl, hJ, hfJ, hFJ⟩ := m_oneGoes (t := t) hK hD hL hLRK hD.2.2.2.2.1 hFK (Or.inr rfl) ht hw (by rw [setV_at]; exact hvk)
        rw [setV_at, setV_setV] at hFJ
        have hst : stp L (fT (setV F t v)) (fW (setV F t v)) v = (sfx L (fT F) (fW F) (fV F t).2.2.1 (fV F t).2.1) v := by show sfx L (fT F) (fW F) v.2.2.1 v.2.1 v = _; rw [hdg.1, hdg.2]
        rw [hst] at hFJ
        refine mRun.go (q_callVv (r := 144) [mr 148, mi (t : Int)] [] dX9_untilSo_30 co_X9_214 ⟨Nat.le_of_ble_eq_true rfl, Nat.le_of_ble_eq_true rfl⟩ gw_1000 gs_49 rfl hD.1 rfl rfl rfl (Nat.le_of_ble_eq_true rfl) hc0) ?_
        refine mRun.go (q_iinc (ls' := [some (mr 144), some (mi (t : Int)), some (mi s), some (mi ((m : Int) + 1))]) dX9_untilSo_33 rfl (Nat.le_of_ble_eq_true rfl) rfl) ?_
        refine mRun.go (q_goto (tgt := 2) dX9_untilSo_36 (by decide)) ?_
        have e1 : ((m : Int) + 1) = ((m + 1 : Nat) : Int) := by omega
        rw [e1]
        have e2 : untl (sfx L (fT F) (fW F) (fV F t).2.2.1 (fV F t).2.1) s (61 - m) m v = untl (sfx L (fT F) (fW F) (fV F t).2.2.1 (fV F t).2.1) s (61 - (m + 1)) ((m + 1 : Nat) : Int) ((sfx L (fT F) (fW F) (fV F t).2.2.1 (fV F t).2.1) v) := by
          rw [show 61 - m = (61 - (m + 1)) + 1 by omega]
          simp only [untl]
          rw [if_neg c19, ← e1]
        have hdg2 := @stepM_dg (hpS L (fT F) (fW F) (fV F t).2.2.1 (fV F t).2.1) (lG L) (fW F) v
        exact ih (m + 1) J ((sfx L (fT F) (fW F) (fV F t).2.2.1 (fV F t).2.1) v) (by omega) (by omega) hJ (fun r p q => (hfJ r p q).trans (hfr r p q)) hFJ (sfx_ok hL hvk) ⟨hdg2.2.trans hdg.1, hdg2.1.trans hdg.2⟩ (e2.symm.trans hA)
      · refine mRun.go (q_iload_n dX9_untilSo_22 rfl rfl) ?_
        refine r_iret dX9_untilSo_23 rfl ?_
        have e2 : untl (sfx L (fT F) (fW F) (fV F t).2.2.1 (fV F t).2.1) s (61 - m) m v = (m : Int) := by
          rw [show 61 - m = (61 - (m + 1)) + 1 by omega]
          simp only [untl]
          rw [if_pos (Classical.not_not.mp c19)]
        exact ⟨by rw [← hA, e2], K, rfl, hK, hfr⟩

set_option maxRecDepth 100000 in
theorem m_untilSo {σ : List mC} {I : mI} {L : Ld} (hI : Nrm I) (hD : IsMd σ) (hL : LdOk L) (hLR : LRM I L) {F : Fs} (hF : FRM I 148 0 L F) {t : Nat} (ht : (t : Int) < lTv L) (hw : 0 ≤ fW F ∧ fW F ≤ 3) (hv : TvM (lP L) (lD L) (fV F t)) {s : Int} (hs : -2147483648 ≤ s ∧ s < 2147483648)  : mMt mX9_untilSo [mr 144, mi (t : Int), mi s] (σ, I) (fun v h => v = some (mi (ansU L (fT F) (fW F) s (fV F t))) ∧ ∃ K, h = (σ, K) ∧ Nrm K ∧ (∀ r, r ≠ 159 → r ≠ 148 → K r = I r)) := by
  refine mMt.of pl_9 (Nat.le_of_ble_eq_true rfl) ?_
  show mRun mZt mX9_untilSo 0 [some (mr 144), some (mi (t : Int)), some (mi s), none] [] (σ, I) _
  refine mRun.go (q_iconst dX9_untilSo_0) ?_
  refine mRun.go (q_istore_n (ls' := [some (mr 144), some (mi (t : Int)), some (mi s), some (mi 0)]) dX9_untilSo_1 rfl (Nat.le_of_ble_eq_true rfl) rfl) ?_
  exact m_until_loop hI hD hL hLR hF ht hw hv hs 62 0 I (fV F t) (by omega) (by omega) hI (fun _ _ _ => rfl) (by rw [setV_self rfl]; exact hF) hv ⟨rfl, rfl⟩ rfl
