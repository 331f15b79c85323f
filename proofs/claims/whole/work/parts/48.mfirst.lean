/-! ===== the reference: first places, hours of travellers ===== -/
theorem bell_pt {P g : Nat} {nb : Nat → Nat → Int} {e a b : Nat → Int} (hn : ∀ x, x < P → ∀ s, s < 4 → nb x s = -4 ∨ (0 ≤ nb x s ∧ nb x s < P)) (hg : g < P) (h : ∀ x, x < P → b x = a x) (hp : Bell P nb e g a) : Bell P nb e g b := by
  have hc : ∀ x, x < P → ∀ s, s < 4 → cst nb e b x s = cst nb e a x s := fun x hx s hs => by
    unfold cst
    rcases hn x hx s hs with q | q
    · rw [if_pos q, if_pos q]
    · rw [if_neg (by omega), if_neg (by omega), h _ (by omega)]
  refine ⟨fun x hx => by rw [h x hx]; exact hp.1 x hx, by rw [h g hg]; exact hp.2.1, fun x hx hxg s hs => by rw [hc x hx s hs, h x hx]; exact hp.2.2.1 x hx hxg s hs, fun x hx hxg => ?_⟩
  rcases hp.2.2.2 x hx hxg with q | ⟨s, hs, q⟩
  · exact Or.inl (by rw [h x hx]; exact q)
  · exact Or.inr ⟨s, hs, by rw [hc x hx s hs, h x hx]; exact q⟩
theorem first_far {P g x : Nat} {nb : Nat → Nat → Int} {e a : Nat → Int} (hb : Bell P nb e g a) (hx : x < P) (hxg : x ≠ g) (h : 1000000 ≤ a x) : (fo nb e a x 4).1 = -4 := by
  rcases fo_at (nb := nb) (e := e) (a := a) (x := x) 4 with q | ⟨t, ht, q1, q2, q3, -⟩
  · exact q.2
  · have := hb.2.2.1 x hx hxg t ht
    omega
theorem first_eq {P g x s : Nat} {nb : Nat → Nat → Int} {e a : Nat → Int} (hb : Bell P nb e g a) (hx : x < P) (hxg : x ≠ g) (hs : s < 4) (h : a x < 1000000) (hc : cst nb e a x s = a x) (hno : ∀ t, t < s → cst nb e a x t ≠ a x) : (fo nb e a x 4).1 = nb x s := by
  have hle := (fo_le (nb := nb) (e := e) (a := a) (x := x) 4).2 s hs
  rcases fo_at (nb := nb) (e := e) (a := a) (x := x) 4 with q | ⟨t, ht, q1, q2, q3, q4⟩
  · omega
  · have h1 := hb.2.2.1 x hx hxg t ht
    by_cases z : t < s
    · exact absurd (by omega) (hno t z)
    · by_cases z2 : s < t
      · have := q4 s z2; omega
      · rw [q2, show t = s by omega]
theorem ite_iff {p q : Prop} [Decidable p] [Decidable q] (h : p ↔ q) : (if p then (1 : Int) else 0) = if q then 1 else 0 := by
  by_cases z : p
  · rw [if_pos z, if_pos (h.mp z)]
  · rw [if_neg z, if_neg (fun w => z (h.mpr w))]
theorem bwv_eq {P : Nat} {nb : Nat → Nat → Int} {e a : Nat → Int} (hw : Wfg P nb e) (ha : ∀ y, y < P → 0 ≤ a y ∧ a y ≤ 1000000) {x s : Nat} (hx : x < P) (hs : s < 4) (h : a x < 1000000) : bwv nb e a x s = a x ↔ cst nb e a x s = a x := by
  have h2 := (bwv_cst hw ha hx hs).2 1000000 (Int.le_refl _)
  constructor
  · intro q
    rw [← h2.2 (by omega)]; exact q
  · intro q
    rw [h2.2 (h2.1.mpr (by omega))]; exact q

set_option maxRecDepth 100000 in
theorem m_lengthOf {σ : List mC} {I : mI} {L : Ld} (hI : Nrm I) (hD : IsMd σ) (hL : LdOk L) (hLR : LRM I L) {a : Nat} {F : Fs} (ha : σ[a]? = some (.inr (.inl 170))) (hF : FRM I a 0 L F) (ha2 : a = 147 ∨ a = 148) {d : Int} (hd : -1 ≤ d ∧ d < lD L) {x y : Nat} (hx : x < lQ L) (hy : y < lQ L)  : mMt mX9_lengthOf [mr 144, mr a, mi d, mi (x : Int), mi (y : Int)] (σ, I) (fun v h => v = some (mi (fin (dst (lQ L) (nbL L) (eM L F d) y x))) ∧ ∃ K, h = (σ, K) ∧ Nrm K ∧ ∀ r, r ≠ 159 → K r = I r) := by
  refine mMt.of pl_9 (Nat.le_of_ble_eq_true rfl) ?_
  show mRun mZt mX9_lengthOf 0 [some (mr 144), some (mr a), some (mi d), some (mi (x : Int)), some (mi (y : Int))] [] (σ, I) _
  have hpr := lp_rng hL
  have hqe := lq_eq hL
  have hwr := hL.2.1
  have hrr := hL.1
  have hdr := hL.2.2.1
  have hnt := hL.2.2.2.1
  refine mRun.go (q_aload_n dX9_lengthOf_0 rfl rfl) ?_
  refine mRun.go (q_aload_n dX9_lengthOf_1 rfl rfl) ?_
  refine mRun.go (q_iload_n dX9_lengthOf_2 rfl rfl) ?_
  refine mRun.go (q_iload dX9_lengthOf_3 rfl) ?_
  obtain ⟨v0, h0, hc0, rfl, K, rfl, hK, hfK, hKd⟩ := m_layAway hI hD hL hLR ha hF ha2 hd hy
  have hdb : Bell (lQ L) (nbL L) (eM L F d) y (aM K) := bell_pt (nbl_rng hL) hy hKd (dst_bell (wfg_m hL))
  have hdr2 : 0 ≤ dst (lQ L) (nbL L) (eM L F d) y x ∧ dst (lQ L) (nbL L) (eM L F d) y x ≤ 1000000 := (dst_bell (wfg_m hL)).1 x hx
  have hKx := hKd x hx
  refine mRun.go (q_callVv (r := 144) [mr a, mi d, mi (y : Int)] [] dX9_lengthOf_5 co_X9_191 ⟨Nat.le_of_ble_eq_true rfl, Nat.le_of_ble_eq_true rfl⟩ gw_963 gs_43 rfl hD.1 rfl rfl rfl (Nat.le_of_ble_eq_true rfl) hc0) ?_
  refine mRun.go (q_aload_n dX9_lengthOf_8 rfl rfl) ?_
  refine mRun.go (q_getR dX9_lengthOf_9 fo_X9_52 hD.1 rfl) ?_
  refine mRun.go (q_iload_n dX9_lengthOf_12 rfl rfl) ?_
  refine mRun.go (q_ialdE (x := dst (lQ L) (nbL L) (eM L F d) y x) dX9_lengthOf_13 hD.2.2.2.2.2.2.2.2.2.2.2.2.2.2.2 (by omega) (by omega) hKx) ?_
  refine mRun.go (q_ldc (a := 1000000) dX9_lengthOf_14 gw_965) ?_
  refine r_icmp_lt (tgt := 24) dX9_lengthOf_16 (by decide) (by omega) (by omega) (fun c16 => ?_) (fun c16 => ?_)
  · refine mRun.go (q_aload_n dX9_lengthOf_24 rfl rfl) ?_
    refine mRun.go (q_getR dX9_lengthOf_25 fo_X9_52 hD.1 rfl) ?_
    refine mRun.go (q_iload_n dX9_lengthOf_28 rfl rfl) ?_
    refine mRun.go (q_ialdE (x := dst (lQ L) (nbL L) (eM L F d) y x) dX9_lengthOf_29 hD.2.2.2.2.2.2.2.2.2.2.2.2.2.2.2 (by omega) (by omega) hKx) ?_
    refine r_iret dX9_lengthOf_30 rfl ?_
    have e : fin (dst (lQ L) (nbL L) (eM L F d) y x) = dst (lQ L) (nbL L) (eM L F d) y x := by unfold fin; first | (rw [if_pos (by omega)]; done) | (rw [if_neg (by omega)]; done)
    rw [e]
    exact ⟨rfl, K, rfl, hK, hfK⟩
  · refine mRun.go (q_bipush dX9_lengthOf_19 (by decide)) ?_
    refine mRun.go (q_goto (tgt := 30) dX9_lengthOf_21 (by decide)) ?_
    refine r_iret dX9_lengthOf_30 rfl ?_
    have e : fin (dst (lQ L) (nbL L) (eM L F d) y x) = (-4) := by unfold fin; first | (rw [if_pos (by omega)]; done) | (rw [if_neg (by omega)]; done)
    rw [e]
    exact ⟨rfl, K, rfl, hK, hfK⟩

set_option maxRecDepth 100000 in
theorem m_first_loop {σ : List mC} {I : mI} {L : Ld} (hI : Nrm I) (hD : IsMd σ) (hL : LdOk L) (hLR : LRM I L) {a : Nat} {F : Fs} (ha : σ[a]? = some (.inr (.inl 170))) (hF : FRM I a 0 L F) (ha2 : a = 147 ∨ a = 148) {d : Int} (hd : -1 ≤ d ∧ d < lD L) {x y : Nat} (hx : x < lQ L) (hy : y < lQ L) {K : mI} (hK : Nrm K) (hfK : ∀ r, r ≠ 159 → K r = I r) (hdb : Bell (lQ L) (nbL L) (eM L F d) y (aM K)) (hxy : x ≠ y) (hfar : aM K x < 1000000) : ∀ (n s : Nat), 4 - s < n → s ≤ 4 → (∀ t, t < s → cst (nbL L) (eM L F d) (aM K) x t ≠ aM K x) → mRun mZt mX9_firstOf 31 [some (mr 144), some (mr a), some (mi d), some (mi (x : Int)), some (mi (y : Int)), some (mi (s : Int))] [] (σ, K) (fun v h => v = some (mi ((fo (nbL L) (eM L F d) (aM K) x 4).1)) ∧ ∃ K, h = (σ, K) ∧ Nrm K ∧ ∀ r, r ≠ 159 → K r = I r) := by
  intro n
  induction n with
  | zero => intro s h; omega
  | succ n ih =>
    intro s hn hs0 hno
    have hpr := lp_rng hL
    have hqe := lq_eq hL
    have hwr := hL.2.1
    have hrr := hL.1
    have hdr := hL.2.2.1
    have hnt := hL.2.2.2.1
    have hnr := nbl_rng hL x hx
    have hax := hdb.1 x hx
    have hLRK : LRM K L := hLR.fr (by rw [hfK 144 (by decide)]) (by rw [hfK 144 (by decide)]) (by rw [hfK 144 (by decide)]) (by rw [hfK 144 (by decide)]) (hfK 145 (by decide)) (hfK 146 (by decide))
    have hFK : FRM K a 0 L F := hF.fr hL (fun k _ _ => by rw [hfK a (by omega)])
    refine mRun.go (q_iload dX9_firstOf_31 rfl) ?_
    refine mRun.go (q_iconst dX9_firstOf_33) ?_
    refine r_icmp_ge (tgt := 69) dX9_firstOf_34 (by decide) (by omega) (by omega) (fun c34 => ?_) (fun c34 => ?_)
    · refine mRun.go (q_bipush dX9_firstOf_69 (by decide)) ?_
      refine r_iret dX9_firstOf_71 rfl ?_
      rcases hdb.2.2.2 x hx hxy with q | ⟨t, ht, q⟩
      · omega
      · exact absurd q.symm (hno t (by omega))
    · refine mRun.go (q_aload_n dX9_firstOf_37 rfl rfl) ?_
      refine mRun.go (q_aload_n dX9_firstOf_38 rfl rfl) ?_
      refine mRun.go (q_iload_n dX9_firstOf_39 rfl rfl) ?_
      refine mRun.go (q_iload_n dX9_firstOf_40 rfl rfl) ?_
      refine mRun.go (q_iload dX9_firstOf_41 rfl) ?_
      have hs4 : s < 4 := by omega
      have hbc := (bwv_cst (wfg_m (F := F) (d := d) hL) hdb.1 hx hs4).1
      have hbe := bwv_eq (wfg_m (F := F) (d := d) hL) hdb.1 hx hs4 hfar
      refine mRun.go (q_callVi (r := 144) [mr a, mi d, mi (x : Int), mi (s : Int)] [] dX9_firstOf_43 co_X9_187 ⟨Nat.le_of_ble_eq_true rfl, Nat.le_of_ble_eq_true rfl⟩ gw_968 gs_44 rfl hD.1 rfl rfl rfl (Nat.le_of_ble_eq_true rfl) (m_byWay hK hD hL hLRK ha hFK hd hx hs4)) ?_
      refine mRun.go (q_aload_n dX9_firstOf_46 rfl rfl) ?_
      refine mRun.go (q_getR dX9_firstOf_47 fo_X9_52 hD.1 rfl) ?_
      refine mRun.go (q_iload_n dX9_firstOf_50 rfl rfl) ?_
      refine mRun.go (q_ialdE (x := aM K x) dX9_firstOf_51 hD.2.2.2.2.2.2.2.2.2.2.2.2.2.2.2 (by omega) (by omega) rfl) ?_
      refine r_icmp_ne (tgt := 63) dX9_firstOf_52 (by decide) (by omega) (by omega) (fun c52 => ?_) (fun c52 => ?_)
      · refine mRun.go (q_iinc (ls' := [some (mr 144), some (mr a), some (mi d), some (mi (x : Int)), some (mi (y : Int)), some (mi ((s : Int) + 1))]) dX9_firstOf_63 rfl (Nat.le_of_ble_eq_true rfl) rfl) ?_
        refine mRun.go (q_goto (tgt := 31) dX9_firstOf_66 (by decide)) ?_
        have e1 : ((s : Int) + 1) = ((s + 1 : Nat) : Int) := by omega
        rw [e1]
        refine ih (s + 1) (by omega) (by omega) (fun t ht => ?_)
        by_cases q : t = s
        · rw [q]; exact fun z => c52 (hbe.mpr z)
        · exact hno t (by omega)
      · refine mRun.go (q_aload_n dX9_firstOf_55 rfl rfl) ?_
        refine mRun.go (q_iload_n dX9_firstOf_56 rfl rfl) ?_
        refine mRun.go (q_iload dX9_firstOf_57 rfl) ?_
        refine mRun.go (q_callVi (r := 144) [mi (x : Int), mi (s : Int)] [] dX9_firstOf_59 co_X9_177 ⟨Nat.le_of_ble_eq_true rfl, Nat.le_of_ble_eq_true rfl⟩ gw_972 gs_45 rfl hD.1 rfl rfl rfl (Nat.le_of_ble_eq_true rfl) (m_beside hK hD hL hLRK hx hs4)) ?_
        refine r_iret dX9_firstOf_62 rfl ?_
        rw [first_eq hdb hx hxy hs4 hfar (hbe.mp (Classical.not_not.mp c52)) hno]
        exact ⟨rfl, K, rfl, hK, hfK⟩

set_option maxRecDepth 100000 in
theorem m_firstOf {σ : List mC} {I : mI} {L : Ld} (hI : Nrm I) (hD : IsMd σ) (hL : LdOk L) (hLR : LRM I L) {a : Nat} {F : Fs} (ha : σ[a]? = some (.inr (.inl 170))) (hF : FRM I a 0 L F) (ha2 : a = 147 ∨ a = 148) {d : Int} (hd : -1 ≤ d ∧ d < lD L) {x y : Nat} (hx : x < lQ L) (hy : y < lQ L)  : mMt mX9_firstOf [mr 144, mr a, mi d, mi (x : Int), mi (y : Int)] (σ, I) (fun v h => v = some (mi (hop (lQ L) (nbL L) (eM L F d) y x)) ∧ ∃ K, h = (σ, K) ∧ Nrm K ∧ ∀ r, r ≠ 159 → K r = I r) := by
  refine mMt.of pl_9 (Nat.le_of_ble_eq_true rfl) ?_
  show mRun mZt mX9_firstOf 0 [some (mr 144), some (mr a), some (mi d), some (mi (x : Int)), some (mi (y : Int)), none] [] (σ, I) _
  have hpr := lp_rng hL
  have hqe := lq_eq hL
  have hwr := hL.2.1
  have hrr := hL.1
  have hdr := hL.2.2.1
  have hnt := hL.2.2.2.1
  refine mRun.go (q_aload_n dX9_firstOf_0 rfl rfl) ?_
  refine mRun.go (q_aload_n dX9_firstOf_1 rfl rfl) ?_
  refine mRun.go (q_iload_n dX9_firstOf_2 rfl rfl) ?_
  refine mRun.go (q_iload dX9_firstOf_3 rfl) ?_
  obtain ⟨v0, h0, hc0, rfl, K, rfl, hK, hfK, hKd⟩ := m_layAway hI hD hL hLR ha hF ha2 hd hy
  have hdb : Bell (lQ L) (nbL L) (eM L F d) y (aM K) := bell_pt (nbl_rng hL) hy hKd (dst_bell (wfg_m hL))
  have hdr2 : 0 ≤ dst (lQ L) (nbL L) (eM L F d) y x ∧ dst (lQ L) (nbL L) (eM L F d) y x ≤ 1000000 := (dst_bell (wfg_m hL)).1 x hx
  have hKx := hKd x hx
  refine mRun.go (q_callVv (r := 144) [mr a, mi d, mi (y : Int)] [] dX9_firstOf_5 co_X9_191 ⟨Nat.le_of_ble_eq_true rfl, Nat.le_of_ble_eq_true rfl⟩ gw_963 gs_43 rfl hD.1 rfl rfl rfl (Nat.le_of_ble_eq_true rfl) hc0) ?_
  refine mRun.go (q_iload_n dX9_firstOf_8 rfl rfl) ?_
  refine mRun.go (q_iload dX9_firstOf_9 rfl) ?_
  refine r_icmp_eq (tgt := 25) dX9_firstOf_11 (by decide) (by omega) (by omega) (fun c11 => ?_) (fun c11 => ?_)
  · refine mRun.go (q_bipush dX9_firstOf_25 (by decide)) ?_
    refine r_iret dX9_firstOf_27 rfl ?_
    have e : hop (lQ L) (nbL L) (eM L F d) y x = -4 := by
      unfold hop
      split
      · rfl
      · next q =>
        by_cases z : x = y
        · rw [z] at q; exact absurd (dst_bell (wfg_m hL)).2.1 q
        · exact first_far (dst_bell (wfg_m hL)) hx z (by omega)
    rw [e]
    exact ⟨rfl, K, rfl, hK, hfK⟩
  · refine mRun.go (q_aload_n dX9_firstOf_14 rfl rfl) ?_
    refine mRun.go (q_getR dX9_firstOf_15 fo_X9_52 hD.1 rfl) ?_
    refine mRun.go (q_iload_n dX9_firstOf_18 rfl rfl) ?_
    refine mRun.go (q_ialdE (x := dst (lQ L) (nbL L) (eM L F d) y x) dX9_firstOf_19 hD.2.2.2.2.2.2.2.2.2.2.2.2.2.2.2 (by omega) (by omega) hKx) ?_
    refine mRun.go (q_ldc (a := 1000000) dX9_firstOf_20 gw_965) ?_
    refine r_icmp_lt (tgt := 28) dX9_firstOf_22 (by decide) (by omega) (by omega) (fun c22 => ?_) (fun c22 => ?_)
    · refine mRun.go (q_iconst dX9_firstOf_28) ?_
      refine mRun.go (q_istore (ls' := [some (mr 144), some (mr a), some (mi d), some (mi (x : Int)), some (mi (y : Int)), some (mi 0)]) dX9_firstOf_29 (Nat.le_of_ble_eq_true rfl) rfl) ?_
      have hfoe := fo_congr (nb := nbL L) (nb' := nbL L) (e := eM L F d) (e' := eM L F d) (a := dst (lQ L) (nbL L) (eM L F d) y) (a' := aM K) (nbl_rng hL) (fun _ _ _ _ => rfl) (fun _ _ => rfl) hKd hx 4 (by decide)
      have hne0 : dst (lQ L) (nbL L) (eM L F d) y x ≠ 0 := fun q => by
        rcases (dst_bell (wfg_m (F := F) (d := d) hL) (g := y)).2.2.2 x hx (by omega) with z | ⟨t, ht, z⟩
        · omega
        · have := cst_pos (wfg_m (F := F) (d := d) hL) (fun w hw => ((dst_bell (wfg_m (F := F) (d := d) hL) (g := y)).1 w hw).1) hx ht; omega
      have e : hop (lQ L) (nbL L) (eM L F d) y x = (fo (nbL L) (eM L F d) (aM K) x 4).1 := by unfold hop; rw [if_neg hne0, hfoe]
      rw [e]
      exact m_first_loop hI hD hL hLR ha hF ha2 hd hx hy hK hfK hdb (by omega) (by have : aM K x = dst (lQ L) (nbL L) (eM L F d) y x := hKx; omega) 5 0 (by omega) (by omega) (fun t ht => by omega)
    · refine mRun.go (q_bipush dX9_firstOf_25 (by decide)) ?_
      refine r_iret dX9_firstOf_27 rfl ?_
      have e : hop (lQ L) (nbL L) (eM L F d) y x = -4 := by
        unfold hop
        split
        · rfl
        · next q =>
          by_cases z : x = y
          · rw [z] at q; exact absurd (dst_bell (wfg_m hL)).2.1 q
          · exact first_far (dst_bell (wfg_m hL)) hx z (by omega)
      rw [e]
      exact ⟨rfl, K, rfl, hK, hfK⟩

set_option maxRecDepth 100000 in
theorem m_isPlace {σ : List mC} {I : mI} {L : Ld} (hI : Nrm I) (hD : IsMd σ) (hL : LdOk L) (hLR : LRM I L) {x : Int} (hx : -2147483648 ≤ x ∧ x < 2147483648) : mCt mX9_isPlace [mr 144, mi x] (σ, I) (some (mi (if 0 ≤ x ∧ x < lP L then 1 else 0))) (σ, I) := by
  refine mCt.eq ?_
  refine mMt.of pl_9 (Nat.le_of_ble_eq_true rfl) ?_
  show mRun mZt mX9_isPlace 0 [some (mr 144), some (mi x)] [] (σ, I) _
  have hpr := lp_rng hL
  have hqe := lq_eq hL
  have hwr := hL.2.1
  have hrr := hL.1
  have hdr := hL.2.2.1
  have hnt := hL.2.2.2.1
  have hRW0 : lR L * lW L = lP L := rfl
  refine mRun.go (q_iload_n dX9_isPlace_0 rfl rfl) ?_
  refine mRun.go (q_i2l dX9_isPlace_1 (by omega)) ?_
  refine mRun.go (q_lconst (a := 0) dX9_isPlace_2 (by decide)) ?_
  refine mRun.go (q_aload_n dX9_isPlace_3 rfl rfl) ?_
  refine mRun.go (q_getE (x := lR L) dX9_isPlace_4 fo_X9_85 hD.1 rfl hLR.1) ?_
  refine mRun.go (q_aload_n dX9_isPlace_7 rfl rfl) ?_
  refine mRun.go (q_getE (x := lW L) dX9_isPlace_8 fo_X9_88 hD.1 rfl hLR.2.1) ?_
  refine mRun.go (q_imul dX9_isPlace_11) ?_
  refine mRun.go (q_iconst dX9_isPlace_12) ?_
  refine mRun.go (q_isub dX9_isPlace_13) ?_
  refine mRun.go (q_i2l dX9_isPlace_14 (by omega)) ?_
  refine mRun.go (q_callSi [ml x, ml 0, ml (((lR L) * (lW L)) - 1)] [] dX9_isPlace_15 co_X9_114 ⟨Nat.le_of_ble_eq_true rfl, Nat.le_of_ble_eq_true rfl⟩ gw_855 rfl rfl (Nat.le_of_ble_eq_true rfl) (k_in (by omega) (by omega) (by omega))) ?_
  refine r_zret dX9_isPlace_18 rfl (by split <;> simp) ?_
  have e : (if 0 ≤ x ∧ x < lP L then (1 : Int) else 0) = if 0 ≤ x ∧ x ≤ ((lR L) * (lW L)) - 1 then 1 else 0 := ite_iff (by omega)
  rw [e]
  exact ⟨rfl, rfl⟩

set_option maxRecDepth 100000 in
theorem m_isDrum {σ : List mC} {I : mI} {L : Ld} (hI : Nrm I) (hD : IsMd σ) (hL : LdOk L) (hLR : LRM I L) {x : Int} (hx : -2147483648 ≤ x ∧ x < 2147483648) : mCt mX9_isDrum [mr 144, mi x] (σ, I) (some (mi (if 0 ≤ x ∧ x < lD L then 1 else 0))) (σ, I) := by
  refine mCt.eq ?_
  refine mMt.of pl_9 (Nat.le_of_ble_eq_true rfl) ?_
  show mRun mZt mX9_isDrum 0 [some (mr 144), some (mi x)] [] (σ, I) _
  have hpr := lp_rng hL
  have hqe := lq_eq hL
  have hwr := hL.2.1
  have hrr := hL.1
  have hdr := hL.2.2.1
  have hnt := hL.2.2.2.1
  refine mRun.go (q_iload_n dX9_isDrum_0 rfl rfl) ?_
  refine mRun.go (q_i2l dX9_isDrum_1 (by omega)) ?_
  refine mRun.go (q_lconst (a := 0) dX9_isDrum_2 (by decide)) ?_
  refine mRun.go (q_aload_n dX9_isDrum_3 rfl rfl) ?_
  refine mRun.go (q_getE (x := lD L) dX9_isDrum_4 fo_X9_91 hD.1 rfl hLR.2.2.1) ?_
  refine mRun.go (q_iconst dX9_isDrum_7) ?_
  refine mRun.go (q_isub dX9_isDrum_8) ?_
  refine mRun.go (q_i2l dX9_isDrum_9 (by omega)) ?_
  refine mRun.go (q_callSi [ml x, ml 0, ml ((lD L) - 1)] [] dX9_isDrum_10 co_X9_114 ⟨Nat.le_of_ble_eq_true rfl, Nat.le_of_ble_eq_true rfl⟩ gw_855 rfl rfl (Nat.le_of_ble_eq_true rfl) (k_in (by omega) (by omega) (by omega))) ?_
  refine r_zret dX9_isDrum_13 rfl (by split <;> simp) ?_
  have e : (if 0 ≤ x ∧ x < lD L then (1 : Int) else 0) = if 0 ≤ x ∧ x ≤ (lD L) - 1 then 1 else 0 := ite_iff (by omega)
  rw [e]
  exact ⟨rfl, rfl⟩

set_option maxRecDepth 100000 in
theorem m_isTraveller {σ : List mC} {I : mI} {L : Ld} (hI : Nrm I) (hD : IsMd σ) (hL : LdOk L) (hLR : LRM I L) (hN : I 144 5 = lTv L) {x : Int} (hx : -2147483648 ≤ x ∧ x < 2147483648) : mCt mX9_isTraveller [mr 144, mi x] (σ, I) (some (mi (if 0 ≤ x ∧ x < lTv L then 1 else 0))) (σ, I) := by
  refine mCt.eq ?_
  refine mMt.of pl_9 (Nat.le_of_ble_eq_true rfl) ?_
  show mRun mZt mX9_isTraveller 0 [some (mr 144), some (mi x)] [] (σ, I) _
  have hpr := lp_rng hL
  have hqe := lq_eq hL
  have hwr := hL.2.1
  have hrr := hL.1
  have hdr := hL.2.2.1
  have hnt := hL.2.2.2.1
  refine mRun.go (q_iload_n dX9_isTraveller_0 rfl rfl) ?_
  refine mRun.go (q_i2l dX9_isTraveller_1 (by omega)) ?_
  refine mRun.go (q_lconst (a := 0) dX9_isTraveller_2 (by decide)) ?_
  refine mRun.go (q_aload_n dX9_isTraveller_3 rfl rfl) ?_
  refine mRun.go (q_getE (x := lTv L) dX9_isTraveller_4 fo_X9_94 hD.1 rfl hN) ?_
  refine mRun.go (q_iconst dX9_isTraveller_7) ?_
  refine mRun.go (q_isub dX9_isTraveller_8) ?_
  refine mRun.go (q_i2l dX9_isTraveller_9 (by omega)) ?_
  refine mRun.go (q_callSi [ml x, ml 0, ml ((lTv L) - 1)] [] dX9_isTraveller_10 co_X9_114 ⟨Nat.le_of_ble_eq_true rfl, Nat.le_of_ble_eq_true rfl⟩ gw_855 rfl rfl (Nat.le_of_ble_eq_true rfl) (k_in (by omega) (by omega) (by omega))) ?_
  refine r_zret dX9_isTraveller_13 rfl (by split <;> simp) ?_
  have e : (if 0 ≤ x ∧ x < lTv L then (1 : Int) else 0) = if 0 ≤ x ∧ x ≤ (lTv L) - 1 then 1 else 0 := ite_iff (by omega)
  rw [e]
  exact ⟨rfl, rfl⟩
