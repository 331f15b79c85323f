/-! ===== the reference lays the ways ===== -/
theorem aM_mup {I : mI} {x : Nat} {v : Int} : aM (mup I 159 x v) = fup (aM I) x v := by
  funext y
  show (if 159 = 159 ∧ y = x then v else I 159 y) = (if y = x then v else I 159 y)
  by_cases h : y = x
  · rw [if_pos ⟨rfl, h⟩, if_pos h]
  · rw [if_neg (fun q => h q.2), if_neg h]
theorem fup_self {a : Nat → Int} {x : Nat} : fup a x (a x) = a := by
  funext y
  unfold fup
  by_cases h : y = x
  · rw [if_pos h, h]
  · rw [if_neg h]
theorem pre_congr {P g : Nat} {nb : Nat → Nat → Int} {e a b : Nat → Int} (hn : ∀ x, x < P → ∀ s, s < 4 → nb x s = -4 ∨ (0 ≤ nb x s ∧ nb x s < P)) (hg : g < P) (h : ∀ x, x < P → b x = a x) (hp : Pre P nb e g a) : Pre P nb e g b := by
  have hc : ∀ x, x < P → ∀ s, s < 4 → cst nb e b x s = cst nb e a x s := fun x hx s hs => by
    unfold cst
    rcases hn x hx s hs with q | q
    · rw [if_pos q, if_pos q]
    · rw [if_neg (by omega), if_neg (by omega), h _ (by omega)]
  refine ⟨fun x hx => by rw [h x hx]; exact hp.1 x hx, by rw [h g hg]; exact hp.2.1, fun x hx hxg => ?_⟩
  rcases hp.2.2 x hx hxg with q | ⟨s, hs, q⟩
  · exact Or.inl (by rw [h x hx]; exact q)
  · exact Or.inr ⟨s, hs, by rw [hc x hx s hs, h x hx]; exact q⟩
/-- a pass over the places: where it stands at side s of place x -/
def Pas (L : Ld) (e : Nat → Int) (g : Nat) (a0 : Nat → Int) (x s : Nat) (ch : Int) (a : Nat → Int) : Prop :=
  Pre (lQ L) (nbL L) e g a ∧ (ch = 0 ∨ ch = 1) ∧ sm a (lQ L) ≤ sm a0 (lQ L) ∧ (ch = 1 → sm a (lQ L) < sm a0 (lQ L)) ∧ (ch = 0 → a = a0 ∧ ∀ y t, y < lQ L → t < 4 → (y < x ∨ (y = x ∧ t < s)) → ¬ cst (nbL L) e a y t < a y)
theorem pas_0 {L : Ld} {e a : Nat → Int} {g : Nat} (h : Pre (lQ L) (nbL L) e g a) : Pas L e g a 0 0 0 a := ⟨h, Or.inl rfl, Nat.le_refl _, fun q => by omega, fun _ => ⟨rfl, fun y t _ _ q => by omega⟩⟩
theorem pas_row {L : Ld} {e a0 a : Nat → Int} {g x : Nat} {ch : Int} (h : Pas L e g a0 x 4 ch a) : Pas L e g a0 (x + 1) 0 ch a := ⟨h.1, h.2.1, h.2.2.1, h.2.2.2.1, fun q => ⟨(h.2.2.2.2 q).1, fun y t hy ht z => (h.2.2.2.2 q).2 y t hy ht (by omega)⟩⟩
theorem pas_no {L : Ld} {e a0 a : Nat → Int} {g x s : Nat} {ch : Int} (h : Pas L e g a0 x s ch a) (hn : ¬ cst (nbL L) e a x s < a x) : Pas L e g a0 x (s + 1) ch a := ⟨h.1, h.2.1, h.2.2.1, h.2.2.2.1, fun q => ⟨(h.2.2.2.2 q).1, fun y t hy ht z => by
  by_cases w : y = x ∧ t = s
  · rw [w.1, w.2]; exact hn
  · exact (h.2.2.2.2 q).2 y t hy ht (by omega)⟩⟩
theorem pas_yes {L : Ld} {e a0 a : Nat → Int} {g x s : Nat} {ch : Int} (hw : Wfg (lQ L) (nbL L) e) (h : Pas L e g a0 x s ch a) (hx : x < lQ L) (hs : s < 4) (hn : cst (nbL L) e a x s < a x) : Pas L e g a0 x (s + 1) 1 (fup a x (cst (nbL L) e a x s)) := by
  have hp := pre_step hw h.1 hx hs hn
  have h3 := h.2.2.1
  exact ⟨hp.1, Or.inr rfl, by omega, fun _ => by omega, fun q => by omega⟩
theorem pas_end {L : Ld} {e a0 a : Nat → Int} {g : Nat} {ch : Int} (h : Pas L e g a0 (lQ L) 0 ch a) (hc : ch = 0) : Bell (lQ L) (nbL L) e g a := pre_bell h.1 (fun x hx s hs => (h.2.2.2.2 hc).2 x s hx hs (Or.inl hx))

set_option maxRecDepth 100000 in
theorem m_lay_s {σ : List mC} {I : mI} {L : Ld} (hI : Nrm I) (hD : IsMd σ) (hL : LdOk L) (hLR : LRM I L) {a : Nat} {F : Fs} (ha : σ[a]? = some (.inr (.inl 170))) (hF : FRM I a 0 L F) (ha2 : a = 147 ∨ a = 148) {d : Int} (hd : -1 ≤ d ∧ d < lD L) {y : Nat} (hy : y < lQ L) {a0 : Nat → Int} {x : Nat} (hx : x < lQ L) {post : Option mV → mH → Prop} (kk : ∀ (J : mI) (ch : Int) (o7 : Option mV), Nrm J → (∀ r, r ≠ 159 → J r = I r) → Pas L (eM L F d) y a0 (x + 1) 0 ch (aM J) → mRun mZt mX9_layAway 145 [some (mr 144), some (mr a), some (mi d), some (mi (y : Int)), some (mi ch), some (mi (x : Int)), some (mi 4), o7] [] (σ, J) post) : ∀ (n s : Nat) (J : mI) (ch : Int) (o7 : Option mV), 4 - s < n → s ≤ 4 → Nrm J → (∀ r, r ≠ 159 → J r = I r) → Pas L (eM L F d) y a0 x s ch (aM J) → mRun mZt mX9_layAway 66 [some (mr 144), some (mr a), some (mi d), some (mi (y : Int)), some (mi ch), some (mi (x : Int)), some (mi (s : Int)), o7] [] (σ, J) post := by
  intro n
  induction n with
  | zero => intro s J ch o7 h; omega
  | succ n ih =>
    intro s J ch o7 hn hs0 hJ hfr hp
    have hpr := lp_rng hL
    have hqe := lq_eq hL
    have hwr := hL.2.1
    have hrr := hL.1
    have hdr := hL.2.2.1
    have hnt := hL.2.2.2.1
    have hLRJ : LRM J L := hLR.fr (by rw [hfr 144 (by decide)]) (by rw [hfr 144 (by decide)]) (by rw [hfr 144 (by decide)]) (by rw [hfr 144 (by decide)]) (hfr 145 (by decide)) (hfr 146 (by decide))
    have hFJ : FRM J a 0 L F := hF.fr hL (fun k _ _ => by rw [hfr a (by omega)])
    have hch := hp.2.1
    refine mRun.go (q_iload dX9_layAway_66 rfl) ?_
    refine mRun.go (q_iconst dX9_layAway_68) ?_
    refine r_icmp_ge (tgt := 145) dX9_layAway_69 (by decide) (by omega) (by omega) (fun c69 => ?_) (fun c69 => ?_)
    · have hs4 : s = 4 := by omega
      subst hs4
      exact kk J ch o7 hJ hfr (pas_row hp)
    · refine mRun.go (q_aload_n dX9_layAway_72 rfl rfl) ?_
      refine mRun.go (q_aload_n dX9_layAway_73 rfl rfl) ?_
      refine mRun.go (q_iload_n dX9_layAway_74 rfl rfl) ?_
      refine mRun.go (q_iload dX9_layAway_75 rfl) ?_
      refine mRun.go (q_iload dX9_layAway_77 rfl) ?_
      have hs4 : s < 4 := by omega
      have hbc := bwv_cst (wfg_m (F := F) (d := d) hL) hp.1.1 hx hs4
      have hax := hp.1.1 x hx
      have hb2 := hbc.2 (aM J x) hax.2
      refine mRun.go (q_callVi (r := 144) [mr a, mi d, mi (x : Int), mi (s : Int)] [] dX9_layAway_79 co_X9_187 ⟨Nat.le_of_ble_eq_true rfl, Nat.le_of_ble_eq_true rfl⟩ gw_968 gs_44 rfl hD.1 rfl rfl rfl (Nat.le_of_ble_eq_true rfl) (m_byWay hJ hD hL hLRJ ha hFJ hd hx hs4)) ?_
      refine mRun.go (q_istore (ls' := [some (mr 144), some (mr a), some (mi d), some (mi (y : Int)), some (mi ch), some (mi (x : Int)), some (mi (s : Int)), some (mi (bwv (nbL L) (eM L F d) (aM J) x s))]) dX9_layAway_82 (Nat.le_of_ble_eq_true rfl) rfl) ?_
      refine mRun.go (q_iload dX9_layAway_84 rfl) ?_
      have j86 : ∀ {post : Option mV → mH → Prop}, mRun mZt mX9_layAway 106 [some (mr 144), some (mr a), some (mi d), some (mi (y : Int)), some (mi ch), some (mi (x : Int)), some (mi (s : Int)), some (mi (bwv (nbL L) (eM L F d) (aM J) x s))] [mi (if ¬ ch = 0 ∨ bwv (nbL L) (eM L F d) (aM J) x s < aM J x then 1 else 0)] (σ, J) post → mRun mZt mX9_layAway 86 [some (mr 144), some (mr a), some (mi d), some (mi (y : Int)), some (mi ch), some (mi (x : Int)), some (mi (s : Int)), some (mi (bwv (nbL L) (eM L F d) (aM J) x s))] [mi ch] (σ, J) post := by
        intro post k
        refine r_if_ne (tgt := 101) dX9_layAway_86 (by decide) (by omega) (fun c86 => ?_) (fun c86 => ?_)
        · refine mRun.go (q_iconst dX9_layAway_101) ?_
          refine mRun.go (q_goto (tgt := 106) dX9_layAway_102 (by decide)) ?_
          first | (rw [if_pos (show ¬ ch = 0 ∨ bwv (nbL L) (eM L F d) (aM J) x s < aM J x by omega)] at k; exact k) | (rw [if_neg (show ¬ (¬ ch = 0 ∨ bwv (nbL L) (eM L F d) (aM J) x s < aM J x) by omega)] at k; exact k)
        · refine mRun.go (q_iload dX9_layAway_89 rfl) ?_
          refine mRun.go (q_aload_n dX9_layAway_91 rfl rfl) ?_
          refine mRun.go (q_getR dX9_layAway_92 fo_X9_52 hD.1 rfl) ?_
          refine mRun.go (q_iload dX9_layAway_95 rfl) ?_
          refine mRun.go (q_ialdE (x := aM J x) dX9_layAway_97 hD.2.2.2.2.2.2.2.2.2.2.2.2.2.2.2 (by omega) (by omega) rfl) ?_
          refine r_icmp_ge (tgt := 105) dX9_layAway_98 (by decide) (by omega) (hJ _ _) (fun c98 => ?_) (fun c98 => ?_)
          · refine mRun.go (q_iconst dX9_layAway_105) ?_
            first | (rw [if_pos (show ¬ ch = 0 ∨ bwv (nbL L) (eM L F d) (aM J) x s < aM J x by omega)] at k; exact k) | (rw [if_neg (show ¬ (¬ ch = 0 ∨ bwv (nbL L) (eM L F d) (aM J) x s < aM J x) by omega)] at k; exact k)
          · refine mRun.go (q_iconst dX9_layAway_101) ?_
            refine mRun.go (q_goto (tgt := 106) dX9_layAway_102 (by decide)) ?_
            first | (rw [if_pos (show ¬ ch = 0 ∨ bwv (nbL L) (eM L F d) (aM J) x s < aM J x by omega)] at k; exact k) | (rw [if_neg (show ¬ (¬ ch = 0 ∨ bwv (nbL L) (eM L F d) (aM J) x s < aM J x) by omega)] at k; exact k)
      refine j86 ?_
      refine mRun.go (q_istore (ls' := [some (mr 144), some (mr a), some (mi d), some (mi (y : Int)), some (mi (if ¬ ch = 0 ∨ bwv (nbL L) (eM L F d) (aM J) x s < aM J x then 1 else 0)), some (mi (x : Int)), some (mi (s : Int)), some (mi (bwv (nbL L) (eM L F d) (aM J) x s))]) dX9_layAway_106 (Nat.le_of_ble_eq_true rfl) rfl) ?_
      refine mRun.go (q_aload_n dX9_layAway_108 rfl rfl) ?_
      refine mRun.go (q_getR dX9_layAway_109 fo_X9_52 hD.1 rfl) ?_
      refine mRun.go (q_iload dX9_layAway_112 rfl) ?_
      refine mRun.go (q_iload dX9_layAway_114 rfl) ?_
      refine mRun.go (q_aload_n dX9_layAway_116 rfl rfl) ?_
      refine mRun.go (q_getR dX9_layAway_117 fo_X9_52 hD.1 rfl) ?_
      refine mRun.go (q_iload dX9_layAway_120 rfl) ?_
      refine mRun.go (q_ialdE (x := aM J x) dX9_layAway_122 hD.2.2.2.2.2.2.2.2.2.2.2.2.2.2.2 (by omega) (by omega) rfl) ?_
      have j123 : ∀ {post : Option mV → mH → Prop}, mRun mZt mX9_layAway 138 [some (mr 144), some (mr a), some (mi d), some (mi (y : Int)), some (mi (if ¬ ch = 0 ∨ bwv (nbL L) (eM L F d) (aM J) x s < aM J x then 1 else 0)), some (mi (x : Int)), some (mi (s : Int)), some (mi (bwv (nbL L) (eM L F d) (aM J) x s))] [mi (if bwv (nbL L) (eM L F d) (aM J) x s < aM J x then bwv (nbL L) (eM L F d) (aM J) x s else aM J x), mi (x : Int), mr 159] (σ, J) post → mRun mZt mX9_layAway 123 [some (mr 144), some (mr a), some (mi d), some (mi (y : Int)), some (mi (if ¬ ch = 0 ∨ bwv (nbL L) (eM L F d) (aM J) x s < aM J x then 1 else 0)), some (mi (x : Int)), some (mi (s : Int)), some (mi (bwv (nbL L) (eM L F d) (aM J) x s))] [mi (aM J x), mi (bwv (nbL L) (eM L F d) (aM J) x s), mi (x : Int), mr 159] (σ, J) post := by
        intro post k
        refine r_icmp_ge (tgt := 131) dX9_layAway_123 (by decide) (by omega) (hJ _ _) (fun c123 => ?_) (fun c123 => ?_)
        · refine mRun.go (q_aload_n dX9_layAway_131 rfl rfl) ?_
          refine mRun.go (q_getR dX9_layAway_132 fo_X9_52 hD.1 rfl) ?_
          refine mRun.go (q_iload dX9_layAway_135 rfl) ?_
          refine mRun.go (q_ialdE (x := aM J x) dX9_layAway_137 hD.2.2.2.2.2.2.2.2.2.2.2.2.2.2.2 (by omega) (by omega) rfl) ?_
          first | (rw [if_pos (show bwv (nbL L) (eM L F d) (aM J) x s < aM J x by omega)] at k; exact k) | (rw [if_neg (show ¬ bwv (nbL L) (eM L F d) (aM J) x s < aM J x by omega)] at k; exact k)
        · refine mRun.go (q_iload dX9_layAway_126 rfl) ?_
          refine mRun.go (q_goto (tgt := 138) dX9_layAway_128 (by decide)) ?_
          first | (rw [if_pos (show bwv (nbL L) (eM L F d) (aM J) x s < aM J x by omega)] at k; exact k) | (rw [if_neg (show ¬ bwv (nbL L) (eM L F d) (aM J) x s < aM J x by omega)] at k; exact k)
      refine j123 ?_
      refine mRun.go (q_iast dX9_layAway_138 hD.2.2.2.2.2.2.2.2.2.2.2.2.2.2.2 (by omega) (by omega)) ?_
      refine mRun.go (q_iinc (ls' := [some (mr 144), some (mr a), some (mi d), some (mi (y : Int)), some (mi (if ¬ ch = 0 ∨ bwv (nbL L) (eM L F d) (aM J) x s < aM J x then 1 else 0)), some (mi (x : Int)), some (mi ((s : Int) + 1)), some (mi (bwv (nbL L) (eM L F d) (aM J) x s))]) dX9_layAway_139 rfl (Nat.le_of_ble_eq_true rfl) rfl) ?_
      refine mRun.go (q_goto (tgt := 66) dX9_layAway_142 (by decide)) ?_
      have e1 : ((s : Int) + 1) = ((s + 1 : Nat) : Int) := by omega
      rw [e1]
      have hN2 : Nrm (mup J 159 x (if bwv (nbL L) (eM L F d) (aM J) x s < aM J x then bwv (nbL L) (eM L F d) (aM J) x s else aM J x)) := nrm_mup hJ (by split <;> omega)
      refine ih (s + 1) _ _ _ (by omega) (by omega) (by rw [show (x : Int).toNat = x by omega]; exact hN2) (fun r q => by rw [mup_nf q]; exact hfr r q) ?_
      rw [show (x : Int).toNat = x by omega, aM_mup]
      by_cases z : bwv (nbL L) (eM L F d) (aM J) x s < aM J x
      · have zc := hb2.1.mp z
        rw [if_pos (Or.inr z), if_pos z, hb2.2 z]
        exact pas_yes (wfg_m hL) hp hx hs4 zc
      · have zc : ¬ cst (nbL L) (eM L F d) (aM J) x s < aM J x := fun q => z (hb2.1.mpr q)
        rw [if_neg z, fup_self]
        have e4 : (if ¬ ch = 0 ∨ bwv (nbL L) (eM L F d) (aM J) x s < aM J x then (1 : Int) else 0) = ch := by
          rcases hp.2.1 with q | q
          · rw [if_neg (by omega), q]
          · rw [if_pos (by omega), q]
        rw [e4]
        exact pas_no hp zc

set_option maxRecDepth 100000 in
theorem m_lay_x {σ : List mC} {I : mI} {L : Ld} (hI : Nrm I) (hD : IsMd σ) (hL : LdOk L) (hLR : LRM I L) {a : Nat} {F : Fs} (ha : σ[a]? = some (.inr (.inl 170))) (hF : FRM I a 0 L F) (ha2 : a = 147 ∨ a = 148) {d : Int} (hd : -1 ≤ d ∧ d < lD L) {y : Nat} (hy : y < lQ L) {a0 : Nat → Int} {post : Option mV → mH → Prop} (kk : ∀ (J : mI) (ch : Int) (o5 o6 o7 : Option mV), Nrm J → (∀ r, r ≠ 159 → J r = I r) → Pas L (eM L F d) y a0 (lQ L) 0 ch (aM J) → mRun mZt mX9_layAway 151 [some (mr 144), some (mr a), some (mi d), some (mi (y : Int)), some (mi ch), o5, o6, o7] [] (σ, J) post) : ∀ (n x : Nat) (J : mI) (ch : Int) (o6 o7 : Option mV), lQ L - x < n → x ≤ lQ L → Nrm J → (∀ r, r ≠ 159 → J r = I r) → Pas L (eM L F d) y a0 x 0 ch (aM J) → mRun mZt mX9_layAway 49 [some (mr 144), some (mr a), some (mi d), some (mi (y : Int)), some (mi ch), some (mi (x : Int)), o6, o7] [] (σ, J) post := by
  intro n
  induction n with
  | zero => intro x J ch o6 o7 h; omega
  | succ n ih =>
    intro x J ch o6 o7 hn hx0 hJ hfr hp
    have hpr := lp_rng hL
    have hqe := lq_eq hL
    have hwr := hL.2.1
    have hrr := hL.1
    have hdr := hL.2.2.1
    have hnt := hL.2.2.2.1
    have hLRJ : LRM J L := hLR.fr (by rw [hfr 144 (by decide)]) (by rw [hfr 144 (by decide)]) (by rw [hfr 144 (by decide)]) (by rw [hfr 144 (by decide)]) (hfr 145 (by decide)) (hfr 146 (by decide))
    have hFJ : FRM J a 0 L F := hF.fr hL (fun k _ _ => by rw [hfr a (by omega)])
    have hch := hp.2.1
    refine mRun.go (q_iload dX9_layAway_49 rfl) ?_
    refine mRun.go (q_aload_n dX9_layAway_51 rfl rfl) ?_
    refine mRun.go (q_getE (x := lR L) dX9_layAway_52 fo_X9_85 hD.1 rfl hLRJ.1) ?_
    refine mRun.go (q_aload_n dX9_layAway_55 rfl rfl) ?_
    refine mRun.go (q_getE (x := lW L) dX9_layAway_56 fo_X9_88 hD.1 rfl hLRJ.2.1) ?_
    refine mRun.go (q_imul dX9_layAway_59) ?_
    refine r_icmp_ge (tgt := 151) dX9_layAway_60 (by decide) (by omega) (by have : lR L * lW L = lP L := rfl; omega) (fun c60 => ?_) (fun c60 => ?_)
    · have hxe : x = lQ L := by have : lR L * lW L = lP L := rfl; omega
      subst hxe
      exact kk J ch _ _ _ hJ hfr hp
    · refine mRun.go (q_iconst dX9_layAway_63) ?_
      refine mRun.go (q_istore (ls' := [some (mr 144), some (mr a), some (mi d), some (mi (y : Int)), some (mi ch), some (mi (x : Int)), some (mi 0), o7]) dX9_layAway_64 (Nat.le_of_ble_eq_true rfl) rfl) ?_
      have hx : x < lQ L := by have : lR L * lW L = lP L := rfl; omega
      refine m_lay_s hI hD hL hLR ha hF ha2 hd hy hx ?_ 5 0 J ch o7 (by omega) (by omega) hJ hfr hp
      intro J ch o7 hJ hfr hp
      have hLRJ : LRM J L := hLR.fr (by rw [hfr 144 (by decide)]) (by rw [hfr 144 (by decide)]) (by rw [hfr 144 (by decide)]) (by rw [hfr 144 (by decide)]) (hfr 145 (by decide)) (hfr 146 (by decide))
      refine mRun.go (q_iinc (ls' := [some (mr 144), some (mr a), some (mi d), some (mi (y : Int)), some (mi ch), some (mi ((x : Int) + 1)), some (mi 4), o7]) dX9_layAway_145 rfl (Nat.le_of_ble_eq_true rfl) rfl) ?_
      refine mRun.go (q_goto (tgt := 49) dX9_layAway_148 (by decide)) ?_
      have e1 : ((x : Int) + 1) = ((x + 1 : Nat) : Int) := by omega
      rw [e1]
      exact ih (x + 1) J ch _ o7 (by omega) (by omega) hJ hfr hp

set_option maxRecDepth 100000 in
theorem m_lay_w {σ : List mC} {I : mI} {L : Ld} (hI : Nrm I) (hD : IsMd σ) (hL : LdOk L) (hLR : LRM I L) {a : Nat} {F : Fs} (ha : σ[a]? = some (.inr (.inl 170))) (hF : FRM I a 0 L F) (ha2 : a = 147 ∨ a = 148) {d : Int} (hd : -1 ≤ d ∧ d < lD L) {y : Nat} (hy : y < lQ L) : ∀ (n : Nat) (J : mI) (ch : Int) (o5 o6 o7 : Option mV), (if ch = 0 then 0 else sm (aM J) (lQ L) + 1) < n → Nrm J → (∀ r, r ≠ 159 → J r = I r) → (ch = 0 ∨ ch = 1) → (ch = 1 → Pre (lQ L) (nbL L) (eM L F d) y (aM J)) → (ch = 0 → Bell (lQ L) (nbL L) (eM L F d) y (aM J)) → mRun mZt mX9_layAway 38 [some (mr 144), some (mr a), some (mi d), some (mi (y : Int)), some (mi ch), o5, o6, o7] [] (σ, J) (fun v h => v = none ∧ ∃ J, h = (σ, J) ∧ Nrm J ∧ (∀ r, r ≠ 159 → J r = I r) ∧ ∀ x, x < lQ L → J 159 x = dst (lQ L) (nbL L) (eM L F d) y x) := by
  intro n
  induction n with
  | zero => intro J ch o5 o6 o7 h; omega
  | succ n ih =>
    intro J ch o5 o6 o7 hn hJ hfr hch hpre hbell
    refine mRun.go (q_iload dX9_layAway_38 rfl) ?_
    refine r_if_eq (tgt := 154) dX9_layAway_40 (by decide) (by omega) (fun c40 => ?_) (fun c40 => ?_)
    · refine r_ret dX9_layAway_154 rfl ?_
      exact ⟨rfl, J, rfl, hJ, hfr, fun x hx => bell_eq (wfg_m hL) (hbell c40) (dst_bell (wfg_m hL)) hx⟩
    · refine mRun.go (q_iconst dX9_layAway_43) ?_
      refine mRun.go (q_istore (ls' := [some (mr 144), some (mr a), some (mi d), some (mi (y : Int)), some (mi 0), o5, o6, o7]) dX9_layAway_44 (Nat.le_of_ble_eq_true rfl) rfl) ?_
      refine mRun.go (q_iconst dX9_layAway_46) ?_
      refine mRun.go (q_istore (ls' := [some (mr 144), some (mr a), some (mi d), some (mi (y : Int)), some (mi 0), some (mi 0), o6, o7]) dX9_layAway_47 (Nat.le_of_ble_eq_true rfl) rfl) ?_
      have hc1 : ch = 1 := by omega
      refine m_lay_x (a0 := aM J) hI hD hL hLR ha hF ha2 hd hy ?_ (lQ L + 1) 0 J 0 o6 o7 (by omega) (by omega) hJ hfr (pas_0 (hpre hc1))
      intro J2 ch2 o5 o6 o7 hJ2 hfr2 hp2
      refine mRun.go (q_goto (tgt := 38) dX9_layAway_151 (by decide)) ?_
      refine ih J2 ch2 o5 o6 o7 ?_ hJ2 hfr2 hp2.2.1 (fun _ => hp2.1) (fun q => pas_end hp2 q)
      rcases hp2.2.1 with q | q
      · rw [if_pos q]; have : sm (aM J) (lQ L) + 1 < n + 1 := by rw [if_neg (by omega)] at hn; exact hn
        omega
      · rw [if_neg (by omega)]; have h4 := hp2.2.2.2.1 q; rw [if_neg (by omega)] at hn; omega

set_option maxRecDepth 100000 in
theorem m_lay_i {σ : List mC} {I : mI} {L : Ld} (hI : Nrm I) (hD : IsMd σ) (hL : LdOk L) (hLR : LRM I L) {a : Nat} {F : Fs} (ha : σ[a]? = some (.inr (.inl 170))) (hF : FRM I a 0 L F) (ha2 : a = 147 ∨ a = 148) {d : Int} (hd : -1 ≤ d ∧ d < lD L) {y : Nat} (hy : y < lQ L) : ∀ (n x : Nat) (J : mI), 36 - x < n → x ≤ 36 → Nrm J → (∀ r, r ≠ 159 → J r = I r) → (∀ z, z < x → J 159 z = ini y z) → mRun mZt mX9_layAway 3 [some (mr 144), some (mr a), some (mi d), some (mi (y : Int)), some (mi (x : Int)), none, none, none] [] (σ, J) (fun v h => v = none ∧ ∃ J, h = (σ, J) ∧ Nrm J ∧ (∀ r, r ≠ 159 → J r = I r) ∧ ∀ x, x < lQ L → J 159 x = dst (lQ L) (nbL L) (eM L F d) y x) := by
  intro n
  induction n with
  | zero => intro x J h; omega
  | succ n ih =>
    intro x J hn hx0 hJ hfr hin
    have hpr := lp_rng hL
    have hqe := lq_eq hL
    have hwr := hL.2.1
    have hrr := hL.1
    have hdr := hL.2.2.1
    have hnt := hL.2.2.2.1
    refine mRun.go (q_iload dX9_layAway_3 rfl) ?_
    refine mRun.go (q_bipush dX9_layAway_5 (by decide)) ?_
    refine r_icmp_ge (tgt := 35) dX9_layAway_7 (by decide) (by omega) (by omega) (fun c7 => ?_) (fun c7 => ?_)
    · refine mRun.go (q_iconst dX9_layAway_35) ?_
      refine mRun.go (q_istore (ls' := [some (mr 144), some (mr a), some (mi d), some (mi (y : Int)), some (mi 1), none, none, none]) dX9_layAway_36 (Nat.le_of_ble_eq_true rfl) rfl) ?_
      have hx36 : x = 36 := by omega
      have hpre : Pre (lQ L) (nbL L) (eM L F d) y (aM J) := pre_congr (nbl_rng hL) hy (fun z hz => hin z (by omega)) pre_ini
      exact m_lay_w hI hD hL hLR ha hF ha2 hd hy (sm (aM J) (lQ L) + 2) J 1 none none none (by rw [if_neg (by decide)]; omega) hJ hfr (Or.inr rfl) (fun _ => hpre) (fun q => by omega)
    · refine mRun.go (q_aload_n dX9_layAway_10 rfl rfl) ?_
      refine mRun.go (q_getR dX9_layAway_11 fo_X9_52 hD.1 rfl) ?_
      refine mRun.go (q_iload dX9_layAway_14 rfl) ?_
      refine mRun.go (q_iload dX9_layAway_16 rfl) ?_
      refine mRun.go (q_iload_n dX9_layAway_18 rfl rfl) ?_
      have j19 : ∀ {post : Option mV → mH → Prop}, mRun mZt mX9_layAway 28 [some (mr 144), some (mr a), some (mi d), some (mi (y : Int)), some (mi (x : Int)), none, none, none] [mi (if (x : Int) = (y : Int) then 0 else 1000000), mi (x : Int), mr 159] (σ, J) post → mRun mZt mX9_layAway 19 [some (mr 144), some (mr a), some (mi d), some (mi (y : Int)), some (mi (x : Int)), none, none, none] [mi (y : Int), mi (x : Int), mi (x : Int), mr 159] (σ, J) post := by
        intro post k
        refine r_icmp_ne (tgt := 26) dX9_layAway_19 (by decide) (by omega) (by omega) (fun c19 => ?_) (fun c19 => ?_)
        · refine mRun.go (q_ldc (a := 1000000) dX9_layAway_26 gw_965) ?_
          first | (rw [if_pos (Classical.not_not.mp c19)] at k; exact k) | (rw [if_neg c19] at k; exact k)
        · refine mRun.go (q_iconst dX9_layAway_22) ?_
          refine mRun.go (q_goto (tgt := 28) dX9_layAway_23 (by decide)) ?_
          first | (rw [if_pos (Classical.not_not.mp c19)] at k; exact k) | (rw [if_neg c19] at k; exact k)
      refine j19 ?_
      refine mRun.go (q_iast dX9_layAway_28 hD.2.2.2.2.2.2.2.2.2.2.2.2.2.2.2 (by omega) (by omega)) ?_
      refine mRun.go (q_iinc (ls' := [some (mr 144), some (mr a), some (mi d), some (mi (y : Int)), some (mi ((x : Int) + 1)), none, none, none]) dX9_layAway_29 rfl (Nat.le_of_ble_eq_true rfl) rfl) ?_
      refine mRun.go (q_goto (tgt := 3) dX9_layAway_32 (by decide)) ?_
      have e1 : ((x : Int) + 1) = ((x + 1 : Nat) : Int) := by omega
      rw [e1]
      refine ih (x + 1) _ (by omega) (by omega) (nrm_mup hJ (by split <;> omega)) (fun r q => by rw [mup_nf q]; exact hfr r q) (fun z hz => ?_)
      rw [show (x : Int).toNat = x by omega]
      by_cases q : z = x
      · rw [q, mup_self]
        unfold ini
        by_cases q2 : x = y
        · rw [if_pos (by omega), if_pos q2]
        · rw [if_neg (by omega), if_neg q2]
      · rw [mup_ne2 q]; exact hin z (by omega)

set_option maxRecDepth 100000 in
theorem m_layAway {σ : List mC} {I : mI} {L : Ld} (hI : Nrm I) (hD : IsMd σ) (hL : LdOk L) (hLR : LRM I L) {a : Nat} {F : Fs} (ha : σ[a]? = some (.inr (.inl 170))) (hF : FRM I a 0 L F) (ha2 : a = 147 ∨ a = 148) {d : Int} (hd : -1 ≤ d ∧ d < lD L) {y : Nat} (hy : y < lQ L)  : mMt mX9_layAway [mr 144, mr a, mi d, mi (y : Int)] (σ, I) (fun v h => v = none ∧ ∃ J, h = (σ, J) ∧ Nrm J ∧ (∀ r, r ≠ 159 → J r = I r) ∧ ∀ x, x < lQ L → J 159 x = dst (lQ L) (nbL L) (eM L F d) y x) := by
  refine mMt.of pl_9 (Nat.le_of_ble_eq_true rfl) ?_
  show mRun mZt mX9_layAway 0 [some (mr 144), some (mr a), some (mi d), some (mi (y : Int)), none, none, none, none] [] (σ, I) _
  refine mRun.go (q_iconst dX9_layAway_0) ?_
  refine mRun.go (q_istore (ls' := [some (mr 144), some (mr a), some (mi d), some (mi (y : Int)), some (mi 0), none, none, none]) dX9_layAway_1 (Nat.le_of_ble_eq_true rfl) rfl) ?_
  exact m_lay_i hI hD hL hLR ha hF ha2 hd hy 37 0 I (by omega) (by omega) hI (fun _ _ => rfl) (fun z hz => by omega)
