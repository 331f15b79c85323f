/-! ===== the reference's constructor ===== -/
section MK2
variable {Z : mZ} {M : mM} {pc idx3 : Nat} {ls : mL} {st : List mV} {σ rest : List mC} {n j : Nat} {I : mI}
theorem mzr_z {k : Nat} (h : I k = fun _ => 0) : mzr I k = I := by
  funext r q
  unfold mzr
  split
  · next z => rw [z, h]
  · rfl
theorem n_arrZ {cj k kk : Nat} {gs : List (Option (Option Nat))} {o' : Option Nat} (hn : σ.length = n) (hz : ∀ r, n ≤ r → I r = mI0 r) (hj : rest.length = j) (d0 : decode M.2.1 pc = .ok (.newarray .int, 2)) (w : Cond.arrayClass .int ∈ gtbl) (hkk : kk < 100000) (d3 : decode M.2.1 (pc + 2) = .ok (.putfield idx3, 3)) (ok3 : mOkF M.1.cls idx3 cj k) (hfp : ∀ q : vw_C, mcl[cj]? = some q → (q.2.1 k).2.2.2 = true ∧ (q.2.1 k).1 = M.1.cls) (hty : (∃ n, mty cj k = .object n) ∨ ∃ t, mty cj k = .array t) (hin : M.1.name = "<init>") (hk : gs[k]? = some (some o')) :
    mGo Z M pc ls (mi (kk : Int) :: mr n :: st) (σ ++ (.inl (cj, gs)) :: rest, I) (pc + 5) ls st (σ ++ (.inl (cj, gs.set k (some (some (n + 1 + j))))) :: (rest ++ [.inr (.inl kk)]), I) := by
  have hl : (σ ++ (.inl (cj, gs)) :: rest).length = n + 1 + j := by rw [List.length_append, List.length_cons, hn, hj]; omega
  have g1 : mGo Z M pc ls (mi (kk : Int) :: mr n :: st) (σ ++ (.inl (cj, gs)) :: rest, I) (pc + 2) ls (mr (n + 1 + j) :: mr n :: st) ((σ ++ (.inl (cj, gs)) :: rest) ++ [.inr (.inl kk)], I) := by
    have g := q_newI (Z := Z) (ls := ls) (st := mr n :: st) (σ := σ ++ (.inl (cj, gs)) :: rest) (I := I) (n := (kk : Int)) d0 w ⟨by omega, by omega⟩
    rw [hl, mzr_z (hz _ (by omega)), show ((kk : Int)).toNat = kk by omega] at g
    exact g
  refine g1.tr ?_
  have hg : ((σ ++ (.inl (cj, gs)) :: rest) ++ [.inr (.inl kk)])[n]? = some (.inl (cj, gs)) := by
    rw [List.append_assoc]
    exact get_at0 σ (rest ++ [.inr (.inl kk)]) _ hn
  have g5 := q_putR (Z := Z) (ls := ls) (st := st) (I := I) (o := some (n + 1 + j)) d3 ok3 hfp hty hin hg hk
  rw [List.append_assoc, show (.inl (cj, gs)) :: rest ++ [(.inr (.inl kk) : mC)] = (.inl (cj, gs)) :: (rest ++ [.inr (.inl kk)]) from rfl, set_at σ _ _ _ hn] at g5
  rw [List.append_assoc]
  exact g5
end MK2
/-- a row of the land more -/
def rowR (R : Rd) (s : Int) : Rd := (rRows R + 1, ((5 : Nat) : Int), (fun j => if rPl R ≤ j ∧ j < rPl R + ((5 : Nat) : Int) then cF (s + (j - rPl R)) - 48 else rGr R j), rDr R, rKd R, rOd R, rNt R, rTv R, rWet R)
theorem m_laysRow2 {σ : List mC} {I : mI} {R : Rd} {s fg : Int} {o : Nat} (hI : Nrm I) (hD : IsMd σ) (hRd : RdM I R) (hf : ∀ k : Fin 5, 0 ≤ cF (s + ((k.val : Nat) : Int)) - 48 ∧ cF (s + ((k.val : Nat) : Int)) - 48 ≤ 9) (hfg : dcm (fun k : Nat => cF (s + (k : Int)) - 48) 5 = fg) (hr : 0 ≤ rRows R ∧ rRows R ≤ 5) (ho : ((5 : Nat) : Int) * rRows R = (o : Int)) (hpl : rPl R = (o : Int)) : mMt mX9_laysRow [mr 144, mi fg, mi 5] (σ, I) (fun v h => v = none ∧ ∃ K, h = (σ, K) ∧ Nrm K ∧ RdM K (rowR R s) ∧ FrM I K) := by
  have hf' : ∀ k, k < 5 → 0 ≤ (fun k : Nat => cF (s + (k : Int)) - 48) k ∧ (fun k : Nat => cF (s + (k : Int)) - 48) k ≤ 9 := fun k hk => hf ⟨k, hk⟩
  have h := m_laysRow (f := fun k : Nat => cF (s + (k : Int)) - 48) (m := 5) (o := o) (rw := rRows R) hI hD (by decide) hf' hRd.1 (by omega) ho (by omega)
  rw [hfg] at h
  refine ⟨none, _, h, rfl, _, rfl, nrm_mup (nrm_mup (nrm_rwp hI hf') (by decide)) (by omega), rd_row hRd ho hpl, fun r a b c => ?_, fun k hk => ?_⟩
  · rw [mup_nf a, mup_nf a, rwp_nf (by omega)]
  · rw [mup_ne2 (by omega), mup_ne2 (by omega), rwp_nf (by decide)]
theorem m_laysTrav2 {σ : List mC} {I : mI} {R : Rd} {x y d : Int} (hI : Nrm I) (hD : IsMd σ) (hRd : RdM I R) (hn : 0 ≤ rNt R ∧ rNt R < 4) (hx : -2147483648 ≤ x ∧ x < 2147483648) (hy : -2147483648 ≤ y ∧ y < 2147483648) (hd : -2147483648 ≤ d ∧ d < 2147483648) : mMt mX9_laysTraveller [mr 144, mi x, mi y, mi d] (σ, I) (fun v h => v = none ∧ ∃ K, h = (σ, K) ∧ Nrm K ∧ RdM K (rRows R, rWid R, rGr R, rDr R, rKd R, rOd R, rNt R + 1, iup (rTv R) (rNt R) (x, y, d), rWet R) ∧ FrM I K) :=
  ⟨none, _, m_laysTraveller hI hD hRd.2.2.2.2.2.2.1 hn hx hy hd, rfl, _, rfl, nrm_mup (nrm_mup (nrm_mup (nrm_mup hI hx) hy) hd) (by omega), rd_trav hRd hn.1, fun r a b c => by rw [mup_nf a, mup_nf (by omega), mup_nf (by omega), mup_nf (by omega)], fun k hk => by rw [mup_ne2 (by omega), mup_ne (by decide), mup_ne (by decide), mup_ne (by decide)]⟩
theorem rd_kinds {K : mI} {R : Rd} (h : RdM K R) : RdM (mup (mup (mup (mup (mup K 154 0 0) 154 1 1) 154 2 2) 154 3 3) 144 19 4) (rRows R, rWid R, rGr R, 4, (fun d => d), rOd R, rNt R, rTv R, rWet R) := by
  obtain ⟨h1, h2, h3, h4, h5, h6, h7, h8, h9⟩ := h
  have hk : ∀ k, k ≠ 19 → (mup (mup (mup (mup (mup K 154 0 0) 154 1 1) 154 2 2) 154 3 3) 144 19 4) 144 k = K 144 k := fun k a => by rw [mup_ne2 a, mup_ne (by decide), mup_ne (by decide), mup_ne (by decide), mup_ne (by decide)]
  have hr : ∀ r, r ≠ 144 → r ≠ 154 → (mup (mup (mup (mup (mup K 154 0 0) 154 1 1) 154 2 2) 154 3 3) 144 19 4) r = K r := fun r a b => by rw [mup_nf a, mup_nf b, mup_nf b, mup_nf b, mup_nf b]
  refine ⟨(hk 16 (by decide)).trans h1, (hk 17 (by decide)).trans h2, fun j hj => by rw [hr 153 (by decide) (by decide)]; exact h3 j hj, mup_self, fun d hd => ?_, fun i hi => by rw [hr 155 (by decide) (by decide)]; exact h6 i hi, (hk 22 (by decide)).trans h7, fun t ht => by rw [hr 156 (by decide) (by decide), hr 157 (by decide) (by decide), hr 158 (by decide) (by decide)]; exact h8 t ht, (hk 26 (by decide)).trans h9⟩
  have hd : (d : Int) < 4 := hd
  show _ = (d : Int)
  rw [mup_ne (by decide)]
  match d, hd with
  | 0, _ => simp [mup]
  | 1, _ => simp [mup]
  | 2, _ => simp [mup]
  | 3, _ => simp [mup]
  | _ + 4, h => exact absurd h (by omega)
/-- what is read is known by its parts -/
theorem RdM.to {K : mI} {R R' : Rd} (h : RdM K R) (e1 : rRows R = rRows R') (e2 : rWid R = rWid R') (e3 : ∀ j : Nat, (j : Int) < rPl R' → rGr R j = rGr R' j) (e4 : rDr R = rDr R') (e5 : ∀ d : Nat, (d : Int) < rDr R' → rKd R d = rKd R' d) (e6 : ∀ i : Nat, i < 144 → rOd R i = rOd R' i) (e7 : rNt R = rNt R') (e8 : ∀ t : Nat, (t : Int) < rNt R' → rTv R t = rTv R' t) (e9 : rWet R = rWet R') : RdM K R' := by
  obtain ⟨h1, h2, h3, h4, h5, h6, h7, h8, h9⟩ := h
  have ep : rPl R = rPl R' := by show rRows R * rWid R = rRows R' * rWid R'; rw [e1, e2]
  refine ⟨h1.trans e1, h2.trans e2, fun j hj => (h3 j (by rw [ep]; exact hj)).trans (e3 j hj), h4.trans e4, fun d hd => (h5 d (by rw [e4]; exact hd)).trans (e5 d hd), fun i hi => by rw [← e6 i hi]; exact h6 i hi, h7.trans e7, fun t ht => by rw [← e8 t ht]; exact h8 t (by rw [e7]; exact ht), h9.trans e9⟩

def bModel : List mC := .inl (9, [none, none, some (some 145), none, some (some 146), none, some (some 147), some (some 148), some (some 149), none, some (some 150), none, some (some 151), none, some (some 152), none, none, none, some (some 153), none, some (some 154), some (some 155), none, some (some 156), some (some 157), some (some 158), none, none, none, some (some 159)]) :: ((((((((((((((([] ++ [.inr (.inl 36)]) ++ [.inr (.inl 4)]) ++ [.inr (.inl 170)]) ++ [.inr (.inl 170)]) ++ [.inr (.inl 1360)]) ++ [.inr (.inl 340)]) ++ [.inr (.inl 16)]) ++ [.inr (.inl 200)]) ++ [.inr (.inl 36)]) ++ [.inr (.inl 4)]) ++ [.inr (.inl 144)]) ++ [.inr (.inl 4)]) ++ [.inr (.inl 4)]) ++ [.inr (.inl 4)]) ++ [.inr (.inl 36)])

def bAll : List mC := bDrum ++ bModel
theorem bA_md : IsMd bAll := ⟨(get_at bDrum bModel (k := 0) bD_len).trans rfl, (get_at bDrum bModel (k := 1) bD_len).trans rfl, (get_at bDrum bModel (k := 2) bD_len).trans rfl, (get_at bDrum bModel (k := 3) bD_len).trans rfl, (get_at bDrum bModel (k := 4) bD_len).trans rfl, (get_at bDrum bModel (k := 5) bD_len).trans rfl, (get_at bDrum bModel (k := 6) bD_len).trans rfl, (get_at bDrum bModel (k := 7) bD_len).trans rfl, (get_at bDrum bModel (k := 8) bD_len).trans rfl, (get_at bDrum bModel (k := 9) bD_len).trans rfl, (get_at bDrum bModel (k := 10) bD_len).trans rfl, (get_at bDrum bModel (k := 11) bD_len).trans rfl, (get_at bDrum bModel (k := 12) bD_len).trans rfl, (get_at bDrum bModel (k := 13) bD_len).trans rfl, (get_at bDrum bModel (k := 14) bD_len).trans rfl, (get_at bDrum bModel (k := 15) bD_len).trans rfl⟩

abbrev kdR (R : Rd) : Rd := (rRows R, rWid R, rGr R, 4, (fun d => d), rOd R, rNt R, rTv R, rWet R)
abbrev otR (R : Rd) (d x v : Int) : Rd := (rRows R, rWid R, rGr R, rDr R, rKd R, iup (rOd R) (d * 36 + x) v, rNt R, rTv R, rWet R)
abbrev tvR (R : Rd) (x y d : Int) : Rd := (rRows R, rWid R, rGr R, rDr R, rKd R, rOd R, rNt R + 1, iup (rTv R) (rNt R) (x, y, d), rWet R)
abbrev wtR (R : Rd) (v : Int) : Rd := (rRows R, rWid R, rGr R, rDr R, rKd R, rOd R, rNt R, rTv R, v)
def RF9 : Rd := (wtR (tvR (tvR (tvR (tvR (otR (otR (otR (otR (otR (kdR (rowR (rowR (rowR (rowR rd0 1) 8) 15) 22)) 0 7 0) 0 13 3) 1 1 2) 2 11 0) 3 18 0) 0 19 0) 4 15 1) 15 4 2) 10 9 3) 1)
theorem rF9_n : rRows RF9 = rRows (rdS cF 113) ∧ rWid RF9 = rWid (rdS cF 113) ∧ rDr RF9 = rDr (rdS cF 113) ∧ rNt RF9 = rNt (rdS cF 113) ∧ rWet RF9 = rWet (rdS cF 113) := by decide +kernel
theorem rF9_g : ∀ j : Fin 20, rGr RF9 ((j.val : Nat) : Int) = rGr (rdS cF 113) ((j.val : Nat) : Int) := by decide +kernel
theorem rF9_k : ∀ j : Fin 4, rKd RF9 ((j.val : Nat) : Int) = rKd (rdS cF 113) ((j.val : Nat) : Int) := by decide +kernel
theorem rF9_o : ∀ j : Fin 144, rOd RF9 ((j.val : Nat) : Int) = rOd (rdS cF 113) ((j.val : Nat) : Int) := by decide +kernel
theorem rF9_t : ∀ j : Fin 4, rTv RF9 ((j.val : Nat) : Int) = rTv (rdS cF 113) ((j.val : Nat) : Int) := by decide +kernel
theorem rF_pl : rPl (rdS cF 113) = 20 := by decide +kernel
theorem rF_to {K : mI} (h : RdM K RF9) : RdM K (rdS cF 113) := h.to rF9_n.1 rF9_n.2.1 (fun j hj => rF9_g ⟨j, by rw [rF_pl] at hj; omega⟩) rF9_n.2.2.1 (fun d hd => rF9_k ⟨d, by rw [rF_n.2.2.1] at hd; omega⟩) (fun i hi => rF9_o ⟨i, hi⟩) rF9_n.2.2.2.1 (fun t ht => rF9_t ⟨t, by rw [rF_n.2.2.2.1] at ht; omega⟩) rF9_n.2.2.2.2

set_option maxRecDepth 100000 in
theorem c_Model_b {I : mI} (hI : Nrm I) (hz : ∀ r, 144 ≤ r → I r = mI0 r) : mRun mZt mX9_init 125 [some (mr 144), none] [] (bAll, I) (fun v h => v = none ∧ ∃ K : mI, h = (bAll, K) ∧ (∀ r, r < 144 → K r = I r) ∧ MS bAll K S0) := by
  have hD := bA_md
  refine mRun.go (q_aload_n dX9_init_125 rfl rfl) ?_
  obtain ⟨v1, h1, hc1, rfl, K1, rfl, hK1, hR1, hfa, hfb⟩ := m_forgetsRead hI hD
  have hf1 : FrM I K1 := ⟨fun r a b d => hfa r a (by omega), fun k hk => hfb k (by omega) (by omega) (by omega) (by omega) (by omega)⟩
  refine mRun.go (q_callVv (r := 144) [] [] dX9_init_126 co_X9_55 ⟨Nat.le_of_ble_eq_true rfl, Nat.le_of_ble_eq_true rfl⟩ gw_740 gs_24 rfl hD.1 rfl rfl rfl (Nat.le_of_ble_eq_true rfl) hc1) ?_
  refine mRun.go (q_aload_n dX9_init_129 rfl rfl) ?_
  refine mRun.go (q_bipush dX9_init_130 (by decide)) ?_
  refine mRun.go (q_iconst dX9_init_132) ?_
  obtain ⟨v2, h2, hc2, rfl, K2, rfl, hK2, hR2, hg2⟩ := m_laysRow2 (R := rd0) (s := 1) (fg := 123) (o := 0) hK1 hD hR1 (by decide +kernel) (by decide +kernel) (by decide +kernel) (by decide +kernel) (by decide +kernel)
  have hf2 := frm_tr hf1 hg2
  refine mRun.go (q_callVv (r := 144) [mi 123, mi 5] [] dX9_init_133 co_X9_58 ⟨Nat.le_of_ble_eq_true rfl, Nat.le_of_ble_eq_true rfl⟩ gw_744 gs_25 rfl hD.1 rfl rfl rfl (Nat.le_of_ble_eq_true rfl) hc2) ?_
  refine mRun.go (q_aload_n dX9_init_136 rfl rfl) ?_
  refine mRun.go (q_sipush dX9_init_137 (by decide)) ?_
  refine mRun.go (q_iconst dX9_init_140) ?_
  obtain ⟨v3, h3, hc3, rfl, K3, rfl, hK3, hR3, hg3⟩ := m_laysRow2 (R := (rowR rd0 1)) (s := 8) (fg := 1110) (o := 5) hK2 hD hR2 (by decide +kernel) (by decide +kernel) (by decide +kernel) (by decide +kernel) (by decide +kernel)
  have hf3 := frm_tr hf2 hg3
  refine mRun.go (q_callVv (r := 144) [mi 1110, mi 5] [] dX9_init_141 co_X9_58 ⟨Nat.le_of_ble_eq_true rfl, Nat.le_of_ble_eq_true rfl⟩ gw_744 gs_25 rfl hD.1 rfl rfl rfl (Nat.le_of_ble_eq_true rfl) hc3) ?_
  refine mRun.go (q_aload_n dX9_init_144 rfl rfl) ?_
  refine mRun.go (q_sipush dX9_init_145 (by decide)) ?_
  refine mRun.go (q_iconst dX9_init_148) ?_
  obtain ⟨v4, h4, hc4, rfl, K4, rfl, hK4, hR4, hg4⟩ := m_laysRow2 (R := (rowR (rowR rd0 1) 8)) (s := 15) (fg := 32010) (o := 10) hK3 hD hR3 (by decide +kernel) (by decide +kernel) (by decide +kernel) (by decide +kernel) (by decide +kernel)
  have hf4 := frm_tr hf3 hg4
  refine mRun.go (q_callVv (r := 144) [mi 32010, mi 5] [] dX9_init_149 co_X9_58 ⟨Nat.le_of_ble_eq_true rfl, Nat.le_of_ble_eq_true rfl⟩ gw_744 gs_25 rfl hD.1 rfl rfl rfl (Nat.le_of_ble_eq_true rfl) hc4) ?_
  refine mRun.go (q_aload_n dX9_init_152 rfl rfl) ?_
  refine mRun.go (q_sipush dX9_init_153 (by decide)) ?_
  refine mRun.go (q_iconst dX9_init_156) ?_
  obtain ⟨v5, h5, hc5, rfl, K5, rfl, hK5, hR5, hg5⟩ := m_laysRow2 (R := (rowR (rowR (rowR rd0 1) 8) 15)) (s := 22) (fg := 130) (o := 15) hK4 hD hR4 (by decide +kernel) (by decide +kernel) (by decide +kernel) (by decide +kernel) (by decide +kernel)
  have hf5 := frm_tr hf4 hg5
  refine mRun.go (q_callVv (r := 144) [mi 130, mi 5] [] dX9_init_157 co_X9_58 ⟨Nat.le_of_ble_eq_true rfl, Nat.le_of_ble_eq_true rfl⟩ gw_744 gs_25 rfl hD.1 rfl rfl rfl (Nat.le_of_ble_eq_true rfl) hc5) ?_
  refine mRun.go (q_iconst dX9_init_160) ?_
  refine mRun.go (q_istore_n (ls' := [some (mr 144), some (mi 0)]) dX9_init_161 rfl (Nat.le_of_ble_eq_true rfl) rfl) ?_
  refine mRun.go (q_iload_n dX9_init_162 rfl rfl) ?_
  refine mRun.go (q_iconst dX9_init_163) ?_
  refine mRun.go (q_icmp_ge_f (tgt := 180) dX9_init_164 (by decide) (by omega) (by omega) (by decide)) ?_
  refine mRun.go (q_aload_n dX9_init_167 rfl rfl) ?_
  refine mRun.go (q_getR dX9_init_168 fo_X9_37 hD.1 rfl) ?_
  refine mRun.go (q_iload_n dX9_init_171 rfl rfl) ?_
  refine mRun.go (q_iload_n dX9_init_172 rfl rfl) ?_
  refine mRun.go (q_iast dX9_init_173 hD.2.2.2.2.2.2.2.2.2.2.1 (by omega) (by omega)) ?_
  refine mRun.go (q_iinc (ls' := [some (mr 144), some (mi ((0 : Int) + 1))]) dX9_init_174 rfl (Nat.le_of_ble_eq_true rfl) rfl) ?_
  refine mRun.go (q_goto (tgt := 162) dX9_init_177 (by decide)) ?_
  refine mRun.go (q_iload_n dX9_init_162 rfl rfl) ?_
  refine mRun.go (q_iconst dX9_init_163) ?_
  refine mRun.go (q_icmp_ge_f (tgt := 180) dX9_init_164 (by decide) (by omega) (by omega) (by decide)) ?_
  refine mRun.go (q_aload_n dX9_init_167 rfl rfl) ?_
  refine mRun.go (q_getR dX9_init_168 fo_X9_37 hD.1 rfl) ?_
  refine mRun.go (q_iload_n dX9_init_171 rfl rfl) ?_
  refine mRun.go (q_iload_n dX9_init_172 rfl rfl) ?_
  refine mRun.go (q_iast dX9_init_173 hD.2.2.2.2.2.2.2.2.2.2.1 (by omega) (by omega)) ?_
  refine mRun.go (q_iinc (ls' := [some (mr 144), some (mi (((0 : Int) + 1) + 1))]) dX9_init_174 rfl (Nat.le_of_ble_eq_true rfl) rfl) ?_
  refine mRun.go (q_goto (tgt := 162) dX9_init_177 (by decide)) ?_
  refine mRun.go (q_iload_n dX9_init_162 rfl rfl) ?_
  refine mRun.go (q_iconst dX9_init_163) ?_
  refine mRun.go (q_icmp_ge_f (tgt := 180) dX9_init_164 (by decide) (by omega) (by omega) (by decide)) ?_
  refine mRun.go (q_aload_n dX9_init_167 rfl rfl) ?_
  refine mRun.go (q_getR dX9_init_168 fo_X9_37 hD.1 rfl) ?_
  refine mRun.go (q_iload_n dX9_init_171 rfl rfl) ?_
  refine mRun.go (q_iload_n dX9_init_172 rfl rfl) ?_
  refine mRun.go (q_iast dX9_init_173 hD.2.2.2.2.2.2.2.2.2.2.1 (by omega) (by omega)) ?_
  refine mRun.go (q_iinc (ls' := [some (mr 144), some (mi ((((0 : Int) + 1) + 1) + 1))]) dX9_init_174 rfl (Nat.le_of_ble_eq_true rfl) rfl) ?_
  refine mRun.go (q_goto (tgt := 162) dX9_init_177 (by decide)) ?_
  refine mRun.go (q_iload_n dX9_init_162 rfl rfl) ?_
  refine mRun.go (q_iconst dX9_init_163) ?_
  refine mRun.go (q_icmp_ge_f (tgt := 180) dX9_init_164 (by decide) (by omega) (by omega) (by decide)) ?_
  refine mRun.go (q_aload_n dX9_init_167 rfl rfl) ?_
  refine mRun.go (q_getR dX9_init_168 fo_X9_37 hD.1 rfl) ?_
  refine mRun.go (q_iload_n dX9_init_171 rfl rfl) ?_
  refine mRun.go (q_iload_n dX9_init_172 rfl rfl) ?_
  refine mRun.go (q_iast dX9_init_173 hD.2.2.2.2.2.2.2.2.2.2.1 (by omega) (by omega)) ?_
  refine mRun.go (q_iinc (ls' := [some (mr 144), some (mi (((((0 : Int) + 1) + 1) + 1) + 1))]) dX9_init_174 rfl (Nat.le_of_ble_eq_true rfl) rfl) ?_
  refine mRun.go (q_goto (tgt := 162) dX9_init_177 (by decide)) ?_
  refine mRun.go (q_iload_n dX9_init_162 rfl rfl) ?_
  refine mRun.go (q_iconst dX9_init_163) ?_
  refine mRun.go (q_icmp_ge_t (tgt := 180) dX9_init_164 (by decide) (by omega) (by omega) (by decide)) ?_
  refine mRun.go (q_aload_n dX9_init_180 rfl rfl) ?_
  refine mRun.go (q_iconst dX9_init_181) ?_
  refine mRun.go (q_putI dX9_init_182 fo_X9_62 fp_9_19 hD.1 rfl) ?_
  obtain ⟨K6, e6⟩ : ∃ K6 : mI, K6 = mup (mup (mup (mup (mup K5 154 ((0 : Int).toNat) (0 : Int)) 154 (((0 : Int) + 1).toNat) ((0 : Int) + 1)) 154 ((((0 : Int) + 1) + 1).toNat) (((0 : Int) + 1) + 1)) 154 (((((0 : Int) + 1) + 1) + 1).toNat) ((((0 : Int) + 1) + 1) + 1)) 144 19 4 := ⟨_, rfl⟩
  rw [← e6]
  have hK6 : Nrm K6 := by rw [e6]; exact (nrm_mup (nrm_mup (nrm_mup (nrm_mup (nrm_mup hK5 (by omega)) (by omega)) (by omega)) (by omega)) (by omega))
  have hR6 : RdM K6 (kdR (rowR (rowR (rowR (rowR rd0 1) 8) 15) 22)) := by rw [e6]; exact rd_kinds hR5
  have hf6 : FrM I K6 := by
    rw [e6]
    exact ⟨fun r a b d => by rw [mup_nf a, mup_nf (by omega), mup_nf (by omega), mup_nf (by omega), mup_nf (by omega)]; exact hf5.1 r a b d, fun k hk => by rw [mup_ne2 (by omega), mup_ne (by decide), mup_ne (by decide), mup_ne (by decide), mup_ne (by decide)]; exact hf5.2 k hk⟩
  refine mRun.go (q_aload_n dX9_init_185 rfl rfl) ?_
  refine mRun.go (q_getR dX9_init_186 fo_X9_40 hD.1 rfl) ?_
  refine mRun.go (q_bipush dX9_init_189 (by decide)) ?_
  refine mRun.go (q_iconst dX9_init_191) ?_
  refine mRun.go (q_iast dX9_init_192 hD.2.2.2.2.2.2.2.2.2.2.2.1 (by omega) (by omega)) ?_
  obtain ⟨K7, e7⟩ : ∃ K7 : mI, K7 = mup K6 155 (7 : Int).toNat 0 := ⟨_, rfl⟩
  rw [← e7]
  have hK7 : Nrm K7 := by rw [e7]; exact (nrm_mup hK6 (by omega))
  have hR7 : RdM K7 (otR (kdR (rowR (rowR (rowR (rowR rd0 1) 8) 15) 22)) 0 7 0) := by rw [e7]; exact rd_other (d := 0) (x := 7) (v := 0) hR6 (by decide) (by decide) (by decide)
  have hf7 : FrM I K7 := by
    rw [e7]
    exact ⟨fun r a b d => by rw [mup_nf (by omega)]; exact hf6.1 r a b d, fun k hk => by rw [mup_ne (by decide)]; exact hf6.2 k hk⟩
  refine mRun.go (q_aload_n dX9_init_193 rfl rfl) ?_
  refine mRun.go (q_getR dX9_init_194 fo_X9_40 hD.1 rfl) ?_
  refine mRun.go (q_bipush dX9_init_197 (by decide)) ?_
  refine mRun.go (q_iconst dX9_init_199) ?_
  refine mRun.go (q_iast dX9_init_200 hD.2.2.2.2.2.2.2.2.2.2.2.1 (by omega) (by omega)) ?_
  obtain ⟨K8, e8⟩ : ∃ K8 : mI, K8 = mup K7 155 (13 : Int).toNat 3 := ⟨_, rfl⟩
  rw [← e8]
  have hK8 : Nrm K8 := by rw [e8]; exact (nrm_mup hK7 (by omega))
  have hR8 : RdM K8 (otR (otR (kdR (rowR (rowR (rowR (rowR rd0 1) 8) 15) 22)) 0 7 0) 0 13 3) := by rw [e8]; exact rd_other (d := 0) (x := 13) (v := 3) hR7 (by decide) (by decide) (by decide)
  have hf8 : FrM I K8 := by
    rw [e8]
    exact ⟨fun r a b d => by rw [mup_nf (by omega)]; exact hf7.1 r a b d, fun k hk => by rw [mup_ne (by decide)]; exact hf7.2 k hk⟩
  refine mRun.go (q_aload_n dX9_init_201 rfl rfl) ?_
  refine mRun.go (q_getR dX9_init_202 fo_X9_40 hD.1 rfl) ?_
  refine mRun.go (q_bipush dX9_init_205 (by decide)) ?_
  refine mRun.go (q_iconst dX9_init_207) ?_
  refine mRun.go (q_iast dX9_init_208 hD.2.2.2.2.2.2.2.2.2.2.2.1 (by omega) (by omega)) ?_
  obtain ⟨K9, e9⟩ : ∃ K9 : mI, K9 = mup K8 155 (37 : Int).toNat 2 := ⟨_, rfl⟩
  rw [← e9]
  have hK9 : Nrm K9 := by rw [e9]; exact (nrm_mup hK8 (by omega))
  have hR9 : RdM K9 (otR (otR (otR (kdR (rowR (rowR (rowR (rowR rd0 1) 8) 15) 22)) 0 7 0) 0 13 3) 1 1 2) := by rw [e9]; exact rd_other (d := 1) (x := 1) (v := 2) hR8 (by decide) (by decide) (by decide)
  have hf9 : FrM I K9 := by
    rw [e9]
    exact ⟨fun r a b d => by rw [mup_nf (by omega)]; exact hf8.1 r a b d, fun k hk => by rw [mup_ne (by decide)]; exact hf8.2 k hk⟩
  refine mRun.go (q_aload_n dX9_init_209 rfl rfl) ?_
  refine mRun.go (q_getR dX9_init_210 fo_X9_40 hD.1 rfl) ?_
  refine mRun.go (q_bipush dX9_init_213 (by decide)) ?_
  refine mRun.go (q_iconst dX9_init_215) ?_
  refine mRun.go (q_iast dX9_init_216 hD.2.2.2.2.2.2.2.2.2.2.2.1 (by omega) (by omega)) ?_
  obtain ⟨K10, e10⟩ : ∃ K10 : mI, K10 = mup K9 155 (83 : Int).toNat 0 := ⟨_, rfl⟩
  rw [← e10]
  have hK10 : Nrm K10 := by rw [e10]; exact (nrm_mup hK9 (by omega))
  have hR10 : RdM K10 (otR (otR (otR (otR (kdR (rowR (rowR (rowR (rowR rd0 1) 8) 15) 22)) 0 7 0) 0 13 3) 1 1 2) 2 11 0) := by rw [e10]; exact rd_other (d := 2) (x := 11) (v := 0) hR9 (by decide) (by decide) (by decide)
  have hf10 : FrM I K10 := by
    rw [e10]
    exact ⟨fun r a b d => by rw [mup_nf (by omega)]; exact hf9.1 r a b d, fun k hk => by rw [mup_ne (by decide)]; exact hf9.2 k hk⟩
  refine mRun.go (q_aload_n dX9_init_217 rfl rfl) ?_
  refine mRun.go (q_getR dX9_init_218 fo_X9_40 hD.1 rfl) ?_
  refine mRun.go (q_bipush dX9_init_221 (by decide)) ?_
  refine mRun.go (q_iconst dX9_init_223) ?_
  refine mRun.go (q_iast dX9_init_224 hD.2.2.2.2.2.2.2.2.2.2.2.1 (by omega) (by omega)) ?_
  obtain ⟨K11, e11⟩ : ∃ K11 : mI, K11 = mup K10 155 (126 : Int).toNat 0 := ⟨_, rfl⟩
  rw [← e11]
  have hK11 : Nrm K11 := by rw [e11]; exact (nrm_mup hK10 (by omega))
  have hR11 : RdM K11 (otR (otR (otR (otR (otR (kdR (rowR (rowR (rowR (rowR rd0 1) 8) 15) 22)) 0 7 0) 0 13 3) 1 1 2) 2 11 0) 3 18 0) := by rw [e11]; exact rd_other (d := 3) (x := 18) (v := 0) hR10 (by decide) (by decide) (by decide)
  have hf11 : FrM I K11 := by
    rw [e11]
    exact ⟨fun r a b d => by rw [mup_nf (by omega)]; exact hf10.1 r a b d, fun k hk => by rw [mup_ne (by decide)]; exact hf10.2 k hk⟩
  refine mRun.go (q_aload_n dX9_init_225 rfl rfl) ?_
  refine mRun.go (q_iconst dX9_init_226) ?_
  refine mRun.go (q_bipush dX9_init_227 (by decide)) ?_
  refine mRun.go (q_iconst dX9_init_229) ?_
  obtain ⟨v12, h12, hc12, rfl, K12, rfl, hK12, hR12, hg12⟩ := m_laysTrav2 (R := (otR (otR (otR (otR (otR (kdR (rowR (rowR (rowR (rowR rd0 1) 8) 15) 22)) 0 7 0) 0 13 3) 1 1 2) 2 11 0) 3 18 0)) (x := 0) (y := 19) (d := 0) hK11 hD hR11 (by decide +kernel) (by decide) (by decide) (by decide)
  have hf12 := frm_tr hf11 hg12
  refine mRun.go (q_callVv (r := 144) [mi 0, mi 19, mi 0] [] dX9_init_230 co_X9_66 ⟨Nat.le_of_ble_eq_true rfl, Nat.le_of_ble_eq_true rfl⟩ gw_748 gs_26 rfl hD.1 rfl rfl rfl (Nat.le_of_ble_eq_true rfl) hc12) ?_
  refine mRun.go (q_aload_n dX9_init_233 rfl rfl) ?_
  refine mRun.go (q_iconst dX9_init_234) ?_
  refine mRun.go (q_bipush dX9_init_235 (by decide)) ?_
  refine mRun.go (q_iconst dX9_init_237) ?_
  obtain ⟨v13, h13, hc13, rfl, K13, rfl, hK13, hR13, hg13⟩ := m_laysTrav2 (R := (tvR (otR (otR (otR (otR (otR (kdR (rowR (rowR (rowR (rowR rd0 1) 8) 15) 22)) 0 7 0) 0 13 3) 1 1 2) 2 11 0) 3 18 0) 0 19 0)) (x := 4) (y := 15) (d := 1) hK12 hD hR12 (by decide +kernel) (by decide) (by decide) (by decide)
  have hf13 := frm_tr hf12 hg13
  refine mRun.go (q_callVv (r := 144) [mi 4, mi 15, mi 1] [] dX9_init_238 co_X9_66 ⟨Nat.le_of_ble_eq_true rfl, Nat.le_of_ble_eq_true rfl⟩ gw_748 gs_26 rfl hD.1 rfl rfl rfl (Nat.le_of_ble_eq_true rfl) hc13) ?_
  refine mRun.go (q_aload_n dX9_init_241 rfl rfl) ?_
  refine mRun.go (q_bipush dX9_init_242 (by decide)) ?_
  refine mRun.go (q_iconst dX9_init_244) ?_
  refine mRun.go (q_iconst dX9_init_245) ?_
  obtain ⟨v14, h14, hc14, rfl, K14, rfl, hK14, hR14, hg14⟩ := m_laysTrav2 (R := (tvR (tvR (otR (otR (otR (otR (otR (kdR (rowR (rowR (rowR (rowR rd0 1) 8) 15) 22)) 0 7 0) 0 13 3) 1 1 2) 2 11 0) 3 18 0) 0 19 0) 4 15 1)) (x := 15) (y := 4) (d := 2) hK13 hD hR13 (by decide +kernel) (by decide) (by decide) (by decide)
  have hf14 := frm_tr hf13 hg14
  refine mRun.go (q_callVv (r := 144) [mi 15, mi 4, mi 2] [] dX9_init_246 co_X9_66 ⟨Nat.le_of_ble_eq_true rfl, Nat.le_of_ble_eq_true rfl⟩ gw_748 gs_26 rfl hD.1 rfl rfl rfl (Nat.le_of_ble_eq_true rfl) hc14) ?_
  refine mRun.go (q_aload_n dX9_init_249 rfl rfl) ?_
  refine mRun.go (q_bipush dX9_init_250 (by decide)) ?_
  refine mRun.go (q_bipush dX9_init_252 (by decide)) ?_
  refine mRun.go (q_iconst dX9_init_254) ?_
  obtain ⟨v15, h15, hc15, rfl, K15, rfl, hK15, hR15, hg15⟩ := m_laysTrav2 (R := (tvR (tvR (tvR (otR (otR (otR (otR (otR (kdR (rowR (rowR (rowR (rowR rd0 1) 8) 15) 22)) 0 7 0) 0 13 3) 1 1 2) 2 11 0) 3 18 0) 0 19 0) 4 15 1) 15 4 2)) (x := 10) (y := 9) (d := 3) hK14 hD hR14 (by decide +kernel) (by decide) (by decide) (by decide)
  have hf15 := frm_tr hf14 hg15
  refine mRun.go (q_callVv (r := 144) [mi 10, mi 9, mi 3] [] dX9_init_255 co_X9_66 ⟨Nat.le_of_ble_eq_true rfl, Nat.le_of_ble_eq_true rfl⟩ gw_748 gs_26 rfl hD.1 rfl rfl rfl (Nat.le_of_ble_eq_true rfl) hc15) ?_
  refine mRun.go (q_aload_n dX9_init_258 rfl rfl) ?_
  refine mRun.go (q_iconst dX9_init_259) ?_
  refine mRun.go (q_putI dX9_init_260 fo_X9_70 fp_9_26 hD.1 rfl) ?_
  obtain ⟨K16, e16⟩ : ∃ K16 : mI, K16 = mup K15 144 26 1 := ⟨_, rfl⟩
  rw [← e16]
  have hK16 : Nrm K16 := by rw [e16]; exact (nrm_mup hK15 (by omega))
  have hR16 : RdM K16 (wtR (tvR (tvR (tvR (tvR (otR (otR (otR (otR (otR (kdR (rowR (rowR (rowR (rowR rd0 1) 8) 15) 22)) 0 7 0) 0 13 3) 1 1 2) 2 11 0) 3 18 0) 0 19 0) 4 15 1) 15 4 2) 10 9 3) 1) := by rw [e16]; exact rd_wet hR15
  have hf16 : FrM I K16 := by
    rw [e16]
    exact ⟨fun r a b d => by rw [mup_nf a]; exact hf15.1 r a b d, fun k hk => by rw [mup_ne2 (by omega)]; exact hf15.2 k hk⟩
  refine mRun.go (q_aload_n dX9_init_263 rfl rfl) ?_
  have hRF : RdM K16 (rdS cF 113) := rF_to hR16
  obtain ⟨v17, h17, hc17, rfl, J, rfl, hJ, q1, q2, q3, q4, q5, q6, q7, q8⟩ := m_begins hK16 hD hRF rF_ok
  refine mRun.go (q_callVv (r := 144) [] [] dX9_init_264 co_X9_73 ⟨Nat.le_of_ble_eq_true rfl, Nat.le_of_ble_eq_true rfl⟩ gw_752 gs_27 rfl hD.1 rfl rfl rfl (Nat.le_of_ble_eq_true rfl) hc17) ?_
  refine r_ret dX9_init_267 rfl ?_
  have hI15 : I 144 15 = 0 := by rw [hz 144 (Nat.le_refl 144)]; rfl
  have hsz : J 144 15 = 0 := q8.trans ((hf16.2 15 (by decide)).trans hI15)
  exact ⟨rfl, J, rfl, fun r a => (q7 r (by omega) (by omega) (by omega) (by omega)).trans (hf16.1 r (by omega) (by omega) (by omega)), hJ, hD, hsz, fun k hk => absurd hk (by show ¬ (k : Int) < 0; omega), fun i _ => rfl, fun i => ⟨(by decide : (-2147483648 : Int) ≤ 0), (by decide : (0 : Int) < 2147483648)⟩, q1, q2, q4, fun k hk => absurd hk (Nat.not_lt_zero k), q5, fun k hk => absurd hk (Nat.not_lt_zero k), q6, fun k hk => absurd hk (Nat.not_lt_zero k), q3⟩

set_option maxRecDepth 100000 in
theorem c_Model {I : mI} (hI : Nrm I) (hz : ∀ r, 144 ≤ r → I r = mI0 r) : mMt mX9_init [mr 144] (bDrum ++ [.inl (9, [none, none, some none, none, some none, none, some none, some none, some none, none, some none, none, some none, none, some none, none, none, none, some none, none, some none, some none, none, some none, some none, some none, none, none, none, some none])], I) (fun v h => v = none ∧ ∃ K : mI, h = (bAll, K) ∧ (∀ r, r < 144 → K r = I r) ∧ MS bAll K S0) := by
  refine mMt.of pl_9 (Nat.le_of_ble_eq_true rfl) ?_
  show mRun mZt mX9_init 0 [some (mr 144), none] [] (bDrum ++ (.inl (9, [none, none, some none, none, some none, none, some none, some none, some none, none, some none, none, some none, none, some none, none, none, none, some none, none, some none, some none, none, some none, some none, some none, none, none, none, some none])) :: [], I) _
  refine mRun.go (q_aload_n dX9_init_0 rfl rfl) ?_
  refine mRun.go (q_objInit dX9_init_1 gw_737 gw_23 gw_24 (Nat.le_of_ble_eq_true rfl) (Nat.le_of_ble_eq_true rfl) (Nat.le_of_ble_eq_true rfl)) ?_
  refine mRun.go (q_aload_n dX9_init_4 rfl rfl) ?_
  refine mRun.go (q_bipush dX9_init_5 (by decide)) ?_
  refine mRun.go (n_arrZ (kk := 36) bD_len hz (j := 0) rfl dX9_init_7 gw_40 (by decide) dX9_init_9 fo_X9_7 fp_9_2 (Or.inr ⟨_, rfl⟩) rfl rfl) ?_
  show mRun mZt mX9_init 12 [some (mr 144), none] [] (bDrum ++ (.inl (9, [none, none, some (some 145), none, some none, none, some none, some none, some none, none, some none, none, some none, none, some none, none, none, none, some none, none, some none, some none, none, some none, some none, some none, none, none, none, some none]) :: ([] ++ [.inr (.inl 36)])), I) _
  refine mRun.go (q_aload_n dX9_init_12 rfl rfl) ?_
  refine mRun.go (q_iconst dX9_init_13) ?_
  refine mRun.go (n_arrZ (kk := 4) bD_len hz (j := 1) rfl dX9_init_14 gw_40 (by decide) dX9_init_16 fo_X9_13 fp_9_4 (Or.inr ⟨_, rfl⟩) rfl rfl) ?_
  show mRun mZt mX9_init 19 [some (mr 144), none] [] (bDrum ++ (.inl (9, [none, none, some (some 145), none, some (some 146), none, some none, some none, some none, none, some none, none, some none, none, some none, none, none, none, some none, none, some none, some none, none, some none, some none, some none, none, none, none, some none]) :: (([] ++ [.inr (.inl 36)]) ++ [.inr (.inl 4)])), I) _
  refine mRun.go (q_aload_n dX9_init_19 rfl rfl) ?_
  refine mRun.go (q_sipush dX9_init_20 (by decide)) ?_
  refine mRun.go (n_arrZ (kk := 170) bD_len hz (j := 2) rfl dX9_init_23 gw_40 (by decide) dX9_init_25 fo_X9_16 fp_9_6 (Or.inr ⟨_, rfl⟩) rfl rfl) ?_
  show mRun mZt mX9_init 28 [some (mr 144), none] [] (bDrum ++ (.inl (9, [none, none, some (some 145), none, some (some 146), none, some (some 147), some none, some none, none, some none, none, some none, none, some none, none, none, none, some none, none, some none, some none, none, some none, some none, some none, none, none, none, some none]) :: ((([] ++ [.inr (.inl 36)]) ++ [.inr (.inl 4)]) ++ [.inr (.inl 170)])), I) _
  refine mRun.go (q_aload_n dX9_init_28 rfl rfl) ?_
  refine mRun.go (q_sipush dX9_init_29 (by decide)) ?_
  refine mRun.go (n_arrZ (kk := 170) bD_len hz (j := 3) rfl dX9_init_32 gw_40 (by decide) dX9_init_34 fo_X9_19 fp_9_7 (Or.inr ⟨_, rfl⟩) rfl rfl) ?_
  show mRun mZt mX9_init 37 [some (mr 144), none] [] (bDrum ++ (.inl (9, [none, none, some (some 145), none, some (some 146), none, some (some 147), some (some 148), some none, none, some none, none, some none, none, some none, none, none, none, some none, none, some none, some none, none, some none, some none, some none, none, none, none, some none]) :: (((([] ++ [.inr (.inl 36)]) ++ [.inr (.inl 4)]) ++ [.inr (.inl 170)]) ++ [.inr (.inl 170)])), I) _
  refine mRun.go (q_aload_n dX9_init_37 rfl rfl) ?_
  refine mRun.go (q_sipush dX9_init_38 (by decide)) ?_
  refine mRun.go (n_arrZ (kk := 1360) bD_len hz (j := 4) rfl dX9_init_41 gw_40 (by decide) dX9_init_43 fo_X9_22 fp_9_8 (Or.inr ⟨_, rfl⟩) rfl rfl) ?_
  show mRun mZt mX9_init 46 [some (mr 144), none] [] (bDrum ++ (.inl (9, [none, none, some (some 145), none, some (some 146), none, some (some 147), some (some 148), some (some 149), none, some none, none, some none, none, some none, none, none, none, some none, none, some none, some none, none, some none, some none, some none, none, none, none, some none]) :: ((((([] ++ [.inr (.inl 36)]) ++ [.inr (.inl 4)]) ++ [.inr (.inl 170)]) ++ [.inr (.inl 170)]) ++ [.inr (.inl 1360)])), I) _
  refine mRun.go (q_aload_n dX9_init_46 rfl rfl) ?_
  refine mRun.go (q_sipush dX9_init_47 (by decide)) ?_
  refine mRun.go (n_arrZ (kk := 340) bD_len hz (j := 5) rfl dX9_init_50 gw_40 (by decide) dX9_init_52 fo_X9_25 fp_9_10 (Or.inr ⟨_, rfl⟩) rfl rfl) ?_
  show mRun mZt mX9_init 55 [some (mr 144), none] [] (bDrum ++ (.inl (9, [none, none, some (some 145), none, some (some 146), none, some (some 147), some (some 148), some (some 149), none, some (some 150), none, some none, none, some none, none, none, none, some none, none, some none, some none, none, some none, some none, some none, none, none, none, some none]) :: (((((([] ++ [.inr (.inl 36)]) ++ [.inr (.inl 4)]) ++ [.inr (.inl 170)]) ++ [.inr (.inl 170)]) ++ [.inr (.inl 1360)]) ++ [.inr (.inl 340)])), I) _
  refine mRun.go (q_aload_n dX9_init_55 rfl rfl) ?_
  refine mRun.go (q_bipush dX9_init_56 (by decide)) ?_
  refine mRun.go (n_arrZ (kk := 16) bD_len hz (j := 6) rfl dX9_init_58 gw_40 (by decide) dX9_init_60 fo_X9_28 fp_9_12 (Or.inr ⟨_, rfl⟩) rfl rfl) ?_
  show mRun mZt mX9_init 63 [some (mr 144), none] [] (bDrum ++ (.inl (9, [none, none, some (some 145), none, some (some 146), none, some (some 147), some (some 148), some (some 149), none, some (some 150), none, some (some 151), none, some none, none, none, none, some none, none, some none, some none, none, some none, some none, some none, none, none, none, some none]) :: ((((((([] ++ [.inr (.inl 36)]) ++ [.inr (.inl 4)]) ++ [.inr (.inl 170)]) ++ [.inr (.inl 170)]) ++ [.inr (.inl 1360)]) ++ [.inr (.inl 340)]) ++ [.inr (.inl 16)])), I) _
  refine mRun.go (q_aload_n dX9_init_63 rfl rfl) ?_
  refine mRun.go (q_sipush dX9_init_64 (by decide)) ?_
  refine mRun.go (n_arrZ (kk := 200) bD_len hz (j := 7) rfl dX9_init_67 gw_40 (by decide) dX9_init_69 fo_X9_31 fp_9_14 (Or.inr ⟨_, rfl⟩) rfl rfl) ?_
  show mRun mZt mX9_init 72 [some (mr 144), none] [] (bDrum ++ (.inl (9, [none, none, some (some 145), none, some (some 146), none, some (some 147), some (some 148), some (some 149), none, some (some 150), none, some (some 151), none, some (some 152), none, none, none, some none, none, some none, some none, none, some none, some none, some none, none, none, none, some none]) :: (((((((([] ++ [.inr (.inl 36)]) ++ [.inr (.inl 4)]) ++ [.inr (.inl 170)]) ++ [.inr (.inl 170)]) ++ [.inr (.inl 1360)]) ++ [.inr (.inl 340)]) ++ [.inr (.inl 16)]) ++ [.inr (.inl 200)])), I) _
  refine mRun.go (q_aload_n dX9_init_72 rfl rfl) ?_
  refine mRun.go (q_bipush dX9_init_73 (by decide)) ?_
  refine mRun.go (n_arrZ (kk := 36) bD_len hz (j := 8) rfl dX9_init_75 gw_40 (by decide) dX9_init_77 fo_X9_34 fp_9_18 (Or.inr ⟨_, rfl⟩) rfl rfl) ?_
  show mRun mZt mX9_init 80 [some (mr 144), none] [] (bDrum ++ (.inl (9, [none, none, some (some 145), none, some (some 146), none, some (some 147), some (some 148), some (some 149), none, some (some 150), none, some (some 151), none, some (some 152), none, none, none, some (some 153), none, some none, some none, none, some none, some none, some none, none, none, none, some none]) :: ((((((((([] ++ [.inr (.inl 36)]) ++ [.inr (.inl 4)]) ++ [.inr (.inl 170)]) ++ [.inr (.inl 170)]) ++ [.inr (.inl 1360)]) ++ [.inr (.inl 340)]) ++ [.inr (.inl 16)]) ++ [.inr (.inl 200)]) ++ [.inr (.inl 36)])), I) _
  refine mRun.go (q_aload_n dX9_init_80 rfl rfl) ?_
  refine mRun.go (q_iconst dX9_init_81) ?_
  refine mRun.go (n_arrZ (kk := 4) bD_len hz (j := 9) rfl dX9_init_82 gw_40 (by decide) dX9_init_84 fo_X9_37 fp_9_20 (Or.inr ⟨_, rfl⟩) rfl rfl) ?_
  show mRun mZt mX9_init 87 [some (mr 144), none] [] (bDrum ++ (.inl (9, [none, none, some (some 145), none, some (some 146), none, some (some 147), some (some 148), some (some 149), none, some (some 150), none, some (some 151), none, some (some 152), none, none, none, some (some 153), none, some (some 154), some none, none, some none, some none, some none, none, none, none, some none]) :: (((((((((([] ++ [.inr (.inl 36)]) ++ [.inr (.inl 4)]) ++ [.inr (.inl 170)]) ++ [.inr (.inl 170)]) ++ [.inr (.inl 1360)]) ++ [.inr (.inl 340)]) ++ [.inr (.inl 16)]) ++ [.inr (.inl 200)]) ++ [.inr (.inl 36)]) ++ [.inr (.inl 4)])), I) _
  refine mRun.go (q_aload_n dX9_init_87 rfl rfl) ?_
  refine mRun.go (q_sipush dX9_init_88 (by decide)) ?_
  refine mRun.go (n_arrZ (kk := 144) bD_len hz (j := 10) rfl dX9_init_91 gw_40 (by decide) dX9_init_93 fo_X9_40 fp_9_21 (Or.inr ⟨_, rfl⟩) rfl rfl) ?_
  show mRun mZt mX9_init 96 [some (mr 144), none] [] (bDrum ++ (.inl (9, [none, none, some (some 145), none, some (some 146), none, some (some 147), some (some 148), some (some 149), none, some (some 150), none, some (some 151), none, some (some 152), none, none, none, some (some 153), none, some (some 154), some (some 155), none, some none, some none, some none, none, none, none, some none]) :: ((((((((((([] ++ [.inr (.inl 36)]) ++ [.inr (.inl 4)]) ++ [.inr (.inl 170)]) ++ [.inr (.inl 170)]) ++ [.inr (.inl 1360)]) ++ [.inr (.inl 340)]) ++ [.inr (.inl 16)]) ++ [.inr (.inl 200)]) ++ [.inr (.inl 36)]) ++ [.inr (.inl 4)]) ++ [.inr (.inl 144)])), I) _
  refine mRun.go (q_aload_n dX9_init_96 rfl rfl) ?_
  refine mRun.go (q_iconst dX9_init_97) ?_
  refine mRun.go (n_arrZ (kk := 4) bD_len hz (j := 11) rfl dX9_init_98 gw_40 (by decide) dX9_init_100 fo_X9_43 fp_9_23 (Or.inr ⟨_, rfl⟩) rfl rfl) ?_
  show mRun mZt mX9_init 103 [some (mr 144), none] [] (bDrum ++ (.inl (9, [none, none, some (some 145), none, some (some 146), none, some (some 147), some (some 148), some (some 149), none, some (some 150), none, some (some 151), none, some (some 152), none, none, none, some (some 153), none, some (some 154), some (some 155), none, some (some 156), some none, some none, none, none, none, some none]) :: (((((((((((([] ++ [.inr (.inl 36)]) ++ [.inr (.inl 4)]) ++ [.inr (.inl 170)]) ++ [.inr (.inl 170)]) ++ [.inr (.inl 1360)]) ++ [.inr (.inl 340)]) ++ [.inr (.inl 16)]) ++ [.inr (.inl 200)]) ++ [.inr (.inl 36)]) ++ [.inr (.inl 4)]) ++ [.inr (.inl 144)]) ++ [.inr (.inl 4)])), I) _
  refine mRun.go (q_aload_n dX9_init_103 rfl rfl) ?_
  refine mRun.go (q_iconst dX9_init_104) ?_
  refine mRun.go (n_arrZ (kk := 4) bD_len hz (j := 12) rfl dX9_init_105 gw_40 (by decide) dX9_init_107 fo_X9_46 fp_9_24 (Or.inr ⟨_, rfl⟩) rfl rfl) ?_
  show mRun mZt mX9_init 110 [some (mr 144), none] [] (bDrum ++ (.inl (9, [none, none, some (some 145), none, some (some 146), none, some (some 147), some (some 148), some (some 149), none, some (some 150), none, some (some 151), none, some (some 152), none, none, none, some (some 153), none, some (some 154), some (some 155), none, some (some 156), some (some 157), some none, none, none, none, some none]) :: ((((((((((((([] ++ [.inr (.inl 36)]) ++ [.inr (.inl 4)]) ++ [.inr (.inl 170)]) ++ [.inr (.inl 170)]) ++ [.inr (.inl 1360)]) ++ [.inr (.inl 340)]) ++ [.inr (.inl 16)]) ++ [.inr (.inl 200)]) ++ [.inr (.inl 36)]) ++ [.inr (.inl 4)]) ++ [.inr (.inl 144)]) ++ [.inr (.inl 4)]) ++ [.inr (.inl 4)])), I) _
  refine mRun.go (q_aload_n dX9_init_110 rfl rfl) ?_
  refine mRun.go (q_iconst dX9_init_111) ?_
  refine mRun.go (n_arrZ (kk := 4) bD_len hz (j := 13) rfl dX9_init_112 gw_40 (by decide) dX9_init_114 fo_X9_49 fp_9_25 (Or.inr ⟨_, rfl⟩) rfl rfl) ?_
  show mRun mZt mX9_init 117 [some (mr 144), none] [] (bDrum ++ (.inl (9, [none, none, some (some 145), none, some (some 146), none, some (some 147), some (some 148), some (some 149), none, some (some 150), none, some (some 151), none, some (some 152), none, none, none, some (some 153), none, some (some 154), some (some 155), none, some (some 156), some (some 157), some (some 158), none, none, none, some none]) :: (((((((((((((([] ++ [.inr (.inl 36)]) ++ [.inr (.inl 4)]) ++ [.inr (.inl 170)]) ++ [.inr (.inl 170)]) ++ [.inr (.inl 1360)]) ++ [.inr (.inl 340)]) ++ [.inr (.inl 16)]) ++ [.inr (.inl 200)]) ++ [.inr (.inl 36)]) ++ [.inr (.inl 4)]) ++ [.inr (.inl 144)]) ++ [.inr (.inl 4)]) ++ [.inr (.inl 4)]) ++ [.inr (.inl 4)])), I) _
  refine mRun.go (q_aload_n dX9_init_117 rfl rfl) ?_
  refine mRun.go (q_bipush dX9_init_118 (by decide)) ?_
  refine mRun.go (n_arrZ (kk := 36) bD_len hz (j := 14) rfl dX9_init_120 gw_40 (by decide) dX9_init_122 fo_X9_52 fp_9_29 (Or.inr ⟨_, rfl⟩) rfl rfl) ?_
  show mRun mZt mX9_init 125 [some (mr 144), none] [] (bDrum ++ (.inl (9, [none, none, some (some 145), none, some (some 146), none, some (some 147), some (some 148), some (some 149), none, some (some 150), none, some (some 151), none, some (some 152), none, none, none, some (some 153), none, some (some 154), some (some 155), none, some (some 156), some (some 157), some (some 158), none, none, none, some (some 159)]) :: ((((((((((((((([] ++ [.inr (.inl 36)]) ++ [.inr (.inl 4)]) ++ [.inr (.inl 170)]) ++ [.inr (.inl 170)]) ++ [.inr (.inl 1360)]) ++ [.inr (.inl 340)]) ++ [.inr (.inl 16)]) ++ [.inr (.inl 200)]) ++ [.inr (.inl 36)]) ++ [.inr (.inl 4)]) ++ [.inr (.inl 144)]) ++ [.inr (.inl 4)]) ++ [.inr (.inl 4)]) ++ [.inr (.inl 4)]) ++ [.inr (.inl 36)])), I) _
  exact c_Model_b hI hz
