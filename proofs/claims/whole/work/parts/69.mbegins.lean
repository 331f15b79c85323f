/-! ===== the reference begins anew ===== -/
def otv (R : Rd) (i : Int) : Int := if rOd R i = -1 then -4 else rOd R i
def otw (R : Rd) (i x : Int) : Int := if rOd R i = -1 then rGr R x else rOd R i
theorem otv_or {R : Rd} (hok : RdOk R) (i : Int) : (rOd R i = -1 ∧ otv R i = -4) ∨ (¬ rOd R i = -1 ∧ otv R i = rOd R i ∧ 0 ≤ rOd R i ∧ rOd R i ≤ 3) := by
  have h9 := hok.2.2.2.2.2.2.2.2.1 i
  unfold otv
  by_cases h : rOd R i = -1
  · rw [if_pos h]; exact Or.inl ⟨h, rfl⟩
  · rw [if_neg h]; exact Or.inr ⟨h, rfl, by omega, by omega⟩
def BegC (I C : mI) (R : Rd) : Prop := C 144 0 = rRows R ∧ C 144 1 = rWid R ∧ C 144 3 = rDr R ∧ C 144 5 = rNt R ∧ (∀ j : Nat, j < 36 → C 145 j = I 153 j) ∧ (∀ j : Nat, j < 4 → C 146 j = I 154 j) ∧ (∀ r, r ≠ 144 → r ≠ 145 → r ≠ 146 → r ≠ 147 → C r = I r) ∧ (∀ k, k ≠ 0 → k ≠ 1 → k ≠ 3 → k ≠ 5 → C 144 k = I 144 k) ∧ C 147 0 = rWet R ∧ ∀ q, 0 < q → q < 170 → C 147 q = 0
def TlM (K : mI) (W : Nat → Nat → Int) (P d x : Nat) : Prop := ∀ d' x' : Nat, d' < 4 → x' < P → (d' < d ∨ (d' = d ∧ x' < x)) → K 147 (2 + 36 * d' + x') = W d' x'
theorem tl_s {K : mI} {W : Nat → Nat → Int} {P d x : Nat} (h : TlM K W P d x) (hP : P ≤ 36) (hx : x < P) : TlM (mup K 147 (2 + 36 * d + x) (W d x)) W P d (x + 1) := by
  intro d' x' h4 hx' hh
  by_cases z : d' = d ∧ x' = x
  · rw [z.1, z.2, mup_self]
  · rw [mup_ne2 (by omega)]
    exact h d' x' h4 hx' (by omega)
theorem tl_n {K : mI} {W : Nat → Nat → Int} {P d : Nat} (h : TlM K W P d P) : TlM K W P (d + 1) 0 := fun d' x' h4 hx' hh => h d' x' h4 hx' (by omega)
theorem nst (p : Int × Int × Int) : nrmT (stv p) = (p.1, p.2.1, p.2.2, (if p.1 = p.2.1 then 1 else 0), -4, 0) := rfl
def zer (K : mI) (j : Nat) : mI := fun r k => if r = 147 ∧ k < j then 0 else K r k
theorem zer_0 {K : mI} : zer K 0 = K := by
  funext r k
  unfold zer
  rw [if_neg (by omega)]
theorem zer_s {K : mI} {j : Nat} : mup (zer K j) 147 j 0 = zer K (j + 1) := by
  funext r k
  unfold mup zer
  by_cases h : r = 147 ∧ k = j
  · rw [if_pos h, if_pos (by omega)]
  · rw [if_neg h]
    by_cases h2 : r = 147 ∧ k < j
    · rw [if_pos h2, if_pos (by omega)]
    · rw [if_neg h2, if_neg (by omega)]
theorem zer_nf {K : mI} {j r : Nat} (h : r ≠ 147) : zer K j r = K r := by
  funext k
  unfold zer
  rw [if_neg (fun q => h q.1)]
theorem nrm_zer {K : mI} {j : Nat} (h : Nrm K) : Nrm (zer K j) := by
  intro r k
  unfold zer
  split
  · exact ⟨by decide, by decide⟩
  · exact h r k

set_option maxRecDepth 100000 in
theorem m_beg_t {σ : List mC} {I C : mI} {R : Rd} (hD : IsMd σ) (hRd : RdM I R) (hok : RdOk R) (hC : BegC I C R) {o2 o3 : Option mV} : ∀ (n t : Nat) (K : mI), (rNt R).toNat - t < n → t ≤ (rNt R).toNat → Nrm K → (∀ r, r ≠ 147 → K r = C r) → (∀ q, q < 2 ∨ 166 ≤ q → K 147 q = C 147 q) → TlM K (fun d x : Nat => otw R (36 * (d : Int) + (x : Int)) (x : Int)) (rPl R).toNat (rDr R).toNat 0 → (∀ u, u < t → tvM K 147 0 u = nrmT (stv (rTv R (u : Int)))) → mRun mZt mX9_begins 173 [some (mr 144), some (mi (t : Int)), o2, o3] [] (σ, K) (fun v h => v = none ∧ ∃ K, h = (σ, K) ∧ Nrm K ∧ LRM K (ldR R) ∧ FRM K 147 0 (ldR R) (fsR R) ∧ K 144 5 = rNt R ∧ K 144 9 = 0 ∧ K 144 11 = 0 ∧ K 144 13 = 0 ∧ (∀ r, r ≠ 144 → r ≠ 145 → r ≠ 146 → r ≠ 147 → K r = I r) ∧ K 144 15 = I 144 15) := by
  intro n
  induction n with
  | zero => intro t K h; omega
  | succ n ih =>
    intro t K hn ht hK hfr hlo htl htv
    have hpl := pl_rng hok
    have hpq : rRows R * rWid R = rPl R := rfl
    obtain ⟨ok1, ok2, ok3, ok4, ok5, ok6, ok7, ok8, ok9, ok10⟩ := id hok
    obtain ⟨c1, c2, c3, c4, c5, c6, c7, c8, c9, c10⟩ := id hC
    obtain ⟨r1, r2, r3, r4, r5, r6, r7, r8, r9⟩ := id hRd
    refine mRun.go (q_iload_n dX9_begins_173 rfl rfl) ?_
    refine mRun.go (q_aload_n dX9_begins_174 rfl rfl) ?_
    refine mRun.go (q_getE (x := rNt R) dX9_begins_175 fo_X9_94 hD.1 rfl (by rw [hfr 144 (by decide)]; exact c4)) ?_
    refine r_icmp_ge (tgt := 277) dX9_begins_178 (by decide) (by omega) (by omega) (fun c178 => ?_) (fun c178 => ?_)
    · refine mRun.go (q_aload_n dX9_begins_277 rfl rfl) ?_
      refine mRun.go (q_iconst dX9_begins_278) ?_
      refine mRun.go (q_putI dX9_begins_279 fo_X9_101 fp_9_9 hD.1 rfl) ?_
      refine mRun.go (q_aload_n dX9_begins_282 rfl rfl) ?_
      refine mRun.go (q_iconst dX9_begins_283) ?_
      refine mRun.go (q_putI dX9_begins_284 fo_X9_104 fp_9_11 hD.1 rfl) ?_
      refine mRun.go (q_aload_n dX9_begins_287 rfl rfl) ?_
      refine mRun.go (q_iconst dX9_begins_288) ?_
      refine mRun.go (q_putI dX9_begins_289 fo_X9_107 fp_9_13 hD.1 rfl) ?_
      refine r_ret dX9_begins_292 rfl ?_
      have hte : (t : Int) = rNt R := by omega
      have h7 : ∀ r, r ≠ 144 → (mup (mup (mup K 144 9 0) 144 11 0) 144 13 0) r = K r := fun r a => by rw [mup_nf a, mup_nf a, mup_nf a]
      have h4 : ∀ k, k ≠ 9 → k ≠ 11 → k ≠ 13 → (mup (mup (mup K 144 9 0) 144 11 0) 144 13 0) 144 k = C 144 k := fun k a b c => by rw [mup_ne2 c, mup_ne2 b, mup_ne2 a, hfr 144 (by decide)]
      refine ⟨rfl, _, rfl, (nrm_mup (nrm_mup (nrm_mup hK (by omega)) (by omega)) (by omega)), ⟨(h4 0 (by decide) (by decide) (by decide)).trans c1, (h4 1 (by decide) (by decide) (by decide)).trans c2, (h4 3 (by decide) (by decide) (by decide)).trans c3, rfl, fun i hi => ?_, fun k hk => ?_⟩, ⟨?_, ?_, fun d x p q r s => ?_, fun u hu => ?_⟩, (h4 5 (by decide) (by decide) (by decide)).trans c4, by rw [mup_ne2 (by decide), mup_ne2 (by decide), mup_self], by rw [mup_ne2 (by decide), mup_self], mup_self, fun r a b c d => by rw [h7 r a, hfr r d]; exact c7 r a b c d, (h4 15 (by decide) (by decide) (by decide)).trans (c8 15 (by decide) (by decide) (by decide) (by decide))⟩
      · have hi : (i : Int) < rPl R := hi
        rw [h7 145 (by decide), hfr 145 (by decide), c5 i (by omega)]
        exact r3 i hi
      · have hk : (k : Int) < rDr R := hk
        rw [h7 146 (by decide), hfr 146 (by decide), c6 k (by omega)]
        exact r5 k hk
      · rw [h7 147 (by decide), hlo 0 (by decide)]; exact c9
      · rw [h7 147 (by decide), hlo (0 + 1) (by decide)]; exact c10 1 (by decide) (by decide)
      · have q : d < rDr R := q
        have s : x < rPl R := s
        have h := htl d.toNat x.toNat (by omega) (by omega) (by omega)
        rw [h7 147 (by decide), show 0 + 2 + (36 * d + x).toNat = 2 + 36 * d.toNat + x.toNat by omega, h]
        show (if rOd R (36 * ((d.toNat : Nat) : Int) + ((x.toNat : Nat) : Int)) = -1 then rGr R ((x.toNat : Nat) : Int) else rOd R (36 * ((d.toNat : Nat) : Int) + ((x.toNat : Nat) : Int))) = (if rOd R (36 * d + x) = -1 then rGr R ((36 * d + x) % 36) else rOd R (36 * d + x))
        rw [show ((d.toNat : Nat) : Int) = d by omega, show ((x.toNat : Nat) : Int) = x by omega, show (36 * d + x) % 36 = x by omega]
      · have hu : (u : Int) < rNt R := hu
        show tvM _ 147 0 u = nrmT (stv (rTv R (u : Int)))
        rw [← htv u (by omega)]
        unfold tvM
        rw [h7 147 (by decide)]
    · refine mRun.go (q_aload_n dX9_begins_181 rfl rfl) ?_
      refine mRun.go (q_getR dX9_begins_182 fo_X9_16 hD.1 rfl) ?_
      refine mRun.go (q_sipush dX9_begins_185 (by decide)) ?_
      refine mRun.go (q_iload_n dX9_begins_188 rfl rfl) ?_
      refine mRun.go (q_iadd dX9_begins_189) ?_
      refine mRun.go (q_aload_n dX9_begins_190 rfl rfl) ?_
      refine mRun.go (q_getR dX9_begins_191 fo_X9_43 hD.1 rfl) ?_
      refine mRun.go (q_iload_n dX9_begins_194 rfl rfl) ?_
      refine mRun.go (q_ialdE (x := (rTv R (t : Int)).1) dX9_begins_195 hD.2.2.2.2.2.2.2.2.2.2.2.2.1 (by omega) (by omega) (by rw [show ((t : Int)).toNat = t by omega, hfr 156 (by decide), c7 156 (by decide) (by decide) (by decide) (by decide)]; exact (r8 t (by omega)).1)) ?_
      refine mRun.go (q_iast dX9_begins_196 hD.2.2.2.1 (by omega) (by omega)) ?_
      refine mRun.go (q_aload_n dX9_begins_197 rfl rfl) ?_
      refine mRun.go (q_getR dX9_begins_198 fo_X9_16 hD.1 rfl) ?_
      refine mRun.go (q_sipush dX9_begins_201 (by decide)) ?_
      refine mRun.go (q_iload_n dX9_begins_204 rfl rfl) ?_
      refine mRun.go (q_iadd dX9_begins_205) ?_
      refine mRun.go (q_aload_n dX9_begins_206 rfl rfl) ?_
      refine mRun.go (q_getR dX9_begins_207 fo_X9_46 hD.1 rfl) ?_
      refine mRun.go (q_iload_n dX9_begins_210 rfl rfl) ?_
      refine mRun.go (q_ialdE (x := (rTv R (t : Int)).2.1) dX9_begins_211 hD.2.2.2.2.2.2.2.2.2.2.2.2.2.1 (by omega) (by omega) (by rw [mup_ne (by decide)]; exact (by rw [show ((t : Int)).toNat = t by omega, hfr 157 (by decide), c7 157 (by decide) (by decide) (by decide) (by decide)]; exact (r8 t (by omega)).2.1))) ?_
      refine mRun.go (q_iast dX9_begins_212 hD.2.2.2.1 (by omega) (by omega)) ?_
      refine mRun.go (q_aload_n dX9_begins_213 rfl rfl) ?_
      refine mRun.go (q_getR dX9_begins_214 fo_X9_16 hD.1 rfl) ?_
      refine mRun.go (q_sipush dX9_begins_217 (by decide)) ?_
      refine mRun.go (q_iload_n dX9_begins_220 rfl rfl) ?_
      refine mRun.go (q_iadd dX9_begins_221) ?_
      refine mRun.go (q_aload_n dX9_begins_222 rfl rfl) ?_
      refine mRun.go (q_getR dX9_begins_223 fo_X9_49 hD.1 rfl) ?_
      refine mRun.go (q_iload_n dX9_begins_226 rfl rfl) ?_
      refine mRun.go (q_ialdE (x := (rTv R (t : Int)).2.2) dX9_begins_227 hD.2.2.2.2.2.2.2.2.2.2.2.2.2.2.1 (by omega) (by omega) (by rw [mup_ne (by decide), mup_ne (by decide)]; exact (by rw [show ((t : Int)).toNat = t by omega, hfr 158 (by decide), c7 158 (by decide) (by decide) (by decide) (by decide)]; exact (r8 t (by omega)).2.2))) ?_
      refine mRun.go (q_iast dX9_begins_228 hD.2.2.2.1 (by omega) (by omega)) ?_
      refine mRun.go (q_aload_n dX9_begins_229 rfl rfl) ?_
      refine mRun.go (q_getR dX9_begins_230 fo_X9_16 hD.1 rfl) ?_
      refine mRun.go (q_sipush dX9_begins_233 (by decide)) ?_
      refine mRun.go (q_iload_n dX9_begins_236 rfl rfl) ?_
      refine mRun.go (q_iadd dX9_begins_237) ?_
      refine mRun.go (q_aload_n dX9_begins_238 rfl rfl) ?_
      refine mRun.go (q_getR dX9_begins_239 fo_X9_43 hD.1 rfl) ?_
      refine mRun.go (q_iload_n dX9_begins_242 rfl rfl) ?_
      refine mRun.go (q_ialdE (x := (rTv R (t : Int)).1) dX9_begins_243 hD.2.2.2.2.2.2.2.2.2.2.2.2.1 (by omega) (by omega) (by rw [mup_ne (by decide), mup_ne (by decide), mup_ne (by decide)]; exact (by rw [show ((t : Int)).toNat = t by omega, hfr 156 (by decide), c7 156 (by decide) (by decide) (by decide) (by decide)]; exact (r8 t (by omega)).1))) ?_
      refine mRun.go (q_aload_n dX9_begins_244 rfl rfl) ?_
      refine mRun.go (q_getR dX9_begins_245 fo_X9_46 hD.1 rfl) ?_
      refine mRun.go (q_iload_n dX9_begins_248 rfl rfl) ?_
      refine mRun.go (q_ialdE (x := (rTv R (t : Int)).2.1) dX9_begins_249 hD.2.2.2.2.2.2.2.2.2.2.2.2.2.1 (by omega) (by omega) (by rw [mup_ne (by decide), mup_ne (by decide), mup_ne (by decide)]; exact (by rw [show ((t : Int)).toNat = t by omega, hfr 157 (by decide), c7 157 (by decide) (by decide) (by decide) (by decide)]; exact (r8 t (by omega)).2.1))) ?_
      have j250 : ∀ {post : Option mV → mH → Prop}, mRun mZt mX9_begins 258 [some (mr 144), some (mi (t : Int)), o2, o3] [mi (if (rTv R (t : Int)).1 = (rTv R (t : Int)).2.1 then 1 else 0), mi (158 + (t : Int)), mr 147] (σ, mup (mup (mup K 147 ((146 + (t : Int)).toNat) ((rTv R (t : Int)).1)) 147 ((150 + (t : Int)).toNat) ((rTv R (t : Int)).2.1)) 147 ((154 + (t : Int)).toNat) ((rTv R (t : Int)).2.2)) post → mRun mZt mX9_begins 250 [some (mr 144), some (mi (t : Int)), o2, o3] [mi ((rTv R (t : Int)).2.1), mi ((rTv R (t : Int)).1), mi (158 + (t : Int)), mr 147] (σ, mup (mup (mup K 147 ((146 + (t : Int)).toNat) ((rTv R (t : Int)).1)) 147 ((150 + (t : Int)).toNat) ((rTv R (t : Int)).2.1)) 147 ((154 + (t : Int)).toNat) ((rTv R (t : Int)).2.2)) post := by
        intro post k
        refine r_icmp_ne (tgt := 257) dX9_begins_250 (by decide) (by have := ok10 (t : Int) (by omega) (by omega); omega) (by have := ok10 (t : Int) (by omega) (by omega); omega) (fun c250 => ?_) (fun c250 => ?_)
        · refine mRun.go (q_iconst dX9_begins_257) ?_
          first | (rw [if_pos (by omega)] at k; exact k) | (rw [if_neg (by omega)] at k; exact k)
        · refine mRun.go (q_iconst dX9_begins_253) ?_
          refine mRun.go (q_goto (tgt := 258) dX9_begins_254 (by decide)) ?_
          first | (rw [if_pos (by omega)] at k; exact k) | (rw [if_neg (by omega)] at k; exact k)
      refine j250 ?_
      refine mRun.go (q_iast dX9_begins_258 hD.2.2.2.1 (by omega) (by omega)) ?_
      refine mRun.go (q_aload_n dX9_begins_259 rfl rfl) ?_
      refine mRun.go (q_getR dX9_begins_260 fo_X9_16 hD.1 rfl) ?_
      refine mRun.go (q_sipush dX9_begins_263 (by decide)) ?_
      refine mRun.go (q_iload_n dX9_begins_266 rfl rfl) ?_
      refine mRun.go (q_iadd dX9_begins_267) ?_
      refine mRun.go (q_bipush dX9_begins_268 (by decide)) ?_
      refine mRun.go (q_iast dX9_begins_270 hD.2.2.2.1 (by omega) (by omega)) ?_
      refine mRun.go (q_iinc (ls' := [some (mr 144), some (mi ((t : Int) + 1)), o2, o3]) dX9_begins_271 rfl (Nat.le_of_ble_eq_true rfl) rfl) ?_
      refine mRun.go (q_goto (tgt := 173) dX9_begins_274 (by decide)) ?_
      have e1 : ((t : Int) + 1) = ((t + 1 : Nat) : Int) := by omega
      rw [e1]
      have hn : ∀ q, q ≠ (146 + (t : Int)).toNat → q ≠ (150 + (t : Int)).toNat → q ≠ (154 + (t : Int)).toNat → q ≠ (158 + (t : Int)).toNat → q ≠ (162 + (t : Int)).toNat → (mup (mup (mup (mup (mup K 147 ((146 + (t : Int)).toNat) ((rTv R (t : Int)).1)) 147 ((150 + (t : Int)).toNat) ((rTv R (t : Int)).2.1)) 147 ((154 + (t : Int)).toNat) ((rTv R (t : Int)).2.2)) 147 ((158 + (t : Int)).toNat) (if (rTv R (t : Int)).1 = (rTv R (t : Int)).2.1 then 1 else 0)) 147 ((162 + (t : Int)).toNat) (-4)) 147 q = K 147 q := fun q a b c d e => by rw [mup_ne2 e, mup_ne2 d, mup_ne2 c, mup_ne2 b, mup_ne2 a]
      refine ih (t + 1) _ (by omega) (by omega) (nrm_mup (nrm_mup (nrm_mup (nrm_mup (nrm_mup hK (by have := ok10 (t : Int) (by omega) (by omega); omega)) (by have := ok10 (t : Int) (by omega) (by omega); omega)) (by have := ok10 (t : Int) (by omega) (by omega); omega)) (by split <;> omega)) (by omega)) (fun r q => by rw [mup_nf q, mup_nf q, mup_nf q, mup_nf q, mup_nf q]; exact hfr r q) (fun q hq => by rw [hn q (by omega) (by omega) (by omega) (by omega) (by omega)]; exact hlo q hq) (fun d x p q z => by rw [hn _ (by omega) (by omega) (by omega) (by omega) (by omega)]; exact htl d x p q z) (fun u hu => ?_)
      by_cases z : u = t
      · rw [z, nst]
        refine tv6 ?_ ?_ ?_ ?_ ?_ ?_
        · rw [mup_ne2 (by omega), mup_ne2 (by omega), mup_ne2 (by omega), mup_ne2 (by omega), mup_self]
        · rw [mup_ne2 (by omega), mup_ne2 (by omega), mup_ne2 (by omega), mup_self]
        · rw [mup_ne2 (by omega), mup_ne2 (by omega), mup_self]
        · rw [mup_ne2 (by omega), mup_self]
        · rw [mup_self]
        · rw [hn _ (by omega) (by omega) (by omega) (by omega) (by omega), hlo _ (by omega)]
          exact c10 _ (by omega) (by omega)
      · rw [← htv u (by omega)]
        unfold tvM
        rw [hn _ (by omega) (by omega) (by omega) (by omega) (by omega), hn _ (by omega) (by omega) (by omega) (by omega) (by omega), hn _ (by omega) (by omega) (by omega) (by omega) (by omega), hn _ (by omega) (by omega) (by omega) (by omega) (by omega), hn _ (by omega) (by omega) (by omega) (by omega) (by omega), hn _ (by omega) (by omega) (by omega) (by omega) (by omega)]

set_option maxRecDepth 100000 in
theorem m_beg_x {σ : List mC} {I C : mI} {R : Rd} (hD : IsMd σ) (hRd : RdM I R) (hok : RdOk R) (hC : BegC I C R) {d : Nat} (hd : (d : Int) < rDr R) {post : Option mV → mH → Prop} (kk : ∀ (K : mI) {o3 : Option mV}, Nrm K → (∀ r, r ≠ 147 → K r = C r) → (∀ q, q < 2 ∨ 146 ≤ q → K 147 q = C 147 q) → TlM K (fun d x : Nat => otw R (36 * (d : Int) + (x : Int)) (x : Int)) (rPl R).toNat d (rPl R).toNat → mRun mZt mX9_begins 165 [some (mr 144), some (mi (d : Int)), some (mi (((rPl R).toNat : Nat) : Int)), o3] [] (σ, K) post) : ∀ (n x : Nat) (K : mI) {o3 : Option mV}, (rPl R).toNat - x < n → x ≤ (rPl R).toNat → Nrm K → (∀ r, r ≠ 147 → K r = C r) → (∀ q, q < 2 ∨ 146 ≤ q → K 147 q = C 147 q) → TlM K (fun d x : Nat => otw R (36 * (d : Int) + (x : Int)) (x : Int)) (rPl R).toNat d x → mRun mZt mX9_begins 105 [some (mr 144), some (mi (d : Int)), some (mi (x : Int)), o3] [] (σ, K) post := by
  intro n
  induction n with
  | zero => intro x K o3 h; omega
  | succ n ih =>
    intro x K o3 hn hx hK hfr hlo htl
    have hpl := pl_rng hok
    have hpq : rRows R * rWid R = rPl R := rfl
    obtain ⟨ok1, ok2, ok3, ok4, ok5, ok6, ok7, ok8, ok9, ok10⟩ := id hok
    obtain ⟨c1, c2, c3, c4, c5, c6, c7, c8, c9, c10⟩ := id hC
    obtain ⟨r1, r2, r3, r4, r5, r6, r7, r8, r9⟩ := id hRd
    have hov := otv_or hok (36 * (d : Int) + (x : Int))
    refine mRun.go (q_iload_n dX9_begins_105 rfl rfl) ?_
    refine mRun.go (q_aload_n dX9_begins_106 rfl rfl) ?_
    refine mRun.go (q_getE (x := rRows R) dX9_begins_107 fo_X9_85 hD.1 rfl (by rw [hfr 144 (by decide)]; exact c1)) ?_
    refine mRun.go (q_aload_n dX9_begins_110 rfl rfl) ?_
    refine mRun.go (q_getE (x := rWid R) dX9_begins_111 fo_X9_88 hD.1 rfl (by rw [hfr 144 (by decide)]; exact c2)) ?_
    refine mRun.go (q_imul dX9_begins_114) ?_
    refine r_icmp_ge (tgt := 165) dX9_begins_115 (by decide) (by omega) (by omega) (fun c115 => ?_) (fun c115 => ?_)
    · have hxe : x = (rPl R).toNat := by omega
      rw [hxe]
      exact kk K hK hfr hlo (by rw [← hxe]; rw [hxe] at htl; rw [hxe]; exact htl)
    · refine mRun.go (q_aload_n dX9_begins_118 rfl rfl) ?_
      refine mRun.go (q_getR dX9_begins_119 fo_X9_40 hD.1 rfl) ?_
      refine mRun.go (q_bipush dX9_begins_122 (by decide)) ?_
      refine mRun.go (q_iload_n dX9_begins_124 rfl rfl) ?_
      refine mRun.go (q_imul dX9_begins_125) ?_
      refine mRun.go (q_iload_n dX9_begins_126 rfl rfl) ?_
      refine mRun.go (q_iadd dX9_begins_127) ?_
      refine mRun.go (q_ialdE (x := otv R (36 * (d : Int) + (x : Int))) dX9_begins_128 hD.2.2.2.2.2.2.2.2.2.2.2.1 (by omega) (by omega) (by rw [show (36 * (d : Int) + (x : Int)).toNat = 36 * d + x by omega, hfr 155 (by decide), c7 155 (by decide) (by decide) (by decide) (by decide), r6 (36 * d + x) (by omega), show ((36 * d + x : Nat) : Int) = 36 * (d : Int) + (x : Int) by omega]; rfl)) ?_
      refine mRun.go (q_istore_n (ls' := [some (mr 144), some (mi (d : Int)), some (mi (x : Int)), some (mi (otv R (36 * (d : Int) + (x : Int))))]) dX9_begins_129 rfl (Nat.le_of_ble_eq_true rfl) rfl) ?_
      refine mRun.go (q_aload_n dX9_begins_130 rfl rfl) ?_
      refine mRun.go (q_getR dX9_begins_131 fo_X9_16 hD.1 rfl) ?_
      refine mRun.go (q_iconst dX9_begins_134) ?_
      refine mRun.go (q_bipush dX9_begins_135 (by decide)) ?_
      refine mRun.go (q_iload_n dX9_begins_137 rfl rfl) ?_
      refine mRun.go (q_imul dX9_begins_138) ?_
      refine mRun.go (q_iadd dX9_begins_139) ?_
      refine mRun.go (q_iload_n dX9_begins_140 rfl rfl) ?_
      refine mRun.go (q_iadd dX9_begins_141) ?_
      refine mRun.go (q_iload_n dX9_begins_142 rfl rfl) ?_
      refine mRun.go (q_bipush dX9_begins_143 (by decide)) ?_
      have j145 : ∀ {post : Option mV → mH → Prop}, mRun mZt mX9_begins 158 [some (mr 144), some (mi (d : Int)), some (mi (x : Int)), some (mi (otv R (36 * (d : Int) + (x : Int))))] [mi (otw R (36 * (d : Int) + (x : Int)) (x : Int)), mi ((2 + (36 * (d : Int))) + (x : Int)), mr 147] (σ, K) post → mRun mZt mX9_begins 145 [some (mr 144), some (mi (d : Int)), some (mi (x : Int)), some (mi (otv R (36 * (d : Int) + (x : Int))))] [mi (-4), mi (otv R (36 * (d : Int) + (x : Int))), mi ((2 + (36 * (d : Int))) + (x : Int)), mr 147] (σ, K) post := by
        intro post k
        refine r_icmp_ne (tgt := 157) dX9_begins_145 (by decide) (by omega) (by omega) (fun c145 => ?_) (fun c145 => ?_)
        · refine mRun.go (q_iload_n dX9_begins_157 rfl rfl) ?_
          first | (unfold otw at k; rw [if_pos (by omega)] at k; exact k) | (unfold otw at k; rw [if_neg (by omega), show rOd R (36 * (d : Int) + (x : Int)) = otv R (36 * (d : Int) + (x : Int)) by omega] at k; exact k)
        · refine mRun.go (q_aload_n dX9_begins_148 rfl rfl) ?_
          refine mRun.go (q_getR dX9_begins_149 fo_X9_7 hD.1 rfl) ?_
          refine mRun.go (q_iload_n dX9_begins_152 rfl rfl) ?_
          refine mRun.go (q_ialdE (x := rGr R (x : Int)) dX9_begins_153 hD.2.1 (by omega) (by omega) (by rw [show ((x : Int)).toNat = x by omega, hfr 145 (by decide), c5 x (by omega)]; exact r3 x (by omega))) ?_
          refine mRun.go (q_goto (tgt := 158) dX9_begins_154 (by decide)) ?_
          first | (unfold otw at k; rw [if_pos (by omega)] at k; exact k) | (unfold otw at k; rw [if_neg (by omega), show rOd R (36 * (d : Int) + (x : Int)) = otv R (36 * (d : Int) + (x : Int)) by omega] at k; exact k)
      refine j145 ?_
      refine mRun.go (q_iast dX9_begins_158 hD.2.2.2.1 (by omega) (by omega)) ?_
      refine mRun.go (q_iinc (ls' := [some (mr 144), some (mi (d : Int)), some (mi ((x : Int) + 1)), some (mi (otv R (36 * (d : Int) + (x : Int))))]) dX9_begins_159 rfl (Nat.le_of_ble_eq_true rfl) rfl) ?_
      refine mRun.go (q_goto (tgt := 105) dX9_begins_162 (by decide)) ?_
      have e1 : ((x : Int) + 1) = ((x + 1 : Nat) : Int) := by omega
      have e2 : (2 + 36 * (d : Int) + (x : Int)).toNat = 2 + 36 * d + x := by omega
      have hNX : Nrm (mup K 147 (((2 + (36 * (d : Int))) + (x : Int)).toNat) (otw R (36 * (d : Int) + (x : Int)) (x : Int))) := (nrm_mup hK (by unfold otw; have := ok7 (x : Int) (by omega) (by omega); split <;> omega))
      rw [e2] at hNX
      rw [e1, e2]
      exact ih (x + 1) _ (by omega) (by omega) hNX (fun r q => by rw [mup_nf q]; exact hfr r q) (fun q hq => by rw [mup_ne2 (by omega)]; exact hlo q hq) (tl_s htl (by omega) (by omega))

set_option maxRecDepth 100000 in
theorem m_beg_d {σ : List mC} {I C : mI} {R : Rd} (hD : IsMd σ) (hRd : RdM I R) (hok : RdOk R) (hC : BegC I C R) : ∀ (n d : Nat) (K : mI) {o2 o3 : Option mV}, (rDr R).toNat - d < n → d ≤ (rDr R).toNat → Nrm K → (∀ r, r ≠ 147 → K r = C r) → (∀ q, q < 2 ∨ 146 ≤ q → K 147 q = C 147 q) → TlM K (fun d x : Nat => otw R (36 * (d : Int) + (x : Int)) (x : Int)) (rPl R).toNat d 0 → mRun mZt mX9_begins 95 [some (mr 144), some (mi (d : Int)), o2, o3] [] (σ, K) (fun v h => v = none ∧ ∃ K, h = (σ, K) ∧ Nrm K ∧ LRM K (ldR R) ∧ FRM K 147 0 (ldR R) (fsR R) ∧ K 144 5 = rNt R ∧ K 144 9 = 0 ∧ K 144 11 = 0 ∧ K 144 13 = 0 ∧ (∀ r, r ≠ 144 → r ≠ 145 → r ≠ 146 → r ≠ 147 → K r = I r) ∧ K 144 15 = I 144 15) := by
  intro n
  induction n with
  | zero => intro d K o2 o3 h; omega
  | succ n ih =>
    intro d K o2 o3 hn hd hK hfr hlo htl
    have hpl := pl_rng hok
    have hpq : rRows R * rWid R = rPl R := rfl
    obtain ⟨ok1, ok2, ok3, ok4, ok5, ok6, ok7, ok8, ok9, ok10⟩ := id hok
    obtain ⟨c1, c2, c3, c4, c5, c6, c7, c8, c9, c10⟩ := id hC
    obtain ⟨r1, r2, r3, r4, r5, r6, r7, r8, r9⟩ := id hRd
    refine mRun.go (q_iload_n dX9_begins_95 rfl rfl) ?_
    refine mRun.go (q_aload_n dX9_begins_96 rfl rfl) ?_
    refine mRun.go (q_getE (x := rDr R) dX9_begins_97 fo_X9_91 hD.1 rfl (by rw [hfr 144 (by decide)]; exact c3)) ?_
    refine r_icmp_ge (tgt := 171) dX9_begins_100 (by decide) (by omega) (by omega) (fun c100 => ?_) (fun c100 => ?_)
    · refine mRun.go (q_iconst dX9_begins_171) ?_
      refine mRun.go (q_istore_n (ls' := [some (mr 144), some (mi 0), o2, o3]) dX9_begins_172 rfl (Nat.le_of_ble_eq_true rfl) rfl) ?_
      have hde : d = (rDr R).toNat := by omega
      rw [hde] at htl
      exact m_beg_t hD hRd hok hC ((rNt R).toNat + 1) 0 K (by omega) (by omega) hK hfr (fun q hq => hlo q (by omega)) htl (fun u hu => absurd hu (Nat.not_lt_zero u))
    · refine mRun.go (q_iconst dX9_begins_103) ?_
      refine mRun.go (q_istore_n (ls' := [some (mr 144), some (mi (d : Int)), some (mi 0), o3]) dX9_begins_104 rfl (Nat.le_of_ble_eq_true rfl) rfl) ?_
      refine m_beg_x hD hRd hok hC (d := d) (by omega) ?_ ((rPl R).toNat + 1) 0 K (by omega) (by omega) hK hfr hlo htl
      intro K2 o3 hK2 hfr2 hlo2 htl2
      refine mRun.go (q_iinc (ls' := [some (mr 144), some (mi ((d : Int) + 1)), some (mi (((rPl R).toNat : Nat) : Int)), o3]) dX9_begins_165 rfl (Nat.le_of_ble_eq_true rfl) rfl) ?_
      refine mRun.go (q_goto (tgt := 95) dX9_begins_168 (by decide)) ?_
      have e1 : ((d : Int) + 1) = ((d + 1 : Nat) : Int) := by omega
      rw [e1]
      exact ih (d + 1) K2 (by omega) (by omega) hK2 hfr2 hlo2 (tl_n htl2)

set_option maxRecDepth 100000 in
theorem m_beg_z {σ : List mC} {K : mI} (hK : Nrm K) (hD : IsMd σ) {post : Option mV → mH → Prop} (kk : mRun mZt mX9_begins 83 [some (mr 144), some (mi ((170 : Nat) : Int)), none, none] [] (σ, zer K 170) post) : ∀ (n k : Nat), 170 - k < n → k ≤ 170 → mRun mZt mX9_begins 63 [some (mr 144), some (mi (k : Int)), none, none] [] (σ, zer K k) post := by
  intro n
  induction n with
  | zero => intro k h; omega
  | succ n ih =>
    intro k hn hk
    refine mRun.go (q_iload_n dX9_begins_63 rfl rfl) ?_
    refine mRun.go (q_sipush dX9_begins_64 (by decide)) ?_
    refine r_icmp_ge (tgt := 83) dX9_begins_67 (by decide) (by omega) (by omega) (fun c67 => ?_) (fun c67 => ?_)
    · have hke : k = 170 := by omega
      subst hke
      exact kk
    · refine mRun.go (q_aload_n dX9_begins_70 rfl rfl) ?_
      refine mRun.go (q_getR dX9_begins_71 fo_X9_16 hD.1 rfl) ?_
      refine mRun.go (q_iload_n dX9_begins_74 rfl rfl) ?_
      refine mRun.go (q_iconst dX9_begins_75) ?_
      refine mRun.go (q_iast dX9_begins_76 hD.2.2.2.1 (by omega) (by omega)) ?_
      refine mRun.go (q_iinc (ls' := [some (mr 144), some (mi ((k : Int) + 1)), none, none]) dX9_begins_77 rfl (Nat.le_of_ble_eq_true rfl) rfl) ?_
      refine mRun.go (q_goto (tgt := 63) dX9_begins_80 (by decide)) ?_
      have e1 : ((k : Int) + 1) = ((k + 1 : Nat) : Int) := by omega
      rw [e1, show ((k : Int)).toNat = k by omega, zer_s]
      exact ih (k + 1) (by omega) (by omega)

theorem beg_c {I : mI} {R : Rd} : BegC I (mup (zer (mcp (mcp (mup (mup (mup (mup I 144 0 (rRows R)) 144 1 (rWid R)) 144 3 (rDr R)) 144 5 (rNt R)) 145 153 0 0 36) 146 154 0 0 4) 170) 147 0 (rWet R)) R := by
  have h4 : ∀ k, (mup (zer (mcp (mcp (mup (mup (mup (mup I 144 0 (rRows R)) 144 1 (rWid R)) 144 3 (rDr R)) 144 5 (rNt R)) 145 153 0 0 36) 146 154 0 0 4) 170) 147 0 (rWet R)) 144 k = (mup (mup (mup (mup I 144 0 (rRows R)) 144 1 (rWid R)) 144 3 (rDr R)) 144 5 (rNt R)) 144 k := fun k => by rw [mup_ne (by decide), zer_nf (by decide), mcp_ne (by decide), mcp_ne (by decide)]
  refine ⟨by rw [h4]; simp [mup], by rw [h4]; simp [mup], by rw [h4]; simp [mup], by rw [h4]; simp [mup], fun j hj => ?_, fun j hj => ?_, fun r a b c d => ?_, fun k a b c d => ?_, mup_self, fun q a b => ?_⟩
  · rw [mup_ne (by decide), zer_nf (by decide), mcp_ne (by decide)]
    unfold mcp
    rw [if_pos rfl, if_pos ⟨by omega, by omega⟩, mup_ne (by decide), mup_ne (by decide), mup_ne (by decide), mup_ne (by decide), show 0 + (j - 0) = j by omega]
  · rw [mup_ne (by decide), zer_nf (by decide)]
    show mcp _ 146 154 0 0 4 146 j = _
    unfold mcp
    rw [if_pos rfl, if_pos ⟨by omega, by omega⟩, if_neg (by decide), mup_ne (by decide), mup_ne (by decide), mup_ne (by decide), mup_ne (by decide), show 0 + (j - 0) = j by omega]
  · funext k
    rw [mup_ne d, zer_nf d, mcp_ne c, mcp_ne b, mup_ne a, mup_ne a, mup_ne a, mup_ne a]
  · rw [h4, mup_ne2 d, mup_ne2 c, mup_ne2 b, mup_ne2 a]
  · rw [mup_ne2 (by omega)]
    unfold zer
    rw [if_pos ⟨rfl, b⟩]

set_option maxRecDepth 100000 in
theorem m_begins {σ : List mC} {I : mI} {R : Rd} (hI : Nrm I) (hD : IsMd σ) (hRd : RdM I R) (hok : RdOk R)  : mMt mX9_begins [mr 144] (σ, I) (fun v h => v = none ∧ ∃ K, h = (σ, K) ∧ Nrm K ∧ LRM K (ldR R) ∧ FRM K 147 0 (ldR R) (fsR R) ∧ K 144 5 = rNt R ∧ K 144 9 = 0 ∧ K 144 11 = 0 ∧ K 144 13 = 0 ∧ (∀ r, r ≠ 144 → r ≠ 145 → r ≠ 146 → r ≠ 147 → K r = I r) ∧ K 144 15 = I 144 15) := by
  refine mMt.of pl_9 (Nat.le_of_ble_eq_true rfl) ?_
  show mRun mZt mX9_begins 0 [some (mr 144), none, none, none] [] (σ, I) _
  have hpl := pl_rng hok
  obtain ⟨ok1, ok2, ok3, ok4, ok5, ok6, ok7, ok8, ok9, ok10⟩ := id hok
  obtain ⟨r1, r2, r3, r4, r5, r6, r7, r8, r9⟩ := id hRd
  refine mRun.go (q_aload_n dX9_begins_0 rfl rfl) ?_
  refine mRun.go (q_aload_n dX9_begins_1 rfl rfl) ?_
  refine mRun.go (q_getE (x := rRows R) dX9_begins_2 fo_X9_76 hD.1 rfl r1) ?_
  refine mRun.go (q_putI dX9_begins_5 fo_X9_85 fp_9_0 hD.1 rfl) ?_
  refine mRun.go (q_aload_n dX9_begins_8 rfl rfl) ?_
  refine mRun.go (q_aload_n dX9_begins_9 rfl rfl) ?_
  refine mRun.go (q_getE (x := rWid R) dX9_begins_10 fo_X9_79 hD.1 rfl (by rw [mup_ne2 (by decide)]; exact r2)) ?_
  refine mRun.go (q_putI dX9_begins_13 fo_X9_88 fp_9_1 hD.1 rfl) ?_
  refine mRun.go (q_aload_n dX9_begins_16 rfl rfl) ?_
  refine mRun.go (q_aload_n dX9_begins_17 rfl rfl) ?_
  refine mRun.go (q_getE (x := rDr R) dX9_begins_18 fo_X9_62 hD.1 rfl (by rw [mup_ne2 (by decide), mup_ne2 (by decide)]; exact r4)) ?_
  refine mRun.go (q_putI dX9_begins_21 fo_X9_91 fp_9_3 hD.1 rfl) ?_
  refine mRun.go (q_aload_n dX9_begins_24 rfl rfl) ?_
  refine mRun.go (q_aload_n dX9_begins_25 rfl rfl) ?_
  refine mRun.go (q_getE (x := rNt R) dX9_begins_26 fo_X9_82 hD.1 rfl (by rw [mup_ne2 (by decide), mup_ne2 (by decide), mup_ne2 (by decide)]; exact r7)) ?_
  refine mRun.go (q_putI dX9_begins_29 fo_X9_94 fp_9_5 hD.1 rfl) ?_
  refine mRun.go (q_aload_n dX9_begins_32 rfl rfl) ?_
  refine mRun.go (q_getR dX9_begins_33 fo_X9_34 hD.1 rfl) ?_
  refine mRun.go (q_iconst dX9_begins_36) ?_
  refine mRun.go (q_aload_n dX9_begins_37 rfl rfl) ?_
  refine mRun.go (q_getR dX9_begins_38 fo_X9_7 hD.1 rfl) ?_
  refine mRun.go (q_iconst dX9_begins_41) ?_
  refine mRun.go (q_bipush dX9_begins_42 (by decide)) ?_
  have hN0 : Nrm (mup (mup (mup (mup I 144 0 (rRows R)) 144 1 (rWid R)) 144 3 (rDr R)) 144 5 (rNt R)) := (nrm_mup (nrm_mup (nrm_mup (nrm_mup hI (by omega)) (by omega)) (by omega)) (by omega))
  refine mRun.go (q_callSv [mr 153, mi 0, mr 145, mi 0, mi 36] [] dX9_begins_44 co_X9_97 ⟨Nat.le_of_ble_eq_true rfl, Nat.le_of_ble_eq_true rfl⟩ gw_755 rfl rfl (Nat.le_of_ble_eq_true rfl) (m_copies (r0 := 153) (r1 := 145) (i := 0) (j := 0) (m := 36) hN0 hD.2.2.2.2.2.2.2.2.2.1 hD.2.1 (by decide) (by decide) (by decide) (by decide) (by decide))) ?_
  refine mRun.go (q_aload_n dX9_begins_47 rfl rfl) ?_
  refine mRun.go (q_getR dX9_begins_48 fo_X9_37 hD.1 rfl) ?_
  refine mRun.go (q_iconst dX9_begins_51) ?_
  refine mRun.go (q_aload_n dX9_begins_52 rfl rfl) ?_
  refine mRun.go (q_getR dX9_begins_53 fo_X9_13 hD.1 rfl) ?_
  refine mRun.go (q_iconst dX9_begins_56) ?_
  refine mRun.go (q_iconst dX9_begins_57) ?_
  refine mRun.go (q_callSv [mr 154, mi 0, mr 146, mi 0, mi 4] [] dX9_begins_58 co_X9_97 ⟨Nat.le_of_ble_eq_true rfl, Nat.le_of_ble_eq_true rfl⟩ gw_755 rfl rfl (Nat.le_of_ble_eq_true rfl) (m_copies (r0 := 154) (r1 := 146) (i := 0) (j := 0) (m := 4) (nrm_mcp hN0) hD.2.2.2.2.2.2.2.2.2.2.1 hD.2.2.1 (by decide) (by decide) (by decide) (by decide) (by decide))) ?_
  refine mRun.go (q_iconst dX9_begins_61) ?_
  refine mRun.go (q_istore_n (ls' := [some (mr 144), some (mi 0), none, none]) dX9_begins_62 rfl (Nat.le_of_ble_eq_true rfl) rfl) ?_
  have hNA : Nrm (mcp (mcp (mup (mup (mup (mup I 144 0 (rRows R)) 144 1 (rWid R)) 144 3 (rDr R)) 144 5 (rNt R)) 145 153 0 0 36) 146 154 0 0 4) := nrm_mcp (nrm_mcp hN0)
  rw [← @zer_0 (mcp (mcp (mup (mup (mup (mup I 144 0 (rRows R)) 144 1 (rWid R)) 144 3 (rDr R)) 144 5 (rNt R)) 145 153 0 0 36) 146 154 0 0 4)]
  refine m_beg_z hNA hD ?_ 171 0 (by decide) (by decide)
  refine mRun.go (q_aload_n dX9_begins_83 rfl rfl) ?_
  refine mRun.go (q_getR dX9_begins_84 fo_X9_16 hD.1 rfl) ?_
  refine mRun.go (q_iconst dX9_begins_87) ?_
  refine mRun.go (q_aload_n dX9_begins_88 rfl rfl) ?_
  refine mRun.go (q_getE (x := rWet R) dX9_begins_89 fo_X9_70 hD.1 rfl (by rw [zer_nf (by decide), mcp_ne (by decide), mcp_ne (by decide), mup_ne2 (by decide), mup_ne2 (by decide), mup_ne2 (by decide), mup_ne2 (by decide)]; exact r9)) ?_
  refine mRun.go (q_iast dX9_begins_92 hD.2.2.2.1 (by omega) (by omega)) ?_
  refine mRun.go (q_iconst dX9_begins_93) ?_
  refine mRun.go (q_istore_n (ls' := [some (mr 144), some (mi 0), none, none]) dX9_begins_94 rfl (Nat.le_of_ble_eq_true rfl) rfl) ?_
  have hC : BegC I (mup (zer (mcp (mcp (mup (mup (mup (mup I 144 0 (rRows R)) 144 1 (rWid R)) 144 3 (rDr R)) 144 5 (rNt R)) 145 153 0 0 36) 146 154 0 0 4) 170) 147 0 (rWet R)) R := beg_c
  exact m_beg_d hD hRd hok hC ((rDr R).toNat + 1) 0 (mup (zer (mcp (mcp (mup (mup (mup (mup I 144 0 (rRows R)) 144 1 (rWid R)) 144 3 (rDr R)) 144 5 (rNt R)) 145 153 0 0 36) 146 154 0 0 4) 170) 147 0 (rWet R)) (by omega) (by omega) (nrm_mup (nrm_zer hNA) (by omega)) (fun _ _ => rfl) (fun _ _ => rfl) (fun d x a b h => by omega)

set_option maxRecDepth 100000 in
theorem g_lay {σ : List mC} {I : mI} {S : Sx} {B : Int} (hM : MS σ I S) (hS : SxOk B S)  : mMt mX9_lay [mr 144] (σ, I) (OutM σ I (z_lay S) (a_lay S)) := by
  refine mMt.of pl_9 (Nat.le_of_ble_eq_true rfl) ?_
  show mRun mZt mX9_lay 0 [some (mr 144)] [] (σ, I) _
  have hI := hM.1
  have hD := hM.2.1
  have hL := hS.1
  have hsz := hM.2.2.1
  have hLR := hM.2.2.2.2.2.2.1
  have hF := hM.2.2.2.2.2.2.2.1
  have hun := hM.2.2.2.2.2.2.2.2.1
  have hpa := hM.2.2.2.2.2.2.2.2.2.1
  have hkm := hM.2.2.2.2.2.2.2.2.2.2.1
  have hke := hM.2.2.2.2.2.2.2.2.2.2.2.1
  have hhm := hM.2.2.2.2.2.2.2.2.2.2.2.2.1
  have hhe := hM.2.2.2.2.2.2.2.2.2.2.2.2.2.1
  have hN := hM.2.2.2.2.2.2.2.2.2.2.2.2.2.2
  have hpr := lp_rng hL
  have hqe := lq_eq hL
  have hwr := hL.2.1
  have hrr := hL.1
  have hdr := hL.2.2.1
  have hnt := hL.2.2.2.1
  have hwF := hS.2.1.1
  have hhF := hS.2.1.2.1
  have hvF := hS.2.1.2.2.2
  have hH8 := hS.2.2.2.2.2.2.1
  have hU8 := hS.2.2.1
  have hK2 := hS.2.2.2.2.1
  have hLn := hS.2.2.2.2.2.2.2.2
  refine mRun.go (q_aload_n dX9_lay_0 rfl rfl) ?_
  have hT := tm_of hM.2.2 hS
  have hpr9 := @prs_rng (sC S) (sLn S) 201 0 rd0 (by decide)
  have hok : RdOk (rdS (sC S) (sLn S)) := prs_ok 201 0 rd0 rd0_ok
  have hpl := pl_rng hok
  obtain ⟨ok1, ok2, ok3, ok4, ok5, ok6, ok7, ok8, ok9, ok10⟩ := id hok
  obtain ⟨v0, h0, hc0, rfl, K, rfl, hK, hfK, hRdK⟩ := m_reads hI hD hT
  have hRdK : (prs (sC S) (sLn S) 201 0 rd0).1 = -4 → RdM K (rdS (sC S) (sLn S)) := hRdK
  refine mRun.go (q_callVi (r := 144) [] [] dX9_lay_1 co_X9_169 ⟨Nat.le_of_ble_eq_true rfl, Nat.le_of_ble_eq_true rfl⟩ gw_867 gs_28 rfl hD.1 rfl rfl rfl (Nat.le_of_ble_eq_true rfl) hc0) ?_
  refine mRun.go (q_bipush dX9_lay_4 (by decide)) ?_
  refine r_icmp_ne (tgt := 23) dX9_lay_6 (by decide) (by omega) (by omega) (fun c6 => ?_) (fun c6 => ?_)
  · refine mRun.go (q_bipush dX9_lay_23 (by decide)) ?_
    refine r_iret dX9_lay_25 rfl ?_
    have hl : ¬ layd (sC S) (sLn S) = true := by
      intro q
      have q := of_decide_eq_true q
      have q2 : rRows (rdS (sC S) (sLn S)) ≠ 0 := fun z => q.2.1 (by show rRows (rdS (sC S) (sLn S)) * rWid (rdS (sC S) (sLn S)) = 0; rw [z, Int.zero_mul])
      have q3 := q.2.2
      omega
    have e0 : a_lay S = -2 := by unfold a_lay; rw [if_neg hl]
    have e9 : z_lay S = S := by unfold z_lay; rw [if_neg hl]
    rw [e0, e9]
    exact outm_q hM hS hK hfK
  · refine mRun.go (q_aload_n dX9_lay_9 rfl rfl) ?_
    refine mRun.go (q_getE (x := rRows (rdS (sC S) (sLn S))) dX9_lay_10 fo_X9_76 hD.1 rfl (hRdK (by omega)).1) ?_
    refine r_if_eq (tgt := 23) dX9_lay_13 (by decide) (by omega) (fun c13 => ?_) (fun c13 => ?_)
    · refine mRun.go (q_bipush dX9_lay_23 (by decide)) ?_
      refine r_iret dX9_lay_25 rfl ?_
      have hl : ¬ layd (sC S) (sLn S) = true := by
        intro q
        have q := of_decide_eq_true q
        have q2 : rRows (rdS (sC S) (sLn S)) ≠ 0 := fun z => q.2.1 (by show rRows (rdS (sC S) (sLn S)) * rWid (rdS (sC S) (sLn S)) = 0; rw [z, Int.zero_mul])
        have q3 := q.2.2
        omega
      have e0 : a_lay S = -2 := by unfold a_lay; rw [if_neg hl]
      have e9 : z_lay S = S := by unfold z_lay; rw [if_neg hl]
      rw [e0, e9]
      exact outm_q hM hS hK hfK
    · refine mRun.go (q_aload_n dX9_lay_16 rfl rfl) ?_
      refine mRun.go (q_getE (x := rDr (rdS (sC S) (sLn S))) dX9_lay_17 fo_X9_62 hD.1 rfl (hRdK (by omega)).2.2.2.1) ?_
      refine r_if_ne (tgt := 26) dX9_lay_20 (by decide) (by omega) (fun c20 => ?_) (fun c20 => ?_)
      · refine mRun.go (q_aload_n dX9_lay_26 rfl rfl) ?_
        obtain ⟨v1, h1, hc1, rfl, J, rfl, hJ, q1, q2, q3, q4, q5, q6, q7, q8⟩ := m_begins hK hD (hRdK (by omega)) hok
        refine mRun.go (q_callVv (r := 144) [] [] dX9_lay_27 co_X9_73 ⟨Nat.le_of_ble_eq_true rfl, Nat.le_of_ble_eq_true rfl⟩ gw_752 gs_27 rfl hD.1 rfl rfl rfl (Nat.le_of_ble_eq_true rfl) hc1) ?_
        refine mRun.go (q_aload_n dX9_lay_30 rfl rfl) ?_
        refine mRun.go (q_getE (x := rRows (rdS (sC S) (sLn S))) dX9_lay_31 fo_X9_85 hD.1 rfl q1.1) ?_
        refine mRun.go (q_aload_n dX9_lay_34 rfl rfl) ?_
        refine mRun.go (q_getE (x := rWid (rdS (sC S) (sLn S))) dX9_lay_35 fo_X9_88 hD.1 rfl q1.2.1) ?_
        refine mRun.go (q_imul dX9_lay_38) ?_
        refine r_iret dX9_lay_39 rfl ?_
        have hprod : rPl (rdS (sC S) (sLn S)) ≠ 0 := by
          have h1 : 1 * 1 ≤ rRows (rdS (sC S) (sLn S)) * rWid (rdS (sC S) (sLn S)) := Int.mul_le_mul (by omega) (by omega) (by decide) (by omega)
          show rRows (rdS (sC S) (sLn S)) * rWid (rdS (sC S) (sLn S)) ≠ 0
          omega
        have hl : layd (sC S) (sLn S) = true := decide_eq_true ⟨by omega, hprod, by omega⟩
        have e0 : a_lay S = rRows (rdS (sC S) (sLn S)) * rWid (rdS (sC S) (sLn S)) := by unfold a_lay; rw [if_pos hl]
        have e9 : z_lay S = (S.1, ldR (rdS (sC S) (sLn S)), fsR (rdS (sC S) (sLn S)), (0, (sU S).2), (0, (sK S).2), (0, (sH S).2)) := by unfold z_lay; rw [if_pos hl]
        rw [e0, e9]
        have hT2 := hT.fr hfK
        exact ⟨rfl, J, rfl, fun r a => (q7 r (by omega) (by omega) (by omega) (by omega)).trans (hfK.1 r (by omega) (by omega) (by omega)), hJ, hD, q8.trans hT2.1, fun k hk => by rw [q7 152 (by decide) (by decide) (by decide) (by decide)]; exact hT2.2.2.1 k hk, hT.2.2.2.1, hT.2.2.2.2, q1, q2, q4, fun k hk => absurd hk (Nat.not_lt_zero k), q5, fun k hk => absurd hk (Nat.not_lt_zero k), q6, fun k hk => absurd hk (Nat.not_lt_zero k), q3⟩
      · refine mRun.go (q_bipush dX9_lay_23 (by decide)) ?_
        refine r_iret dX9_lay_25 rfl ?_
        have hl : ¬ layd (sC S) (sLn S) = true := by
          intro q
          have q := of_decide_eq_true q
          have q2 : rRows (rdS (sC S) (sLn S)) ≠ 0 := fun z => q.2.1 (by show rRows (rdS (sC S) (sLn S)) * rWid (rdS (sC S) (sLn S)) = 0; rw [z, Int.zero_mul])
          have q3 := q.2.2
          omega
        have e0 : a_lay S = -2 := by unfold a_lay; rw [if_neg hl]
        have e9 : z_lay S = S := by unfold z_lay; rw [if_neg hl]
        rw [e0, e9]
        exact outm_q hM hS hK hfK
