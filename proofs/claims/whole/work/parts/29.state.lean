/-! ===== what class and reference stand for: the land, a forest, all ===== -/
abbrev Ld : Type := Int × Int × Int × Int × (Int → Int) × (Int → Int)
abbrev Fs : Type := Int × Int × (Int → Int) × (Nat → Tv)
abbrev Sx : Type := ((Int → Int) × Int) × Ld × Fs × (Nat × (Nat → Fs)) × (Nat × (Nat → Fs)) × (Nat × (Nat → Int) × (Nat → Int))
abbrev lR (L : Ld) : Int := L.1
abbrev lW (L : Ld) : Int := L.2.1
abbrev lD (L : Ld) : Int := L.2.2.1
abbrev lTv (L : Ld) : Int := L.2.2.2.1
abbrev lG (L : Ld) : Int → Int := L.2.2.2.2.1
abbrev lK (L : Ld) : Int → Int := L.2.2.2.2.2
def lP (L : Ld) : Int := L.1 * L.2.1
def lQ (L : Ld) : Nat := (lP L).toNat
abbrev fW (F : Fs) : Int := F.1
abbrev fH (F : Fs) : Int := F.2.1
abbrev fT (F : Fs) : Int → Int := F.2.2.1
abbrev fV (F : Fs) : Nat → Tv := F.2.2.2
abbrev sC (S : Sx) : Int → Int := S.1.1
abbrev sLn (S : Sx) : Int := S.1.2
abbrev sL (S : Sx) : Ld := S.2.1
abbrev sF (S : Sx) : Fs := S.2.2.1
abbrev sU (S : Sx) : Nat × (Nat → Fs) := S.2.2.2.1
abbrev sK (S : Sx) : Nat × (Nat → Fs) := S.2.2.2.2.1
abbrev sH (S : Sx) : Nat × (Nat → Int) × (Nat → Int) := S.2.2.2.2.2
def LdOk (L : Ld) : Prop := (1 ≤ lR L ∧ lR L ≤ 6) ∧ (1 ≤ lW L ∧ lW L ≤ 6) ∧ (1 ≤ lD L ∧ lD L ≤ 4) ∧ (0 ≤ lTv L ∧ lTv L ≤ 4) ∧ (∀ x, 0 ≤ x → x < lP L → 0 ≤ lG L x ∧ lG L x ≤ 3) ∧ ∀ d, 0 ≤ d → d < lD L → 0 ≤ lK L d ∧ lK L d ≤ 3
/-- a traveller as the reference has him, in order -/
def TvM (P nd : Int) (t : Tv) : Prop := (0 ≤ t.1 ∧ t.1 < P) ∧ (0 ≤ t.2.1 ∧ t.2.1 < P) ∧ (0 ≤ t.2.2.1 ∧ t.2.2.1 < nd) ∧ (0 ≤ t.2.2.2.1 ∧ t.2.2.2.1 ≤ 2) ∧ ((t.2.2.2.2.2 = 0 ∧ t.2.2.2.2.1 = -4) ∨ (0 < t.2.2.2.2.2 ∧ t.2.2.2.1 = 0 ∧ 0 ≤ t.2.2.2.2.1 ∧ t.2.2.2.2.1 < P)) ∧ (0 ≤ t.2.2.2.2.2 ∧ t.2.2.2.2.2 ≤ 4)
theorem tvm_of {P nd : Int} {t : Tv} (h : TvOk P nd t) : TvM P nd (nrmT t) := by
  obtain ⟨h1, h2, h3, h4, h5, h6, h7⟩ := h
  refine ⟨h1, h2, h3, h4, ?_, h6⟩
  by_cases q : 0 < t.2.2.2.2.2
  · refine Or.inr ⟨q, h7 q, ?_⟩
    show 0 ≤ (if 0 < t.2.2.2.2.2 then t.2.2.2.2.1 else -4) ∧ _
    rw [if_pos q]
    show 0 ≤ _ ∧ (if 0 < t.2.2.2.2.2 then t.2.2.2.2.1 else -4) < P
    rw [if_pos q]
    exact h5
  · refine Or.inl ⟨by show t.2.2.2.2.2 = 0; omega, ?_⟩
    show (if 0 < t.2.2.2.2.2 then t.2.2.2.2.1 else -4) = -4
    rw [if_neg q]
theorem tvok_of {P nd : Int} {t : Tv} (h : TvM P nd t) (hl : t.2.2.2.2.2 = 0 → True) : ∃ t', TvOk P nd t' ∧ nrmT t' = t := by
  obtain ⟨h1, h2, h3, h4, h5, h6⟩ := h
  rcases h5 with ⟨a, b⟩ | ⟨a, b, c⟩
  · refine ⟨(t.1, t.2.1, t.2.2.1, t.2.2.2.1, t.1, t.2.2.2.2.2), ⟨h1, h2, h3, h4, h1, h6, fun q => absurd a (by have : 0 < t.2.2.2.2.2 := q; omega)⟩, ?_⟩
    unfold nrmT
    simp only [a]
    rw [if_neg (by decide), ← b, ← a]
  · refine ⟨t, ⟨h1, h2, h3, h4, c, h6, fun _ => b⟩, ?_⟩
    unfold nrmT
    rw [if_pos a]
def FsOk (L : Ld) (B : Int) (F : Fs) : Prop := (0 ≤ fW F ∧ fW F ≤ 3) ∧ (0 ≤ fH F ∧ fH F ≤ B) ∧ (∀ d x, 0 ≤ d → d < lD L → 0 ≤ x → x < lP L → 0 ≤ fT F (36 * d + x) ∧ fT F (36 * d + x) ≤ 3) ∧ ∀ t : Nat, (t : Int) < lTv L → TvM (lP L) (lD L) (fV F t)
def SxOk (B : Int) (S : Sx) : Prop := LdOk (sL S) ∧ FsOk (sL S) B (sF S) ∧ (sU S).1 ≤ 8 ∧ (∀ k, k < (sU S).1 → FsOk (sL S) B ((sU S).2 k)) ∧ (sK S).1 ≤ 2 ∧ (∀ k, k < (sK S).1 → FsOk (sL S) B ((sK S).2 k)) ∧ (sH S).1 ≤ 8 ∧ (∀ k, k < (sH S).1 → (0 ≤ (sH S).2.1 k ∧ (sH S).2.1 k < lP (sL S)) ∧ 0 ≤ (sH S).2.2 k ∧ (sH S).2.2 k ≤ 3) ∧ (0 ≤ sLn S ∧ sLn S ≤ 200)
theorem lp_rng {L : Ld} (h : LdOk L) : 1 ≤ lP L ∧ lP L ≤ 36 := by
  obtain ⟨h1, h2, -⟩ := h
  have a : 1 * 1 ≤ lR L * lW L := Int.mul_le_mul h1.1 h2.1 (by decide) (by omega)
  have b : lR L * lW L ≤ 6 * 6 := Int.mul_le_mul h1.2 h2.2 (by omega) (by decide)
  exact ⟨by show 1 ≤ lR L * lW L; omega, by show lR L * lW L ≤ 36; omega⟩
theorem lq_eq {L : Ld} (h : LdOk L) : (lQ L : Int) = lP L := by
  have := lp_rng h
  unfold lQ
  omega
theorem lq_rng {L : Ld} (h : LdOk L) : 1 ≤ lQ L ∧ lQ L ≤ 36 := by
  have := lp_rng h
  have := lq_eq h
  omega
def nbL (L : Ld) : Nat → Nat → Int := nbs (lW L) (lP L)
theorem nbl_rng {L : Ld} (h : LdOk L) : ∀ x, x < lQ L → ∀ s, s < 4 → nbL L x s = -4 ∨ (0 ≤ nbL L x s ∧ nbL L x s < lQ L) := by
  intro x hx s _
  unfold nbL
  have := @nbs_rng (lW L) (lQ L) x s (by have := h.2.1; omega) hx (by rw [lq_eq h]; exact ⟨lR L, by show lR L * lW L = lW L * lR L; exact Int.mul_comm _ _⟩)
  rw [lq_eq h] at this ⊢
  exact this
/-- hours to enter a place by a drum; in truth -/
def ent (L : Ld) (T : Int → Int) (w d : Int) : Nat → Int := fun y => hrs (takv (lK L d) (T (36 * d + (y : Int)))) w
def entT (L : Ld) (w : Int) : Nat → Int := fun y => hrs (lG L (y : Int)) w
theorem wfg_e {L : Ld} {T : Int → Int} {w d : Int} (h : LdOk L) : Wfg (lQ L) (nbL L) (ent L T w d) := ⟨nbl_rng h, fun _ _ => hrs_rng⟩
theorem wfg_t {L : Ld} {w : Int} (h : LdOk L) : Wfg (lQ L) (nbL L) (entT L w) := ⟨nbl_rng h, fun _ _ => hrs_rng⟩
/-- hours of a way by a drum, in truth; -4: none -/
noncomputable def awD (L : Ld) (T : Int → Int) (w d y : Int) : Nat → Int := dst (lQ L) (nbL L) (ent L T w d) y.toNat
noncomputable def awT (L : Ld) (w y : Int) : Nat → Int := dst (lQ L) (nbL L) (entT L w) y.toNat
def fin (a : Int) : Int := if a < 1000000 then a else -4
noncomputable def hpS (L : Ld) (T : Int → Int) (w d g : Int) : Int → Int := fun x => hop (lQ L) (nbL L) (ent L T w d) g.toNat x.toNat
theorem hps_rng {L : Ld} {T : Int → Int} {w d g x : Int} (h : LdOk L) (hx : 0 ≤ x ∧ x < lP L) : hpS L T w d g x = -4 ∨ (0 ≤ hpS L T w d g x ∧ hpS L T w d g x < lP L) := by
  unfold hpS
  have := @hop_rng (lQ L) (nbL L) (ent L T w d) g.toNat x.toNat (wfg_e h) (by have := lq_eq h; omega)
  rw [lq_eq h] at this
  exact this
/-- an hour of a traveller who goes by drum d to g -/
noncomputable def sfx (L : Ld) (T : Int → Int) (w d g : Int) : Tv → Tv := stepM (hpS L T w d g) (lG L) w
noncomputable def stp (L : Ld) (T : Int → Int) (w : Int) (t : Tv) : Tv := sfx L T w t.2.2.1 t.2.1 t
theorem stepM_dg {hp gr : Int → Int} {w : Int} {t : Tv} : (stepM hp gr w t).2.1 = t.2.1 ∧ (stepM hp gr w t).2.2.1 = t.2.2.1 := by
  unfold stepM arrM
  split
  · exact ⟨rfl, rfl⟩
  · split
    · split
      · exact ⟨rfl, rfl⟩
      · split
        · exact ⟨rfl, rfl⟩
        · split <;> exact ⟨rfl, rfl⟩
    · split <;> exact ⟨rfl, rfl⟩
/-- the class's own hour, and that it is the same -/
noncomputable def sfc (L : Ld) (T : Int → Int) (w d g : Int) : Tv → Tv := stepT (hpS L T w d g) (lG L) w
theorem sfc_ok {L : Ld} {T : Int → Int} {w d g : Int} {t : Tv} (h : LdOk L) (ht : TvOk (lP L) (lD L) t) : TvOk (lP L) (lD L) (sfc L T w d g t) := stepT_ok ht (hps_rng h ht.1)
theorem sfc_nrm {L : Ld} {T : Int → Int} {w d g : Int} {t : Tv} (ht : TvOk (lP L) (lD L) t) : nrmT (sfc L T w d g t) = sfx L T w d g (nrmT t) := step_nrm ht
theorem sfx_ok {L : Ld} {T : Int → Int} {w d g : Int} {t : Tv} (h : LdOk L) (ht : TvM (lP L) (lD L) t) : TvM (lP L) (lD L) (sfx L T w d g t) := by
  obtain ⟨t', h1, rfl⟩ := tvok_of ht (fun _ => trivial)
  rw [← sfc_nrm h1]
  exact tvm_of (sfc_ok h h1)
/-- hours until a state is reached -/
noncomputable def ansU (L : Ld) (T : Int → Int) (w s : Int) (t : Tv) : Int := untl (sfx L T w t.2.2.1 t.2.1) s 61 0 t
/-- an hour of a forest -/
noncomputable def hourF (L : Ld) (F : Fs) : Fs := (fW F, fH F + 1, fT F, fun t => if (t : Int) < lTv L then stp L (fT F) (fW F) (fV F t) else fV F t)
theorem hourF_ok {L : Ld} {B : Int} {F : Fs} (h : LdOk L) (hF : FsOk L B F) : FsOk L (B + 1) (hourF L F) := by
  obtain ⟨h1, h2, h3, h4⟩ := hF
  refine ⟨h1, ⟨by show 0 ≤ fH F + 1; omega, by show fH F + 1 ≤ B + 1; omega⟩, h3, fun t ht => ?_⟩
  show TvM (lP L) (lD L) (if (t : Int) < lTv L then stp L (fT F) (fW F) (fV F t) else fV F t)
  rw [if_pos ht]
  exact sfx_ok h (h4 t ht)
theorem FsOk.mono {L : Ld} {B C : Int} {F : Fs} (h : FsOk L B F) (hB : B ≤ C) : FsOk L C F := ⟨h.1, ⟨h.2.1.1, Int.le_trans h.2.1.2 hB⟩, h.2.2⟩
noncomputable def hoursF (L : Ld) : Nat → Fs → Fs
  | 0, F => F
  | n + 1, F => hourF L (hoursF L n F)
theorem hoursF_ok {L : Ld} {B : Int} {F : Fs} (h : LdOk L) (hF : FsOk L B F) : ∀ n : Nat, FsOk L (B + n) (hoursF L n F) := by
  intro n
  induction n with
  | zero => exact hF.mono (by omega)
  | succ n ih => exact (hourF_ok h ih).mono (by omega)
/-- the newest on top; the ninth lets the lowest fall -/
def pushF (p : Nat × (Nat → Fs)) (F : Fs) : Nat × (Nat → Fs) := if p.1 = 8 then (8, fun k => if k = 7 then F else p.2 (k + 1)) else (p.1 + 1, fun k => if k = p.1 then F else p.2 k)
theorem push_ok {L : Ld} {B : Int} {p : Nat × (Nat → Fs)} {F : Fs} (h8 : p.1 ≤ 8) (h : ∀ k, k < p.1 → FsOk L B (p.2 k)) (hF : FsOk L B F) : (pushF p F).1 ≤ 8 ∧ ∀ k, k < (pushF p F).1 → FsOk L B ((pushF p F).2 k) := by
  unfold pushF
  split
  · next q =>
    refine ⟨Nat.le_refl 8, fun k hk => ?_⟩
    have hk : k < 8 := hk
    show FsOk L B (if k = 7 then F else p.2 (k + 1))
    split
    · exact hF
    · exact h _ (by omega)
  · next q =>
    refine ⟨(by omega : p.1 + 1 ≤ 8), fun k hk => ?_⟩
    have hk : k < p.1 + 1 := hk
    show FsOk L B (if k = p.1 then F else p.2 k)
    split
    · exact hF
    · exact h _ (by omega)
/-- small changes of a forest -/
def setW (F : Fs) (w : Int) : Fs := (w, fH F, fT F, fV F)
def setTl (F : Fs) (i v : Int) : Fs := (fW F, fH F, iup (fT F) i v, fV F)
def setV (F : Fs) (t : Nat) (v : Tv) : Fs := (fW F, fH F, fT F, fun u => if u = t then v else fV F u)
def sdr (t : Tv) (d : Int) : Tv := (t.1, t.2.1, d, t.2.2.2.1, t.2.2.2.2.1, t.2.2.2.2.2)
theorem setW_ok {L : Ld} {B : Int} {F : Fs} {w : Int} (h : FsOk L B F) (hw : 0 ≤ w ∧ w ≤ 3) : FsOk L B (setW F w) := ⟨hw, h.2⟩
theorem setTl_ok {L : Ld} {B : Int} {F : Fs} {i v : Int} (h : FsOk L B F) (hv : 0 ≤ v ∧ v ≤ 3) : FsOk L B (setTl F i v) := by
  refine ⟨h.1, h.2.1, fun d x a b c e => ?_, h.2.2.2⟩
  show 0 ≤ iup (fT F) i v (36 * d + x) ∧ iup (fT F) i v (36 * d + x) ≤ 3
  unfold iup
  split
  · exact hv
  · exact h.2.2.1 d x a b c e
theorem setV_ok {L : Ld} {B : Int} {F : Fs} {t : Nat} {v : Tv} (h : FsOk L B F) (hv : TvM (lP L) (lD L) v) : FsOk L B (setV F t v) := by
  refine ⟨h.1, h.2.1, h.2.2.1, fun u hu => ?_⟩
  show TvM _ _ (if u = t then v else fV F u)
  split
  · exact hv
  · exact h.2.2.2 u hu
theorem sdr_ok {P nd d : Int} {t : Tv} (h : TvM P nd t) (hd : 0 ≤ d ∧ d < nd) : TvM P nd (sdr t d) := ⟨h.1, h.2.1, hd, h.2.2.2⟩
theorem sdrc_ok {P nd d : Int} {t : Tv} (h : TvOk P nd t) (hd : 0 ≤ d ∧ d < nd) : TvOk P nd (sdr t d) := ⟨h.1, h.2.1, hd, h.2.2.2⟩
theorem sdr_nrm {t : Tv} {d : Int} : nrmT (sdr t d) = sdr (nrmT t) d := rfl
theorem goTo_nrm {t : Tv} {y : Int} : nrmT (goToT t y) = goToT (nrmT t) y := rfl
theorem goToc_ok {P nd y : Int} {t : Tv} (h : TvOk P nd t) (hy : 0 ≤ y ∧ y < P) : TvOk P nd (goToT t y) := by
  obtain ⟨h1, h2, h3, h4, h5, h6, h7⟩ := h
  unfold goToT
  refine ⟨h1, hy, h3, ?_, h5, h6, fun q => ?_⟩
  · show 0 ≤ (if t.2.2.2.2.2 = 0 ∧ t.1 = y then (1 : Int) else 0) ∧ (if t.2.2.2.2.2 = 0 ∧ t.1 = y then (1 : Int) else 0) ≤ 2
    split <;> omega
  · show (if t.2.2.2.2.2 = 0 ∧ t.1 = y then (1 : Int) else 0) = 0
    have q : 0 < t.2.2.2.2.2 := q
    rw [if_neg (by omega)]
theorem goTo_ok {P nd y : Int} {t : Tv} (h : TvM P nd t) (hy : 0 ≤ y ∧ y < P) : TvM P nd (goToT t y) := by
  obtain ⟨t', h1, rfl⟩ := tvok_of h (fun _ => trivial)
  rw [← goTo_nrm]
  exact tvm_of (goToc_ok h1 hy)
/-- a traveller who starts out -/
def ledT (x y d : Int) : Tv := (x, y, d, (if x = y then 1 else 0), -4, 0)
theorem start_nrm {t : Tv} {x y d : Int} : nrmT (startT t x y d) = ledT x y d := by
  rw [startT_stv]
  rfl
theorem start_ok {P nd x y d : Int} {t : Tv} (hx : 0 ≤ x ∧ x < P) (hy : 0 ≤ y ∧ y < P) (hd : 0 ≤ d ∧ d < nd) : TvOk P nd (startT t x y d) := by
  rw [startT_stv]
  refine ⟨hx, hy, hd, ?_, hx, ⟨(by decide : (0 : Int) ≤ 0), (by decide : (0 : Int) ≤ 4)⟩, fun q => absurd q (by decide : ¬ (0 : Int) < 0)⟩
  show 0 ≤ (if x = y then (1 : Int) else 0) ∧ (if x = y then (1 : Int) else 0) ≤ 2
  split <;> omega
theorem iter_ok {P nd : Int} {f g : Tv → Tv} (hf : ∀ t, TvOk P nd t → nrmT (f t) = g (nrmT t)) (hok : ∀ t, TvOk P nd t → TvOk P nd (f t)) (n : Nat) (t : Tv) (h : TvOk P nd t) : TvOk P nd (iter f n t) ∧ nrmT (iter f n t) = iter g n (nrmT t) := iter_nrm hf hok n t h
