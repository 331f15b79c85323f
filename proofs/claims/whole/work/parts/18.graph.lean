/-! ===== ways: the least hours, as the only solution of what the neighbours say ===== -/
def cst (nb : Nat → Nat → Int) (e a : Nat → Int) (x s : Nat) : Int := if nb x s = -4 then 1000000 else e (nb x s).toNat + a (nb x s).toNat
def Wfg (P : Nat) (nb : Nat → Nat → Int) (e : Nat → Int) : Prop := (∀ x, x < P → ∀ s, s < 4 → nb x s = -4 ∨ (0 ≤ nb x s ∧ nb x s < P)) ∧ ∀ y, y < P → 1 ≤ e y ∧ e y ≤ 1000000
def Bell (P : Nat) (nb : Nat → Nat → Int) (e : Nat → Int) (g : Nat) (a : Nat → Int) : Prop :=
  (∀ x, x < P → 0 ≤ a x ∧ a x ≤ 1000000) ∧ a g = 0 ∧ (∀ x, x < P → x ≠ g → ∀ s, s < 4 → a x ≤ cst nb e a x s) ∧ ∀ x, x < P → x ≠ g → a x = 1000000 ∨ ∃ s, s < 4 ∧ a x = cst nb e a x s
/-- a finite way's first step -/
theorem cst_fin {P : Nat} {nb : Nat → Nat → Int} {e a : Nat → Int} (hw : Wfg P nb e) {x s : Nat} (hx : x < P) (hs : s < 4) (h : cst nb e a x s < 1000000) : ∃ y, y < P ∧ nb x s = (y : Int) ∧ cst nb e a x s = e y + a y := by
  unfold cst at h ⊢
  rcases hw.1 x hx s hs with q | q
  · rw [if_pos q] at h; omega
  · have hn : ¬ nb x s = -4 := by omega
    rw [if_neg hn]
    exact ⟨(nb x s).toNat, by omega, by omega, rfl⟩
theorem cst_mono {P : Nat} {nb : Nat → Nat → Int} {e a b : Nat → Int} (hw : Wfg P nb e) (hab : ∀ y, y < P → a y ≤ b y) {x s : Nat} (hx : x < P) (hs : s < 4) : cst nb e a x s ≤ cst nb e b x s := by
  unfold cst
  rcases hw.1 x hx s hs with q | q
  · rw [if_pos q, if_pos q]; omega
  · have hn : ¬ nb x s = -4 := by omega
    rw [if_neg hn, if_neg hn]
    have := hab (nb x s).toNat (by omega)
    omega
theorem cst_pos {P : Nat} {nb : Nat → Nat → Int} {e a : Nat → Int} (hw : Wfg P nb e) (ha : ∀ y, y < P → 0 ≤ a y) {x s : Nat} (hx : x < P) (hs : s < 4) : 1 ≤ cst nb e a x s := by
  unfold cst
  rcases hw.1 x hx s hs with q | q
  · rw [if_pos q]; omega
  · have hn : ¬ nb x s = -4 := by omega
    rw [if_neg hn]
    have := ha (nb x s).toNat (by omega)
    have := hw.2 (nb x s).toNat (by omega)
    omega
theorem bell_le {P : Nat} {nb : Nat → Nat → Int} {e : Nat → Int} {g : Nat} {a b : Nat → Int} (hw : Wfg P nb e) (ha : Bell P nb e g a) (hb : Bell P nb e g b) : ∀ (n x : Nat), x < P → a x = (n : Int) → b x ≤ a x := by
  intro n
  induction n using Nat.strongRecOn with
  | _ n ih =>
    intro x hx hn
    by_cases hg : x = g
    · subst hg
      rw [hb.2.1, ha.2.1]; omega
    · have hbx := hb.1 x hx
      have hax := ha.1 x hx
      rcases ha.2.2.2 x hx hg with q | ⟨s, hs, q⟩
      · omega
      · by_cases hf : a x = 1000000
        · omega
        · obtain ⟨y, hy, hnb, hc⟩ := cst_fin hw hx hs (a := a) (by omega)
          have hey := hw.2 y hy
          have hay := ha.1 y hy
          have h1 := ih (a y).toNat (by omega) y hy (by omega)
          have h2 := hb.2.2.1 x hx hg s hs
          have h3 : cst nb e b x s = e y + b y := by
            unfold cst
            rw [if_neg (by omega), hnb]
            simp
          omega
theorem bell_eq {P : Nat} {nb : Nat → Nat → Int} {e : Nat → Int} {g : Nat} {a b : Nat → Int} (hw : Wfg P nb e) (ha : Bell P nb e g a) (hb : Bell P nb e g b) {x : Nat} (hx : x < P) : a x = b x := by
  have h1 := bell_le hw ha hb (a x).toNat x hx (by have := ha.1 x hx; omega)
  have h2 := bell_le hw hb ha (b x).toNat x hx (by have := hb.1 x hx; omega)
  omega
/-- sums of hours -/
def sm (a : Nat → Int) : Nat → Nat
  | 0 => 0
  | n + 1 => sm a n + (a n).toNat
theorem sm_le {a b : Nat → Int} : ∀ n, (∀ x, x < n → a x ≤ b x) → sm a n ≤ sm b n := by
  intro n
  induction n with
  | zero => intro _; exact Nat.le_refl _
  | succ n ih =>
    intro h
    have h1 := ih (fun x hx => h x (by omega))
    have h2 := h n (by omega)
    simp only [sm]
    omega
theorem sm_lt {a b : Nat → Int} : ∀ n, (∀ x, x < n → a x ≤ b x) → ∀ z, z < n → a z < b z → 0 < b z → sm a n < sm b n := by
  intro n
  induction n with
  | zero => intro _ z hz; omega
  | succ n ih =>
    intro h z hz hlt hp
    simp only [sm]
    by_cases hzn : z = n
    · subst hzn
      have h1 := sm_le z (fun x hx => h x (by omega))
      omega
    · have h1 := ih (fun x hx => h x (by omega)) z (by omega) hlt hp
      have h2 := h n (by omega)
      omega
def fup (a : Nat → Int) (x : Nat) (v : Int) : Nat → Int := fun y => if y = x then v else a y
/-- what relaxing keeps -/
def Pre (P : Nat) (nb : Nat → Nat → Int) (e : Nat → Int) (g : Nat) (a : Nat → Int) : Prop :=
  (∀ x, x < P → 0 ≤ a x ∧ a x ≤ 1000000) ∧ a g = 0 ∧ ∀ x, x < P → x ≠ g → a x = 1000000 ∨ ∃ s, s < 4 ∧ cst nb e a x s ≤ a x
theorem pre_step {P : Nat} {nb : Nat → Nat → Int} {e : Nat → Int} {g : Nat} {a : Nat → Int} (hw : Wfg P nb e) (h : Pre P nb e g a) {x s : Nat} (hx : x < P) (hs : s < 4) (hlt : cst nb e a x s < a x) : Pre P nb e g (fup a x (cst nb e a x s)) ∧ x ≠ g ∧ sm (fup a x (cst nb e a x s)) P < sm a P := by
  have hpos := cst_pos hw (fun y hy => (h.1 y hy).1) hx hs (a := a)
  have hxg : x ≠ g := by
    intro q
    subst q
    have := h.2.1
    omega
  have hle : ∀ y, y < P → fup a x (cst nb e a x s) y ≤ a y := by
    intro y hy
    unfold fup
    split
    · next q => subst q; omega
    · omega
  refine ⟨⟨fun y hy => ?_, ?_, fun y hy hyg => ?_⟩, hxg, sm_lt P hle x hx (by simp [fup]; exact hlt) (by omega)⟩
  · have := h.1 y hy
    have h1 := h.1 x hx
    unfold fup
    split <;> omega
  · unfold fup
    rw [if_neg (Ne.symm hxg)]
    exact h.2.1
  · by_cases hyx : y = x
    · subst hyx
      right
      refine ⟨s, hs, ?_⟩
      have := cst_mono hw hle hx hs
      have e1 : fup a y (cst nb e a y s) y = cst nb e a y s := by simp [fup]
      rw [e1]
      exact this
    · have e1 : fup a x (cst nb e a x s) y = a y := by simp [fup, hyx]
      rw [e1]
      rcases h.2.2 y hy hyg with q | ⟨t, ht, q⟩
      · exact Or.inl q
      · exact Or.inr ⟨t, ht, Int.le_trans (cst_mono hw hle hy ht) q⟩
theorem pre_bell {P : Nat} {nb : Nat → Nat → Int} {e : Nat → Int} {g : Nat} {a : Nat → Int} (h : Pre P nb e g a) (hn : ∀ x, x < P → ∀ s, s < 4 → ¬ cst nb e a x s < a x) : Bell P nb e g a := by
  refine ⟨h.1, h.2.1, fun x hx _ s hs => Int.not_lt.mp (hn x hx s hs), fun x hx hg => ?_⟩
  rcases h.2.2 x hx hg with q | ⟨s, hs, q⟩
  · exact Or.inl q
  · exact Or.inr ⟨s, hs, Int.le_antisymm (Int.not_lt.mp (hn x hx s hs)) q⟩
theorem pre_ex {P : Nat} {nb : Nat → Nat → Int} {e : Nat → Int} {g : Nat} (hw : Wfg P nb e) : ∀ (n : Nat) (a : Nat → Int), sm a P ≤ n → Pre P nb e g a → ∃ b, Bell P nb e g b := by
  intro n
  induction n with
  | zero =>
    intro a hn h
    refine ⟨a, pre_bell h (fun x hx s hs q => ?_)⟩
    have := (pre_step hw h hx hs q).2.2
    omega
  | succ n ih =>
    intro a hn h
    by_cases hc : ∃ x s, x < P ∧ s < 4 ∧ cst nb e a x s < a x
    · obtain ⟨x, s, hx, hs, q⟩ := hc
      obtain ⟨h1, -, h2⟩ := pre_step hw h hx hs q
      exact ih _ (by omega) h1
    · exact ⟨a, pre_bell h (fun x hx s hs q => hc ⟨x, s, hx, hs, q⟩)⟩
def ini (g : Nat) : Nat → Int := fun x => if x = g then 0 else 1000000
theorem pre_ini {P : Nat} {nb : Nat → Nat → Int} {e : Nat → Int} {g : Nat} : Pre P nb e g (ini g) := by
  refine ⟨fun x _ => ?_, by simp [ini], fun x _ hg => Or.inl (by simp [ini, hg])⟩
  unfold ini
  split <;> omega
theorem bell_ex {P : Nat} {nb : Nat → Nat → Int} {e : Nat → Int} {g : Nat} (hw : Wfg P nb e) : ∃ b, Bell P nb e g b := pre_ex hw _ _ (Nat.le_refl _) pre_ini
/-- the first of the neighbours over which it takes fewest hours -/
def fo (nb : Nat → Nat → Int) (e a : Nat → Int) (x : Nat) : Nat → Int × Int
  | 0 => (-4, 1000000)
  | s + 1 => if cst nb e a x s < (fo nb e a x s).2 then (nb x s, cst nb e a x s) else fo nb e a x s
theorem fo_eq {nb : Nat → Nat → Int} {e a : Nat → Int} {x : Nat} : ∀ s, (fo nb e a x s).2 = if (fo nb e a x s).1 = -4 then 1000000 else e (fo nb e a x s).1.toNat + a (fo nb e a x s).1.toNat := by
  intro s
  induction s with
  | zero => simp [fo]
  | succ s ih =>
    simp only [fo]
    split
    · unfold cst; rfl
    · exact ih
theorem fo_le {nb : Nat → Nat → Int} {e a : Nat → Int} {x : Nat} : ∀ s, (fo nb e a x s).2 ≤ 1000000 ∧ ∀ t, t < s → (fo nb e a x s).2 ≤ cst nb e a x t := by
  intro s
  induction s with
  | zero => exact ⟨by simp [fo], fun t ht => by omega⟩
  | succ s ih =>
    simp only [fo]
    split
    · next q => exact ⟨by simp only; omega, fun t ht => by
        by_cases h : t = s
        · subst h; simp only; omega
        · have := ih.2 t (by omega); simp only; omega⟩
    · next q => exact ⟨ih.1, fun t ht => by
        by_cases h : t = s
        · subst h; omega
        · exact ih.2 t (by omega)⟩
theorem fo_at {nb : Nat → Nat → Int} {e a : Nat → Int} {x : Nat} : ∀ s, ((fo nb e a x s).2 = 1000000 ∧ (fo nb e a x s).1 = -4) ∨ ∃ t, t < s ∧ (fo nb e a x s).2 = cst nb e a x t ∧ (fo nb e a x s).1 = nb x t ∧ cst nb e a x t < 1000000 ∧ ∀ u, u < t → (fo nb e a x s).2 < cst nb e a x u := by
  intro s
  induction s with
  | zero => exact Or.inl ⟨rfl, rfl⟩
  | succ s ih =>
    simp only [fo]
    split
    · next q =>
      right
      refine ⟨s, by omega, rfl, rfl, ?_, fun u hu => ?_⟩
      · have := (fo_le (nb := nb) (e := e) (a := a) (x := x) s).1; omega
      · have := (fo_le (nb := nb) (e := e) (a := a) (x := x) s).2 u hu; simp only; omega
    · rcases ih with q | ⟨t, h1, h2, h3, h4, h5⟩
      · exact Or.inl q
      · exact Or.inr ⟨t, by omega, h2, h3, h4, h5⟩
theorem fo_rng {P : Nat} {nb : Nat → Nat → Int} {e a : Nat → Int} (hw : Wfg P nb e) {x : Nat} (hx : x < P) : ∀ s, s ≤ 4 → (fo nb e a x s).1 = -4 ∨ (0 ≤ (fo nb e a x s).1 ∧ (fo nb e a x s).1 < P) := by
  intro s
  induction s with
  | zero => intro _; exact Or.inl rfl
  | succ s ih =>
    intro hs
    simp only [fo]
    split
    · exact hw.1 x hx s (by omega)
    · exact ih (by omega)
/-! sweeps: D is the solution -/
def Swp (P g : Nat) (D a : Nat → Int) : Prop := (∀ x, x < P → D x ≤ a x ∧ a x ≤ 1000000) ∧ a g = 0
/-- one place looked at -/
def rlx (nb : Nat → Nat → Int) (e a : Nat → Int) (x : Nat) : Nat → Int := if (fo nb e a x 4).2 < a x then fup a x (fo nb e a x 4).2 else a
theorem rlx_le {nb : Nat → Nat → Int} {e a : Nat → Int} {x : Nat} (y : Nat) : rlx nb e a x y ≤ a y := by
  unfold rlx
  split
  · unfold fup
    split
    · next h q => subst q; omega
    · omega
  · omega
theorem swp_rlx {P g : Nat} {nb : Nat → Nat → Int} {e D a : Nat → Int} (hw : Wfg P nb e) (hD : Bell P nb e g D) (h : Swp P g D a) {x : Nat} (hx : x < P) (hgP : g < P) : Swp P g D (rlx nb e a x) := by
  have h0 : ∀ y, y < P → 0 ≤ a y := fun y hy => by have := h.1 y hy; have := hD.1 y hy; omega
  have hm : x ≠ g → D x ≤ (fo nb e a x 4).2 := by
    intro hg
    rcases fo_at (nb := nb) (e := e) (a := a) (x := x) 4 with ⟨q, -⟩ | ⟨t, ht, q, -⟩
    · rw [q]; exact (hD.1 x hx).2
    · rw [q]
      exact Int.le_trans (hD.2.2.1 x hx hg t ht) (cst_mono hw (fun y hy => (h.1 y hy).1) hx ht)
  have hm1 : 1 ≤ (fo nb e a x 4).2 := by
    rcases fo_at (nb := nb) (e := e) (a := a) (x := x) 4 with ⟨q, -⟩ | ⟨t, ht, q, -⟩
    · rw [q]; omega
    · rw [q]; exact cst_pos hw h0 hx ht
  refine ⟨fun y hy => ⟨?_, Int.le_trans (rlx_le y) (h.1 y hy).2⟩, ?_⟩
  · unfold rlx
    split
    · unfold fup
      split
      · next q1 q2 =>
        subst q2
        by_cases hg : y = g
        · subst hg; rw [hD.2.1]; omega
        · exact hm hg
      · exact (h.1 y hy).1
    · exact (h.1 y hy).1
  · unfold rlx
    split
    · next q =>
      unfold fup
      split
      · next q2 => subst q2; have := h.2; omega
      · exact h.2
    · exact h.2
theorem swp_keep {P g : Nat} {nb : Nat → Nat → Int} {e D a : Nat → Int} (hw : Wfg P nb e) (hD : Bell P nb e g D) (h : Swp P g D a) {x : Nat} (hx : x < P) (hgP : g < P) {z : Nat} (hz : z < P) (hs : a z = D z) : rlx nb e a x z = D z := by
  have h1 := (swp_rlx hw hD h hx hgP).1 z hz
  have h2 := rlx_le (nb := nb) (e := e) (a := a) (x := x) z
  omega
/-- where not all is told yet, there is a place that the next look at it tells -/
theorem swp_star {P g : Nat} {nb : Nat → Nat → Int} {e D a : Nat → Int} (hw : Wfg P nb e) (hD : Bell P nb e g D) (h : Swp P g D a) (hu : ∃ x, x < P ∧ a x ≠ D x) : ∃ x y s, x < P ∧ y < P ∧ s < 4 ∧ a x ≠ D x ∧ nb x s = (y : Int) ∧ D x = e y + D y ∧ a y = D y := by
  obtain ⟨k, ⟨x, hx, hk, hne⟩, hmin⟩ := pk_least (fun k => ∃ x, x < P ∧ D x = (k : Int) ∧ a x ≠ D x) (by
    obtain ⟨x, hx, hne⟩ := hu
    exact ⟨(D x).toNat, x, hx, by have := hD.1 x hx; omega, hne⟩)
  have hax := h.1 x hx
  have hg : x ≠ g := by
    intro q
    subst q
    exact hne (by rw [h.2, hD.2.1])
  rcases hD.2.2.2 x hx hg with q | ⟨s, hs, q⟩
  · omega
  · obtain ⟨y, hy, hnb, hc⟩ := cst_fin hw hx hs (a := D) (by omega)
    have hey := hw.2 y hy
    have hDy := hD.1 y hy
    refine ⟨x, y, s, hx, hy, hs, hne, hnb, by omega, ?_⟩
    by_cases hay : a y = D y
    · exact hay
    · exact absurd ⟨y, hy, by omega, hay⟩ (hmin (D y).toNat (by omega))
theorem swp_tell {P g : Nat} {nb : Nat → Nat → Int} {e D a : Nat → Int} (hw : Wfg P nb e) (hD : Bell P nb e g D) (h : Swp P g D a) (hgP : g < P) {x y s : Nat} (hx : x < P) (hs : s < 4) (hnb : nb x s = (y : Int)) (hd : D x = e y + D y) (hy : a y = D y) : rlx nb e a x x = D x := by
  have h1 := (swp_rlx hw hD h hx hgP).1 x hx
  have h2 : (fo nb e a x 4).2 ≤ cst nb e a x s := (fo_le 4).2 s hs
  have h3 : cst nb e a x s = D x := by
    unfold cst
    rw [if_neg (by omega), hnb]
    simp
    omega
  have h4 : rlx nb e a x x ≤ (fo nb e a x 4).2 := by
    unfold rlx
    split
    · simp [fup]
    · omega
  omega
/-- how many places aren't told yet -/
def unc (D a : Nat → Int) : Nat → Nat
  | 0 => 0
  | n + 1 => unc D a n + (if a n = D n then 0 else 1)
theorem unc_le {D a b : Nat → Int} : ∀ n, (∀ x, x < n → a x = D x → b x = D x) → unc D b n ≤ unc D a n := by
  intro n
  induction n with
  | zero => intro _; exact Nat.le_refl _
  | succ n ih =>
    intro h
    have h1 := ih (fun x hx => h x (by omega))
    have h2 := h n (by omega)
    simp only [unc]
    by_cases q : a n = D n
    · rw [if_pos q, if_pos (h2 q)]; omega
    · rw [if_neg q]; split <;> omega
theorem unc_lt {D a b : Nat → Int} : ∀ n, (∀ x, x < n → a x = D x → b x = D x) → ∀ z, z < n → a z ≠ D z → b z = D z → unc D b n < unc D a n := by
  intro n
  induction n with
  | zero => intro _ z hz; omega
  | succ n ih =>
    intro h z hz h1 h2
    simp only [unc]
    by_cases q : z = n
    · subst q
      have := unc_le z (fun x hx => h x (by omega))
      rw [if_neg h1, if_pos h2]; omega
    · have := ih (fun x hx => h x (by omega)) z (by omega) h1 h2
      have h3 := h n (by omega)
      by_cases r : a n = D n
      · rw [if_pos r, if_pos (h3 r)]; omega
      · rw [if_neg r]; split <;> omega
theorem unc_n {D a : Nat → Int} : ∀ n, unc D a n ≤ n := by
  intro n
  induction n with
  | zero => exact Nat.le_refl _
  | succ n ih => simp only [unc]; split <;> omega
theorem unc_0 {D a : Nat → Int} : ∀ n, unc D a n = 0 → ∀ x, x < n → a x = D x := by
  intro n
  induction n with
  | zero => intro _ x hx; omega
  | succ n ih =>
    intro h x hx
    simp only [unc] at h
    by_cases q : x = n
    · subst q
      by_cases r : a x = D x
      · exact r
      · rw [if_neg r] at h; omega
    · exact ih (by omega) x (by omega)
