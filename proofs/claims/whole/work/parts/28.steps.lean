/-! ===== a traveller's hour, purely ===== -/
noncomputable def dst (P : Nat) (nb : Nat → Nat → Int) (e : Nat → Int) (g : Nat) : Nat → Int := Classical.epsilon (fun b => Bell P nb e g b)
theorem dst_bell {P : Nat} {nb : Nat → Nat → Int} {e : Nat → Int} {g : Nat} (hw : Wfg P nb e) : Bell P nb e g (dst P nb e g) := Classical.epsilon_spec (bell_ex hw)
theorem dst_of {P : Nat} {nb : Nat → Nat → Int} {e a : Nat → Int} {g x : Nat} (hw : Wfg P nb e) (h : Bell P nb e g a) (hx : x < P) : a x = dst P nb e g x := bell_eq hw h (dst_bell hw) hx
/-- the first place of a way; -4: none, or one is there -/
noncomputable def hop (P : Nat) (nb : Nat → Nat → Int) (e : Nat → Int) (g x : Nat) : Int := if dst P nb e g x = 0 then -4 else (fo nb e (dst P nb e g) x 4).1
theorem fo_congr {P : Nat} {nb nb' : Nat → Nat → Int} {e e' a a' : Nat → Int} (hn : ∀ x, x < P → ∀ s, s < 4 → nb x s = -4 ∨ (0 ≤ nb x s ∧ nb x s < P)) (hnb : ∀ x, x < P → ∀ s, s < 4 → nb' x s = nb x s) (he : ∀ y, y < P → e' y = e y) (ha : ∀ y, y < P → a' y = a y) {x : Nat} (hx : x < P) : ∀ s, s ≤ 4 → fo nb' e' a' x s = fo nb e a x s := by
  intro s
  induction s with
  | zero => intro _; rfl
  | succ s ih =>
    intro hs
    have hc : cst nb' e' a' x s = cst nb e a x s := by
      unfold cst
      rw [hnb x hx s (by omega)]
      rcases hn x hx s (by omega) with q | q
      · rw [if_pos q, if_pos q]
      · rw [if_neg (by omega), if_neg (by omega), he _ (by omega), ha _ (by omega)]
    simp only [fo]
    rw [hc, ih (by omega), hnb x hx s (by omega)]
/-- what a Ways object must hold -/
def Knows (I : mI) (w P : Nat) (nb : Nat → Nat → Int) (e : Nat → Int) (g : Nat) : Prop := (∀ x, x < P → eC I w x = e x) ∧ ∀ x, x < P → aC I w x = dst P nb e g x
theorem hop_rng {P : Nat} {nb : Nat → Nat → Int} {e : Nat → Int} {g x : Nat} (hw : Wfg P nb e) (hx : x < P) : hop P nb e g x = -4 ∨ (0 ≤ hop P nb e g x ∧ hop P nb e g x < P) := by
  unfold hop
  split
  · exact Or.inl rfl
  · exact fo_rng hw hx 4 (by omega)
/-- an hour of a traveller of the class: hp: place to first place, gr: ground -/
def setT (hp gr : Int → Int) (wet : Int) (t : Tv) : Tv :=
  if hp t.1 = -4 then t else if 1000000 ≤ hrs (gr (hp t.1)) wet then (t.1, t.2.1, t.2.2.1, 2, t.2.2.2.2.1, t.2.2.2.2.2) else (t.1, t.2.1, t.2.2.1, t.2.2.2.1, hp t.1, hrs (gr (hp t.1)) wet)
def setT' (hp gr : Int → Int) (wet : Int) (t : Tv) : Tv := if t.2.2.2.1 = 0 ∧ t.2.2.2.2.2 = 0 then setT hp gr wet t else t
def stepT (hp gr : Int → Int) (wet : Int) (t : Tv) : Tv := if 0 < (setT' hp gr wet t).2.2.2.2.2 then goOnT (setT' hp gr wet t) else setT' hp gr wet t
/-- the same of the reference -/
def arrM (t : Tv) : Tv := if t.2.2.2.2.2 = 1 then (t.2.2.2.2.1, t.2.1, t.2.2.1, (if t.2.2.2.2.1 = t.2.1 then 1 else 0), -4, 0) else (t.1, t.2.1, t.2.2.1, t.2.2.2.1, t.2.2.2.2.1, t.2.2.2.2.2 - 1)
def stepM (hp gr : Int → Int) (wet : Int) (t : Tv) : Tv :=
  if t.2.2.2.1 ≠ 0 then t else if t.2.2.2.2.2 = 0 then (if hp t.1 = -4 then t else if 1000000 ≤ hrs (gr (hp t.1)) wet then (t.1, t.2.1, t.2.2.1, 2, t.2.2.2.2.1, t.2.2.2.2.2) else arrM (t.1, t.2.1, t.2.2.1, t.2.2.2.1, hp t.1, hrs (gr (hp t.1)) wet)) else arrM t
/-- a traveller of the class as the reference has him -/
def nrmT (t : Tv) : Tv := (t.1, t.2.1, t.2.2.1, t.2.2.2.1, (if 0 < t.2.2.2.2.2 then t.2.2.2.2.1 else -4), t.2.2.2.2.2)
/-- a traveller in order -/
def TvOk (P : Int) (nd : Int) (t : Tv) : Prop := (0 ≤ t.1 ∧ t.1 < P) ∧ (0 ≤ t.2.1 ∧ t.2.1 < P) ∧ (0 ≤ t.2.2.1 ∧ t.2.2.1 < nd) ∧ (0 ≤ t.2.2.2.1 ∧ t.2.2.2.1 ≤ 2) ∧ (0 ≤ t.2.2.2.2.1 ∧ t.2.2.2.2.1 < P) ∧ (0 ≤ t.2.2.2.2.2 ∧ t.2.2.2.2.2 ≤ 4) ∧ (0 < t.2.2.2.2.2 → t.2.2.2.1 = 0)
theorem hrs_small {a b : Int} (h : ¬ 1000000 ≤ hrs a b) : 1 ≤ hrs a b ∧ hrs a b ≤ 4 := by
  unfold hrs at h ⊢
  split
  · next q =>
    rw [if_pos q] at h
    split
    · next q => rw [if_pos q] at h; omega
    · split
      · omega
      · split <;> omega
  · split
    · omega
    · split <;> omega
theorem goOnT_ok {P nd : Int} {t : Tv} (h : TvOk P nd t) (hl : 0 < t.2.2.2.2.2) : TvOk P nd (goOnT t) := by
  obtain ⟨h1, h2, h3, h4, h5, h6, h7⟩ := h
  by_cases q : t.2.2.2.2.2 = 1
  · by_cases q2 : t.2.2.2.2.1 = t.2.1
    · rw [goOnT_1 q q2]
      exact ⟨h5, h2, h3, ⟨(by omega : (0:Int) ≤ 1), (by omega : (1:Int) ≤ 2)⟩, h5, ⟨(by omega : (0:Int) ≤ 0), (by omega : (0:Int) ≤ 4)⟩, fun z => absurd z (by omega : ¬ (0:Int) < 0)⟩
    · rw [goOnT_2 q q2]
      exact ⟨h5, h2, h3, ⟨(by omega : (0:Int) ≤ 0), (by omega : (0:Int) ≤ 2)⟩, h5, ⟨(by omega : (0:Int) ≤ 0), (by omega : (0:Int) ≤ 4)⟩, fun z => absurd z (by omega : ¬ (0:Int) < 0)⟩
  · rw [goOnT_3 q]
    exact ⟨h1, h2, h3, h4, h5, ⟨(by omega : 0 ≤ t.2.2.2.2.2 - 1), (by omega : t.2.2.2.2.2 - 1 ≤ 4)⟩, fun _ => h7 hl⟩
theorem setT'_ok {P nd : Int} {hp gr : Int → Int} {wet : Int} {t : Tv} (h : TvOk P nd t) (hh : hp t.1 = -4 ∨ (0 ≤ hp t.1 ∧ hp t.1 < P)) : TvOk P nd (setT' hp gr wet t) := by
  unfold setT'
  split
  · next q =>
    obtain ⟨h1, h2, h3, h4, h5, h6, h7⟩ := h
    unfold setT
    split
    · exact ⟨h1, h2, h3, h4, h5, h6, h7⟩
    · next z =>
      split
      · exact ⟨h1, h2, h3, ⟨(by omega : (0:Int) ≤ 2), (by omega : (2:Int) ≤ 2)⟩, h5, h6, fun z2 => absurd z2 (by show ¬ 0 < t.2.2.2.2.2; omega)⟩
      · next z2 =>
        have := hrs_small z2
        exact ⟨h1, h2, h3, h4, (by omega : 0 ≤ hp t.1 ∧ hp t.1 < P), (by omega : 0 ≤ hrs (gr (hp t.1)) wet ∧ hrs (gr (hp t.1)) wet ≤ 4), fun _ => q.1⟩
  · exact h
theorem stepT_ok {P nd : Int} {hp gr : Int → Int} {wet : Int} {t : Tv} (h : TvOk P nd t) (hh : hp t.1 = -4 ∨ (0 ≤ hp t.1 ∧ hp t.1 < P)) : TvOk P nd (stepT hp gr wet t) := by
  unfold stepT
  split
  · next q => exact goOnT_ok (setT'_ok h hh) q
  · exact setT'_ok h hh
theorem goOn_arr {t : Tv} (hl : 0 < t.2.2.2.2.2) (hs : t.2.2.2.1 = 0) : nrmT (goOnT t) = arrM (nrmT t) := by
  have e : nrmT t = (t.1, t.2.1, t.2.2.1, t.2.2.2.1, t.2.2.2.2.1, t.2.2.2.2.2) := by unfold nrmT; rw [if_pos hl]
  rw [e]
  unfold arrM
  by_cases q : t.2.2.2.2.2 = 1
  · rw [if_pos q]
    by_cases q2 : t.2.2.2.2.1 = t.2.1
    · rw [goOnT_1 q q2, if_pos q2]; rfl
    · rw [goOnT_2 q q2, if_neg q2]; rfl
  · rw [goOnT_3 q, if_neg q]
    unfold nrmT
    rw [if_pos (by show 0 < t.2.2.2.2.2 - 1; omega)]
theorem step_nrm {P nd : Int} {hp gr : Int → Int} {wet : Int} {t : Tv} (h : TvOk P nd t) : nrmT (stepT hp gr wet t) = stepM hp gr wet (nrmT t) := by
  obtain ⟨h1, h2, h3, h4, h5, h6, h7⟩ := h
  by_cases hs : t.2.2.2.1 = 0
  · by_cases hl : t.2.2.2.2.2 = 0
    · have e1 : setT' hp gr wet t = setT hp gr wet t := by unfold setT'; rw [if_pos ⟨hs, hl⟩]
      have e2 : stepM hp gr wet (nrmT t) = if hp t.1 = -4 then nrmT t else if 1000000 ≤ hrs (gr (hp t.1)) wet then (t.1, t.2.1, t.2.2.1, 2, (nrmT t).2.2.2.2.1, t.2.2.2.2.2) else arrM (t.1, t.2.1, t.2.2.1, t.2.2.2.1, hp t.1, hrs (gr (hp t.1)) wet) := by
        unfold stepM
        rw [if_neg (show ¬ (nrmT t).2.2.2.1 ≠ 0 from fun q => q hs), if_pos (show (nrmT t).2.2.2.2.2 = 0 from hl)]
        rfl
      rw [e2]
      unfold stepT
      rw [e1]
      unfold setT
      by_cases q : hp t.1 = -4
      · rw [if_pos q, if_pos q, if_neg (by omega)]
      · rw [if_neg q, if_neg q]
        by_cases q2 : 1000000 ≤ hrs (gr (hp t.1)) wet
        · rw [if_pos q2, if_pos q2, if_neg (show ¬ 0 < t.2.2.2.2.2 by omega)]
          unfold nrmT
          rfl
        · have hsm := hrs_small q2
          rw [if_neg q2, if_neg q2, if_pos (show 0 < hrs (gr (hp t.1)) wet by omega)]
          rw [goOn_arr (t := (t.1, t.2.1, t.2.2.1, t.2.2.2.1, hp t.1, hrs (gr (hp t.1)) wet)) (show 0 < hrs (gr (hp t.1)) wet by omega) hs]
          congr 1
          unfold nrmT
          rw [if_pos (show 0 < hrs (gr (hp t.1)) wet by omega)]
    · have e1 : setT' hp gr wet t = t := by unfold setT'; rw [if_neg (fun q => hl q.2)]
      have e2 : stepM hp gr wet (nrmT t) = arrM (nrmT t) := by
        unfold stepM
        rw [if_neg (show ¬ (nrmT t).2.2.2.1 ≠ 0 from fun q => q hs), if_neg (show ¬ (nrmT t).2.2.2.2.2 = 0 from hl)]
      rw [e2]
      unfold stepT
      rw [e1, if_pos (by omega)]
      exact goOn_arr (by omega) hs
  · have hl : t.2.2.2.2.2 = 0 := by
      by_cases q : 0 < t.2.2.2.2.2
      · exact absurd (h7 q) hs
      · omega
    have e1 : setT' hp gr wet t = t := by unfold setT'; rw [if_neg (fun q => hs q.1)]
    have e2 : stepM hp gr wet (nrmT t) = nrmT t := by
      unfold stepM
      rw [if_pos (show (nrmT t).2.2.2.1 ≠ 0 from hs)]
    rw [e2]
    unfold stepT
    rw [e1, if_neg (by omega)]
/-- behind how many hours (0 to n - 1) a state is reached first; -4: none -/
def untl (f : Tv → Tv) (s : Int) : Nat → Int → Tv → Int
  | 0, _, _ => -4
  | n + 1, h, t => if t.2.2.2.1 = s then h else untl f s n (h + 1) (f t)
theorem untl_rng {f : Tv → Tv} {s : Int} : ∀ (n : Nat) (h : Int) (t : Tv), 0 ≤ h → untl f s n h t = -4 ∨ (h ≤ untl f s n h t ∧ untl f s n h t < h + n) := by
  intro n
  induction n with
  | zero => intro h t _; exact Or.inl rfl
  | succ n ih =>
    intro h t hh
    simp only [untl]
    split
    · exact Or.inr ⟨by omega, by omega⟩
    · rcases ih (h + 1) (f t) (by omega) with q | q
      · exact Or.inl q
      · exact Or.inr ⟨by omega, by omega⟩
def iter (f : Tv → Tv) : Nat → Tv → Tv
  | 0, t => t
  | n + 1, t => iter f n (f t)
theorem iter_s (f : Tv → Tv) : ∀ (n : Nat) (t : Tv), iter f (n + 1) t = f (iter f n t) := by
  intro n
  induction n with
  | zero => intro t; rfl
  | succ n ih => intro t; rw [iter, ih (f t)]; rfl
theorem untl_nrm {P nd : Int} {f g : Tv → Tv} {s : Int} (hf : ∀ t, TvOk P nd t → nrmT (f t) = g (nrmT t)) (hok : ∀ t, TvOk P nd t → TvOk P nd (f t)) : ∀ (n : Nat) (h : Int) (t : Tv), TvOk P nd t → untl f s n h t = untl g s n h (nrmT t) := by
  intro n
  induction n with
  | zero => intro h t _; rfl
  | succ n ih =>
    intro h t ht
    simp only [untl]
    rw [show (nrmT t).2.2.2.1 = t.2.2.2.1 from rfl, ← hf t ht, ih (h + 1) (f t) (hok t ht)]
theorem iter_nrm {P nd : Int} {f g : Tv → Tv} (hf : ∀ t, TvOk P nd t → nrmT (f t) = g (nrmT t)) (hok : ∀ t, TvOk P nd t → TvOk P nd (f t)) : ∀ (n : Nat) (t : Tv), TvOk P nd t → TvOk P nd (iter f n t) ∧ nrmT (iter f n t) = iter g n (nrmT t) := by
  intro n
  induction n with
  | zero => intro t ht; exact ⟨ht, rfl⟩
  | succ n ih =>
    intro t ht
    simp only [iter]
    rw [← hf t ht]
    exact ih (f t) (hok t ht)
