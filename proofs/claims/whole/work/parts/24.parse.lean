/-! ===== reading a text, purely: c are its letters (0 beyond its end), L its length ===== -/
def num (c : Int → Int) (s : Int) : Int × Int := if fig (c s) = -1 then (-1, s) else if fig (c (s + 1)) = -1 then (fig (c s), s + 1) else (fig (c s) * 10 + fig (c (s + 1)), s + 2)
def nxt (c : Int → Int) (s sep : Int) : Int × Int := if (num c s).1 = -1 ∨ c (num c s).2 ≠ sep then (-1, -1) else ((num c s).1, (num c s).2 + 1)
theorem fig_rng (x : Int) : -1 ≤ fig x ∧ fig x ≤ 9 := by unfold fig; split <;> omega
theorem num_rng (c : Int → Int) (s : Int) : -1 ≤ (num c s).1 ∧ (num c s).1 ≤ 99 ∧ s ≤ (num c s).2 ∧ (num c s).2 ≤ s + 2 ∧ ((num c s).1 ≠ -1 → s + 1 ≤ (num c s).2) := by
  have h1 := fig_rng (c s)
  have h2 := fig_rng (c (s + 1))
  unfold num
  split
  · exact ⟨by simp, by simp, by simp, by simp; omega, by simp⟩
  · split
    · exact ⟨by simp only; omega, by simp only; omega, by simp only; omega, by simp only; omega, fun _ => by simp only; omega⟩
    · exact ⟨by simp only; omega, by simp only; omega, by simp only; omega, by simp only; omega, fun _ => by simp only; omega⟩
theorem nxt_rng (c : Int → Int) (s sep : Int) : -1 ≤ (nxt c s sep).1 ∧ (nxt c s sep).1 ≤ 99 ∧ ((nxt c s sep).1 ≠ -1 → s + 2 ≤ (nxt c s sep).2 ∧ (nxt c s sep).2 ≤ s + 3) ∧ ((nxt c s sep).1 = -1 → (nxt c s sep).2 = -1) := by
  have h := num_rng c s
  unfold nxt
  split
  · exact ⟨by simp, by simp, by simp, by simp⟩
  · next q =>
    have h1 : (num c s).1 ≠ -1 := fun z => q (Or.inl z)
    have h2 := h.2.2.2.2 h1
    exact ⟨by simp only; omega, by simp only; omega, fun _ => ⟨by simp only; omega, by simp only; omega⟩, fun z => absurd z h1⟩
theorem nxt_ok {c : Int → Int} {s sep : Int} (h1 : ¬ (num c s).1 = -1) (h2 : c (num c s).2 = sep) : nxt c s sep = ((num c s).1, (num c s).2 + 1) := by
  unfold nxt
  rw [if_neg (fun q => q.elim h1 (fun z => z h2))]
theorem nxt_no {c : Int → Int} {s sep : Int} (h : (num c s).1 = -1 ∨ ¬ c (num c s).2 = sep) : nxt c s sep = (-1, -1) := by
  unfold nxt
  rw [if_pos h]
/-- how many figures of a row stand here, at most n -/
def rc (c : Int → Int) (s : Int) : Nat → Nat
  | 0 => 0
  | n + 1 => if 48 ≤ c s ∧ c s ≤ 51 then rc c (s + 1) n + 1 else 0
theorem rc_le (c : Int → Int) : ∀ (n : Nat) (s : Int), rc c s n ≤ n := by
  intro n
  induction n with
  | zero => intro s; exact Nat.le_refl _
  | succ n ih => intro s; simp only [rc]; split; · have := ih (s + 1); omega
                 · omega
theorem rc_dig (c : Int → Int) : ∀ (n : Nat) (s : Int) (j : Nat), j < rc c s n → 48 ≤ c (s + j) ∧ c (s + j) ≤ 51 := by
  intro n
  induction n with
  | zero => intro s j h; simp [rc] at h
  | succ n ih =>
    intro s j h
    simp only [rc] at h
    by_cases q : 48 ≤ c s ∧ c s ≤ 51
    · rw [if_pos q] at h
      cases j with
      | zero => simpa using q
      | succ j =>
        have := ih (s + 1) j (by omega)
        rw [show s + ((j + 1 : Nat) : Int) = s + 1 + (j : Int) by omega]
        exact this
    · rw [if_neg q] at h; omega
theorem rc_stop (c : Int → Int) : ∀ (n : Nat) (s : Int), rc c s n < n → ¬ (48 ≤ c (s + rc c s n) ∧ c (s + rc c s n) ≤ 51) := by
  intro n
  induction n with
  | zero => intro s h; omega
  | succ n ih =>
    intro s h
    simp only [rc] at h ⊢
    by_cases q : 48 ≤ c s ∧ c s ≤ 51
    · rw [if_pos q] at h ⊢
      have := ih (s + 1) (by omega)
      rw [show s + ((rc c (s + 1) n + 1 : Nat) : Int) = s + 1 + (rc c (s + 1) n : Int) by omega]
      exact this
    · rw [if_neg q]
      simpa using q
theorem rc_uniq {c : Int → Int} {n : Nat} {s : Int} {m : Nat} (hm : m ≤ n) (hd : ∀ j, j < m → 48 ≤ c (s + j) ∧ c (s + j) ≤ 51) (hs : m = n ∨ ¬ (48 ≤ c (s + m) ∧ c (s + m) ≤ 51)) : m = rc c s n := by
  have h1 := rc_le c n s
  rcases Nat.lt_trichotomy m (rc c s n) with q | q | q
  · rcases hs with z | z
    · omega
    · exact absurd (rc_dig c n s m q) z
  · exact q
  · exact absurd (hd _ q) (rc_stop c n s (by omega))
/-- what has been read: rows, width, ground, drums, kinds, told otherwise (-1: not), travellers, from-to-by, wet -/
abbrev Rd : Type := Int × Int × (Int → Int) × Int × (Int → Int) × (Int → Int) × Int × (Int → Int × Int × Int) × Int
abbrev rRows (R : Rd) : Int := R.1
abbrev rWid (R : Rd) : Int := R.2.1
abbrev rGr (R : Rd) : Int → Int := R.2.2.1
abbrev rDr (R : Rd) : Int := R.2.2.2.1
abbrev rKd (R : Rd) : Int → Int := R.2.2.2.2.1
abbrev rOd (R : Rd) : Int → Int := R.2.2.2.2.2.1
abbrev rNt (R : Rd) : Int := R.2.2.2.2.2.2.1
abbrev rTv (R : Rd) : Int → Int × Int × Int := R.2.2.2.2.2.2.2.1
abbrev rWet (R : Rd) : Int := R.2.2.2.2.2.2.2.2
abbrev rPl (R : Rd) : Int := R.1 * R.2.1
def iup {α : Type} (f : Int → α) (k : Int) (v : α) : Int → α := fun j => if j = k then v else f j
def rd0 : Rd := (0, 0, fun _ => 0, 0, fun _ => 0, fun _ => -1, 0, fun _ => (0, 0, 0), 0)
def itR (c : Int → Int) (R : Rd) (s : Int) : Int × Rd :=
  if 1 ≤ rc c s 6 ∧ (rRows R = 0 ∨ (rc c s 6 : Int) = rWid R) ∧ rRows R < 6 ∧ c (s + rc c s 6) = 59 then (s + rc c s 6 + 1, (rRows R + 1, (rc c s 6 : Int), (fun j => if rPl R ≤ j ∧ j < rPl R + rc c s 6 then c (s + (j - rPl R)) - 48 else rGr R j), rDr R, rKd R, rOd R, rNt R, rTv R, rWet R)) else (-1, R)
def itD (c : Int → Int) (R : Rd) (s : Int) : Int × Rd :=
  if (nxt c s 59).1 ≠ -1 ∧ (nxt c s 59).1 ≤ 3 ∧ rDr R < 4 then ((nxt c s 59).2, (rRows R, rWid R, rGr R, rDr R + 1, iup (rKd R) (rDr R) (nxt c s 59).1, rOd R, rNt R, rTv R, rWet R)) else (-1, R)
def n2 (c : Int → Int) (s : Int) : Int × Int := nxt c (nxt c s 44).2 44
def n3 (c : Int → Int) (s : Int) : Int × Int := nxt c (n2 c s).2 59
def itX (c : Int → Int) (R : Rd) (s : Int) : Int × Rd :=
  if ((nxt c s 44).1 ≠ -1 ∧ (n2 c s).1 ≠ -1 ∧ (n3 c s).1 ≠ -1) ∧ (nxt c s 44).1 < rDr R ∧ (n2 c s).1 < rPl R ∧ (n3 c s).1 ≤ 3 then ((n3 c s).2, (rRows R, rWid R, rGr R, rDr R, rKd R, iup (rOd R) ((nxt c s 44).1 * 36 + (n2 c s).1) (n3 c s).1, rNt R, rTv R, rWet R)) else (-1, R)
def itT (c : Int → Int) (R : Rd) (s : Int) : Int × Rd :=
  if ((nxt c s 44).1 ≠ -1 ∧ (n2 c s).1 ≠ -1 ∧ (n3 c s).1 ≠ -1) ∧ (nxt c s 44).1 < rPl R ∧ (n2 c s).1 < rPl R ∧ (n3 c s).1 < rDr R ∧ rNt R < 4 then ((n3 c s).2, (rRows R, rWid R, rGr R, rDr R, rKd R, rOd R, rNt R + 1, iup (rTv R) (rNt R) ((nxt c s 44).1, (n2 c s).1, (n3 c s).1), rWet R)) else (-1, R)
def itW (c : Int → Int) (R : Rd) (s : Int) : Int × Rd :=
  if (nxt c s 59).1 ≠ -1 ∧ (nxt c s 59).1 ≤ 3 then ((nxt c s 59).2, (rRows R, rWid R, rGr R, rDr R, rKd R, rOd R, rNt R, rTv R, (nxt c s 59).1)) else (-1, R)
def itm (c : Int → Int) (R : Rd) (s : Int) : Int × Rd :=
  if c s = 114 then itR c R (s + 1) else if c s = 100 then itD c R (s + 1) else if c s = 120 then itX c R (s + 1) else if c s = 116 then itT c R (s + 1) else if c s = 119 then itW c R (s + 1) else (-1, R)
/-- what is always so of what has been read -/
def RdOk (R : Rd) : Prop := (0 ≤ rRows R ∧ rRows R ≤ 6) ∧ (0 ≤ rWid R ∧ rWid R ≤ 6) ∧ (rRows R = 0 ∨ 1 ≤ rWid R) ∧ (0 ≤ rDr R ∧ rDr R ≤ 4) ∧ (0 ≤ rNt R ∧ rNt R ≤ 4) ∧ (0 ≤ rWet R ∧ rWet R ≤ 3) ∧ (∀ j, 0 ≤ j → j < rPl R → 0 ≤ rGr R j ∧ rGr R j ≤ 3) ∧ (∀ j, 0 ≤ rKd R j ∧ rKd R j ≤ 3) ∧ (∀ j, -1 ≤ rOd R j ∧ rOd R j ≤ 3) ∧ ∀ t, 0 ≤ t → t < rNt R → (0 ≤ (rTv R t).1 ∧ (rTv R t).1 < rPl R) ∧ (0 ≤ (rTv R t).2.1 ∧ (rTv R t).2.1 < rPl R) ∧ (0 ≤ (rTv R t).2.2 ∧ (rTv R t).2.2 < rDr R)
theorem pl_rng {R : Rd} (h : RdOk R) : 0 ≤ rPl R ∧ rPl R ≤ 36 := by
  obtain ⟨h1, h2, -⟩ := h
  have a : 0 ≤ rRows R * rWid R := Int.mul_nonneg h1.1 h2.1
  have b : rRows R * rWid R ≤ 6 * 6 := Int.mul_le_mul h1.2 h2.2 h2.1 (by decide)
  exact ⟨a, by show rRows R * rWid R ≤ 36; omega⟩
theorem rd0_ok : RdOk rd0 := by
  refine ⟨⟨by decide, by decide⟩, ⟨by decide, by decide⟩, Or.inl rfl, ⟨by decide, by decide⟩, ⟨by decide, by decide⟩, ⟨by decide, by decide⟩, ?_, ?_, ?_, ?_⟩
  · intro j h0 h
    have h : j < 0 * 0 := h
    omega
  · intro j; exact ⟨(by decide : (0 : Int) ≤ 0), (by decide : (0 : Int) ≤ 3)⟩
  · intro j; exact ⟨(by decide : (-1 : Int) ≤ -1), (by decide : (-1 : Int) ≤ 3)⟩
  · intro t h1 h2
    have h2 : t < 0 := h2
    omega
theorem itm_next {c : Int → Int} {R : Rd} {s : Int} (h : (itm c R s).1 ≠ -1) : s + 3 ≤ (itm c R s).1 := by
  have a1 := nxt_rng c (s + 1) 59
  have a2 := nxt_rng c (s + 1) 44
  have a3 := nxt_rng c (nxt c (s + 1) 44).2 44
  have a4 := nxt_rng c (n2 c (s + 1)).2 59
  unfold itm at h ⊢
  split
  · next q =>
    rw [if_pos q] at h
    unfold itR at h ⊢
    split
    · next z => simp only; omega
    · next z => rw [if_neg z] at h; exact absurd rfl h
  · next q =>
    rw [if_neg q] at h
    split
    · next q =>
      rw [if_pos q] at h
      unfold itD at h ⊢
      split
      · next z => have := a1.2.2.1 z.1; simp only; omega
      · next z => rw [if_neg z] at h; exact absurd rfl h
    · next q =>
      rw [if_neg q] at h
      split
      · next q =>
        rw [if_pos q] at h
        unfold itX at h ⊢
        split
        · next z =>
          have b1 := a2.2.2.1 z.1.1
          have b2 := a3.2.2.1 z.1.2.1
          have b3 := a4.2.2.1 z.1.2.2
          simp only [n3, n2] at b3 ⊢
          omega
        · next z => rw [if_neg z] at h; exact absurd rfl h
      · next q =>
        rw [if_neg q] at h
        split
        · next q =>
          rw [if_pos q] at h
          unfold itT at h ⊢
          split
          · next z =>
            have b1 := a2.2.2.1 z.1.1
            have b2 := a3.2.2.1 z.1.2.1
            have b3 := a4.2.2.1 z.1.2.2
            simp only [n3, n2] at b3 ⊢
            omega
          · next z => rw [if_neg z] at h; exact absurd rfl h
        · next q =>
          rw [if_neg q] at h
          split
          · next q =>
            rw [if_pos q] at h
            unfold itW at h ⊢
            split
            · next z => have := a1.2.2.1 z.1; simp only; omega
            · next z => rw [if_neg z] at h; exact absurd rfl h
          · next q => rw [if_neg q] at h; exact absurd rfl h
theorem itm_ok {c : Int → Int} {R : Rd} {s : Int} (h : RdOk R) : RdOk (itm c R s).2 := by
  have hp := pl_rng h
  have a1 := nxt_rng c (s + 1) 59
  have a2 := nxt_rng c (s + 1) 44
  have a3 := nxt_rng c (nxt c (s + 1) 44).2 44
  have a4 := nxt_rng c (n2 c (s + 1)).2 59
  obtain ⟨h1, h2, h3, h4, h5, h6, h7, h8, h9, h10⟩ := h
  unfold itm
  split
  · unfold itR
    split
    · next z =>
      have hm := rc_le c 6 (s + 1)
      have hpl : rPl R ≤ (rRows R + 1) * (rc c (s + 1) 6 : Int) := by
        have e : (rRows R + 1) * (rc c (s + 1) 6 : Int) = rRows R * (rc c (s + 1) 6 : Int) + (rc c (s + 1) 6 : Int) := by rw [Int.add_mul, Int.one_mul]
        show rRows R * rWid R ≤ _
        rcases z.2.1 with q | q
        · rw [q, Int.zero_mul]; rw [q] at e; rw [e, Int.zero_mul]; omega
        · rw [e, q]; omega
      have hpl2 : (rRows R + 1) * (rc c (s + 1) 6 : Int) = rPl R + (rc c (s + 1) 6 : Int) := by
        show _ = rRows R * rWid R + _
        rw [Int.add_mul, Int.one_mul]
        rcases z.2.1 with q | q
        · rw [q, Int.zero_mul, Int.zero_mul]
        · rw [q]
      refine ⟨⟨(by omega : 0 ≤ rRows R + 1), (by omega : rRows R + 1 ≤ 6)⟩, ⟨(by omega : 0 ≤ (rc c (s + 1) 6 : Int)), (by omega : (rc c (s + 1) 6 : Int) ≤ 6)⟩, Or.inr (by omega : 1 ≤ (rc c (s + 1) 6 : Int)), h4, h5, h6, ?_, h8, h9, ?_⟩
      · intro j hj0 hj
        have hj : j < (rRows R + 1) * (rc c (s + 1) 6 : Int) := hj
        rw [hpl2] at hj
        show 0 ≤ (if rPl R ≤ j ∧ j < rPl R + (rc c (s + 1) 6 : Int) then c (s + 1 + (j - rPl R)) - 48 else rGr R j) ∧ (if rPl R ≤ j ∧ j < rPl R + (rc c (s + 1) 6 : Int) then c (s + 1 + (j - rPl R)) - 48 else rGr R j) ≤ 3
        by_cases q : rPl R ≤ j ∧ j < rPl R + (rc c (s + 1) 6 : Int)
        · rw [if_pos q]
          have := rc_dig c 6 (s + 1) (j - rPl R).toNat (by omega)
          rw [show s + 1 + (((j - rPl R).toNat : Nat) : Int) = s + 1 + (j - rPl R) by omega] at this
          omega
        · rw [if_neg q]
          exact h7 j hj0 (by omega)
      · intro t ht0 ht
        have q := h10 t ht0 ht
        exact ⟨⟨q.1.1, (by omega : (rTv R t).1 < (rRows R + 1) * (rc c (s + 1) 6 : Int))⟩, ⟨q.2.1.1, (by omega : (rTv R t).2.1 < (rRows R + 1) * (rc c (s + 1) 6 : Int))⟩, q.2.2⟩
    · exact ⟨h1, h2, h3, h4, h5, h6, h7, h8, h9, h10⟩
  · split
    · unfold itD
      split
      · next z =>
        refine ⟨h1, h2, h3, ⟨(by omega : 0 ≤ rDr R + 1), (by omega : rDr R + 1 ≤ 4)⟩, h5, h6, h7, fun j => ?_, h9, fun t ht0 ht => ?_⟩
        · show 0 ≤ iup (rKd R) (rDr R) (nxt c (s + 1) 59).1 j ∧ iup (rKd R) (rDr R) (nxt c (s + 1) 59).1 j ≤ 3
          unfold iup
          split
          · omega
          · exact h8 j
        · have q := h10 t ht0 ht
          exact ⟨q.1, q.2.1, q.2.2.1, (by omega : (rTv R t).2.2 < rDr R + 1)⟩
      · exact ⟨h1, h2, h3, h4, h5, h6, h7, h8, h9, h10⟩
    · split
      · unfold itX
        split
        · next z =>
          refine ⟨h1, h2, h3, h4, h5, h6, h7, h8, fun j => ?_, h10⟩
          show -1 ≤ iup (rOd R) ((nxt c (s + 1) 44).1 * 36 + (n2 c (s + 1)).1) (n3 c (s + 1)).1 j ∧ iup (rOd R) ((nxt c (s + 1) 44).1 * 36 + (n2 c (s + 1)).1) (n3 c (s + 1)).1 j ≤ 3
          have a5 : -1 ≤ (n3 c (s + 1)).1 := a4.1
          unfold iup
          split
          · omega
          · exact h9 j
        · exact ⟨h1, h2, h3, h4, h5, h6, h7, h8, h9, h10⟩
      · split
        · unfold itT
          split
          · next z =>
            refine ⟨h1, h2, h3, h4, ⟨(by omega : 0 ≤ rNt R + 1), (by omega : rNt R + 1 ≤ 4)⟩, h6, h7, h8, h9, fun t ht0 ht => ?_⟩
            have ht : t < rNt R + 1 := ht
            have a5 : -1 ≤ (n3 c (s + 1)).1 := a4.1
            have a6 : -1 ≤ (n2 c (s + 1)).1 := a3.1
            by_cases q : t = rNt R
            · have e : iup (rTv R) (rNt R) ((nxt c (s + 1) 44).1, (n2 c (s + 1)).1, (n3 c (s + 1)).1) t = ((nxt c (s + 1) 44).1, (n2 c (s + 1)).1, (n3 c (s + 1)).1) := by unfold iup; rw [if_pos q]
              show (0 ≤ (iup (rTv R) (rNt R) ((nxt c (s + 1) 44).1, (n2 c (s + 1)).1, (n3 c (s + 1)).1) t).1 ∧ (iup (rTv R) (rNt R) ((nxt c (s + 1) 44).1, (n2 c (s + 1)).1, (n3 c (s + 1)).1) t).1 < rPl R) ∧ (0 ≤ (iup (rTv R) (rNt R) ((nxt c (s + 1) 44).1, (n2 c (s + 1)).1, (n3 c (s + 1)).1) t).2.1 ∧ (iup (rTv R) (rNt R) ((nxt c (s + 1) 44).1, (n2 c (s + 1)).1, (n3 c (s + 1)).1) t).2.1 < rPl R) ∧ (0 ≤ (iup (rTv R) (rNt R) ((nxt c (s + 1) 44).1, (n2 c (s + 1)).1, (n3 c (s + 1)).1) t).2.2 ∧ (iup (rTv R) (rNt R) ((nxt c (s + 1) 44).1, (n2 c (s + 1)).1, (n3 c (s + 1)).1) t).2.2 < rDr R)
              rw [e]
              exact ⟨⟨(by omega : 0 ≤ (nxt c (s + 1) 44).1), (by omega : (nxt c (s + 1) 44).1 < rPl R)⟩, ⟨(by omega : 0 ≤ (n2 c (s + 1)).1), (by omega : (n2 c (s + 1)).1 < rPl R)⟩, (by omega : 0 ≤ (n3 c (s + 1)).1), (by omega : (n3 c (s + 1)).1 < rDr R)⟩
            · have e : iup (rTv R) (rNt R) ((nxt c (s + 1) 44).1, (n2 c (s + 1)).1, (n3 c (s + 1)).1) t = rTv R t := by unfold iup; rw [if_neg q]
              show (0 ≤ (iup (rTv R) (rNt R) ((nxt c (s + 1) 44).1, (n2 c (s + 1)).1, (n3 c (s + 1)).1) t).1 ∧ (iup (rTv R) (rNt R) ((nxt c (s + 1) 44).1, (n2 c (s + 1)).1, (n3 c (s + 1)).1) t).1 < rPl R) ∧ (0 ≤ (iup (rTv R) (rNt R) ((nxt c (s + 1) 44).1, (n2 c (s + 1)).1, (n3 c (s + 1)).1) t).2.1 ∧ (iup (rTv R) (rNt R) ((nxt c (s + 1) 44).1, (n2 c (s + 1)).1, (n3 c (s + 1)).1) t).2.1 < rPl R) ∧ (0 ≤ (iup (rTv R) (rNt R) ((nxt c (s + 1) 44).1, (n2 c (s + 1)).1, (n3 c (s + 1)).1) t).2.2 ∧ (iup (rTv R) (rNt R) ((nxt c (s + 1) 44).1, (n2 c (s + 1)).1, (n3 c (s + 1)).1) t).2.2 < rDr R)
              rw [e]
              exact h10 t ht0 (by omega)
          · exact ⟨h1, h2, h3, h4, h5, h6, h7, h8, h9, h10⟩
        · split
          · unfold itW
            split
            · next z => exact ⟨h1, h2, h3, h4, h5, ⟨(by omega : 0 ≤ (nxt c (s + 1) 59).1), (by omega : (nxt c (s + 1) 59).1 ≤ 3)⟩, h7, h8, h9, h10⟩
            · exact ⟨h1, h2, h3, h4, h5, h6, h7, h8, h9, h10⟩
          · exact ⟨h1, h2, h3, h4, h5, h6, h7, h8, h9, h10⟩
/-- the text item by item: the first fault's place or -4, and what has been read -/
def prs (c : Int → Int) (L : Int) : Nat → Int → Rd → Int × Rd
  | 0, _, R => (-4, R)
  | n + 1, s, R => if s < L then (if (itm c R s).1 = -1 then (s, R) else prs c L n (itm c R s).1 (itm c R s).2) else (-4, R)
theorem prs_ok {c : Int → Int} {L : Int} : ∀ (n : Nat) (s : Int) (R : Rd), RdOk R → RdOk (prs c L n s R).2 := by
  intro n
  induction n with
  | zero => intro s R h; exact h
  | succ n ih =>
    intro s R h
    simp only [prs]
    split
    · split
      · exact h
      · exact ih _ _ (itm_ok h)
    · exact h
theorem prs_rng {c : Int → Int} {L : Int} : ∀ (n : Nat) (s : Int) (R : Rd), 0 ≤ s → (prs c L n s R).1 = -4 ∨ (0 ≤ (prs c L n s R).1 ∧ (prs c L n s R).1 < L) := by
  intro n
  induction n with
  | zero => intro s R h; exact Or.inl rfl
  | succ n ih =>
    intro s R h
    simp only [prs]
    split
    · next h2 =>
      split
      · exact Or.inr ⟨h, h2⟩
      · next q => exact ih _ _ (by have := itm_next q; omega)
    · exact Or.inl rfl
