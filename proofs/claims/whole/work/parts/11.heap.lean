/-! ===== the small machine: ways, the heap, calls ===== -/
section WAYS
variable {Z : mZ} {M : mM} {pc : Nat} {ls : mL} {st : List mV} {h : mH} {post : Option mV → mH → Prop}
theorem z32 : Int32.ofInt 0 = 0 := by decide
theorem i32z : (-2147483648 : Int) ≤ 0 ∧ (0 : Int) < 2147483648 := ⟨by decide, by decide⟩
theorem q_icmp_eq_t {x y off : Int} {tgt : Nat} (d : decode M.2.1 pc = .ok (.if_icmp .eq off, 3)) (ht : (pc : Int) + off = (tgt : Int)) (hx : -2147483648 ≤ x ∧ x < 2147483648) (hy : -2147483648 ≤ y ∧ y < 2147483648) (cc : x = y) : mGo Z M pc ls (mi y :: mi x :: st) h tgt ls st h :=
  mGo.pu fun b p l e R s m args below meth c H locs cells slots Q la hxx hb ho hw hl k => lv_icmp_eq hxx hb d ht (fun _ => k la hl) (fun q => absurd ((o32_eq hx hy).mpr cc) q)
theorem q_icmp_eq_f {x y off : Int} {tgt : Nat} (d : decode M.2.1 pc = .ok (.if_icmp .eq off, 3)) (ht : (pc : Int) + off = (tgt : Int)) (hx : -2147483648 ≤ x ∧ x < 2147483648) (hy : -2147483648 ≤ y ∧ y < 2147483648) (cc : ¬ (x = y)) : mGo Z M pc ls (mi y :: mi x :: st) h (pc + 3) ls st h :=
  mGo.pu fun b p l e R s m args below meth c H locs cells slots Q la hxx hb ho hw hl k => lv_icmp_eq hxx hb d ht (fun q => absurd ((o32_eq hx hy).mp q) cc) (fun _ => k la hl)
theorem r_icmp_eq {x y off : Int} {tgt : Nat} (d : decode M.2.1 pc = .ok (.if_icmp .eq off, 3)) (ht : (pc : Int) + off = (tgt : Int)) (hx : -2147483648 ≤ x ∧ x < 2147483648) (hy : -2147483648 ≤ y ∧ y < 2147483648) (kt : x = y → mRun Z M tgt ls st h post) (kf : ¬ (x = y) → mRun Z M (pc + 3) ls st h post) : mRun Z M pc ls (mi y :: mi x :: st) h post := by
  by_cases cc : x = y
  · exact mRun.go (q_icmp_eq_t d ht hx hy cc) (kt cc)
  · exact mRun.go (q_icmp_eq_f d ht hx hy cc) (kf cc)
theorem q_icmp_ne_t {x y off : Int} {tgt : Nat} (d : decode M.2.1 pc = .ok (.if_icmp .ne off, 3)) (ht : (pc : Int) + off = (tgt : Int)) (hx : -2147483648 ≤ x ∧ x < 2147483648) (hy : -2147483648 ≤ y ∧ y < 2147483648) (cc : ¬ x = y) : mGo Z M pc ls (mi y :: mi x :: st) h tgt ls st h :=
  mGo.pu fun b p l e R s m args below meth c H locs cells slots Q la hxx hb ho hw hl k => lv_icmp_ne hxx hb d ht (fun _ => k la hl) (fun q => absurd ((o32_eq hx hy).mp q) cc)
theorem q_icmp_ne_f {x y off : Int} {tgt : Nat} (d : decode M.2.1 pc = .ok (.if_icmp .ne off, 3)) (ht : (pc : Int) + off = (tgt : Int)) (hx : -2147483648 ≤ x ∧ x < 2147483648) (hy : -2147483648 ≤ y ∧ y < 2147483648) (cc : ¬ (¬ x = y)) : mGo Z M pc ls (mi y :: mi x :: st) h (pc + 3) ls st h :=
  mGo.pu fun b p l e R s m args below meth c H locs cells slots Q la hxx hb ho hw hl k => lv_icmp_ne hxx hb d ht (fun q => absurd ((o32_eq hx hy).mpr (Classical.not_not.mp cc)) q) (fun _ => k la hl)
theorem r_icmp_ne {x y off : Int} {tgt : Nat} (d : decode M.2.1 pc = .ok (.if_icmp .ne off, 3)) (ht : (pc : Int) + off = (tgt : Int)) (hx : -2147483648 ≤ x ∧ x < 2147483648) (hy : -2147483648 ≤ y ∧ y < 2147483648) (kt : ¬ x = y → mRun Z M tgt ls st h post) (kf : ¬ (¬ x = y) → mRun Z M (pc + 3) ls st h post) : mRun Z M pc ls (mi y :: mi x :: st) h post := by
  by_cases cc : ¬ x = y
  · exact mRun.go (q_icmp_ne_t d ht hx hy cc) (kt cc)
  · exact mRun.go (q_icmp_ne_f d ht hx hy cc) (kf cc)
theorem q_icmp_lt_t {x y off : Int} {tgt : Nat} (d : decode M.2.1 pc = .ok (.if_icmp .lt off, 3)) (ht : (pc : Int) + off = (tgt : Int)) (hx : -2147483648 ≤ x ∧ x < 2147483648) (hy : -2147483648 ≤ y ∧ y < 2147483648) (cc : x < y) : mGo Z M pc ls (mi y :: mi x :: st) h tgt ls st h :=
  mGo.pu fun b p l e R s m args below meth c H locs cells slots Q la hxx hb ho hw hl k => lv_icmp_lt hxx hb d ht (fun _ => k la hl) (fun q => absurd ((o32_lt hx hy).mpr cc) q)
theorem q_icmp_lt_f {x y off : Int} {tgt : Nat} (d : decode M.2.1 pc = .ok (.if_icmp .lt off, 3)) (ht : (pc : Int) + off = (tgt : Int)) (hx : -2147483648 ≤ x ∧ x < 2147483648) (hy : -2147483648 ≤ y ∧ y < 2147483648) (cc : ¬ (x < y)) : mGo Z M pc ls (mi y :: mi x :: st) h (pc + 3) ls st h :=
  mGo.pu fun b p l e R s m args below meth c H locs cells slots Q la hxx hb ho hw hl k => lv_icmp_lt hxx hb d ht (fun q => absurd ((o32_lt hx hy).mp q) cc) (fun _ => k la hl)
theorem r_icmp_lt {x y off : Int} {tgt : Nat} (d : decode M.2.1 pc = .ok (.if_icmp .lt off, 3)) (ht : (pc : Int) + off = (tgt : Int)) (hx : -2147483648 ≤ x ∧ x < 2147483648) (hy : -2147483648 ≤ y ∧ y < 2147483648) (kt : x < y → mRun Z M tgt ls st h post) (kf : ¬ (x < y) → mRun Z M (pc + 3) ls st h post) : mRun Z M pc ls (mi y :: mi x :: st) h post := by
  by_cases cc : x < y
  · exact mRun.go (q_icmp_lt_t d ht hx hy cc) (kt cc)
  · exact mRun.go (q_icmp_lt_f d ht hx hy cc) (kf cc)
theorem q_icmp_ge_t {x y off : Int} {tgt : Nat} (d : decode M.2.1 pc = .ok (.if_icmp .ge off, 3)) (ht : (pc : Int) + off = (tgt : Int)) (hx : -2147483648 ≤ x ∧ x < 2147483648) (hy : -2147483648 ≤ y ∧ y < 2147483648) (cc : y ≤ x) : mGo Z M pc ls (mi y :: mi x :: st) h tgt ls st h :=
  mGo.pu fun b p l e R s m args below meth c H locs cells slots Q la hxx hb ho hw hl k => lv_icmp_ge hxx hb d ht (fun _ => k la hl) (fun q => absurd ((o32_le hy hx).mpr cc) q)
theorem q_icmp_ge_f {x y off : Int} {tgt : Nat} (d : decode M.2.1 pc = .ok (.if_icmp .ge off, 3)) (ht : (pc : Int) + off = (tgt : Int)) (hx : -2147483648 ≤ x ∧ x < 2147483648) (hy : -2147483648 ≤ y ∧ y < 2147483648) (cc : ¬ (y ≤ x)) : mGo Z M pc ls (mi y :: mi x :: st) h (pc + 3) ls st h :=
  mGo.pu fun b p l e R s m args below meth c H locs cells slots Q la hxx hb ho hw hl k => lv_icmp_ge hxx hb d ht (fun q => absurd ((o32_le hy hx).mp q) cc) (fun _ => k la hl)
theorem r_icmp_ge {x y off : Int} {tgt : Nat} (d : decode M.2.1 pc = .ok (.if_icmp .ge off, 3)) (ht : (pc : Int) + off = (tgt : Int)) (hx : -2147483648 ≤ x ∧ x < 2147483648) (hy : -2147483648 ≤ y ∧ y < 2147483648) (kt : y ≤ x → mRun Z M tgt ls st h post) (kf : ¬ (y ≤ x) → mRun Z M (pc + 3) ls st h post) : mRun Z M pc ls (mi y :: mi x :: st) h post := by
  by_cases cc : y ≤ x
  · exact mRun.go (q_icmp_ge_t d ht hx hy cc) (kt cc)
  · exact mRun.go (q_icmp_ge_f d ht hx hy cc) (kf cc)
theorem q_icmp_gt_t {x y off : Int} {tgt : Nat} (d : decode M.2.1 pc = .ok (.if_icmp .gt off, 3)) (ht : (pc : Int) + off = (tgt : Int)) (hx : -2147483648 ≤ x ∧ x < 2147483648) (hy : -2147483648 ≤ y ∧ y < 2147483648) (cc : y < x) : mGo Z M pc ls (mi y :: mi x :: st) h tgt ls st h :=
  mGo.pu fun b p l e R s m args below meth c H locs cells slots Q la hxx hb ho hw hl k => lv_icmp_gt hxx hb d ht (fun _ => k la hl) (fun q => absurd ((o32_lt hy hx).mpr cc) q)
theorem q_icmp_gt_f {x y off : Int} {tgt : Nat} (d : decode M.2.1 pc = .ok (.if_icmp .gt off, 3)) (ht : (pc : Int) + off = (tgt : Int)) (hx : -2147483648 ≤ x ∧ x < 2147483648) (hy : -2147483648 ≤ y ∧ y < 2147483648) (cc : ¬ (y < x)) : mGo Z M pc ls (mi y :: mi x :: st) h (pc + 3) ls st h :=
  mGo.pu fun b p l e R s m args below meth c H locs cells slots Q la hxx hb ho hw hl k => lv_icmp_gt hxx hb d ht (fun q => absurd ((o32_lt hy hx).mp q) cc) (fun _ => k la hl)
theorem r_icmp_gt {x y off : Int} {tgt : Nat} (d : decode M.2.1 pc = .ok (.if_icmp .gt off, 3)) (ht : (pc : Int) + off = (tgt : Int)) (hx : -2147483648 ≤ x ∧ x < 2147483648) (hy : -2147483648 ≤ y ∧ y < 2147483648) (kt : y < x → mRun Z M tgt ls st h post) (kf : ¬ (y < x) → mRun Z M (pc + 3) ls st h post) : mRun Z M pc ls (mi y :: mi x :: st) h post := by
  by_cases cc : y < x
  · exact mRun.go (q_icmp_gt_t d ht hx hy cc) (kt cc)
  · exact mRun.go (q_icmp_gt_f d ht hx hy cc) (kf cc)
theorem q_icmp_le_t {x y off : Int} {tgt : Nat} (d : decode M.2.1 pc = .ok (.if_icmp .le off, 3)) (ht : (pc : Int) + off = (tgt : Int)) (hx : -2147483648 ≤ x ∧ x < 2147483648) (hy : -2147483648 ≤ y ∧ y < 2147483648) (cc : x ≤ y) : mGo Z M pc ls (mi y :: mi x :: st) h tgt ls st h :=
  mGo.pu fun b p l e R s m args below meth c H locs cells slots Q la hxx hb ho hw hl k => lv_icmp_le hxx hb d ht (fun _ => k la hl) (fun q => absurd ((o32_le hx hy).mpr cc) q)
theorem q_icmp_le_f {x y off : Int} {tgt : Nat} (d : decode M.2.1 pc = .ok (.if_icmp .le off, 3)) (ht : (pc : Int) + off = (tgt : Int)) (hx : -2147483648 ≤ x ∧ x < 2147483648) (hy : -2147483648 ≤ y ∧ y < 2147483648) (cc : ¬ (x ≤ y)) : mGo Z M pc ls (mi y :: mi x :: st) h (pc + 3) ls st h :=
  mGo.pu fun b p l e R s m args below meth c H locs cells slots Q la hxx hb ho hw hl k => lv_icmp_le hxx hb d ht (fun q => absurd ((o32_le hx hy).mp q) cc) (fun _ => k la hl)
theorem r_icmp_le {x y off : Int} {tgt : Nat} (d : decode M.2.1 pc = .ok (.if_icmp .le off, 3)) (ht : (pc : Int) + off = (tgt : Int)) (hx : -2147483648 ≤ x ∧ x < 2147483648) (hy : -2147483648 ≤ y ∧ y < 2147483648) (kt : x ≤ y → mRun Z M tgt ls st h post) (kf : ¬ (x ≤ y) → mRun Z M (pc + 3) ls st h post) : mRun Z M pc ls (mi y :: mi x :: st) h post := by
  by_cases cc : x ≤ y
  · exact mRun.go (q_icmp_le_t d ht hx hy cc) (kt cc)
  · exact mRun.go (q_icmp_le_f d ht hx hy cc) (kf cc)
theorem q_if_eq_t {x off : Int} {tgt : Nat} (d : decode M.2.1 pc = .ok (.ifCond .eq off, 3)) (ht : (pc : Int) + off = (tgt : Int)) (hx : -2147483648 ≤ x ∧ x < 2147483648) (cc : x = 0) : mGo Z M pc ls (mi x :: st) h tgt ls st h :=
  mGo.pu fun b p l e R s m args below meth c H locs cells slots Q la hxx hb ho hw hl k => lv_if_eq hxx hb d ht (fun _ => k la hl) (fun q => absurd (((o32_eq hx i32z).mpr cc).trans z32) q)
theorem q_if_eq_f {x off : Int} {tgt : Nat} (d : decode M.2.1 pc = .ok (.ifCond .eq off, 3)) (ht : (pc : Int) + off = (tgt : Int)) (hx : -2147483648 ≤ x ∧ x < 2147483648) (cc : ¬ (x = 0)) : mGo Z M pc ls (mi x :: st) h (pc + 3) ls st h :=
  mGo.pu fun b p l e R s m args below meth c H locs cells slots Q la hxx hb ho hw hl k => lv_if_eq hxx hb d ht (fun q => absurd ((o32_eq hx i32z).mp (q.trans z32.symm)) cc) (fun _ => k la hl)
theorem r_if_eq {x off : Int} {tgt : Nat} (d : decode M.2.1 pc = .ok (.ifCond .eq off, 3)) (ht : (pc : Int) + off = (tgt : Int)) (hx : -2147483648 ≤ x ∧ x < 2147483648) (kt : x = 0 → mRun Z M tgt ls st h post) (kf : ¬ (x = 0) → mRun Z M (pc + 3) ls st h post) : mRun Z M pc ls (mi x :: st) h post := by
  by_cases cc : x = 0
  · exact mRun.go (q_if_eq_t d ht hx cc) (kt cc)
  · exact mRun.go (q_if_eq_f d ht hx cc) (kf cc)
theorem q_if_ne_t {x off : Int} {tgt : Nat} (d : decode M.2.1 pc = .ok (.ifCond .ne off, 3)) (ht : (pc : Int) + off = (tgt : Int)) (hx : -2147483648 ≤ x ∧ x < 2147483648) (cc : ¬ x = 0) : mGo Z M pc ls (mi x :: st) h tgt ls st h :=
  mGo.pu fun b p l e R s m args below meth c H locs cells slots Q la hxx hb ho hw hl k => lv_if_ne hxx hb d ht (fun _ => k la hl) (fun q => absurd ((o32_eq hx i32z).mp (q.trans z32.symm)) cc)
theorem q_if_ne_f {x off : Int} {tgt : Nat} (d : decode M.2.1 pc = .ok (.ifCond .ne off, 3)) (ht : (pc : Int) + off = (tgt : Int)) (hx : -2147483648 ≤ x ∧ x < 2147483648) (cc : ¬ (¬ x = 0)) : mGo Z M pc ls (mi x :: st) h (pc + 3) ls st h :=
  mGo.pu fun b p l e R s m args below meth c H locs cells slots Q la hxx hb ho hw hl k => lv_if_ne hxx hb d ht (fun q => absurd (((o32_eq hx i32z).mpr (Classical.not_not.mp cc)).trans z32) q) (fun _ => k la hl)
theorem r_if_ne {x off : Int} {tgt : Nat} (d : decode M.2.1 pc = .ok (.ifCond .ne off, 3)) (ht : (pc : Int) + off = (tgt : Int)) (hx : -2147483648 ≤ x ∧ x < 2147483648) (kt : ¬ x = 0 → mRun Z M tgt ls st h post) (kf : ¬ (¬ x = 0) → mRun Z M (pc + 3) ls st h post) : mRun Z M pc ls (mi x :: st) h post := by
  by_cases cc : ¬ x = 0
  · exact mRun.go (q_if_ne_t d ht hx cc) (kt cc)
  · exact mRun.go (q_if_ne_f d ht hx cc) (kf cc)
theorem q_if_lt_t {x off : Int} {tgt : Nat} (d : decode M.2.1 pc = .ok (.ifCond .lt off, 3)) (ht : (pc : Int) + off = (tgt : Int)) (hx : -2147483648 ≤ x ∧ x < 2147483648) (cc : x < 0) : mGo Z M pc ls (mi x :: st) h tgt ls st h :=
  mGo.pu fun b p l e R s m args below meth c H locs cells slots Q la hxx hb ho hw hl k => lv_if_lt hxx hb d ht (fun _ => k la hl) (fun q => absurd (by rw [← z32]; exact (o32_lt hx i32z).mpr cc) q)
theorem q_if_lt_f {x off : Int} {tgt : Nat} (d : decode M.2.1 pc = .ok (.ifCond .lt off, 3)) (ht : (pc : Int) + off = (tgt : Int)) (hx : -2147483648 ≤ x ∧ x < 2147483648) (cc : ¬ (x < 0)) : mGo Z M pc ls (mi x :: st) h (pc + 3) ls st h :=
  mGo.pu fun b p l e R s m args below meth c H locs cells slots Q la hxx hb ho hw hl k => lv_if_lt hxx hb d ht (fun q => absurd (by rw [← z32] at q; exact (o32_lt hx i32z).mp q) cc) (fun _ => k la hl)
theorem r_if_lt {x off : Int} {tgt : Nat} (d : decode M.2.1 pc = .ok (.ifCond .lt off, 3)) (ht : (pc : Int) + off = (tgt : Int)) (hx : -2147483648 ≤ x ∧ x < 2147483648) (kt : x < 0 → mRun Z M tgt ls st h post) (kf : ¬ (x < 0) → mRun Z M (pc + 3) ls st h post) : mRun Z M pc ls (mi x :: st) h post := by
  by_cases cc : x < 0
  · exact mRun.go (q_if_lt_t d ht hx cc) (kt cc)
  · exact mRun.go (q_if_lt_f d ht hx cc) (kf cc)
theorem q_if_ge_t {x off : Int} {tgt : Nat} (d : decode M.2.1 pc = .ok (.ifCond .ge off, 3)) (ht : (pc : Int) + off = (tgt : Int)) (hx : -2147483648 ≤ x ∧ x < 2147483648) (cc : 0 ≤ x) : mGo Z M pc ls (mi x :: st) h tgt ls st h :=
  mGo.pu fun b p l e R s m args below meth c H locs cells slots Q la hxx hb ho hw hl k => lv_if_ge hxx hb d ht (fun _ => k la hl) (fun q => absurd (by rw [← z32]; exact (o32_le i32z hx).mpr cc) q)
theorem q_if_ge_f {x off : Int} {tgt : Nat} (d : decode M.2.1 pc = .ok (.ifCond .ge off, 3)) (ht : (pc : Int) + off = (tgt : Int)) (hx : -2147483648 ≤ x ∧ x < 2147483648) (cc : ¬ (0 ≤ x)) : mGo Z M pc ls (mi x :: st) h (pc + 3) ls st h :=
  mGo.pu fun b p l e R s m args below meth c H locs cells slots Q la hxx hb ho hw hl k => lv_if_ge hxx hb d ht (fun q => absurd (by rw [← z32] at q; exact (o32_le i32z hx).mp q) cc) (fun _ => k la hl)
theorem r_if_ge {x off : Int} {tgt : Nat} (d : decode M.2.1 pc = .ok (.ifCond .ge off, 3)) (ht : (pc : Int) + off = (tgt : Int)) (hx : -2147483648 ≤ x ∧ x < 2147483648) (kt : 0 ≤ x → mRun Z M tgt ls st h post) (kf : ¬ (0 ≤ x) → mRun Z M (pc + 3) ls st h post) : mRun Z M pc ls (mi x :: st) h post := by
  by_cases cc : 0 ≤ x
  · exact mRun.go (q_if_ge_t d ht hx cc) (kt cc)
  · exact mRun.go (q_if_ge_f d ht hx cc) (kf cc)
theorem q_if_gt_t {x off : Int} {tgt : Nat} (d : decode M.2.1 pc = .ok (.ifCond .gt off, 3)) (ht : (pc : Int) + off = (tgt : Int)) (hx : -2147483648 ≤ x ∧ x < 2147483648) (cc : 0 < x) : mGo Z M pc ls (mi x :: st) h tgt ls st h :=
  mGo.pu fun b p l e R s m args below meth c H locs cells slots Q la hxx hb ho hw hl k => lv_if_gt hxx hb d ht (fun _ => k la hl) (fun q => absurd (by rw [← z32]; exact (o32_lt i32z hx).mpr cc) q)
theorem q_if_gt_f {x off : Int} {tgt : Nat} (d : decode M.2.1 pc = .ok (.ifCond .gt off, 3)) (ht : (pc : Int) + off = (tgt : Int)) (hx : -2147483648 ≤ x ∧ x < 2147483648) (cc : ¬ (0 < x)) : mGo Z M pc ls (mi x :: st) h (pc + 3) ls st h :=
  mGo.pu fun b p l e R s m args below meth c H locs cells slots Q la hxx hb ho hw hl k => lv_if_gt hxx hb d ht (fun q => absurd (by rw [← z32] at q; exact (o32_lt i32z hx).mp q) cc) (fun _ => k la hl)
theorem r_if_gt {x off : Int} {tgt : Nat} (d : decode M.2.1 pc = .ok (.ifCond .gt off, 3)) (ht : (pc : Int) + off = (tgt : Int)) (hx : -2147483648 ≤ x ∧ x < 2147483648) (kt : 0 < x → mRun Z M tgt ls st h post) (kf : ¬ (0 < x) → mRun Z M (pc + 3) ls st h post) : mRun Z M pc ls (mi x :: st) h post := by
  by_cases cc : 0 < x
  · exact mRun.go (q_if_gt_t d ht hx cc) (kt cc)
  · exact mRun.go (q_if_gt_f d ht hx cc) (kf cc)
theorem q_if_le_t {x off : Int} {tgt : Nat} (d : decode M.2.1 pc = .ok (.ifCond .le off, 3)) (ht : (pc : Int) + off = (tgt : Int)) (hx : -2147483648 ≤ x ∧ x < 2147483648) (cc : x ≤ 0) : mGo Z M pc ls (mi x :: st) h tgt ls st h :=
  mGo.pu fun b p l e R s m args below meth c H locs cells slots Q la hxx hb ho hw hl k => lv_if_le hxx hb d ht (fun _ => k la hl) (fun q => absurd (by rw [← z32]; exact (o32_le hx i32z).mpr cc) q)
theorem q_if_le_f {x off : Int} {tgt : Nat} (d : decode M.2.1 pc = .ok (.ifCond .le off, 3)) (ht : (pc : Int) + off = (tgt : Int)) (hx : -2147483648 ≤ x ∧ x < 2147483648) (cc : ¬ (x ≤ 0)) : mGo Z M pc ls (mi x :: st) h (pc + 3) ls st h :=
  mGo.pu fun b p l e R s m args below meth c H locs cells slots Q la hxx hb ho hw hl k => lv_if_le hxx hb d ht (fun q => absurd (by rw [← z32] at q; exact (o32_le hx i32z).mp q) cc) (fun _ => k la hl)
theorem r_if_le {x off : Int} {tgt : Nat} (d : decode M.2.1 pc = .ok (.ifCond .le off, 3)) (ht : (pc : Int) + off = (tgt : Int)) (hx : -2147483648 ≤ x ∧ x < 2147483648) (kt : x ≤ 0 → mRun Z M tgt ls st h post) (kf : ¬ (x ≤ 0) → mRun Z M (pc + 3) ls st h post) : mRun Z M pc ls (mi x :: st) h post := by
  by_cases cc : x ≤ 0
  · exact mRun.go (q_if_le_t d ht hx cc) (kt cc)
  · exact mRun.go (q_if_le_f d ht hx cc) (kf cc)
theorem q_tsw_in {dflt lo hi x off : Int} {offs : Array Int} {len tgt : Nat} (d : decode M.2.1 pc = .ok (.tableswitch dflt lo hi offs, len)) (hx : -2147483648 ≤ x ∧ x < 2147483648) (h1 : lo ≤ x ∧ x ≤ hi) (ho : offs[(x - lo).toNat]? = some off) (ht : (pc : Int) + off = (tgt : Int)) : mGo Z M pc ls (mi x :: st) h tgt ls st h :=
  mGo.pu fun b p l e R s m args below meth c H locs cells slots Q la hxx hb hoo hw hl k => lv_tableIn hxx hb d (by rw [o32 hx]; omega) (by rw [o32 hx]; omega) (by rw [o32 hx]; exact ho) ht (k la hl)
theorem q_tsw_out {dflt lo hi x : Int} {offs : Array Int} {len tgt : Nat} (d : decode M.2.1 pc = .ok (.tableswitch dflt lo hi offs, len)) (hx : -2147483648 ≤ x ∧ x < 2147483648) (h1 : x < lo ∨ hi < x) (ht : (pc : Int) + dflt = (tgt : Int)) : mGo Z M pc ls (mi x :: st) h tgt ls st h :=
  mGo.pu fun b p l e R s m args below meth c H locs cells slots Q la hxx hb hoo hw hl k => lv_tableOut hxx hb d (by rw [o32 hx]; exact h1) ht (k la hl)
theorem q_lsw {dflt x off : Int} {ps : Array (Int × Int)} {len tgt : Nat} (d : decode M.2.1 pc = .ok (.lookupswitch dflt ps, len)) (hx : -2147483648 ≤ x ∧ x < 2147483648) (hp : (ps.toList.zip (ps.toList.drop 1)).all (fun (a, next) => a.1 < next.1) = true) (ho : Op.lookupswitch.offset ps.toList dflt x = off) (ht : (pc : Int) + off = (tgt : Int)) : mGo Z M pc ls (mi x :: st) h tgt ls st h :=
  mGo.pu fun b p l e R s m args below meth c H locs cells slots Q la hxx hb hoo hw hl k => lv_lookup hxx hb d hp (by rw [o32 hx]; exact ho) ht (k la hl)
/-! the end -/
theorem r_ret (d : decode M.2.1 pc = .ok (.return_, 1)) (hr : M.2.2.2.1 = none) (hp : post none h) : mRun Z M pc ls [] h post := ⟨pc, ls, none, h, mGo.rf, ⟨d, hr⟩, hp⟩
theorem r_iret {x : Int} (d : decode M.2.1 pc = .ok (.ireturn, 1)) (hr : M.2.2.2.1 = some .int) (hp : post (some (mi x)) h) : mRun Z M pc ls [mi x] h post := ⟨pc, ls, some (mi x), h, mGo.rf, ⟨d, .int, hr, rfl⟩, hp⟩
theorem nz_bool {x : Int} (hx : x = 0 ∨ x = 1) : narrow .boolean (.int (Int32.ofInt x)) = .int (Int32.ofInt x) := by
  rcases hx with rfl | rfl <;> rfl
theorem r_zret {x : Int} (d : decode M.2.1 pc = .ok (.ireturn, 1)) (hr : M.2.2.2.1 = some .boolean) (hx : x = 0 ∨ x = 1) (hp : post (some (mi x)) h) : mRun Z M pc ls [mi x] h post := ⟨pc, ls, some (mi x), h, mGo.rf, ⟨d, .boolean, hr, nz_bool hx⟩, hp⟩
theorem r_aret {x : Nat} {n : String} (d : decode M.2.1 pc = .ok (.areturn, 1)) (hr : M.2.2.2.1 = some (.object n)) (hp : post (some (mr x)) h) : mRun Z M pc ls [mr x] h post := ⟨pc, ls, some (mr x), h, mGo.rf, ⟨d, n, hr⟩, hp⟩
end WAYS
/-! ===== fields ===== -/
def mty : Nat → Nat → FieldType := fun ci => match ci with
  | 0 => tyX0 | 1 => tyX1 | 2 => tyX2 | 3 => tyX3 | 4 => tyX4 | 5 => tyX5 | 6 => tyX6 | 7 => tyX7 | 8 => tyX8 | _ => tyX9
theorem mcl_ok (ci : Nat) (q : vw_C) (h : mcl[ci]? = some q) : (∀ w ∈ u_ws q.1 q.2.1 q.2.2, w ∈ gtbl) ∧ (∀ k, k < q.2.2 → parseFieldDescriptor (q.2.1 k).2.2.1 = some (mty ci k)) ∧ (∀ a, a < q.2.2 → ∀ b, b < q.2.2 → a ≠ b → (q.2.1 a).2.1 ≠ (q.2.1 b).2.1) := by
  match ci, h with
  | 0, h => cases h; exact ⟨gu_0, tyX0_ok, nmX0⟩
  | 1, h => cases h; exact ⟨gu_1, tyX1_ok, nmX1⟩
  | 2, h => cases h; exact ⟨gu_2, tyX2_ok, nmX2⟩
  | 3, h => cases h; exact ⟨gu_3, tyX3_ok, nmX3⟩
  | 4, h => cases h; exact ⟨gu_4, tyX4_ok, nmX4⟩
  | 5, h => cases h; exact ⟨gu_5, tyX5_ok, nmX5⟩
  | 6, h => cases h; exact ⟨gu_6, tyX6_ok, nmX6⟩
  | 7, h => cases h; exact ⟨gu_7, tyX7_ok, nmX7⟩
  | 8, h => cases h; exact ⟨gu_8, tyX8_ok, nmX8⟩
  | 9, h => cases h; exact ⟨gu_9, tyX9_ok, nmX9⟩
  | n + 10, h => simp [mcl] at h
/-- entry idx of the class own is the field k of the class ci -/
def mOkF (own : String) (idx ci k : Nat) : Prop := ∃ q : vw_C, mcl[ci]? = some q ∧ k < q.2.2 ∧ Cond.fieldLink own idx (q.2.1 k).1 (q.2.1 k).2.1 (q.2.1 k).2.2.1 ∈ gtbl
theorem vp_mx (fs : List (Option (Option Nat))) (g : Nat → Option (Option Nat) → Value) (j : Nat) : vp_V (fs.mapIdx g) j = ((fs[j]?).map (g j)).getD .null := by
  simp [vp_V, List.getD_eq_getElem?_getD]
/-- a table of integers with one other -/
def mup (I : mI) (r k : Nat) (x : Int) : mI := fun r' k' => if r' = r ∧ k' = k then x else I r' k'
/-- a table of integers with a row of noughts -/
def mzr (I : mI) (r : Nat) : mI := fun r' k' => if r' = r then 0 else I r' k'
theorem mRz.put {P : mP} {D : va_G} {σ σ' : List mC} {I I' : mI} {H H' : Heap} {r : Nat} {c' : mC} (hR : mRz P D (σ, I) H) (hlen : σ'.length = σ.length) (hsz : H'.size = H.size) (ho : ∀ q : Nat, q ≠ P.1 + r → H'[q]? = H[q]?) (hσ : ∀ j, j ≠ r → σ'[j]? = σ[j]?) (hc : ∀ c, σ'[r]? = some c → c = c') (hI : ∀ j, j ≠ r → I' j = I j) (hn : va_at D mcl (P.1 + r, mce P (I' r) c') H') : mRz P D (σ', I') H' := by
  refine ⟨by rw [hsz, hlen]; exact hR.1, fun k c hk => ?_⟩
  by_cases hkr : k = r
  · subst hkr
    rw [hc c hk]
    exact hn
  · rw [show ((σ', I') : mH).1[k]? = σ'[k]? from rfl, hσ k hkr] at hk
    have := hR.2 k c hk
    rw [show ((σ', I') : mH).2 k = I k from hI k hkr]
    exact this.kept (ho _ (by simp only; omega))
theorem mRz.push {P : mP} {D : va_G} {σ : List mC} {I I' : mI} {H H' : Heap} {c' : mC} (hR : mRz P D (σ, I) H) (hsz : H'.size = H.size + 1) (ho : ∀ q : Nat, q < H.size → H'[q]? = H[q]?) (hI : ∀ j, j < σ.length → I' j = I j) (hn : va_at D mcl (P.1 + σ.length, mce P (I' σ.length) c') H') : mRz P D (σ ++ [c'], I') H' := by
  have h1 : H.size = P.1 + σ.length := hR.1
  refine ⟨by show H'.size = P.1 + (σ ++ [c']).length; rw [hsz, List.length_append, h1]; simp only [List.length_singleton]; omega, fun k c hk => ?_⟩
  by_cases hl : k < σ.length
  · rw [show ((σ ++ [c'], I') : mH).1[k]? = (σ ++ [c'])[k]? from rfl, List.getElem?_append_left hl] at hk
    have := hR.2 k c hk
    rw [show ((σ ++ [c'], I') : mH).2 k = I k from hI k hl]
    exact this.kept (ho _ (by simp only; omega))
  · rw [show ((σ ++ [c'], I') : mH).1[k]? = (σ ++ [c'])[k]? from rfl, List.getElem?_append_right (by omega)] at hk
    have hz : k - σ.length < 1 := (List.getElem?_eq_some_iff.mp hk).1
    have hk0 : k = σ.length := by omega
    subst hk0
    rw [Nat.sub_self] at hk
    cases hk
    exact hn
theorem mS_set {σ : List mC} {I I' : mI} {r : Nat} {c c' : mC} (hr : σ[r]? = some c) (hs : msz c' = msz c) : mS (σ.set r c', I') = mS (σ, I) := by
  have hl := (List.getElem?_eq_some_iff.mp hr).1
  have he := (List.getElem?_eq_some_iff.mp hr).2
  show ((σ.set r c').map msz).sum = (σ.map msz).sum
  rw [List.map_set]
  congr 1
  apply List.ext_getElem?
  intro i
  by_cases hi : i = r
  · subst hi
    rw [List.getElem?_set_self (by simpa using hl), List.getElem?_map, hr, hs]; rfl
  · rw [List.getElem?_set_ne (Ne.symm hi)]
theorem mS_push {σ : List mC} {I I' : mI} {c' : mC} : mS (σ ++ [c'], I') = mS (σ, I) + msz c' := by
  simp [mS]
section FIELDS
variable {Z : mZ} {M : mM} {pc : Nat} {ls : mL} {st : List mV} {σ : List mC} {I : mI}
theorem q_getI {idx ci k r : Nat} {fs : List (Option (Option Nat))} (d : decode M.2.1 pc = .ok (.getfield idx, 3)) (ok : mOkF M.1.cls idx ci k) (hr : σ[r]? = some (.inl (ci, fs))) (hk : fs[k]? = some none) : mGo Z M pc ls (mr r :: st) (σ, I) (pc + 3) ls (mi (I r k) :: st) (σ, I) := by
  refine ⟨⟨Nat.le_refl _, Nat.le_refl _⟩, ?_⟩
  intro P D p l e R s m args below meth c Q c0 s0 C hZ hc hs hC hS kk H locs la hl hR hV
  obtain ⟨⟨C0, T, N⟩, hq, hkN, hlink⟩ := ok
  refine va_get (v := .int (Int32.ofInt (I r k))) C.1 C.2.1 C.2.2.2.2.2.1 (mcl_ok ci _ hq).1 C.2.2.2.1 C.2.2.2.2.2.2.1 (hR.one hr) 0 rfl hq k hkN (C.2.2.2.2.2.1 _ hlink) (fun _ x => x) ?_ d (kk H locs la hl hR hV)
  rw [List.getElem?_mapIdx, hk]
  rfl
theorem q_getR {idx ci k r : Nat} {o : Option Nat} {fs : List (Option (Option Nat))} (d : decode M.2.1 pc = .ok (.getfield idx, 3)) (ok : mOkF M.1.cls idx ci k) (hr : σ[r]? = some (.inl (ci, fs))) (hk : fs[k]? = some (some o)) : mGo Z M pc ls (mr r :: st) (σ, I) (pc + 3) ls (mo o :: st) (σ, I) := by
  refine ⟨⟨Nat.le_refl _, Nat.le_refl _⟩, ?_⟩
  intro P D p l e R s m args below meth c Q c0 s0 C hZ hc hs hC hS kk H locs la hl hR hV
  obtain ⟨⟨C0, T, N⟩, hq, hkN, hlink⟩ := ok
  refine va_get (v := mden P.1 (mo o)) C.1 C.2.1 C.2.2.2.2.2.1 (mcl_ok ci _ hq).1 C.2.2.2.1 C.2.2.2.2.2.2.1 (hR.one hr) 0 rfl hq k hkN (C.2.2.2.2.2.1 _ hlink) (fun _ x => x) ?_ d (kk H locs la hl hR hV)
  rw [List.getElem?_mapIdx, hk]
  rfl
theorem q_putI {idx ci k r : Nat} {x : Int} {fs : List (Option (Option Nat))} (d : decode M.2.1 pc = .ok (.putfield idx, 3)) (ok : mOkF M.1.cls idx ci k) (hf : ∀ q : vw_C, mcl[ci]? = some q → (q.2.1 k).2.2.2 = false ∧ (q.2.1 k).2.2.1 = "I") (hr : σ[r]? = some (.inl (ci, fs))) (hk : fs[k]? = some none) : mGo Z M pc ls (mi x :: mr r :: st) (σ, I) (pc + 3) ls st (σ, mup I r k x) := by
  refine ⟨⟨Nat.le_refl _, Nat.le_refl _⟩, ?_⟩
  intro P D p l e R s m args below meth c Q c0 s0 C hZ hc0 hs0 hC hS kk H locs la hl hR hV
  obtain ⟨⟨C0, T, N⟩, hq, hkN, hlink⟩ := ok
  obtain ⟨gu, gty, gnm⟩ := mcl_ok ci _ hq
  obtain ⟨hfin, hd⟩ := hf _ hq
  have hts := C.2.2.2.2.2.1
  have hK := C.2.2.2.2.2.2.1
  have hap := va_apart (own := M.1.cls) hts gu (mty ci) gty gnm hK hq
  obtain ⟨r0, h1, cell, q1, q2, q3, q4⟩ := hR.2 r _ hr
  have hr0 : r0 = (C0, T, N) := Option.some.inj (h1.symm.trans hq)
  subst hr0
  obtain ⟨hSl, hfc, kC, hkC, hkind⟩ := hK.1 ci _ hq
  obtain ⟨cf, kf, fi, f, hi, hsl⟩ := hSl k hkN
  have hlay := hts _ (gu _ (u_in_lay hkN))
  unfold u_lay at hlay
  rw [if_neg (by rw [hfin]; decide)] at hlay
  have hst := (u_facts hfc hkC (u_lays hts gu hkN) hi).1
  have hd2 : parseFieldDescriptor (T k).2.2.1 = some .int := by rw [show (T k).2.2.1 = "I" from hd]; decide +kernel
  have h6 := u_store (v := Value.int (Int32.ofInt x)) hfc hkC hkind hlay hi hd2 rfl rfl
  refine W.putK C.1 C.2.1 (f := f) ⟨C.2.2.2.1, hts _ hlink, ⟨_, _, _, hi⟩, hst⟩ (by rw [q2]; exact h6) q1 q3 (by rw [hsl]; exact k2_hasslot (q4 k hkN)) rfl rfl d fun H' e1 e2 e3 => ?_
  rw [hsl] at e1 ⊢
  have hkl := (List.getElem?_eq_some_iff.mp hk).1
  refine kk H' _ la hl (hR.put rfl e2 e3 (fun _ _ => rfl) (fun c hc => Option.some.inj (hc.symm.trans hr)) (fun j hj => by funext k'; simp [mup, hj]) ?_) (hV.put e2 e3 (show P.1 ≤ P.1 + r by omega))
  refine ⟨_, hq, t_OB.to (V := updV (vp_V (fs.mapIdx (fun k f => mfl P.1 (I r) k f))) k (Value.int (Int32.ofInt x))) ⟨_, e1, q2, q3, t_set q4 hap hkN (Value.int (Int32.ofInt x))⟩ (fun j hj => ?_)⟩
  rw [vp_mx]
  by_cases hjk : j = k
  · subst hjk
    rw [hk]
    simp [updV, mfl, mup]
  · simp only [updV, if_neg hjk]
    rw [vp_mx]
    congr 2
    funext o
    cases o with
    | none => simp [mfl, mup, hjk]
    | some o => rfl
theorem q_putR {idx ci k r : Nat} {o o' : Option Nat} {fs : List (Option (Option Nat))} (d : decode M.2.1 pc = .ok (.putfield idx, 3)) (ok : mOkF M.1.cls idx ci k) (hf : ∀ q : vw_C, mcl[ci]? = some q → (q.2.1 k).2.2.2 = true ∧ (q.2.1 k).1 = M.1.cls) (hty : (∃ n, mty ci k = .object n) ∨ ∃ t, mty ci k = .array t) (hin : M.1.name = "<init>") (hr : σ[r]? = some (.inl (ci, fs))) (hk : fs[k]? = some (some o')) : mGo Z M pc ls (mo o :: mr r :: st) (σ, I) (pc + 3) ls st (σ.set r (.inl (ci, fs.set k (some o))), I) := by
  have hsz : mS (σ.set r (.inl (ci, fs.set k (some o))), I) = mS (σ, I) := mS_set hr (by simp [msz])
  refine ⟨⟨by simp, Nat.le_of_eq hsz.symm⟩, ?_⟩
  intro P D p l e R s m args below meth c Q c0 s0 C hZ hc0 hs0 hC hS kk H locs la hl hR hV
  obtain ⟨⟨C0, T, N⟩, hq, hkN, hlink⟩ := ok
  obtain ⟨gu, gty, gnm⟩ := mcl_ok ci _ hq
  obtain ⟨hfin, hdecl⟩ := hf _ hq
  have hts := C.2.2.2.2.2.1
  have hK := C.2.2.2.2.2.2.1
  have hap := va_apart (own := M.1.cls) hts gu (mty ci) gty gnm hK hq
  obtain ⟨r0, h1, cell, q1, q2, q3, q4⟩ := hR.2 r _ hr
  have hr0 : r0 = (C0, T, N) := Option.some.inj (h1.symm.trans hq)
  subst hr0
  obtain ⟨hSl, hfc, kC, hkC, hkind⟩ := hK.1 ci _ hq
  obtain ⟨cf, kf, fi, f, hi, hsl⟩ := hSl k hkN
  have hlay := hts _ (gu _ (u_in_lay hkN))
  unfold u_lay at hlay
  rw [if_pos hfin] at hlay
  have hst := (u_facts hfc hkC (u_lays hts gu hkN) hi).1
  have hcf : m.cls = cf := by
    obtain ⟨_, _, c', _, _, _, -, -, hf', -, -, -, hown2, -⟩ := Cond.laysFinal_spec hlay
    have e1 : c' = cf := by have := hi.symm.trans hf'; simp at this; exact this.1.symm
    rw [hdecl] at hown2
    rw [← e1]; exact Option.some.inj (C.2.2.2.1.symm.trans hown2)
  have hd2 := gty k hkN
  have hnf : narrow (mty ci k) (mden P.1 (mo o)) = mden P.1 (mo o) ∧ fits (mty ci k) (mden P.1 (mo o)) = true := by
    rcases hty with ⟨n, hn⟩ | ⟨t, hn⟩ <;> rw [hn] <;> cases o <;> exact ⟨rfl, rfl⟩
  have h6 := u_fits hfc hkC hkind (Or.inr hlay) hi hd2 hnf.1 hnf.2
  refine W.putFinK C.1 C.2.1 C.2.2.2.1 (hts _ hlink) hi hst hcf (C.2.2.2.2.1.trans hin) (by rw [q2]; exact h6) q1 q3 (by rw [hsl]; exact k2_hasslot (q4 k hkN)) rfl rfl d fun H' e1 e2 e3 => ?_
  rw [hsl] at e1 ⊢
  have hkl := (List.getElem?_eq_some_iff.mp hk).1
  have hrl := (List.getElem?_eq_some_iff.mp hr).1
  have K := kk H' (locs ++ [⟨P.1 + r, D.2 ci k⟩]) la hl (hR.put (by simp) e2 e3 (fun j hj => List.getElem?_set_ne (Ne.symm hj)) (fun c hc => by rw [List.getElem?_set_self hrl] at hc; exact (Option.some.inj hc).symm) (fun j hj => rfl) ?_) (hV.put e2 e3 (show P.1 ≤ P.1 + r by omega))
  · rw [hsz] at K
    rw [show ((σ.set r (.inl (ci, fs.set k (some o))), I) : mH).1.length = σ.length by simp] at K
    exact K
  refine ⟨_, hq, t_OB.to (V := updV (vp_V (fs.mapIdx (fun k f => mfl P.1 (I r) k f))) k (mden P.1 (mo o))) ⟨_, e1, q2, q3, t_set q4 hap hkN (mden P.1 (mo o))⟩ (fun j hj => ?_)⟩
  rw [vp_mx]
  by_cases hjk : j = k
  · subst hjk
    rw [List.getElem?_set_self hkl]
    simp only [updV, if_pos]
    cases o <;> rfl
  · simp only [updV, if_neg hjk]
    rw [vp_mx, List.getElem?_set_ne (Ne.symm hjk)]
end FIELDS
