/-! ===== the years, as folds over the bequests that count ===== -/
def nzl (fr to sz : Nat → Int32) (i : Int32) : Nat → Nat → List (Int32 × Int32)
  | 0, _ => []
  | n + 1, k => if fr k = i then (if sz k = nI 0 then nzl fr to sz i n (k + 1) else (to k, sz k) :: nzl fr to sz i n (k + 1)) else nzl fr to sz i n (k + 1)
def lsum : List (Int32 × Int32) → Int32 → Int32
  | [], s => s
  | e :: r, s => lsum r (s + e.2)
def mn (a b : Int32) : Int32 := if a < b then a else b
def pyG (lv : Int32 → Bool) (i : Nat) : List (Int32 × Int32) → zF → zF → zF × zF
  | [], pu, go => (pu, go)
  | e :: r, pu, go => if lv e.1 = true then pyG lv i r (upd (upd pu i (pu i - mn e.2 (pu i))) e.1.toNatClampNeg (upd pu i (pu i - mn e.2 (pu i)) e.1.toNatClampNeg + mn e.2 (pu i))) (upd go e.1.toNatClampNeg (go e.1.toNatClampNeg + mn e.2 (pu i))) else pyG lv i r (upd pu i (pu i - mn e.2 (pu i))) go
/-- the will table of the reference, by column -/
def w3 (w : zF) (c k : Nat) : Int32 := w (3 * k + c)
def lvC (st : zF) (P : Nat) (t : Int32) : Bool := if t < 0 then false else if nI P ≤ t then false else if st t.toNatClampNeg = nI 1 then true else false
def lvM (mon mdi : zF) (yr : Nat) (t : Int32) : Bool := if t < 0 then false else s_X7_lives mon mdi t.toNatClampNeg yr
abbrev yFr (B : zB) : zF := B.2.2.2.2.2.1
abbrev yTo (B : zB) : zF := B.2.2.2.2.2.2.1
abbrev ySz (B : zB) : zF := B.2.2.2.2.2.2.2.1
theorem z_add0 (s : Int32) : s + nI 0 = s := by rw [nI_0]; exact Int32.add_zero s
theorem z_sub0 (s : Int32) : s - nI 0 = s := by rw [nI_0]; exact Int32.sub_zero s
theorem upd_id (f : Nat → Int32) (k : Nat) : upd f k (f k) = f := by
  funext j
  by_cases h : j = k
  · rw [h]; exact pk_us
  · exact pk_un h
theorem mn_nI {z a : Nat} (hz : z < 2 ^ 31) (ha : a < 2 ^ 31) : mn (nI z) (nI a) = nI (min z a) := by
  unfold mn
  by_cases h : z < a
  · rw [if_pos ((nI_ltI hz ha).mpr h), Nat.min_eq_left (by omega)]
  · rw [if_neg (fun q => h ((nI_ltI hz ha).mp q)), Nat.min_eq_right (by omega)]
theorem leaves_eq (B : zB) (i : Int32) : ∀ (n k : Nat) (s : Int32), f_X0_leaves_4 B i n k s = lsum (nzl (yFr B) (yTo B) (ySz B) i n k) s
  | 0, k, s => rfl
  | n + 1, k, s => by
    rw [f_X0_leaves_4, nzl]
    by_cases h : B.2.2.2.2.2.1 k = i
    · rw [if_pos h, if_pos h]
      by_cases h0 : B.2.2.2.2.2.2.2.1 k = nI 0
      · rw [if_pos h0, h0, z_add0]
        exact leaves_eq B i n (k + 1) s
      · rw [if_neg h0]
        exact leaves_eq B i n (k + 1) _
    · rw [if_neg h, if_neg h]
      exact leaves_eq B i n (k + 1) s
theorem leaving_eq (w : zF) (i : Nat) : ∀ (n k : Nat) (s : Int32), f_X7_leaving_4 w i n k s = lsum (nzl (w3 w 0) (w3 w 1) (w3 w 2) (nI i) n k) s
  | 0, k, s => rfl
  | n + 1, k, s => by
    rw [f_X7_leaving_4, nzl]
    by_cases h : w (3 * k) = nI i
    · have h' : w3 w 0 k = nI i := h
      rw [if_pos h, if_pos h']
      by_cases h0 : w (3 * k + 2) = nI 0
      · have h0' : w3 w 2 k = nI 0 := h0
        rw [if_pos h0', h0, z_add0]
        exact leaving_eq w i n (k + 1) s
      · have h0' : ¬ w3 w 2 k = nI 0 := h0
        rw [if_neg h0']
        exact leaving_eq w i n (k + 1) _
    · have h' : ¬ w3 w 0 k = nI i := h
      rw [if_neg h, if_neg h', z_add0]
      exact leaving_eq w i n (k + 1) s
theorem leavesOf_eq (w : zF) (i : Int32) : ∀ (n k : Nat) (s : Int32), f_X7_leavesOf_4 w i n k s = lsum (nzl (w3 w 0) (w3 w 1) (w3 w 2) i n k) s
  | 0, k, s => rfl
  | n + 1, k, s => by
    rw [f_X7_leavesOf_4, nzl]
    by_cases h : w (3 * k) = i
    · have h' : w3 w 0 k = i := h
      rw [if_pos h, if_pos h']
      by_cases h0 : w (3 * k + 2) = nI 0
      · have h0' : w3 w 2 k = nI 0 := h0
        rw [if_pos h0', h0, z_add0]
        exact leavesOf_eq w i n (k + 1) s
      · have h0' : ¬ w3 w 2 k = nI 0 := h0
        rw [if_neg h0']
        exact leavesOf_eq w i n (k + 1) _
    · have h' : ¬ w3 w 0 k = i := h
      rw [if_neg h, if_neg h', z_add0]
      exact leavesOf_eq w i n (k + 1) s
/-- lists of equal tables -/
theorem nzl_congr {fr to sz fr2 to2 sz2 : Nat → Int32} {i : Int32} : ∀ (n k : Nat), (∀ j, k ≤ j → j < k + n → fr j = fr2 j ∧ to j = to2 j ∧ sz j = sz2 j) → nzl fr to sz i n k = nzl fr2 to2 sz2 i n k
  | 0, k, _ => rfl
  | n + 1, k, h => by
    obtain ⟨e1, e2, e3⟩ := h k (by omega) (by omega)
    rw [nzl, nzl, e1, e2, e3, nzl_congr n (k + 1) (fun j h1 h2 => h j (by omega) (by omega))]
theorem nzl_mem {fr to sz : Nat → Int32} {i : Int32} {e : Int32 × Int32} : ∀ (n k : Nat), e ∈ nzl fr to sz i n k → ∃ j, k ≤ j ∧ j < k + n ∧ fr j = i ∧ e = (to j, sz j)
  | 0, k, h => by cases h
  | n + 1, k, h => by
    rw [nzl] at h
    by_cases h1 : fr k = i
    · rw [if_pos h1] at h
      by_cases h2 : sz k = nI 0
      · rw [if_pos h2] at h
        obtain ⟨j, a, b, c⟩ := nzl_mem n (k + 1) h
        exact ⟨j, by omega, by omega, c⟩
      · rw [if_neg h2] at h
        rcases List.mem_cons.mp h with q | q
        · exact ⟨k, by omega, by omega, h1, q⟩
        · obtain ⟨j, a, b, c⟩ := nzl_mem n (k + 1) q
          exact ⟨j, by omega, by omega, c⟩
    · rw [if_neg h1] at h
      obtain ⟨j, a, b, c⟩ := nzl_mem n (k + 1) h
      exact ⟨j, by omega, by omega, c⟩
theorem nzl_len {fr to sz : Nat → Int32} {i : Int32} : ∀ (n k : Nat), (nzl fr to sz i n k).length ≤ n
  | 0, k => Nat.le_refl _
  | n + 1, k => by
    rw [nzl]
    have h := nzl_len (fr := fr) (to := to) (sz := sz) (i := i) n (k + 1)
    by_cases h1 : fr k = i
    · rw [if_pos h1]
      by_cases h2 : sz k = nI 0
      · rw [if_pos h2]; omega
      · rw [if_neg h2]
        show (nzl fr to sz i n (k + 1)).length + 1 ≤ n + 1
        omega
    · rw [if_neg h1]; omega
theorem lvC_ne {st : zF} {P i : Nat} {t : Int32} (h : lvC st P t = true) (hi : st i ≠ nI 1) : t.toNatClampNeg ≠ i := by
  unfold lvC at h
  split at h
  · cases h
  · split at h
    · cases h
    · split at h
      · rename_i h3
        intro e
        rw [e] at h3
        exact hi h3
      · cases h
theorem lvC_lt {st : zF} {P : Nat} {t : Int32} (h : lvC st P t = true) (hP : P < 2 ^ 31) : t = nI t.toNatClampNeg ∧ t.toNatClampNeg < P ∧ st t.toNatClampNeg = nI 1 := by
  unfold lvC at h
  split at h
  · cases h
  · rename_i h1
    split at h
    · cases h
    · rename_i h2
      split at h
      · rename_i h3
        obtain ⟨j, hj, rfl⟩ := nI_of h1
        rw [nI_leI hP hj] at h2
        rw [nI_clamp hj] at h3 ⊢
        exact ⟨rfl, by omega, h3⟩
      · cases h
theorem lvC_nI {st : zF} {P j : Nat} (hj : j < P) (hP : P < 2 ^ 31) : lvC st P (nI j) = true ↔ st j = nI 1 := by
  unfold lvC
  rw [if_neg (nI_pos (by omega)), if_neg (nI_ge hj hP), nI_clamp (by omega)]
  by_cases h : st j = nI 1
  · rw [if_pos h]; exact ⟨fun _ => h, fun _ => rfl⟩
  · rw [if_neg h]; exact ⟨fun q => (by cases q), fun q => absurd q h⟩
theorem pay_eq (Y : zY) (P : Nat) (B : zB) (i k : Nat) : s_X5_pay Y P B i k = if lvC Y.1 P (B.2.2.2.2.2.2.1 k) = true then (Y.1, (upd (upd Y.2.1 i ((Y.2.1 i) - mn (B.2.2.2.2.2.2.2.1 k) (Y.2.1 i))) (B.2.2.2.2.2.2.1 k).toNatClampNeg (((upd Y.2.1 i ((Y.2.1 i) - mn (B.2.2.2.2.2.2.2.1 k) (Y.2.1 i))) (B.2.2.2.2.2.2.1 k).toNatClampNeg) + mn (B.2.2.2.2.2.2.2.1 k) (Y.2.1 i))), Y.2.2.1, Y.2.2.2.1, Y.2.2.2.2.1, (upd Y.2.2.2.2.2.1 (B.2.2.2.2.2.2.1 k).toNatClampNeg ((Y.2.2.2.2.2.1 (B.2.2.2.2.2.2.1 k).toNatClampNeg) + mn (B.2.2.2.2.2.2.2.1 k) (Y.2.1 i))), (upd Y.2.2.2.2.2.2 k (mn (B.2.2.2.2.2.2.2.1 k) (Y.2.1 i)))) else (Y.1, (upd Y.2.1 i ((Y.2.1 i) - mn (B.2.2.2.2.2.2.2.1 k) (Y.2.1 i))), Y.2.2) := rfl
theorem pay_zero {Y : zY} {P : Nat} {B : zB} {i k a : Nat} (ha : a < 2 ^ 31) (ea : Y.2.1 i = nI a) (h0 : B.2.2.2.2.2.2.2.1 k = nI 0) : ∃ br, s_X5_pay Y P B i k = (Y.1, Y.2.1, Y.2.2.1, Y.2.2.2.1, Y.2.2.2.2.1, Y.2.2.2.2.2.1, br) := by
  have e : mn (B.2.2.2.2.2.2.2.1 k) (Y.2.1 i) = nI 0 := by
    rw [h0, ea, mn_nI (by decide) ha, Nat.zero_min]
  rw [pay_eq, e, z_sub0, upd_id, z_add0, upd_id, z_add0, upd_id]
  by_cases h : lvC Y.1 P (B.2.2.2.2.2.2.1 k) = true
  · rw [if_pos h]; exact ⟨_, rfl⟩
  · rw [if_neg h]; exact ⟨_, rfl⟩
theorem pu_after {pu : zF} {i t z a : Nat} {v : Int32} (ha : a < 2 ^ 31) (hz : z < 2 ^ 31) (ea : pu i = nI a) (ht : t ≠ i) : upd (upd pu i (pu i - mn (nI z) (pu i))) t v i = nI (a - min z a) := by
  rw [pk_un (Ne.symm ht), pk_us, ea, mn_nI hz ha, pk_sub (Nat.min_le_right z a)]
theorem pu_after2 {pu : zF} {i z a : Nat} (ha : a < 2 ^ 31) (hz : z < 2 ^ 31) (ea : pu i = nI a) : upd pu i (pu i - mn (nI z) (pu i)) i = nI (a - min z a) := by
  rw [pk_us, ea, mn_nI hz ha, pk_sub (Nat.min_le_right z a)]
theorem dieC (P : Nat) (B : zB) (i : Nat) : ∀ (n k : Nat) (Y : zY), Y.1 i ≠ nI 1 → (∃ a, a < 2 ^ 31 ∧ Y.2.1 i = nI a) → (∀ j, k ≤ j → j < k + n → ∃ z, z < 2 ^ 31 ∧ B.2.2.2.2.2.2.2.1 j = nI z) →
    ∃ br, f_X5_die_16 P B i n k Y = (Y.1, (pyG (lvC Y.1 P) i (nzl (yFr B) (yTo B) (ySz B) (nI i) n k) Y.2.1 Y.2.2.2.2.2.1).1, Y.2.2.1, Y.2.2.2.1, Y.2.2.2.2.1, (pyG (lvC Y.1 P) i (nzl (yFr B) (yTo B) (ySz B) (nI i) n k) Y.2.1 Y.2.2.2.2.2.1).2, br)
  | 0, k, Y, _, _, _ => ⟨Y.2.2.2.2.2.2, rfl⟩
  | n + 1, k, Y, hs, ⟨a, ha, ea⟩, hz => by
    obtain ⟨z, hz1, ez⟩ := hz k (by omega) (by omega)
    have hz' : ∀ j, k + 1 ≤ j → j < k + 1 + n → ∃ z, z < 2 ^ 31 ∧ B.2.2.2.2.2.2.2.1 j = nI z := fun j h1 h2 => hz j (by omega) (by omega)
    rw [f_X5_die_16, nzl]
    by_cases h : B.2.2.2.2.2.1 k = nI i
    · rw [if_pos h, if_pos h]
      by_cases h0 : B.2.2.2.2.2.2.2.1 k = nI 0
      · rw [if_pos h0]
        obtain ⟨br, e⟩ := pay_zero (P := P) (B := B) (k := k) ha ea h0
        rw [e]
        exact dieC P B i n (k + 1) (Y.1, Y.2.1, Y.2.2.1, Y.2.2.2.1, Y.2.2.2.2.1, Y.2.2.2.2.2.1, br) hs ⟨a, ha, ea⟩ hz'
      · rw [if_neg h0, pyG, pay_eq]
        by_cases hl : lvC Y.1 P (B.2.2.2.2.2.2.1 k) = true
        · rw [if_pos hl, if_pos hl]
          refine dieC P B i n (k + 1) _ hs ⟨a - min z a, by omega, ?_⟩ hz'
          show upd (upd Y.2.1 i (Y.2.1 i - mn (B.2.2.2.2.2.2.2.1 k) (Y.2.1 i))) _ _ i = _
          rw [ez]
          exact pu_after ha hz1 ea (lvC_ne hl hs)
        · rw [if_neg hl, if_neg hl]
          refine dieC P B i n (k + 1) (Y.1, (upd Y.2.1 i ((Y.2.1 i) - mn (B.2.2.2.2.2.2.2.1 k) (Y.2.1 i))), Y.2.2) hs ⟨a - min z a, by omega, ?_⟩ hz'
          show upd Y.2.1 i (Y.2.1 i - mn (B.2.2.2.2.2.2.2.1 k) (Y.2.1 i)) i = _
          rw [ez]
          exact pu_after2 ha hz1 ea
    · rw [if_neg h, if_neg h]
      exact dieC P B i n (k + 1) Y hs ⟨a, ha, ea⟩ hz'
theorem mn_le {a b : Int32} (h : b ≤ a) : mn a b = b := if_neg (fun q => absurd h (Int32.not_le.mpr q))
theorem mn_gt {a b : Int32} (h : ¬ b ≤ a) : mn a b = a := if_pos (Int32.not_le.mp h)
theorem die9_step (w mon mdi : zF) (i yr n k : Nat) (mco mgo mbr : zF) : f_X7_die_9 w mon mdi i yr (n + 1) k mco mgo mbr = if w (3 * k) = nI i then (if lvM mon (upd mdi i (nI yr)) yr (w (3 * k + 1)) = true then f_X7_die_9 w mon mdi i yr n (k + 1) (upd (upd mco i (mco i - mn (w (3 * k + 2)) (mco i))) (w (3 * k + 1)).toNatClampNeg (upd mco i (mco i - mn (w (3 * k + 2)) (mco i)) (w (3 * k + 1)).toNatClampNeg + mn (w (3 * k + 2)) (mco i))) (upd mgo (w (3 * k + 1)).toNatClampNeg (mgo (w (3 * k + 1)).toNatClampNeg + mn (w (3 * k + 2)) (mco i))) (upd mbr k (mbr k + mn (w (3 * k + 2)) (mco i))) else f_X7_die_9 w mon mdi i yr n (k + 1) (upd mco i (mco i - mn (w (3 * k + 2)) (mco i))) mgo mbr) else f_X7_die_9 w mon mdi i yr n (k + 1) mco mgo mbr := by
  rw [f_X7_die_9]
  by_cases h : w (3 * k) = nI i
  · rw [if_pos h, if_pos h]
    by_cases hm : mco i ≤ w (3 * k + 2)
    · rw [if_pos hm, mn_le hm]
      by_cases ht : w (3 * k + 1) < 0
      · rw [if_pos ht]
        have e : lvM mon (upd mdi i (nI yr)) yr (w (3 * k + 1)) = false := if_pos ht
        rw [e, if_neg (by decide)]
      · rw [if_neg ht]
        have e : lvM mon (upd mdi i (nI yr)) yr (w (3 * k + 1)) = s_X7_lives mon (upd mdi i (nI yr)) (w (3 * k + 1)).toNatClampNeg yr := if_neg ht
        rw [e]
    · rw [if_neg hm, mn_gt hm]
      by_cases ht : w (3 * k + 1) < 0
      · rw [if_pos ht]
        have e : lvM mon (upd mdi i (nI yr)) yr (w (3 * k + 1)) = false := if_pos ht
        rw [e, if_neg (by decide)]
      · rw [if_neg ht]
        have e : lvM mon (upd mdi i (nI yr)) yr (w (3 * k + 1)) = s_X7_lives mon (upd mdi i (nI yr)) (w (3 * k + 1)).toNatClampNeg yr := if_neg ht
        rw [e]
  · rw [if_neg h, if_neg h]
theorem lvM_ne {mon mdi : zF} {yr i : Nat} {t : Int32} (h : lvM mon mdi yr t = true) (hi : s_X7_lives mon mdi i yr = false) : t.toNatClampNeg ≠ i := by
  intro e
  unfold lvM at h
  split at h
  · cases h
  · rw [e, hi] at h
    cases h
theorem mco_zero {mco : zF} {i t a : Nat} (ha : a < 2 ^ 31) (ea : mco i = nI a) : mn (nI 0) (mco i) = nI 0 := by
  rw [ea, mn_nI (by decide) ha, Nat.zero_min]
theorem dieM (w mon mdi : zF) (i yr : Nat) (hi : s_X7_lives mon (upd mdi i (nI yr)) i yr = false) : ∀ (n k : Nat) (mco mgo mbr : zF), (∃ a, a < 2 ^ 31 ∧ mco i = nI a) → (∀ j, k ≤ j → j < k + n → ∃ z, z < 2 ^ 31 ∧ w (3 * j + 2) = nI z) →
    ∃ br, f_X7_die_9 w mon mdi i yr n k mco mgo mbr = ((pyG (lvM mon (upd mdi i (nI yr)) yr) i (nzl (w3 w 0) (w3 w 1) (w3 w 2) (nI i) n k) mco mgo).1, (pyG (lvM mon (upd mdi i (nI yr)) yr) i (nzl (w3 w 0) (w3 w 1) (w3 w 2) (nI i) n k) mco mgo).2, br)
  | 0, k, mco, mgo, mbr, _, _ => ⟨mbr, rfl⟩
  | n + 1, k, mco, mgo, mbr, ⟨a, ha, ea⟩, hz => by
    obtain ⟨z, hz1, ez⟩ := hz k (by omega) (by omega)
    have hz' : ∀ j, k + 1 ≤ j → j < k + 1 + n → ∃ z, z < 2 ^ 31 ∧ w (3 * j + 2) = nI z := fun j h1 h2 => hz j (by omega) (by omega)
    rw [die9_step, nzl]
    by_cases h : w (3 * k) = nI i
    · have h' : w3 w 0 k = nI i := h
      rw [if_pos h, if_pos h']
      by_cases h0 : w (3 * k + 2) = nI 0
      · have h0' : w3 w 2 k = nI 0 := h0
        rw [if_pos h0', h0, mco_zero (t := 0) ha ea, z_sub0, upd_id, z_add0, upd_id, z_add0, upd_id]
        by_cases hl : lvM mon (upd mdi i (nI yr)) yr (w (3 * k + 1)) = true
        · rw [if_pos hl]
          exact dieM w mon mdi i yr hi n (k + 1) mco mgo _ ⟨a, ha, ea⟩ hz'
        · rw [if_neg hl]
          exact dieM w mon mdi i yr hi n (k + 1) mco mgo _ ⟨a, ha, ea⟩ hz'
      · have h0' : ¬ w3 w 2 k = nI 0 := h0
        rw [if_neg h0', pyG]
        by_cases hl : lvM mon (upd mdi i (nI yr)) yr (w (3 * k + 1)) = true
        · have hl' : lvM mon (upd mdi i (nI yr)) yr (w3 w 1 k) = true := hl
          rw [if_pos hl, if_pos hl']
          refine dieM w mon mdi i yr hi n (k + 1) _ _ _ ⟨a - min z a, by omega, ?_⟩ hz'
          rw [ez]
          exact pu_after ha hz1 ea (lvM_ne hl hi)
        · have hl' : ¬ lvM mon (upd mdi i (nI yr)) yr (w3 w 1 k) = true := hl
          rw [if_neg hl, if_neg hl']
          refine dieM w mon mdi i yr hi n (k + 1) _ _ _ ⟨a - min z a, by omega, ?_⟩ hz'
          rw [ez]
          exact pu_after2 ha hz1 ea
    · have h' : ¬ w3 w 0 k = nI i := h
      rw [if_neg h, if_neg h']
      exact dieM w mon mdi i yr hi n (k + 1) mco mgo mbr ⟨a, ha, ea⟩ hz'
/-- two payings out of one list, by purses that differ by of (nothing for the giver) -/
theorem pyG_rel {P i : Nat} {of : zF} {lv lv2 : Int32 → Bool} (hi : i < P) (hof : of i = nI 0) : ∀ (l : List (Int32 × Int32)) (pu go pu2 go2 : zF), (∀ e ∈ l, lv e.1 = lv2 e.1 ∧ (lv e.1 = true → e.1.toNatClampNeg < P)) → (∀ j, j < P → pu2 j = pu j + of j) → (∀ j, j < P → go2 j = go j) →
    (∀ j, j < P → (pyG lv2 i l pu2 go2).1 j = (pyG lv i l pu go).1 j + of j) ∧ (∀ j, j < P → (pyG lv2 i l pu2 go2).2 j = (pyG lv i l pu go).2 j)
  | [], pu, go, pu2, go2, _, h1, h2 => ⟨h1, h2⟩
  | e :: r, pu, go, pu2, go2, he, h1, h2 => by
    obtain ⟨e1, e2⟩ := he e List.mem_cons_self
    have hr : ∀ x ∈ r, lv x.1 = lv2 x.1 ∧ (lv x.1 = true → x.1.toNatClampNeg < P) := fun x hx => he x (List.mem_cons_of_mem _ hx)
    have ei : pu2 i = pu i := by rw [h1 i hi, hof, z_add0]
    rw [pyG, pyG, ei, ← e1]
    have hp : ∀ j, j < P → upd pu2 i (pu i - mn e.2 (pu i)) j = upd pu i (pu i - mn e.2 (pu i)) j + of j := by
      intro j hj
      by_cases q : j = i
      · subst q
        rw [pk_us, pk_us, hof, z_add0]
      · rw [pk_un q, pk_un q]
        exact h1 j hj
    by_cases hl : lv e.1 = true
    · rw [if_pos hl, if_pos hl]
      refine pyG_rel hi hof r _ _ _ _ hr (fun j hj => ?_) (fun j hj => ?_)
      · by_cases q : j = e.1.toNatClampNeg
        · rw [q, pk_us, pk_us, hp _ (e2 hl), Int32.add_assoc, Int32.add_comm (of _) (mn _ _), ← Int32.add_assoc]
        · rw [pk_un q, pk_un q]
          exact hp j hj
      · by_cases q : j = e.1.toNatClampNeg
        · rw [q, pk_us, pk_us, h2 _ (e2 hl)]
        · rw [pk_un q, pk_un q]
          exact h2 j hj
    · rw [if_neg hl, if_neg hl]
      exact pyG_rel hi hof r _ _ _ _ hr hp h2
/-- nobody else loses by a death, and nobody gains more than is left -/
theorem pyG_mono {i : Nat} {lv : Int32 → Bool} : ∀ (l : List (Int32 × Int32)) (pu go : zF) (a : Nat), (∀ e ∈ l, (∃ z, z ≤ 99 ∧ e.2 = nI z) ∧ (lv e.1 = true → e.1.toNatClampNeg ≠ i)) → a < 2 ^ 30 → pu i = nI a → ∀ (j b : Nat), j ≠ i → pu j = nI b → b + 99 * l.length < 2 ^ 30 → ∃ b2, (pyG lv i l pu go).1 j = nI b2 ∧ b ≤ b2 ∧ b2 ≤ b + 99 * l.length
  | [], pu, go, a, _, _, _, j, b, _, hb, _ => ⟨b, hb, Nat.le_refl _, by simp⟩
  | e :: r, pu, go, a, he, ha, ea, j, b, hj, hb, hB => by
    obtain ⟨⟨z, hz, ez⟩, e2⟩ := he e List.mem_cons_self
    have hr : ∀ x ∈ r, (∃ z, z ≤ 99 ∧ x.2 = nI z) ∧ (lv x.1 = true → x.1.toNatClampNeg ≠ i) := fun x hx => he x (List.mem_cons_of_mem _ hx)
    have hlen : (e :: r).length = r.length + 1 := rfl
    rw [hlen] at hB ⊢
    have em : mn e.2 (pu i) = nI (min z a) := by rw [ez, ea, mn_nI (by omega) (by omega)]
    have hm : min z a ≤ 99 := Nat.le_trans (Nat.min_le_left z a) hz
    have h1 : upd pu i (pu i - mn e.2 (pu i)) i = nI (a - min z a) := by
      rw [pk_us, em, ea, pk_sub (Nat.min_le_right z a)]
    have h2 : upd pu i (pu i - mn e.2 (pu i)) j = nI b := by rw [pk_un hj]; exact hb
    rw [pyG]
    by_cases hl : lv e.1 = true
    · rw [if_pos hl]
      have h3 := e2 hl
      by_cases q : j = e.1.toNatClampNeg
      · obtain ⟨b2, x1, x2, x3⟩ := pyG_mono r (upd (upd pu i (pu i - mn e.2 (pu i))) e.1.toNatClampNeg (upd pu i (pu i - mn e.2 (pu i)) e.1.toNatClampNeg + mn e.2 (pu i))) (upd go e.1.toNatClampNeg (go e.1.toNatClampNeg + mn e.2 (pu i))) (a - min z a) hr (by omega) (by rw [pk_un (Ne.symm h3)]; exact h1) j (b + min z a) hj (by rw [q, pk_us, ← q, h2, em, nI_add]) (by omega)
        exact ⟨b2, x1, by omega, by omega⟩
      · obtain ⟨b2, x1, x2, x3⟩ := pyG_mono r (upd (upd pu i (pu i - mn e.2 (pu i))) e.1.toNatClampNeg (upd pu i (pu i - mn e.2 (pu i)) e.1.toNatClampNeg + mn e.2 (pu i))) (upd go e.1.toNatClampNeg (go e.1.toNatClampNeg + mn e.2 (pu i))) (a - min z a) hr (by omega) (by rw [pk_un (Ne.symm h3)]; exact h1) j b hj (by rw [pk_un q]; exact h2) (by omega)
        exact ⟨b2, x1, by omega, by omega⟩
    · rw [if_neg hl]
      obtain ⟨b2, x1, x2, x3⟩ := pyG_mono r _ go (a - min z a) hr (by omega) h1 j b hj h2 (by omega)
      exact ⟨b2, x1, by omega, by omega⟩
