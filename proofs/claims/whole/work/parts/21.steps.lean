/-! ===== the steps of a year, on both sides ===== -/
def ofs (i0 : Nat) (d : Int32) (st : zF) : zF := fun j => if j = i0 ∧ st j = nI 1 then d else nI 0
theorem bearC_at (B : zB) (yr : Nat) : ∀ (n k : Nat) (Y : zY), ∃ st pu, f_X5_bear_2 B yr n k Y = (st, pu, Y.2.2) ∧ ∀ j, (st j = if k ≤ j ∧ j < k + n ∧ B.1 j = nI yr then nI 1 else Y.1 j) ∧ (pu j = if k ≤ j ∧ j < k + n ∧ B.1 j = nI yr then B.2.2.2.2.1 j else Y.2.1 j)
  | 0, k, Y => ⟨Y.1, Y.2.1, rfl, fun j => ⟨(if_neg (by omega)).symm, (if_neg (by omega)).symm⟩⟩
  | n + 1, k, Y => by
    rw [f_X5_bear_2]
    by_cases h : B.1 k = nI yr
    · rw [if_pos h]
      obtain ⟨st, pu, e, hh⟩ := bearC_at B yr n (k + 1) ((upd Y.1 k (nI 1)), (upd Y.2.1 k (B.2.2.2.2.1 k)), Y.2.2)
      refine ⟨st, pu, e, fun j => ?_⟩
      obtain ⟨h1, h2⟩ := hh j
      rw [h1, h2]
      by_cases q : j = k
      · subst q
        have c1 : ¬ (j + 1 ≤ j ∧ j < j + 1 + n ∧ B.1 j = nI yr) := by omega
        have c2 : j ≤ j ∧ j < j + (n + 1) ∧ B.1 j = nI yr := ⟨Nat.le_refl _, by omega, h⟩
        rw [if_neg c1, if_neg c1, if_pos c2, if_pos c2]
        exact ⟨pk_us, pk_us⟩
      · show (if _ then nI 1 else upd Y.1 k (nI 1) j) = _ ∧ (if _ then B.2.2.2.2.1 j else upd Y.2.1 k _ j) = _
        rw [pk_un q, pk_un q]
        by_cases c : k + 1 ≤ j ∧ j < k + 1 + n ∧ B.1 j = nI yr
        · rw [if_pos c, if_pos c, if_pos ⟨by omega, by omega, c.2.2⟩, if_pos ⟨by omega, by omega, c.2.2⟩]
          exact ⟨rfl, rfl⟩
        · have c2 : ¬ (k ≤ j ∧ j < k + (n + 1) ∧ B.1 j = nI yr) := fun x => c ⟨by omega, by omega, x.2.2⟩
          rw [if_neg c, if_neg c, if_neg c2, if_neg c2]
          exact ⟨rfl, rfl⟩
    · rw [if_neg h]
      obtain ⟨st, pu, e, hh⟩ := bearC_at B yr n (k + 1) Y
      refine ⟨st, pu, e, fun j => ?_⟩
      obtain ⟨h1, h2⟩ := hh j
      rw [h1, h2]
      by_cases c : k + 1 ≤ j ∧ j < k + 1 + n ∧ B.1 j = nI yr
      · rw [if_pos c, if_pos c, if_pos ⟨by omega, by omega, c.2.2⟩, if_pos ⟨by omega, by omega, c.2.2⟩]
        exact ⟨rfl, rfl⟩
      · have c2 : ¬ (k ≤ j ∧ j < k + (n + 1) ∧ B.1 j = nI yr) := fun x => by
          by_cases q : j = k
          · subst q; exact h x.2.2
          · exact c ⟨by omega, by omega, x.2.2⟩
        rw [if_neg c, if_neg c, if_neg c2, if_neg c2]
        exact ⟨rfl, rfl⟩
theorem bearM_at (mon : zF) (yr : Nat) : ∀ (n k : Nat) (mco : zF) (j : Nat), f_X7_run_72 mon yr n k mco j = if k ≤ j ∧ j < k + n ∧ mon (5 * j) = nI yr then mco j + mon (5 * j + 4) else mco j
  | 0, k, mco, j => (if_neg (by omega)).symm
  | n + 1, k, mco, j => by
    rw [f_X7_run_72]
    by_cases h : mon (5 * k) = nI yr
    · rw [if_pos h, bearM_at mon yr n (k + 1) _ j]
      by_cases q : j = k
      · subst q
        rw [if_neg (by omega), if_pos ⟨Nat.le_refl _, by omega, h⟩, pk_us]
      · rw [pk_un q]
        by_cases c : k + 1 ≤ j ∧ j < k + 1 + n ∧ mon (5 * j) = nI yr
        · rw [if_pos c, if_pos ⟨by omega, by omega, c.2.2⟩]
        · have c2 : ¬ (k ≤ j ∧ j < k + (n + 1) ∧ mon (5 * j) = nI yr) := fun x => c ⟨by omega, by omega, x.2.2⟩
          rw [if_neg c, if_neg c2]
    · rw [if_neg h, z_add0, upd_id, bearM_at mon yr n (k + 1) _ j]
      by_cases c : k + 1 ≤ j ∧ j < k + 1 + n ∧ mon (5 * j) = nI yr
      · rw [if_pos c, if_pos ⟨by omega, by omega, c.2.2⟩]
      · have c2 : ¬ (k ≤ j ∧ j < k + (n + 1) ∧ mon (5 * j) = nI yr) := fun x => by
          by_cases q : j = k
          · subst q; exact h x.2.2
          · exact c ⟨by omega, by omega, x.2.2⟩
        rw [if_neg c, if_neg c2]
theorem lives_iff {mon mdi : zF} {j yr b : Nat} (hb : mon (5 * j) = nI b) (h1 : b < 2 ^ 31) (h2 : yr < 2 ^ 31) : s_X7_lives mon mdi j yr = true ↔ mdi j < 0 ∧ b ≤ yr := by
  unfold s_X7_lives
  rw [hb]
  by_cases h : 0 ≤ mdi j
  · rw [if_pos h]
    exact ⟨fun q => (by cases q), fun q => absurd q.1 (fun z => absurd h (Int32.not_le.mpr z))⟩
  · rw [if_neg h]
    have h' : mdi j < 0 := Int32.not_le.mp h
    by_cases c : nI yr < nI b
    · rw [if_pos c]
      rw [nI_ltI h2 h1] at c
      exact ⟨fun q => (by cases q), fun q => by omega⟩
    · rw [if_neg c]
      rw [nI_ltI h2 h1] at c
      exact ⟨fun _ => ⟨h', by omega⟩, fun _ => rfl⟩
/-- help, on both sides -/
theorem help_rel {P : Nat} {B : zB} {yr : Nat} {mno mon mdi of : zF} (hP : P < 2 ^ 31) (hh : ∀ h, mno (28 + 3 * h) = B.2.2.2.2.2.2.2.2.1 h ∧ mno (28 + 3 * h + 1) = B.2.2.2.2.2.2.2.2.2.1 h ∧ mno (28 + 3 * h + 2) = B.2.2.2.2.2.2.2.2.2.2 h → True) : ∀ (n k : Nat) (Y : zY) (mco : zF),
    (∀ h, k ≤ h → h < k + n → mno (28 + 3 * h) = B.2.2.2.2.2.2.2.2.1 h ∧ mno (28 + 3 * h + 1) = B.2.2.2.2.2.2.2.2.2.1 h ∧ mno (28 + 3 * h + 2) = B.2.2.2.2.2.2.2.2.2.2 h ∧ ∃ f, f < P ∧ B.2.2.2.2.2.2.2.2.1 h = nI f) →
    (∀ j, j < P → (Y.1 j = nI 1 ↔ s_X7_lives mon mdi j yr = true)) → (∀ j, j < P → mco j = Y.2.1 j + of j) →
    ∃ pu, f_X5_bringHelp_2 P B yr n k Y = (Y.1, pu, Y.2.2) ∧ ∀ j, j < P → f_X7_run_123 mno mon yr mdi n k mco j = pu j + of j
  | 0, k, Y, mco, _, _, h2 => ⟨Y.2.1, rfl, h2⟩
  | n + 1, k, Y, mco, hk, hl, h2 => by
    obtain ⟨e1, e2, e3, f, hf, ef⟩ := hk k (Nat.le_refl _) (by omega)
    have hk' := fun h (a : k + 1 ≤ h) (b : h < k + 1 + n) => hk h (by omega) (by omega)
    rw [f_X5_bringHelp_2, f_X7_run_123]
    have c1 : mno ((28 + (3 * k)) + 1) = B.2.2.2.2.2.2.2.2.2.1 k := e2
    have c0 : mno (28 + (3 * k)) = nI f := by rw [show mno (28 + (3 * k)) = _ from e1, ef]
    have c2 : mno ((28 + (3 * k)) + 2) = B.2.2.2.2.2.2.2.2.2.2 k := e3
    rw [c1, c2, c0, ef, nI_clamp (by omega)]
    by_cases h : B.2.2.2.2.2.2.2.2.2.1 k = nI yr
    · rw [if_pos h, if_pos h]
      have hlv : s_X5_isLiving Y P (nI f) = true ↔ s_X7_lives mon mdi f yr = true := (lvC_nI hf hP).trans (hl f hf)
      by_cases hv : s_X7_lives mon mdi f yr = true
      · rw [if_pos (hlv.mpr hv), if_pos hv]
        obtain ⟨pu, e, hp⟩ := help_rel hP hh n (k + 1) (Y.1, (upd Y.2.1 f ((Y.2.1 f) + (B.2.2.2.2.2.2.2.2.2.2 k))), Y.2.2) (upd mco f ((mco f) + (B.2.2.2.2.2.2.2.2.2.2 k))) hk' hl (fun j hj => by
          show _ = upd Y.2.1 f _ j + of j
          by_cases q : j = f
          · subst q
            rw [pk_us, pk_us, h2 j hj, Int32.add_assoc, Int32.add_comm (of j), ← Int32.add_assoc]
          · rw [pk_un q, pk_un q]
            exact h2 j hj)
        exact ⟨pu, e, hp⟩
      · rw [if_neg (fun q => hv (hlv.mp q)), if_neg hv, z_add0, upd_id]
        exact help_rel hP hh n (k + 1) Y mco hk' hl h2
    · rw [if_neg h, if_neg h, z_add0, upd_id]
      exact help_rel hP hh n (k + 1) Y mco hk' hl h2
/-- help alone: nobody loses -/
theorem help_mono {P : Nat} {B : zB} {yr : Nat} (hP : P < 2 ^ 31) : ∀ (n k : Nat) (Y : zY),
    (∀ h, k ≤ h → h < k + n → (∃ f, f < P ∧ B.2.2.2.2.2.2.2.2.1 h = nI f) ∧ ∃ c, c ≤ 99 ∧ B.2.2.2.2.2.2.2.2.2.2 h = nI c) →
    ∃ pu, f_X5_bringHelp_2 P B yr n k Y = (Y.1, pu, Y.2.2) ∧ (∀ j, Y.1 j ≠ nI 1 → pu j = Y.2.1 j) ∧ ∀ j b, Y.2.1 j = nI b → b + 99 * n < 2 ^ 30 → ∃ b2, pu j = nI b2 ∧ b ≤ b2 ∧ b2 ≤ b + 99 * n
  | 0, k, Y, _ => ⟨Y.2.1, rfl, fun _ _ => rfl, fun j b h _ => ⟨b, h, Nat.le_refl _, by omega⟩⟩
  | n + 1, k, Y, hk => by
    obtain ⟨⟨f, hf, ef⟩, c, hc, ec⟩ := hk k (Nat.le_refl _) (by omega)
    have hk' := fun h (a : k + 1 ≤ h) (b : h < k + 1 + n) => hk h (by omega) (by omega)
    rw [f_X5_bringHelp_2, ef, ec, nI_clamp (by omega)]
    by_cases h : B.2.2.2.2.2.2.2.2.2.1 k = nI yr
    · rw [if_pos h]
      by_cases hv : s_X5_isLiving Y P (nI f) = true
      · rw [if_pos hv]
        have hst : Y.1 f = nI 1 := (lvC_nI hf hP).mp hv
        obtain ⟨pu, e, h0, hp⟩ := help_mono (yr := yr) hP n (k + 1) (Y.1, (upd Y.2.1 f ((Y.2.1 f) + (nI c))), Y.2.2) hk'
        refine ⟨pu, e, fun j hj => ?_, fun j b hb hB => ?_⟩
        · rw [h0 j hj]
          show upd Y.2.1 f _ j = _
          exact pk_un (fun q => hj (q ▸ hst))
        · by_cases q : j = f
          · subst q
            obtain ⟨b2, x1, x2, x3⟩ := hp j (b + c) (by show upd Y.2.1 j _ j = _; rw [pk_us, hb, nI_add]) (by omega)
            exact ⟨b2, x1, by omega, by omega⟩
          · obtain ⟨b2, x1, x2, x3⟩ := hp j b (by show upd Y.2.1 f _ j = _; rw [pk_un q]; exact hb) (by omega)
            exact ⟨b2, x1, by omega, by omega⟩
      · rw [if_neg hv]
        obtain ⟨pu, e, h0, hp⟩ := help_mono (yr := yr) hP n (k + 1) Y hk'
        refine ⟨pu, e, h0, fun j b hb hB => ?_⟩
        obtain ⟨b2, x1, x2, x3⟩ := hp j b hb (by omega)
        exact ⟨b2, x1, by omega, by omega⟩
    · rw [if_neg h]
      obtain ⟨pu, e, h0, hp⟩ := help_mono (yr := yr) hP n (k + 1) Y hk'
      refine ⟨pu, e, h0, fun j b hb hB => ?_⟩
      obtain ⟨b2, x1, x2, x3⟩ := hp j b hb (by omega)
      exact ⟨b2, x1, by omega, by omega⟩
theorem ite_tf {α : Type} {p : Prop} [Decidable p] (a b : α) : (if (if p then true else false) = true then a else b) = if p then a else b := by
  by_cases h : p
  · rw [if_pos h, if_pos rfl, if_pos h]
  · rw [if_neg h, if_neg (by decide), if_neg h]
/-- wages, on both sides -/
theorem gain_eq {B : zB} {sd : Int32} {mon : zF} {i yr kd : Nat} (h0 : mon (5 * i) = B.1 i) (h1 : mon (5 * i + 1) = B.2.1 i) (h3 : mon (5 * i + 3) = B.2.2.2.1 i) (hk : B.2.2.2.1 i = nI kd) (hk2 : kd ≤ 3) : s_X7_gainOf sd mon i yr = if nI yr - B.1 i < nI 10 then nI 0 else s_X5_wages sd B i yr := by
  unfold s_X7_gainOf s_X5_wages
  have h3' : mon ((5 * i) + 3) = nI kd := by rw [← hk]; exact h3
  have h1' : mon ((5 * i) + 1) = B.2.1 i := h1
  rw [h0, h1', h3', hk]
  by_cases c : nI yr - B.1 i < nI 10
  · rw [if_pos c, if_neg (Int32.not_le.mpr c)]
  · rw [if_neg c, if_pos (Int32.not_lt.mp c)]
    have : kd = 0 ∨ kd = 1 ∨ kd = 2 ∨ kd = 3 := by omega
    rcases this with rfl | rfl | rfl | rfl
    · rw [if_pos (rfl : nI 0 = nI 0), if_pos (rfl : nI 0 = nI 0)]
    · have a : ¬ nI 1 = nI 0 := by decide
      rw [if_neg a, if_pos (rfl : nI 1 = nI 1), if_neg a, if_pos (rfl : nI 1 = nI 1)]
      exact (ite_tf _ _).symm
    · have a : ¬ nI 2 = nI 0 := by decide
      have b : ¬ nI 2 = nI 1 := by decide
      rw [if_neg a, if_neg b, if_pos (rfl : nI 2 = nI 2), if_neg a, if_neg b, if_pos (rfl : nI 2 = nI 2)]
    · have a : ¬ nI 3 = nI 0 := by decide
      have b : ¬ nI 3 = nI 1 := by decide
      have d : ¬ nI 3 = nI 2 := by decide
      rw [if_neg a, if_neg b, if_neg d, if_neg a, if_neg b, if_neg d, if_pos (rfl : nI 3 = nI 3)]
      by_cases c2 : nI yr - B.1 i < nI 30
      · rw [if_pos c2, if_neg (Int32.not_le.mpr c2)]
      · rw [if_neg c2, if_pos (Int32.not_lt.mp c2)]
theorem workC_at (sd : Int32) (B : zB) (yr : Nat) : ∀ (n k : Nat) (Y : zY), ∃ pu, f_X5_work_2 sd B yr n k Y = (Y.1, pu, Y.2.2) ∧ ∀ j, pu j = if k ≤ j ∧ j < k + n ∧ Y.1 j = nI 1 ∧ ¬ nI yr - B.1 j < nI 10 then Y.2.1 j + s_X5_wages sd B j yr else Y.2.1 j
  | 0, k, Y => ⟨Y.2.1, rfl, fun j => (if_neg (by omega)).symm⟩
  | n + 1, k, Y => by
    rw [f_X5_work_2]
    by_cases h : Y.1 k = nI 1
    · rw [if_pos h]
      by_cases g : nI yr - B.1 k < nI 10
      · rw [if_pos g]
        obtain ⟨pu, e, hh⟩ := workC_at sd B yr n (k + 1) Y
        refine ⟨pu, e, fun j => ?_⟩
        rw [hh j]
        by_cases c : k + 1 ≤ j ∧ j < k + 1 + n ∧ Y.1 j = nI 1 ∧ ¬ nI yr - B.1 j < nI 10
        · rw [if_pos c, if_pos ⟨by omega, by omega, c.2.2⟩]
        · have c2 : ¬ (k ≤ j ∧ j < k + (n + 1) ∧ Y.1 j = nI 1 ∧ ¬ nI yr - B.1 j < nI 10) := fun x => by
            by_cases q : j = k
            · subst q; exact x.2.2.2 g
            · exact c ⟨by omega, by omega, x.2.2⟩
          rw [if_neg c, if_neg c2]
      · rw [if_neg g]
        obtain ⟨pu, e, hh⟩ := workC_at sd B yr n (k + 1) (Y.1, (upd Y.2.1 k ((Y.2.1 k) + (s_X5_wages sd B k yr))), Y.2.2)
        refine ⟨pu, e, fun j => ?_⟩
        rw [hh j]
        show (if k + 1 ≤ j ∧ j < k + 1 + n ∧ Y.1 j = nI 1 ∧ ¬ nI yr - B.1 j < nI 10 then upd Y.2.1 k _ j + _ else upd Y.2.1 k _ j) = _
        by_cases q : j = k
        · subst q
          rw [if_neg (by omega), if_pos ⟨Nat.le_refl _, by omega, h, g⟩, pk_us]
        · rw [pk_un q]
          by_cases c : k + 1 ≤ j ∧ j < k + 1 + n ∧ Y.1 j = nI 1 ∧ ¬ nI yr - B.1 j < nI 10
          · rw [if_pos c, if_pos ⟨by omega, by omega, c.2.2⟩]
          · have c2 : ¬ (k ≤ j ∧ j < k + (n + 1) ∧ Y.1 j = nI 1 ∧ ¬ nI yr - B.1 j < nI 10) := fun x => c ⟨by omega, by omega, x.2.2⟩
            rw [if_neg c, if_neg c2]
    · rw [if_neg h]
      obtain ⟨pu, e, hh⟩ := workC_at sd B yr n (k + 1) Y
      refine ⟨pu, e, fun j => ?_⟩
      rw [hh j]
      by_cases c : k + 1 ≤ j ∧ j < k + 1 + n ∧ Y.1 j = nI 1 ∧ ¬ nI yr - B.1 j < nI 10
      · rw [if_pos c, if_pos ⟨by omega, by omega, c.2.2⟩]
      · have c2 : ¬ (k ≤ j ∧ j < k + (n + 1) ∧ Y.1 j = nI 1 ∧ ¬ nI yr - B.1 j < nI 10) := fun x => by
          by_cases q : j = k
          · subst q; exact h x.2.2.1
          · exact c ⟨by omega, by omega, x.2.2⟩
        rw [if_neg c, if_neg c2]
theorem workM_at (mls : Int32) (mon : zF) (yr : Nat) (mdi : zF) : ∀ (n k : Nat) (mco : zF) (j : Nat), f_X7_run_206 mls mon yr mdi n k mco j = if k ≤ j ∧ j < k + n ∧ s_X7_lives mon mdi j yr = true then mco j + s_X7_gainOf mls mon j yr else mco j
  | 0, k, mco, j => (if_neg (by omega)).symm
  | n + 1, k, mco, j => by
    rw [f_X7_run_206]
    by_cases h : s_X7_lives mon mdi k yr = true
    · rw [if_pos h, workM_at mls mon yr mdi n (k + 1) _ j]
      by_cases q : j = k
      · subst q
        rw [if_neg (by omega), if_pos ⟨Nat.le_refl _, by omega, h⟩, pk_us]
      · rw [pk_un q]
        by_cases c : k + 1 ≤ j ∧ j < k + 1 + n ∧ s_X7_lives mon mdi j yr = true
        · rw [if_pos c, if_pos ⟨by omega, by omega, c.2.2⟩]
        · have c2 : ¬ (k ≤ j ∧ j < k + (n + 1) ∧ s_X7_lives mon mdi j yr = true) := fun x => c ⟨by omega, by omega, x.2.2⟩
          rw [if_neg c, if_neg c2]
    · rw [if_neg h, z_add0, upd_id, workM_at mls mon yr mdi n (k + 1) _ j]
      by_cases c : k + 1 ≤ j ∧ j < k + 1 + n ∧ s_X7_lives mon mdi j yr = true
      · rw [if_pos c, if_pos ⟨by omega, by omega, c.2.2⟩]
      · have c2 : ¬ (k ≤ j ∧ j < k + (n + 1) ∧ s_X7_lives mon mdi j yr = true) := fun x => by
          by_cases q : j = k
          · subst q; exact h x.2.2
          · exact c ⟨by omega, by omega, x.2.2⟩
        rw [if_neg c, if_neg c2]
theorem wages_le {sd : Int32} {B : zB} {i yr g : Nat} (hg : B.2.1 i = nI g) (hg9 : g ≤ 9) : ∃ w, w ≤ 18 ∧ s_X5_wages sd B i yr = nI w := by
  unfold s_X5_wages
  rw [hg]
  have e2 : nI 2 * nI g = nI (2 * g) := pk_mul 2 g
  have e3 : nI g / nI 2 = nI (g / 2) := pk_div (by omega) (by decide) (by decide)
  rw [e2, e3]
  repeat' split
  · exact ⟨g, by omega, rfl⟩
  · exact ⟨2 * g, by omega, rfl⟩
  · exact ⟨0, by omega, rfl⟩
  · exact ⟨g / 2, by omega, rfl⟩
  · exact ⟨0, by omega, rfl⟩
  · exact ⟨2 * g, by omega, rfl⟩
  · exact ⟨0, by omega, rfl⟩
