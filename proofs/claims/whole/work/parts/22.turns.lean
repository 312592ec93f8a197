/-! ===== turns, on both sides ===== -/
def yRL (P i0 : Nat) (d : Int32) (bn : Nat → Nat) (y : Nat) (Y : zY) (mdi mco mgo : zF) : Prop := ∀ j, j < P →
  (y ≤ bn j → Y.1 j = nI 0 ∧ mdi j < 0 ∧ Y.2.1 j = nI 0 ∧ mco j = nI 0) ∧
  (bn j < y → (Y.1 j = nI 1 ↔ mdi j < 0)) ∧
  mco j = Y.2.1 j + ofs i0 d Y.1 j ∧
  Y.2.2.2.2.1 j = (if mdi j < 0 then (-4 : Int32) else mdi j) ∧ Y.2.2.2.2.2.1 j = mgo j
abbrev nzC (B : zB) (Q j : Nat) : List (Int32 × Int32) := nzl (yFr B) (yTo B) (ySz B) (nI j) Q 0
abbrev nzM (mwi : zF) (mwm j : Nat) : List (Int32 × Int32) := nzl (w3 mwi 0) (w3 mwi 1) (w3 mwi 2) (nI j) mwm 0
def SC (P Q Hn i0 : Nat) (d : Int32) (dn : Nat) (bn : Nat → Nat) (B : zB) (mwm : Nat) (mno mwi mon : zF) : Prop :=
  (P ≤ 6 ∧ Q ≤ 9 ∧ Hn ≤ 4 ∧ mwm ≤ 10 ∧ d = nI dn ∧ dn ≤ 300) ∧
  (∀ j, j < P → (B.1 j = nI (bn j) ∧ bn j ≤ 60 ∧ mon (5 * j) = B.1 j ∧ mon (5 * j + 1) = B.2.1 j ∧ mon (5 * j + 2) = B.2.2.1 j ∧ mon (5 * j + 3) = B.2.2.2.1 j ∧ mon (5 * j + 4) = B.2.2.2.2.1 j + (if j = i0 then d else nI 0)) ∧
    (∃ g, g ≤ 9 ∧ B.2.1 j = nI g) ∧ (∃ x, 20 ≤ x ∧ x ≤ 99 ∧ B.2.2.1 j = nI x) ∧ (∃ x, x ≤ 3 ∧ B.2.2.2.1 j = nI x) ∧ (∃ x, x ≤ 99 ∧ B.2.2.2.2.1 j = nI x)) ∧
  (∀ h, h < Hn → (mno (28 + 3 * h) = B.2.2.2.2.2.2.2.2.1 h ∧ mno (28 + 3 * h + 1) = B.2.2.2.2.2.2.2.2.2.1 h ∧ mno (28 + 3 * h + 2) = B.2.2.2.2.2.2.2.2.2.2 h) ∧ (∃ f, f < P ∧ B.2.2.2.2.2.2.2.2.1 h = nI f) ∧ ∃ c, c ≤ 99 ∧ B.2.2.2.2.2.2.2.2.2.2 h = nI c) ∧
  ((∀ k, k < Q → (∃ z, z ≤ 99 ∧ B.2.2.2.2.2.2.2.1 k = nI z) ∧ ∃ t, t < P ∧ B.2.2.2.2.2.2.1 k = nI t) ∧ ∀ k, k < mwm → ∃ z, z ≤ 300 ∧ mwi (3 * k + 2) = nI z) ∧
  (∀ j, j < P → j ≠ i0 → nzC B Q j = nzM mwi mwm j) ∧
  (i0 < P → nzC B Q i0 = [])
def Bd (P M : Nat) (Y : zY) : Prop := ∀ j, j < P → ∃ n, n ≤ M ∧ Y.2.1 j = nI n
theorem n10 : ¬ nI 1 = nI 0 := by decide
theorem n01 : ¬ nI 0 = nI 1 := by decide
theorem n21 : ¬ nI 2 = nI 1 := by decide
theorem yRL.lives {P i0 : Nat} {d : Int32} {bn : Nat → Nat} {yr : Nat} {Y : zY} {mdi mco mgo mon : zF} (h : yRL P i0 d bn (yr + 1) Y mdi mco mgo) (hb : ∀ j, j < P → mon (5 * j) = nI (bn j) ∧ bn j ≤ 60) (hy : yr ≤ 150) (j : Nat) (hj : j < P) : Y.1 j = nI 1 ↔ s_X7_lives mon mdi j yr = true := by
  obtain ⟨b1, b2⟩ := hb j hj
  obtain ⟨h1, h2, -⟩ := h j hj
  rw [lives_iff b1 (by omega) (by omega)]
  by_cases c : bn j ≤ yr
  · rw [h2 (by omega)]
    exact ⟨fun q => ⟨q, c⟩, fun q => q.1⟩
  · rw [(h1 (by omega)).1]
    exact ⟨fun q => absurd q n01, fun q => absurd q.2 c⟩
theorem lives_dead {mon mdi : zF} {i yr : Nat} (hy : yr ≤ 150) : s_X7_lives mon (upd mdi i (nI yr)) i yr = false := by
  unfold s_X7_lives
  rw [pk_us, if_pos (nI_pos' (by omega))]
theorem dieC_form (Y : zY) (P Q : Nat) (B : zB) (i yr : Nat) (ha : ∃ a, a < 2 ^ 31 ∧ Y.2.1 i = nI a) (hz : ∀ j, j < Q → ∃ z, z < 2 ^ 31 ∧ B.2.2.2.2.2.2.2.1 j = nI z) :
    ∃ br, s_X5_die Y P Q B i yr = (upd Y.1 i (nI 2), upd (pyG (lvC (upd Y.1 i (nI 2)) P) i (nzC B Q i) Y.2.1 Y.2.2.2.2.2.1).1 i (nI 0), Y.2.2.1, Y.2.2.2.1, upd Y.2.2.2.2.1 i (nI yr), (pyG (lvC (upd Y.1 i (nI 2)) P) i (nzC B Q i) Y.2.1 Y.2.2.2.2.2.1).2, br) := by
  obtain ⟨br, e⟩ := dieC P B i Q 0 ((upd Y.1 i (nI 2)), Y.2.1, Y.2.2.1, Y.2.2.2.1, (upd Y.2.2.2.2.1 i (nI yr)), Y.2.2.2.2.2) (by show upd Y.1 i (nI 2) i ≠ nI 1; rw [pk_us]; exact n21) ha (fun j _ h => hz j (by omega))
  refine ⟨br, ?_⟩
  unfold s_X5_die
  rw [e]
theorem dieM_form (mwm : Nat) (mwi mon mdi mco mgo mbr : zF) (i yr : Nat) (hy : yr ≤ 150) (ha : ∃ a, a < 2 ^ 31 ∧ mco i = nI a) (hz : ∀ j, j < mwm → ∃ z, z < 2 ^ 31 ∧ mwi (3 * j + 2) = nI z) :
    ∃ br, s_X7_die mwm mwi mon mdi mco mgo mbr i yr = (upd mdi i (nI yr), upd (pyG (lvM mon (upd mdi i (nI yr)) yr) i (nzM mwi mwm i) mco mgo).1 i (nI 0), (pyG (lvM mon (upd mdi i (nI yr)) yr) i (nzM mwi mwm i) mco mgo).2, br) := by
  obtain ⟨br, e⟩ := dieM mwi mon mdi i yr (lives_dead hy) mwm 0 mco mgo mbr ha (fun j _ h => hz j (by omega))
  refine ⟨br, ?_⟩
  unfold s_X7_die
  rw [e]
/-- who isn't an heir that lives, and isn't the giver, keeps what he has -/
theorem pyG_other {i : Nat} {lv : Int32 → Bool} {j : Nat} (hj : j ≠ i) : ∀ (l : List (Int32 × Int32)) (pu go : zF), (∀ e ∈ l, lv e.1 = true → e.1.toNatClampNeg ≠ j) → (pyG lv i l pu go).1 j = pu j
  | [], pu, go, _ => rfl
  | e :: r, pu, go, h => by
    have hr : ∀ x ∈ r, lv x.1 = true → x.1.toNatClampNeg ≠ j := fun x hx => h x (List.mem_cons_of_mem _ hx)
    rw [pyG]
    by_cases hl : lv e.1 = true
    · rw [if_pos hl, pyG_other hj r _ _ hr, pk_un (Ne.symm (h e List.mem_cons_self hl)), pk_un hj]
    · rw [if_neg hl, pyG_other hj r _ _ hr, pk_un hj]
theorem turnC_dead {hav : Int32} {Y : zY} {P Q : Nat} {B : zB} {i yr : Nat} (h : Y.1 i ≠ nI 1) : s_X5_takeTurn hav Y P Q B i yr = (hav, Y) := if_neg h
abbrev yHeld (Y : zY) (i : Nat) : zY := (Y.1, Y.2.1, Y.2.2.1, upd Y.2.2.2.1 i (Y.2.1 i), Y.2.2.2.2)
theorem turnC_live {hav : Int32} {Y : zY} {P Q : Nat} {B : zB} {i yr : Nat} (h : Y.1 i = nI 1) : s_X5_takeTurn hav Y P Q B i yr =
    if ¬ nI yr - B.1 i < nI 18 ∧ ¬ Y.2.2.1 i ≤ 0 ∧ ¬ Y.2.1 i < Y.2.2.1 i then (hav ||| ((nI 1) <<< ((nI i) &&& 31)), s_X5_die (yHeld Y i) P Q B i yr) else if nI yr - B.1 i < B.2.2.1 i then (hav, yHeld Y i) else (hav, s_X5_die (yHeld Y i) P Q B i yr) := by
  unfold s_X5_takeTurn
  rw [if_pos h]
  by_cases h1 : Y.2.2.1 i ≤ 0
  · have c : ¬ (¬ nI yr - B.1 i < nI 18 ∧ ¬ Y.2.2.1 i ≤ 0 ∧ ¬ Y.2.1 i < Y.2.2.1 i) := fun q => q.2.1 h1
    rw [if_pos h1, if_neg c]
    by_cases h2 : nI yr - B.1 i < nI 18
    · rw [if_pos h2]
    · rw [if_neg h2]
  · rw [if_neg h1]
    by_cases h3 : Y.2.1 i < Y.2.2.1 i
    · have c : ¬ (¬ nI yr - B.1 i < nI 18 ∧ ¬ Y.2.2.1 i ≤ 0 ∧ ¬ Y.2.1 i < Y.2.2.1 i) := fun q => q.2.2 h3
      rw [if_pos h3, if_neg c]
      by_cases h2 : nI yr - B.1 i < nI 18
      · rw [if_pos h2]
      · rw [if_neg h2]
    · rw [if_neg h3]
      by_cases h2 : nI yr - B.1 i < nI 18
      · have c : ¬ (¬ nI yr - B.1 i < nI 18 ∧ ¬ Y.2.2.1 i ≤ 0 ∧ ¬ Y.2.1 i < Y.2.2.1 i) := fun q => q.1 h2
        rw [if_pos h2, if_neg c]
      · rw [if_neg h2, if_pos ⟨h2, h1, h3⟩]
theorem turnM_form {mwm : Nat} {mhd : Int32} {mwi mon mdi mco mgo mbr : zF} {i yr : Nat} : s_X7_turn mwm mhd mwi mon mdi mco mgo mbr i yr =
    if ¬ nI yr - mon (5 * i) < nI 18 ∧ ¬ s_X7_leaving mwm mwi i ≤ 0 ∧ ¬ mco i < s_X7_leaving mwm mwi i then (mhd ||| ((nI 1) <<< ((nI i) &&& 31)), s_X7_die mwm mwi mon mdi mco mgo mbr i yr) else if nI yr - mon (5 * i) < mon (5 * i + 2) then (mhd, mdi, mco, mgo, mbr) else (mhd, s_X7_die mwm mwi mon mdi mco mgo mbr i yr) := by
  unfold s_X7_turn
  by_cases h2 : nI yr - mon (5 * i) < nI 18
  · have c : ¬ (¬ nI yr - mon (5 * i) < nI 18 ∧ ¬ s_X7_leaving mwm mwi i ≤ 0 ∧ ¬ mco i < s_X7_leaving mwm mwi i) := fun q => q.1 h2
    rw [if_pos h2, if_neg c]
  · rw [if_neg h2]
    by_cases h1 : s_X7_leaving mwm mwi i ≤ 0
    · have c : ¬ (¬ nI yr - mon (5 * i) < nI 18 ∧ ¬ s_X7_leaving mwm mwi i ≤ 0 ∧ ¬ mco i < s_X7_leaving mwm mwi i) := fun q => q.2.1 h1
      rw [if_pos h1, if_neg c]
    · rw [if_neg h1]
      by_cases h3 : mco i < s_X7_leaving mwm mwi i
      · have c : ¬ (¬ nI yr - mon (5 * i) < nI 18 ∧ ¬ s_X7_leaving mwm mwi i ≤ 0 ∧ ¬ mco i < s_X7_leaving mwm mwi i) := fun q => q.2.2 h3
        rw [if_pos h3, if_neg c]
      · rw [if_neg h3, if_pos ⟨h2, h1, h3⟩]
/-- a death on the class's side alone -/
theorem dieC_unary {Y : zY} {P Q : Nat} {B : zB} {i yr M : Nat} (hQ : Q ≤ 9) (hM : M + 891 < 2 ^ 30) (hB : Bd P M Y) (hi : i < P) (hz : ∀ k, k < Q → ∃ z, z ≤ 99 ∧ B.2.2.2.2.2.2.2.1 k = nI z) :
    (s_X5_die Y P Q B i yr).1 = upd Y.1 i (nI 2) ∧ (s_X5_die Y P Q B i yr).2.2.1 = Y.2.2.1 ∧ (s_X5_die Y P Q B i yr).2.2.2.1 = Y.2.2.2.1 ∧ Bd P (M + 891) (s_X5_die Y P Q B i yr) ∧ ∀ j b, j ≠ i → j < P → Y.2.1 j = nI b → b ≤ M → ∃ b2, (s_X5_die Y P Q B i yr).2.1 j = nI b2 ∧ b ≤ b2 ∧ b2 ≤ M + 891 := by
  obtain ⟨a, ha, ea⟩ := hB i hi
  obtain ⟨br, e⟩ := dieC_form Y P Q B i yr ⟨a, by omega, ea⟩ (fun j hj => by obtain ⟨z, h1, h2⟩ := hz j hj; exact ⟨z, by omega, h2⟩)
  rw [e]
  have hl : (nzC B Q i).length ≤ Q := nzl_len Q 0
  have hm : ∀ j b, j ≠ i → j < P → Y.2.1 j = nI b → b ≤ M → ∃ b2, (pyG (lvC (upd Y.1 i (nI 2)) P) i (nzC B Q i) Y.2.1 Y.2.2.2.2.2.1).1 j = nI b2 ∧ b ≤ b2 ∧ b2 ≤ M + 891 := by
    intro j b hj hjP hb hbM
    obtain ⟨b2, x1, x2, x3⟩ := pyG_mono (i := i) (lv := lvC (upd Y.1 i (nI 2)) P) (nzC B Q i) Y.2.1 Y.2.2.2.2.2.1 a (fun x hx => by
      obtain ⟨k, k1, k2, k3, k4⟩ := nzl_mem Q 0 hx
      obtain ⟨z, z1, z2⟩ := hz k (by omega)
      refine ⟨⟨z, z1, by rw [k4]; exact z2⟩, fun hv => lvC_ne hv (by rw [pk_us]; exact n21)⟩) (by omega) ea j b hj hb (by omega)
    exact ⟨b2, x1, x2, by omega⟩
  refine ⟨rfl, rfl, rfl, fun j hj => ?_, fun j b hj hjP hb hbM => ?_⟩
  · by_cases q : j = i
    · subst q
      exact ⟨0, by omega, pk_us⟩
    · obtain ⟨b, b1, b2⟩ := hB j hj
      obtain ⟨c, c1, c2, c3⟩ := hm j b q hj b2 b1
      exact ⟨c, c3, (pk_un q).trans c1⟩
  · obtain ⟨c, c1, c2, c3⟩ := hm j b hj hjP hb hbM
    exact ⟨c, (pk_un hj).trans c1, c2, c3⟩
/-- a turn on the class's side alone -/
theorem turnC_unary {hav : Int32} {Y : zY} {P Q : Nat} {B : zB} {i yr M : Nat} (hQ : Q ≤ 9) (hM : M + 891 < 2 ^ 30) (hB : Bd P M Y) (hi : i < P) (hz : ∀ k, k < Q → ∃ z, z ≤ 99 ∧ B.2.2.2.2.2.2.2.1 k = nI z) :
    Bd P (M + 891) (s_X5_takeTurn hav Y P Q B i yr).2 ∧ (s_X5_takeTurn hav Y P Q B i yr).2.2.2.1 = Y.2.2.1 ∧
    (∀ j, j ≠ i → (s_X5_takeTurn hav Y P Q B i yr).2.1 j = Y.1 j ∧ (s_X5_takeTurn hav Y P Q B i yr).2.2.2.2.1 j = Y.2.2.2.1 j ∧ ∀ b, j < P → Y.2.1 j = nI b → b ≤ M → ∃ b2, (s_X5_takeTurn hav Y P Q B i yr).2.2.1 j = nI b2 ∧ b ≤ b2 ∧ b2 ≤ M + 891) ∧
    (Y.1 i = nI 1 → (s_X5_takeTurn hav Y P Q B i yr).2.2.2.2.1 i = Y.2.1 i ∧ ((s_X5_takeTurn hav Y P Q B i yr).2.1 i = nI 2 ∨ ((s_X5_takeTurn hav Y P Q B i yr).2.1 i = nI 1 ∧ (s_X5_takeTurn hav Y P Q B i yr).2.2.1 i = Y.2.1 i))) := by
  have up : Bd P (M + 891) Y := fun j hj => by
    obtain ⟨n, h1, h2⟩ := hB j hj
    exact ⟨n, by omega, h2⟩
  have hd := dieC_unary (Y := yHeld Y i) (yr := yr) hQ hM hB hi hz
  obtain ⟨d1, d2, d3, d4, d5⟩ := hd
  have key : ∀ j, j ≠ i → (s_X5_die (yHeld Y i) P Q B i yr).1 j = Y.1 j ∧ (s_X5_die (yHeld Y i) P Q B i yr).2.2.2.1 j = Y.2.2.2.1 j ∧ ∀ b, j < P → Y.2.1 j = nI b → b ≤ M → ∃ b2, (s_X5_die (yHeld Y i) P Q B i yr).2.1 j = nI b2 ∧ b ≤ b2 ∧ b2 ≤ M + 891 := fun j hj => ⟨by rw [d1]; exact pk_un hj, by rw [d3]; exact pk_un hj, fun b hjP hb hbM => d5 j b hj hjP hb hbM⟩
  have key2 : (s_X5_die (yHeld Y i) P Q B i yr).2.2.2.1 i = Y.2.1 i ∧ ((s_X5_die (yHeld Y i) P Q B i yr).1 i = nI 2 ∨ ((s_X5_die (yHeld Y i) P Q B i yr).1 i = nI 1 ∧ (s_X5_die (yHeld Y i) P Q B i yr).2.1 i = Y.2.1 i)) := ⟨by rw [d3]; exact pk_us, Or.inl (by rw [d1]; exact pk_us)⟩
  by_cases h : Y.1 i = nI 1
  · rw [turnC_live h]
    split
    · exact ⟨d4, d2, key, fun _ => key2⟩
    · split
      · exact ⟨up, rfl, fun j hj => ⟨rfl, pk_un hj, fun b _ hb hbM => ⟨b, hb, Nat.le_refl _, by omega⟩⟩, fun _ => ⟨pk_us, Or.inr ⟨h, rfl⟩⟩⟩
      · exact ⟨d4, d2, key, fun _ => key2⟩
  · rw [turnC_dead h]
    exact ⟨up, rfl, fun j hj => ⟨rfl, rfl, fun b _ hb hbM => ⟨b, hb, Nat.le_refl _, by omega⟩⟩, fun q => absurd q h⟩
