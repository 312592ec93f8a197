/-! ===== the text is read the same way ===== -/
def TX (n : Nat) (Le : Nat → Int32) (mle : Nat) (mtx : zF) : Prop := mle = n ∧ n ≤ 200 ∧ ∀ j, j < n → ∃ c, 32 ≤ c ∧ c ≤ 126 ∧ Le j = nI c ∧ mtx j = nI c
theorem m1_ne (k : Nat) (hk : k < 2 ^ 31) : ¬ (-1 : Int32) = nI k := fun e => nI_ne_m1 hk e.symm
section
variable {n : Nat} {Le : Nat → Int32} {mtx : zF}
theorem TX.at (T : TX n Le n mtx) (p k : Nat) (hk : 1 ≤ k) (hk2 : k < 2 ^ 31) : s_X3_at n Le p = nI k ↔ s_X7_letterAt n mtx p = nI k := by
  unfold s_X3_at s_X7_letterAt
  by_cases h : n ≤ p
  · rw [if_pos h, if_pos h]
    refine ⟨fun e => ?_, fun e => absurd e (m1_ne k hk2)⟩
    have := nI_uniq (a := 0) (b := k) (x := nI 0) (by decide) hk2 rfl e
    omega
  · rw [if_neg h, if_neg h]
    obtain ⟨c, -, -, e1, e2⟩ := T.2.2 p (by omega)
    rw [e1, e2]
theorem TX.fig (T : TX n Le n mtx) (p : Nat) : s_X2_isFigure (s_X3_at n Le p) = zdig n mtx p := by
  unfold zdig s_X3_at s_X7_letterAt
  by_cases h : n ≤ p
  · rw [if_pos h, if_pos h]
    decide
  · rw [if_neg h, if_neg h]
    obtain ⟨c, -, -, e1, e2⟩ := T.2.2 p (by omega)
    rw [e1, e2]
    rfl
theorem TX.dig (T : TX n Le n mtx) {p : Nat} (h : zdig n mtx p = true) : ∃ d, d ≤ 9 ∧ s_X3_at n Le p = nI (48 + d) ∧ s_X7_letterAt n mtx p = nI (48 + d) := by
  obtain ⟨d, h1, h2, h3⟩ := zdig_nat h
  exact ⟨d, h1, (T.at p (48 + d) (by omega) (by omega)).mpr h2, h2⟩
/-- one number -/
theorem TX.num (T : TX n Le n mtx) {p : Nat} (h : zdig n mtx p = true) : (s_X2_readNumber p n Le).1 = (f_X7_isRow_15 n mtx p 2 (nI 0) p).1 ∧ (s_X2_readNumber p n Le).2 = (f_X7_isRow_15 n mtx p 2 (nI 0) p).2 ∧ (f_X7_isRow_15 n mtx p 2 (nI 0) p).2 ≠ p := by
  obtain ⟨d, d1, d2, d3⟩ := T.dig h
  rw [row15_eq, if_pos h]
  unfold s_X2_readNumber
  rw [T.fig (p + 1)]
  by_cases h2 : zdig n mtx (p + 1) = true
  · obtain ⟨e, e1, e2, e3⟩ := T.dig h2
    rw [if_pos h2, if_pos h2, d2, d3, e2, e3, zval1, zval1, pk_sub (by omega), pk_mul, pk_sub (by omega), nI_add]
    refine ⟨?_, rfl, by omega⟩
    show nI ((48 + d - 48) * 10 + (48 + e - 48)) = nI (10 * (10 * 0 + d) + e)
    exact congrArg nI (by omega)
  · rw [if_neg h2, if_neg h2, d2, d3, zval1, pk_sub (by omega)]
    refine ⟨?_, rfl, by omega⟩
    show nI (48 + d - 48) = nI (10 * 0 + d)
    exact congrArg nI (by omega)
theorem nums_rel (T : TX n Le n mtx) (sz : Nat) : ∀ (n9 k pl : Nat) (Nu mnu : zF), (∀ j, j < k → Nu j = mnu j) →
    (f_X2_readNumbers_2 n Le sz n9 k pl Nu).1 = (f_X7_isRow_2 n mtx sz n9 k pl mnu).1 ∧ ((f_X7_isRow_2 n mtx sz n9 k pl mnu).1 = true → (f_X2_readNumbers_2 n Le sz n9 k pl Nu).2.1 = (f_X7_isRow_2 n mtx sz n9 k pl mnu).2.1 ∧ ∀ j, j < k + n9 → (f_X2_readNumbers_2 n Le sz n9 k pl Nu).2.2 j = (f_X7_isRow_2 n mtx sz n9 k pl mnu).2.2 j)
  | 0, k, pl, Nu, mnu, h => ⟨rfl, fun _ => ⟨rfl, h⟩⟩
  | n9 + 1, k, pl, Nu, mnu, h => by
    rw [f_X2_readNumbers_2, f_X7_isRow_2, T.fig pl]
    by_cases hd : zdig n mtx pl = true
    · obtain ⟨r1, r2, r3⟩ := T.num hd
      rw [if_pos hd]
      dsimp only
      rw [if_neg r3, r1, r2]
      have hs : ∀ j, j < k + 1 → upd Nu k (f_X7_isRow_15 n mtx pl 2 (nI 0) pl).1 j = upd mnu k (f_X7_isRow_15 n mtx pl 2 (nI 0) pl).1 j := fun j hj => by
        by_cases q : j = k
        · rw [q, pk_us, pk_us]
        · rw [pk_un q, pk_un q]; exact h j (by omega)
      have ih := nums_rel T sz n9 (k + 1) ((f_X7_isRow_15 n mtx pl 2 (nI 0) pl).2 + 1) _ _ hs
      rw [show k + 1 + n9 = k + (n9 + 1) by omega] at ih
      by_cases c : k = sz - 1
      · rw [if_pos c, if_pos c]
        have hc := T.at (f_X7_isRow_15 n mtx pl 2 (nI 0) pl).2 59 (by decide) (by decide)
        by_cases e : s_X7_letterAt n mtx (f_X7_isRow_15 n mtx pl 2 (nI 0) pl).2 = nI 59
        · rw [if_pos e, if_pos (hc.mpr e)]
          exact ih
        · rw [if_neg e, if_neg (fun z => e (hc.mp z))]
          exact ⟨rfl, fun z => (by cases z)⟩
      · rw [if_neg c, if_neg c]
        have hc := T.at (f_X7_isRow_15 n mtx pl 2 (nI 0) pl).2 44 (by decide) (by decide)
        by_cases e : s_X7_letterAt n mtx (f_X7_isRow_15 n mtx pl 2 (nI 0) pl).2 = nI 44
        · rw [if_pos e, if_pos (hc.mpr e)]
          exact ih
        · rw [if_neg e, if_neg (fun z => e (hc.mp z))]
          exact ⟨rfl, fun z => (by cases z)⟩
    · have e15 : (f_X7_isRow_15 n mtx pl 2 (nI 0) pl).2 = pl := by rw [row15_eq, if_neg hd]
      rw [if_neg hd]
      dsimp only
      rw [if_pos e15]
      exact ⟨rfl, fun z => (by cases z)⟩
/-- a book in the making -/
def RBK (P Q : Nat) (sd : Int32) (B : zB) (mrs : Int32) (mrd mrl : zF) : Prop := (P ≤ 6 ∧ Q ≤ 9 ∧ mrs = sd) ∧
  (∀ j, j < P → (∃ b, b ≤ 60 ∧ B.1 j = nI b ∧ mrd (5 * j) = nI b) ∧ (∃ g, g ≤ 9 ∧ B.2.1 j = nI g ∧ mrd (5 * j + 1) = nI g) ∧ (∃ x, 20 ≤ x ∧ x ≤ 99 ∧ B.2.2.1 j = nI x ∧ mrd (5 * j + 2) = nI x) ∧ (∃ x, x ≤ 3 ∧ B.2.2.2.1 j = nI x ∧ mrd (5 * j + 3) = nI x) ∧ (∃ x, x ≤ 99 ∧ B.2.2.2.2.1 j = nI x ∧ mrd (5 * j + 4) = nI x)) ∧
  (∀ k, k < Q → (∃ f, f < P ∧ yFr B k = nI f ∧ mrl (3 * k) = nI f) ∧ (∃ t, t < P ∧ yTo B k = nI t ∧ mrl (3 * k + 1) = nI t) ∧ (∃ z, 1 ≤ z ∧ z ≤ 99 ∧ ySz B k = nI z ∧ mrl (3 * k + 2) = nI z))
theorem within_nI {a lo hi : Nat} (ha : a < 2 ^ 31) (hlo : lo < 2 ^ 31) (hhi : hi < 2 ^ 31) : s_X6_isWithin (nI a) (nI lo) (nI hi) = true ↔ lo ≤ a ∧ a ≤ hi := by
  rw [within_in, in_iff, nI_toInt ha, nI_toInt hlo, nI_toInt hhi]
  omega
theorem hasP_iff {P a : Nat} (hP : P ≤ 6) (ha : a < 2 ^ 31) : s_X0_hasPerson P (nI a) = true ↔ a < P := by
  unfold s_X0_hasPerson
  rw [if_neg (nI_pos ha)]
  by_cases h : a < P
  · rw [if_neg (nI_ge h (by omega))]
    exact ⟨fun _ => h, fun _ => rfl⟩
  · rw [if_pos (nI_le (by omega) ha)]
    exact ⟨fun z => (by cases z), fun z => absurd z h⟩
theorem item93 (m : Nat) (u : Bool × Nat × zF) (g : zF) : f_X7_isItem_93 m u 5 0 g = upd (upd (upd (upd (upd g (5 * m + 0) (u.2.2 0)) (5 * m + 1) (u.2.2 1)) (5 * m + 2) (u.2.2 2)) (5 * m + 3) (u.2.2 3)) (5 * m + 4) (nI 0) := rfl
theorem item229 (m : Nat) (u : Bool × Nat × zF) (g : zF) : f_X7_isItem_229 m u 3 0 g = upd (upd (upd g (3 * m + 0) (u.2.2 0)) (3 * m + 1) (u.2.2 1)) (3 * m + 2) (u.2.2 2) := rfl
theorem item_rel (T : TX n Le n mtx) {P Q : Nat} {sd mrs : Int32} {B : zB} {mrd mrl : zF} (R : RBK P Q sd B mrs mrd mrl) (pl : Nat) (Nu mnu : zF) :
    (s_X2_readItem pl Nu n Le P Q sd B).1 = (s_X7_isItem n pl P Q mrs mtx mnu mrd mrl).1 ∧ ((s_X7_isItem n pl P Q mrs mtx mnu mrd mrl).1 = true →
      (s_X2_readItem pl Nu n Le P Q sd B).2.1 = (s_X7_isItem n pl P Q mrs mtx mnu mrd mrl).2.1 ∧ (s_X2_readItem pl Nu n Le P Q sd B).2.2.2.1 = (s_X7_isItem n pl P Q mrs mtx mnu mrd mrl).2.2.1 ∧ (s_X2_readItem pl Nu n Le P Q sd B).2.2.2.2.1 = (s_X7_isItem n pl P Q mrs mtx mnu mrd mrl).2.2.2.1 ∧
      RBK (s_X2_readItem pl Nu n Le P Q sd B).2.2.2.1 (s_X2_readItem pl Nu n Le P Q sd B).2.2.2.2.1 (s_X2_readItem pl Nu n Le P Q sd B).2.2.2.2.2.1 (s_X2_readItem pl Nu n Le P Q sd B).2.2.2.2.2.2 (s_X7_isItem n pl P Q mrs mtx mnu mrd mrl).2.2.2.2.1 (s_X7_isItem n pl P Q mrs mtx mnu mrd mrl).2.2.2.2.2.2.1 (s_X7_isItem n pl P Q mrs mtx mnu mrd mrl).2.2.2.2.2.2.2) := by
  obtain ⟨⟨hP, hQ, hs⟩, hp, hq⟩ := R
  have nn : ∀ w, (s_X2_readNumbers (pl + 1) Nu n Le w).1 = (s_X7_isRow n (pl + 1) mtx mnu w).1 ∧ ((s_X7_isRow n (pl + 1) mtx mnu w).1 = true → (s_X2_readNumbers (pl + 1) Nu n Le w).2.1 = (s_X7_isRow n (pl + 1) mtx mnu w).2.1 ∧ ∀ j, j < w → (s_X2_readNumbers (pl + 1) Nu n Le w).2.2 j = (s_X7_isRow n (pl + 1) mtx mnu w).2.2 j) := fun w => by
    have := nums_rel T w w 0 (pl + 1) Nu mnu (fun j hj => absurd hj (Nat.not_lt_zero j))
    rw [Nat.zero_add] at this
    exact this
  have num : ∀ w j, (s_X7_isRow n (pl + 1) mtx mnu w).1 = true → j < w → ∃ a, a ≤ 99 ∧ (s_X7_isRow n (pl + 1) mtx mnu w).2.2 j = nI a := fun w j h hj => isRow_num h hj
  have a103 := T.at pl 103 (by decide) (by decide)
  have a112 := T.at pl 112 (by decide) (by decide)
  have a119 := T.at pl 119 (by decide) (by decide)
  have a122 := T.at pl 122 (by decide) (by decide)
  unfold s_X2_readItem s_X7_isItem
  by_cases c112 : s_X7_letterAt n mtx pl = nI 112
  · have e := a112.mpr c112
    have en : s_X2_numbersOf (s_X3_at n Le pl) = 4 := by rw [e]; decide
    rw [if_pos c112, en, e, if_neg (by decide : ¬ 4 = 0)]
    obtain ⟨r1, r2⟩ := nn 4
    dsimp only
    rw [r1]
    by_cases h : (s_X7_isRow n (pl + 1) mtx mnu 4).1 = true
    · obtain ⟨r3, r4⟩ := r2 h
      obtain ⟨b, b1, b2⟩ := num 4 0 h (by decide)
      obtain ⟨g, g1, g2⟩ := num 4 1 h (by decide)
      obtain ⟨x, x1, x2⟩ := num 4 2 h (by decide)
      obtain ⟨k, k1, k2⟩ := num 4 3 h (by decide)
      rw [if_pos h, if_neg (by decide : ¬ nI 112 = nI 103), if_pos (rfl : nI 112 = nI 112), r4 0 (by decide), r4 1 (by decide), r4 2 (by decide), r4 3 (by decide)]
      unfold s_X0_addPerson
      by_cases h6 : 6 ≤ P
      · rw [if_pos h6, if_pos h6]
        exact ⟨rfl, fun z => (by cases z)⟩
      · rw [if_neg h6, if_neg h6, if_pos h, item93, b2, g2, x2, k2]
        by_cases d1 : b ≤ 60
        · rw [if_pos ((within_nI (by omega) (by decide) (by decide)).mpr ⟨Nat.zero_le _, d1⟩), if_neg (nI_ge (by omega) (by decide) : ¬ nI 61 ≤ nI b)]
          by_cases d2 : g ≤ 9
          · rw [if_pos ((within_nI (by omega) (by decide) (by decide)).mpr ⟨Nat.zero_le _, d2⟩), if_neg (nI_ge (by omega) (by decide) : ¬ nI 10 ≤ nI g)]
            by_cases d3 : 20 ≤ x
            · rw [if_pos ((within_nI (by omega) (by decide) (by decide)).mpr ⟨d3, x1⟩), if_neg (nI_ge (by omega) (by omega) : ¬ nI x ≤ nI 19)]
              by_cases d4 : k ≤ 3
              · rw [if_pos ((within_nI (by omega) (by decide) (by decide)).mpr ⟨Nat.zero_le _, d4⟩), if_neg (nI_ge (by omega) (by decide) : ¬ nI 4 ≤ nI k)]
                refine ⟨rfl, fun _ => ⟨r3, rfl, rfl, ⟨(by omega : P + 1 ≤ 6), hQ, hs⟩, fun j hj => ?_, fun k9 hk => ?_⟩⟩
                · by_cases w : j = P
                  · subst w
                    refine ⟨⟨b, d1, pk_us, ?_⟩, ⟨g, d2, pk_us, ?_⟩, ⟨x, d3, x1, pk_us, ?_⟩, ⟨k, d4, pk_us, ?_⟩, ⟨0, by decide, pk_us, ?_⟩⟩
                    · dsimp only; rw [pk_un (by omega), pk_un (by omega), pk_un (by omega), pk_un (by omega)]; exact pk_us
                    · dsimp only; rw [pk_un (by omega), pk_un (by omega), pk_un (by omega)]; exact pk_us
                    · dsimp only; rw [pk_un (by omega), pk_un (by omega)]; exact pk_us
                    · dsimp only; rw [pk_un (by omega)]; exact pk_us
                    · exact pk_us
                  · have hj' : j < P := by have : j < P + 1 := hj; omega
                    obtain ⟨⟨y1, z1, w1, v1⟩, ⟨y2, z2, w2, v2⟩, ⟨y3, z3, t3, w3, v3⟩, ⟨y4, z4, w4, v4⟩, ⟨y5, z5, w5, v5⟩⟩ := hp j hj'
                    have hu : ∀ q, q < 5 * P → upd (upd (upd (upd (upd mrd (5 * P + 0) (nI b)) (5 * P + 1) (nI g)) (5 * P + 2) (nI x)) (5 * P + 3) (nI k)) (5 * P + 4) (nI 0) q = mrd q := fun q hq => by
                      rw [pk_un (by omega), pk_un (by omega), pk_un (by omega), pk_un (by omega), pk_un (by omega)]
                    exact ⟨⟨y1, z1, (pk_un w).trans w1, (hu _ (by omega)).trans v1⟩, ⟨y2, z2, (pk_un w).trans w2, (hu _ (by omega)).trans v2⟩, ⟨y3, z3, t3, (pk_un w).trans w3, (hu _ (by omega)).trans v3⟩, ⟨y4, z4, (pk_un w).trans w4, (hu _ (by omega)).trans v4⟩, ⟨y5, z5, (pk_un w).trans w5, (hu _ (by omega)).trans v5⟩⟩
                · obtain ⟨⟨f, f1, f2⟩, ⟨t, t1, t2⟩, z⟩ := hq k9 hk
                  exact ⟨⟨f, (by omega : f < P + 1), f2⟩, ⟨t, (by omega : t < P + 1), t2⟩, z⟩
              · rw [if_neg (fun z => d4 ((within_nI (by omega) (by decide) (by decide)).mp z).2), if_pos (nI_le (by omega) (by omega) : nI 4 ≤ nI k)]
                exact ⟨rfl, fun z => (by cases z)⟩
            · rw [if_neg (fun z => d3 ((within_nI (by omega) (by decide) (by decide)).mp z).1), if_pos (nI_le (by omega) (by decide) : nI x ≤ nI 19)]
              exact ⟨rfl, fun z => (by cases z)⟩
          · rw [if_neg (fun z => d2 ((within_nI (by omega) (by decide) (by decide)).mp z).2), if_pos (nI_le (by omega) (by omega) : nI 10 ≤ nI g)]
            exact ⟨rfl, fun z => (by cases z)⟩
        · rw [if_neg (fun z => d1 ((within_nI (by omega) (by decide) (by decide)).mp z).2), if_pos (nI_le (by omega) (by omega) : nI 61 ≤ nI b)]
          exact ⟨rfl, fun z => (by cases z)⟩
    · rw [if_neg h]
      by_cases h6 : 6 ≤ P
      · rw [if_pos h6]
        exact ⟨rfl, fun z => (by cases z)⟩
      · rw [if_neg h6, if_neg h]
        exact ⟨rfl, fun z => (by cases z)⟩
  · rw [if_neg c112]
    have f112 : ¬ s_X3_at n Le pl = nI 112 := fun z => c112 (a112.mp z)
    by_cases c119 : s_X7_letterAt n mtx pl = nI 119
    · have e := a119.mpr c119
      have en : s_X2_numbersOf (s_X3_at n Le pl) = 3 := by rw [e]; decide
      rw [if_pos c119, en, e, if_neg (by decide : ¬ 3 = 0)]
      obtain ⟨r1, r2⟩ := nn 3
      dsimp only
      rw [r1]
      by_cases h : (s_X7_isRow n (pl + 1) mtx mnu 3).1 = true
      · obtain ⟨r3, r4⟩ := r2 h
        obtain ⟨a, a1, a2⟩ := num 3 0 h (by decide)
        obtain ⟨b, b1, b2⟩ := num 3 1 h (by decide)
        obtain ⟨x, x1, x2⟩ := num 3 2 h (by decide)
        rw [if_pos h, if_neg (by decide : ¬ nI 119 = nI 103), if_neg (by decide : ¬ nI 119 = nI 112), if_pos (rfl : nI 119 = nI 119), r4 0 (by decide), r4 1 (by decide), r4 2 (by decide)]
        unfold s_X0_addBequest
        by_cases h9 : 9 ≤ Q
        · rw [if_pos h9, if_pos h9]
          exact ⟨rfl, fun z => (by cases z)⟩
        · rw [if_neg h9, if_neg h9, if_pos h, item229, a2, b2, x2]
          by_cases d1 : a < P
          · rw [if_pos ((hasP_iff hP (by omega)).mpr d1), if_neg (nI_ge d1 (by omega) : ¬ nI P ≤ nI a)]
            by_cases d2 : b < P
            · rw [if_pos ((hasP_iff hP (by omega)).mpr d2), if_neg (nI_ge d2 (by omega) : ¬ nI P ≤ nI b)]
              by_cases d3 : nI a = nI b
              · rw [if_pos d3, if_pos d3]
                exact ⟨rfl, fun z => (by cases z)⟩
              · rw [if_neg d3, if_neg d3]
                by_cases d4 : 1 ≤ x
                · have d5 : ¬ nI x ≤ 0 := nI_nle d4 (by omega)
                  rw [if_pos ((within_nI (by omega) (by decide) (by decide)).mpr ⟨d4, x1⟩), if_neg d5]
                  refine ⟨rfl, fun _ => ⟨r3, rfl, rfl, ⟨hP, (by omega : Q + 1 ≤ 9), hs⟩, hp, fun k9 hk => ?_⟩⟩
                  by_cases w : k9 = Q
                  · subst w
                    refine ⟨⟨a, d1, pk_us, ?_⟩, ⟨b, d2, pk_us, ?_⟩, ⟨x, d4, x1, pk_us, ?_⟩⟩
                    · dsimp only; rw [pk_un (by omega), pk_un (by omega)]; exact pk_us
                    · dsimp only; rw [pk_un (by omega)]; exact pk_us
                    · exact pk_us
                  · have hk' : k9 < Q := by have : k9 < Q + 1 := hk; omega
                    obtain ⟨⟨f, f1, f2, f3⟩, ⟨t, t1, t2, t3⟩, ⟨z, z0, z1, z2, z3⟩⟩ := hq k9 hk'
                    have hu : ∀ q, q < 3 * Q → upd (upd (upd mrl (3 * Q + 0) (nI a)) (3 * Q + 1) (nI b)) (3 * Q + 2) (nI x) q = mrl q := fun q hq => by
                      rw [pk_un (by omega), pk_un (by omega), pk_un (by omega)]
                    exact ⟨⟨f, f1, (pk_un w).trans f2, (hu _ (by omega)).trans f3⟩, ⟨t, t1, (pk_un w).trans t2, (hu _ (by omega)).trans t3⟩, ⟨z, z0, z1, (pk_un w).trans z2, (hu _ (by omega)).trans z3⟩⟩
                · have x0 : x = 0 := by omega
                  subst x0
                  rw [if_neg (fun z => d4 ((within_nI (by omega) (by decide) (by decide)).mp z).1), if_pos (by decide : nI 0 ≤ 0)]
                  exact ⟨rfl, fun z => (by cases z)⟩
            · rw [if_neg (fun z => d2 ((hasP_iff hP (by omega)).mp z)), if_pos (nI_le (by omega) (by omega) : nI P ≤ nI b)]
              exact ⟨rfl, fun z => (by cases z)⟩
          · rw [if_neg (fun z => d1 ((hasP_iff hP (by omega)).mp z)), if_pos (nI_le (by omega) (by omega) : nI P ≤ nI a)]
            exact ⟨rfl, fun z => (by cases z)⟩
      · rw [if_neg h]
        by_cases h9 : 9 ≤ Q
        · rw [if_pos h9]
          exact ⟨rfl, fun z => (by cases z)⟩
        · rw [if_neg h9, if_neg h]
          exact ⟨rfl, fun z => (by cases z)⟩
    · rw [if_neg c119]
      have f119 : ¬ s_X3_at n Le pl = nI 119 := fun z => c119 (a119.mp z)
      by_cases c103 : s_X7_letterAt n mtx pl = nI 103
      · have e := a103.mpr c103
        have en : s_X2_numbersOf (s_X3_at n Le pl) = 2 := by rw [e]; decide
        rw [if_pos c103, en, e, if_neg (by decide : ¬ 2 = 0)]
        obtain ⟨r1, r2⟩ := nn 2
        dsimp only
        rw [r1]
        by_cases h : (s_X7_isRow n (pl + 1) mtx mnu 2).1 = true
        · obtain ⟨r3, r4⟩ := r2 h
          obtain ⟨a, a1, a2⟩ := num 2 0 h (by decide)
          obtain ⟨b, b1, b2⟩ := num 2 1 h (by decide)
          rw [if_pos h, if_pos h, if_pos (rfl : nI 103 = nI 103), r4 0 (by decide), r4 1 (by decide), a2, b2]
          unfold s_X0_addGift
          by_cases d1 : a < P
          · rw [if_pos ((hasP_iff hP (by omega)).mpr d1), if_pos (nI_lt d1 (by omega) : nI a < nI P), if_pos ((within_nI (by omega) (by decide) (by decide)).mpr ⟨Nat.zero_le _, b1⟩), nI_clamp (by omega)]
            refine ⟨rfl, fun _ => ⟨r3, rfl, rfl, ⟨hP, hQ, hs⟩, fun j hj => ?_, hq⟩⟩
            obtain ⟨⟨y1, z1, w1, v1⟩, ⟨y2, z2, w2, v2⟩, ⟨y3, z3, t3, w3, v3⟩, ⟨y4, z4, w4, v4⟩, ⟨y5, z5, w5, v5⟩⟩ := hp j hj
            refine ⟨⟨y1, z1, w1, (pk_un (by omega)).trans v1⟩, ⟨y2, z2, w2, (pk_un (by omega)).trans v2⟩, ⟨y3, z3, t3, w3, (pk_un (by omega)).trans v3⟩, ⟨y4, z4, w4, (pk_un (by omega)).trans v4⟩, ?_⟩
            by_cases w : j = a
            · subst w
              exact ⟨b, b1, pk_us, pk_us⟩
            · exact ⟨y5, z5, (pk_un w).trans w5, (pk_un (by omega)).trans v5⟩
          · rw [if_neg (fun z => d1 ((hasP_iff hP (by omega)).mp z)), if_neg (nI_nlt (by omega) (by omega) : ¬ nI a < nI P)]
            exact ⟨rfl, fun z => (by cases z)⟩
        · rw [if_neg h, if_neg h]
          exact ⟨rfl, fun z => (by cases z)⟩
      · rw [if_neg c103]
        have f103 : ¬ s_X3_at n Le pl = nI 103 := fun z => c103 (a103.mp z)
        by_cases c122 : s_X7_letterAt n mtx pl = nI 122
        · have e := a122.mpr c122
          have en : s_X2_numbersOf (s_X3_at n Le pl) = 1 := by rw [e]; decide
          rw [if_pos c122, en, e, if_neg (by decide : ¬ 1 = 0)]
          obtain ⟨r1, r2⟩ := nn 1
          dsimp only
          rw [r1]
          by_cases h : (s_X7_isRow n (pl + 1) mtx mnu 1).1 = true
          · obtain ⟨r3, r4⟩ := r2 h
            obtain ⟨a, a1, a2⟩ := num 1 0 h (by decide)
            rw [if_pos h, if_pos h, if_neg (by decide : ¬ nI 122 = nI 103), if_neg (by decide : ¬ nI 122 = nI 112), if_neg (by decide : ¬ nI 122 = nI 119), r4 0 (by decide), a2]
            unfold s_X0_putSeed
            rw [if_pos ((within_nI (by omega) (by decide) (by decide)).mpr ⟨Nat.zero_le _, a1⟩)]
            exact ⟨rfl, fun _ => ⟨r3, rfl, rfl, ⟨hP, hQ, rfl⟩, hp, hq⟩⟩
          · rw [if_neg h, if_neg h]
            exact ⟨rfl, fun z => (by cases z)⟩
        · have f122 : ¬ s_X3_at n Le pl = nI 122 := fun z => c122 (a122.mp z)
          have en : s_X2_numbersOf (s_X3_at n Le pl) = 0 := by
            unfold s_X2_numbersOf
            rw [if_neg f103, if_neg f112, if_neg f119, if_neg f122]
          rw [if_neg c122, if_pos en]
          exact ⟨rfl, fun z => (by cases z)⟩
end
