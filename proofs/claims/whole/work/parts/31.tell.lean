/-! ===== what is told of a run ===== -/
theorem bits_tab : ∀ v : Fin 64, ∀ P : Fin 7, (∀ j : Fin 6, P.val ≤ j.val → s_X7_has (nI v.val) j.val = false) → s_J6_bitCount_0f7a4 (nI v.val) = s_X7_hadMany P.val (nI v.val) := by decide +kernel
theorem dh_tab : ∀ v : Fin 64, ∀ j : Fin 6, s_X5_diedHaving (nI v.val) j.val = s_X7_has (nI v.val) j.val ∧ ((((nI v.val >>> ((nI j.val) &&& 31)) &&& (nI 1)) = 0) ↔ s_X7_has (nI v.val) j.val = false) := by decide +kernel
theorem mu_count {P : Nat} {bn : Nat → Nat} {mhd : Int32} {mdi : zF} (hP : P ≤ 6) (h : yMU P bn mhd mdi) : s_J6_bitCount_0f7a4 mhd = s_X7_hadMany P mhd := by
  obtain ⟨⟨⟨v, hv, rfl⟩, h2⟩, -⟩ := h
  exact bits_tab ⟨v, hv⟩ ⟨P, by omega⟩ (fun j hj => h2 j.val hj j.isLt)
theorem mu_dh {P j : Nat} {bn : Nat → Nat} {mhd : Int32} {mdi : zF} (hj : j < 6) (h : yMU P bn mhd mdi) : s_X5_diedHaving mhd j = s_X7_has mhd j ∧ ((((mhd >>> ((nI j) &&& 31)) &&& (nI 1)) = 0) ↔ s_X7_has mhd j = false) := by
  obtain ⟨⟨⟨v, hv, rfl⟩, -⟩, -⟩ := h
  exact dh_tab ⟨v, hv⟩ ⟨j, hj⟩
theorem nI_neg4 {y : Nat} (h : y < 2 ^ 31) : ¬ nI y = -4 := by
  intro e
  have h1 := nI_pos h
  rw [e] at h1
  exact h1 (by decide)
theorem first_rel {P : Nat} {bn : Nat → Nat} {hav : Int32} {Y : zY} {u1 : Nat × Int32 × Int32 × zF × zF × zF × zF × zF × zF × zF} (hP : P ≤ 6) (hh : u1.2.2.1 = hav) (hm : yMU P bn hav u1.2.2.2.2.2.1) (hd : ∀ j, j < P → Y.2.2.2.2.1 j = (if u1.2.2.2.2.2.1 j < 0 then (-4 : Int32) else u1.2.2.2.2.2.1 j)) : ∀ (n i : Nat) (who wn : Int32), i + n = P → ((who < 0 ∧ wn = nI 151) ∨ ∃ b, b < P ∧ who = nI b ∧ wn = u1.2.2.2.2.2.1 b) →
    (f_X5_firstWithout_9 hav Y n i who wn).1 = f_X7_first_9 u1 n i who
  | 0, i, who, wn, _, _ => rfl
  | n + 1, i, who, wn, hn, h => by
    have hi : i < P := by omega
    obtain ⟨d1, d2⟩ := mu_dh (j := i) (by omega) hm
    rw [f_X5_firstWithout_9, f_X7_first_9, hd i hi, hh]
    rcases hm.2 i hi with hx | ⟨y, y1, y2, y3⟩
    · rw [if_pos hx, if_pos hx, if_pos rfl]
      exact first_rel hP hh hm hd n (i + 1) who wn (by omega) h
    · have hx : ¬ u1.2.2.2.2.2.1 i < 0 := by rw [y3]; exact nI_pos (by omega)
      have hx4 : ¬ u1.2.2.2.2.2.1 i = -4 := by rw [y3]; exact nI_neg4 (by omega)
      rw [if_neg hx, if_neg hx, if_neg hx4, d1]
      by_cases hb : s_X7_has hav i = true
      · have hb2 : ¬ ((hav >>> ((nI i) &&& 31)) &&& (nI 1)) = 0 := fun z => by rw [d2.mp z] at hb; cases hb
        rw [if_pos hb, if_neg hb2]
        exact first_rel hP hh hm hd n (i + 1) who wn (by omega) h
      · have hb2 : ((hav >>> ((nI i) &&& 31)) &&& (nI 1)) = 0 := d2.mpr (by cases q : s_X7_has hav i with | true => exact absurd q hb | false => rfl)
        rw [if_neg hb, if_pos hb2]
        rcases h with ⟨h1, h2⟩ | ⟨b, b1, b2, b3⟩
        · have hw : ¬ wn ≤ u1.2.2.2.2.2.1 i := by rw [h2, y3, nI_leI (by decide) (by omega)]; omega
          rw [if_pos h1, if_neg hw]
          exact first_rel hP hh hm hd n (i + 1) (nI i) _ (by omega) (Or.inr ⟨i, hi, rfl, rfl⟩)
        · have hw : ¬ who < 0 := by rw [b2]; exact nI_pos (by omega)
          have eb : who.toNatClampNeg = b := by rw [b2, nI_clamp (by omega)]
          rw [if_neg hw, eb, ← b3]
          by_cases c : wn ≤ u1.2.2.2.2.2.1 i
          · rw [if_pos c, if_pos c]
            exact first_rel hP hh hm hd n (i + 1) who wn (by omega) (Or.inr ⟨b, b1, b2, b3⟩)
          · rw [if_neg c, if_neg c]
            exact first_rel hP hh hm hd n (i + 1) (nI i) _ (by omega) (Or.inr ⟨i, hi, rfl, rfl⟩)
theorem hasP_nI {P j : Nat} (hj : j < P) (hP : P ≤ 6) : s_X0_hasPerson P (nI j) = true := by
  unfold s_X0_hasPerson
  rw [if_neg (nI_pos (by omega)), if_neg (nI_ge hj (by omega))]
theorem age_eq {P : Nat} {bn : Nat → Nat} {hav : Int32} {Y : zY} {B : zB} {mdi mon : zF} {j : Nat} (hP : P ≤ 6) (hj : j < P) (hm : yMU P bn hav mdi) (hb : B.1 j = nI (bn j) ∧ bn j ≤ 60 ∧ mon (5 * j) = B.1 j) (hd : Y.2.2.2.2.1 j = (if mdi j < 0 then (-4 : Int32) else mdi j)) :
    s_X5_ageReached Y P B (nI j) = (if 0 ≤ mdi j then mdi j - mon (5 * j) else nI 150 - mon (5 * j)) ∧ ∃ a, a < 2 ^ 30 ∧ s_X5_ageReached Y P B (nI j) = nI a := by
  obtain ⟨b1, b2, b3⟩ := hb
  unfold s_X5_ageReached
  rw [if_pos (hasP_nI hj hP), nI_clamp (by omega), hd, b3, b1]
  rcases hm.2 j hj with hx | ⟨y, y1, y2, y3⟩
  · rw [if_pos hx, if_pos rfl, if_neg (Int32.not_le.mpr hx)]
    exact ⟨rfl, 150 - bn j, by omega, pk_sub (by omega)⟩
  · have hx : ¬ mdi j < 0 := by rw [y3]; exact nI_pos (by omega)
    have hx4 : ¬ mdi j = -4 := by rw [y3]; exact nI_neg4 (by omega)
    rw [if_neg hx, if_neg hx4, if_pos (Int32.not_lt.mp hx), y3]
    exact ⟨rfl, y - bn j, by omega, pk_sub (by omega)⟩
theorem longest_step (u : Nat × Int32 × Int32 × zF × zF × zF × zF × zF × zF × zF) (n i : Nat) (be mo a : Int32) (ha : a = (if 0 ≤ u.2.2.2.2.2.1 i then u.2.2.2.2.2.1 i - u.2.2.2.2.1 (5 * i) else nI 150 - u.2.2.2.2.1 (5 * i))) : f_X7_longest_22 u (n + 1) i be mo = if a ≤ mo then f_X7_longest_22 u n (i + 1) be mo else f_X7_longest_22 u n (i + 1) (nI i) a := by
  rw [f_X7_longest_22, ha]
  by_cases c : 0 ≤ u.2.2.2.2.2.1 i
  · rw [if_pos c, if_pos c]
    by_cases w : u.2.2.2.2.2.1 i - u.2.2.2.2.1 (5 * i) ≤ mo
    · rw [if_pos w, if_pos w, if_pos w]
    · rw [if_neg w, if_neg w, if_neg w]
  · rw [if_neg c, if_neg c]
    by_cases w : nI 150 - u.2.2.2.2.1 (5 * i) ≤ mo
    · rw [if_pos w, if_pos w, if_pos w]
    · rw [if_neg w, if_neg w, if_neg w]
theorem longest_rel {P : Nat} {bn : Nat → Nat} {hav : Int32} {Y : zY} {B : zB} {u : Nat × Int32 × Int32 × zF × zF × zF × zF × zF × zF × zF} (hP : P ≤ 6) (hm : yMU P bn hav u.2.2.2.2.2.1) (hb : ∀ j, j < P → B.1 j = nI (bn j) ∧ bn j ≤ 60 ∧ u.2.2.2.2.1 (5 * j) = B.1 j) (hd : ∀ j, j < P → Y.2.2.2.2.1 j = (if u.2.2.2.2.2.1 j < 0 then (-4 : Int32) else u.2.2.2.2.2.1 j)) : ∀ (n i w : Nat), i + n = P → w < P →
    (f_X7_longest_22 u n i (nI w) (s_X5_ageReached Y P B (nI w))).1 = f_X5_oldest_4 Y P B n i (nI w) ∧ (f_X7_longest_22 u n i (nI w) (s_X5_ageReached Y P B (nI w))).2 = s_X5_ageReached Y P B (f_X5_oldest_4 Y P B n i (nI w))
  | 0, i, w, _, _ => ⟨rfl, rfl⟩
  | n + 1, i, w, hn, hw => by
    have hi : i < P := by omega
    rw [longest_step u n i _ _ _ (age_eq (B := B) (mon := u.2.2.2.2.1) hP hi hm (hb i hi) (hd i hi)).1, f_X5_oldest_4]
    by_cases c : s_X5_ageReached Y P B (nI i) ≤ s_X5_ageReached Y P B (nI w)
    · rw [if_pos c, if_pos c]
      exact longest_rel hP hm hb hd n (i + 1) w (by omega) hw
    · rw [if_neg c, if_neg c]
      exact longest_rel hP hm hb hd n (i + 1) i (by omega) hi
theorem nI_nle1 {a : Nat} (h : a < 2 ^ 31) : ¬ nI a ≤ -1 := by
  intro q
  rw [Int32.le_iff_toInt_le, nI_toInt h] at q
  have : (-1 : Int32).toInt = -1 := by decide
  omega
theorem longest_all {P : Nat} {bn : Nat → Nat} {hav : Int32} {Y : zY} {B : zB} {u : Nat × Int32 × Int32 × zF × zF × zF × zF × zF × zF × zF} (h1 : 1 ≤ P) (hP : P ≤ 6) (hm : yMU P bn hav u.2.2.2.2.2.1) (hb : ∀ j, j < P → B.1 j = nI (bn j) ∧ bn j ≤ 60 ∧ u.2.2.2.2.1 (5 * j) = B.1 j) (hd : ∀ j, j < P → Y.2.2.2.2.1 j = (if u.2.2.2.2.2.1 j < 0 then (-4 : Int32) else u.2.2.2.2.2.1 j)) :
    (f_X7_longest_22 u P 0 (nI 0) (-1)).1 = s_X5_oldest Y P B ∧ (f_X7_longest_22 u P 0 (nI 0) (-1)).2 = s_X5_ageReached Y P B (s_X5_oldest Y P B) := by
  obtain ⟨n, rfl⟩ : ∃ n, P = n + 1 := ⟨P - 1, by omega⟩
  obtain ⟨a1, a, a2, a3⟩ := age_eq (B := B) (mon := u.2.2.2.2.1) hP (by omega : 0 < n + 1) hm (hb 0 (by omega)) (hd 0 (by omega))
  have h0 := longest_rel hP hm hb hd n 1 0 (by omega) (by omega)
  rw [longest_step u n 0 _ _ _ a1, if_neg (by rw [a3]; exact nI_nle1 (by omega))]
  exact h0
theorem last_rel {P : Nat} {bn : Nat → Nat} {hav : Int32} {Y : zY} {u : Int32 × zF × zF × zF × zF × zF} (hP : P ≤ 6) (hh : u.1 = hav) (hm : yMU P bn hav u.2.1) (hd : ∀ j, j < P → Y.2.2.2.2.1 j = (if u.2.1 j < 0 then (-4 : Int32) else u.2.1 j)) : ∀ (n i : Nat) (la : Int32), i + n = P → ¬ la < 0 → f_X5_lastHaving_4 hav Y n i la = f_X7_generations_39 u n i la
  | 0, i, la, _, _ => rfl
  | n + 1, i, la, hn, hl => by
    have hi : i < P := by omega
    rw [f_X5_lastHaving_4, f_X7_generations_39, hh, (mu_dh (j := i) (by omega) hm).1, hd i hi]
    by_cases hb : s_X7_has hav i = true
    · rw [if_pos hb, if_pos hb]
      rcases hm.2 i hi with hx | ⟨y, y1, y2, y3⟩
      · have c1 : u.2.1 i ≤ la := by
          rw [Int32.lt_iff_toInt_lt, Int32.toInt_zero] at hx hl
          rw [Int32.le_iff_toInt_le]
          omega
        have c2 : ¬ la < -4 := fun q => by
          rw [Int32.lt_iff_toInt_lt] at q
          rw [Int32.lt_iff_toInt_lt, Int32.toInt_zero] at hl
          have : (-4 : Int32).toInt = -4 := by decide
          omega
        rw [if_pos hx, if_pos c1]
        dsimp only
        rw [if_neg c2]
        exact last_rel hP hh hm hd n (i + 1) la (by omega) hl
      · have hx : ¬ u.2.1 i < 0 := by rw [y3]; exact nI_pos (by omega)
        rw [if_neg hx]
        dsimp only
        by_cases c : u.2.1 i ≤ la
        · rw [if_pos c, if_neg (Int32.not_lt.mpr c)]
          exact last_rel hP hh hm hd n (i + 1) la (by omega) hl
        · rw [if_neg c, if_pos (Int32.not_le.mp c)]
          exact last_rel hP hh hm hd n (i + 1) _ (by omega) hx
    · rw [if_neg hb, if_neg hb]
      exact last_rel hP hh hm hd n (i + 1) la (by omega) hl
