/-! ===== what is kept from call to call ===== -/
theorem read_rel {n : Nat} {Le : Nat → Int32} {mtx : zF} (T : TX n Le n mtx) : ∀ (f1 f2 it pl : Nat) (Nu : Nat → Int32) (P Q : Nat) (sd : Int32) (B : zB) (mfa : Nat) (mrs : Int32) (mnu mrd mrl : zF), n ≤ pl + f1 → n ≤ pl + f2 → RBK P Q sd B mrs mrd mrl →
    ((f_X7_isRead_20 n mtx f2 pl mfa P Q mrs mnu mrd mrl).1 = true → (f_X2_readInto_11 n Le f1 it pl Nu P Q sd B).1 = -4 ∧ (f_X2_readInto_11 n Le f1 it pl Nu P Q sd B).2.2.2.1 = (f_X7_isRead_20 n mtx f2 pl mfa P Q mrs mnu mrd mrl).2.2.2.1 ∧ (f_X2_readInto_11 n Le f1 it pl Nu P Q sd B).2.2.2.2.1 = (f_X7_isRead_20 n mtx f2 pl mfa P Q mrs mnu mrd mrl).2.2.2.2.1 ∧ (f_X2_readInto_11 n Le f1 it pl Nu P Q sd B).2.2.2.2.2.1 = 0 ∧
      RBK (f_X2_readInto_11 n Le f1 it pl Nu P Q sd B).2.2.2.1 (f_X2_readInto_11 n Le f1 it pl Nu P Q sd B).2.2.2.2.1 (f_X2_readInto_11 n Le f1 it pl Nu P Q sd B).2.2.2.2.2.2.1 (f_X2_readInto_11 n Le f1 it pl Nu P Q sd B).2.2.2.2.2.2.2 (f_X7_isRead_20 n mtx f2 pl mfa P Q mrs mnu mrd mrl).2.2.2.2.2.1 (f_X7_isRead_20 n mtx f2 pl mfa P Q mrs mnu mrd mrl).2.2.2.2.2.2.2.1 (f_X7_isRead_20 n mtx f2 pl mfa P Q mrs mnu mrd mrl).2.2.2.2.2.2.2.2) ∧
    ((f_X7_isRead_20 n mtx f2 pl mfa P Q mrs mnu mrd mrl).1 = false → (f_X2_readInto_11 n Le f1 it pl Nu P Q sd B).1 = nI (f_X7_isRead_20 n mtx f2 pl mfa P Q mrs mnu mrd mrl).2.2.1 ∧ (f_X7_isRead_20 n mtx f2 pl mfa P Q mrs mnu mrd mrl).2.2.1 < 200)
  | 0, 0, it, pl, Nu, P, Q, sd, B, mfa, mrs, mnu, mrd, mrl, h1, h2, R => ⟨fun _ => ⟨rfl, rfl, rfl, rfl, R⟩, fun z => (by cases z)⟩
  | 0, f2 + 1, it, pl, Nu, P, Q, sd, B, mfa, mrs, mnu, mrd, mrl, h1, h2, R => by
    rw [f_X7_isRead_20, if_pos (by omega : n ≤ pl)]
    exact ⟨fun _ => ⟨rfl, rfl, rfl, rfl, R⟩, fun z => (by cases z)⟩
  | f1 + 1, 0, it, pl, Nu, P, Q, sd, B, mfa, mrs, mnu, mrd, mrl, h1, h2, R => by
    rw [f_X2_readInto_11, if_pos (by omega : n ≤ pl)]
    exact ⟨fun _ => ⟨rfl, rfl, rfl, rfl, R⟩, fun z => (by cases z)⟩
  | f1 + 1, f2 + 1, it, pl, Nu, P, Q, sd, B, mfa, mrs, mnu, mrd, mrl, h1, h2, R => by
    rw [f_X2_readInto_11, f_X7_isRead_20]
    by_cases c : n ≤ pl
    · rw [if_pos c, if_pos c]
      exact ⟨fun _ => ⟨rfl, rfl, rfl, rfl, R⟩, fun z => (by cases z)⟩
    · rw [if_neg c, if_neg c]
      obtain ⟨i1, i2⟩ := item_rel T R pl Nu mnu
      have hok := isItem_ok (mle := n) (mpo := pl) (mrs := mrs) (mtx := mtx) (mnu := mnu) (mrd := mrd) (mrl := mrl) R.1.1 R.1.2.1
      dsimp only
      rw [i1]
      by_cases h : (s_X7_isItem n pl P Q mrs mtx mnu mrd mrl).1 = true
      · obtain ⟨i3, i4, i5, i6⟩ := i2 h
        rw [if_pos h, if_pos h, i3, ← i4, ← i5]
        exact read_rel T f1 f2 (it + 1) _ _ _ _ _ _ pl _ _ _ _ (by omega) (by omega) i6
      · rw [if_neg h, if_neg h]
        have hn := T.2.1
        exact ⟨fun z => (by cases z), fun _ => ⟨rfl, (by omega : pl < 200)⟩⟩
theorem RBK_0 (B : zB) (mrd mrl : zF) : RBK 0 0 (nI 0) B (nI 0) mrd mrl := ⟨⟨by decide, by decide, rfl⟩, fun j hj => absurd hj (Nat.not_lt_zero j), fun k hk => absurd hk (Nat.not_lt_zero k)⟩
theorem into_rel {n : Nat} {Le : Nat → Int32} {mtx : zF} (T : TX n Le n mtx) (Nu : Nat → Int32) (B : zB) (mfa : Nat) (mnu mrd mrl : zF) :
    ((s_X7_isRead n mfa mtx mnu mrd mrl).1 = true → (s_X2_readInto Nu n Le B).1 = -4 ∧ (s_X2_readInto Nu n Le B).2.2.2.1 = (s_X7_isRead n mfa mtx mnu mrd mrl).2.2.2.1 ∧ (s_X2_readInto Nu n Le B).2.2.2.2.1 = (s_X7_isRead n mfa mtx mnu mrd mrl).2.2.2.2.1 ∧ (s_X2_readInto Nu n Le B).2.2.2.2.2.1 = 0 ∧
      RBK (s_X2_readInto Nu n Le B).2.2.2.1 (s_X2_readInto Nu n Le B).2.2.2.2.1 (s_X2_readInto Nu n Le B).2.2.2.2.2.2.1 (s_X2_readInto Nu n Le B).2.2.2.2.2.2.2 (s_X7_isRead n mfa mtx mnu mrd mrl).2.2.2.2.2.1 (s_X7_isRead n mfa mtx mnu mrd mrl).2.2.2.2.2.2.2.1 (s_X7_isRead n mfa mtx mnu mrd mrl).2.2.2.2.2.2.2.2) ∧
    ((s_X7_isRead n mfa mtx mnu mrd mrl).1 = false → (s_X2_readInto Nu n Le B).1 = nI (s_X7_isRead n mfa mtx mnu mrd mrl).2.2.1 ∧ (s_X7_isRead n mfa mtx mnu mrd mrl).2.2.1 < 200) := by
  obtain ⟨N, hN⟩ : ∃ N : Nat, N = 200 := ⟨_, rfl⟩
  have e : s_X2_readInto Nu n Le B = f_X2_readInto_11 n Le N 0 0 Nu 0 0 (nI 0) B := by
    unfold s_X2_readInto
    rw [hN]
  rw [e]
  unfold s_X7_isRead
  have hn := T.2.1
  exact read_rel T N n 0 0 Nu 0 0 (nI 0) B mfa (nI 0) mnu mrd mrl (by omega) (by omega) (RBK_0 B mrd mrl)
theorem ans_fault {n : Nat} {Le : Nat → Int32} {mtx : zF} (T : TX n Le n mtx) (Nu : Nat → Int32) (B : zB) (mfa : Nat) (mnu mrd mrl : zF) : (s_X6_fault Nu n Le B).1 = (s_X7_fault n mfa mtx mnu mrd mrl).1 := by
  obtain ⟨h1, h2⟩ := into_rel T Nu B mfa mnu mrd mrl
  unfold s_X6_fault s_X7_fault
  dsimp only
  by_cases h : (s_X7_isRead n mfa mtx mnu mrd mrl).1 = true
  · rw [if_pos h]
    exact (h1 h).1
  · rw [if_neg h]
    exact (h2 (by cases q : (s_X7_isRead n mfa mtx mnu mrd mrl).1 with | true => exact absurd q h | false => rfl)).1
/-! changes -/
theorem BK_congr {P Q Hn : Nat} {sd msd : Int32} {B : zB} {mP mQ : Nat} {mpe mno mno2 : zF} (K : BK P Q Hn sd B mP mQ msd mpe mno) (h : ∀ q, q < 40 → mno2 q = mno q) : BK P Q Hn sd B mP mQ msd mpe mno2 := by
  obtain ⟨k1, k2, k3, k4, k5⟩ := K
  refine ⟨k1, k2, fun k hk => ?_, (h 27 (by decide)).trans k4, fun j hj => ?_⟩
  · obtain ⟨⟨f, f1, f2, f3⟩, ⟨t, t1, t2, t3⟩, ⟨z, z0, z1, z2, z3⟩⟩ := k3 k hk
    exact ⟨⟨f, f1, f2, (h _ (by omega)).trans f3⟩, ⟨t, t1, t2, (h _ (by omega)).trans t3⟩, ⟨z, z0, z1, z2, (h _ (by omega)).trans z3⟩⟩
  · obtain ⟨⟨f, f1, f2, f3⟩, ⟨t, t1, t2, t3⟩, ⟨z, z0, z1, z2, z3⟩⟩ := k5 j hj
    exact ⟨⟨f, f1, f2, (h _ (by omega)).trans f3⟩, ⟨t, t1, t2, (h _ (by omega)).trans t3⟩, ⟨z, z0, z1, z2, (h _ (by omega)).trans z3⟩⟩
def EQV (Hn : Nat) (B B2 : zB) : Prop := B2.1 = B.1 ∧ B2.2.1 = B.2.1 ∧ B2.2.2.1 = B.2.2.1 ∧ B2.2.2.2.1 = B.2.2.2.1 ∧ B2.2.2.2.2.1 = B.2.2.2.2.1 ∧ B2.2.2.2.2.2.1 = B.2.2.2.2.2.1 ∧ B2.2.2.2.2.2.2.1 = B.2.2.2.2.2.2.1 ∧ B2.2.2.2.2.2.2.2.1 = B.2.2.2.2.2.2.2.1 ∧ ∀ h, h < Hn → B2.2.2.2.2.2.2.2.2.1 h = B.2.2.2.2.2.2.2.2.1 h ∧ B2.2.2.2.2.2.2.2.2.2.1 h = B.2.2.2.2.2.2.2.2.2.1 h ∧ B2.2.2.2.2.2.2.2.2.2.2 h = B.2.2.2.2.2.2.2.2.2.2 h
theorem BK_eqv {P Q Hn : Nat} {sd msd : Int32} {B B2 : zB} {mP mQ : Nat} {mpe mno : zF} (K : BK P Q Hn sd B mP mQ msd mpe mno) (h : EQV Hn B B2) : BK P Q Hn sd B2 mP mQ msd mpe mno := by
  obtain ⟨e1, e2, e3, e4, e5, e6, e7, e8, e9⟩ := h
  obtain ⟨k1, k2, k3, k4, k5⟩ := K
  refine ⟨k1, ?_, ?_, k4, fun j hj => ?_⟩
  · rw [e1, e2, e3, e4, e5]
    exact k2
  · unfold yFr yTo ySz
    rw [e6, e7, e8]
    exact k3
  · obtain ⟨g1, g2, g3⟩ := e9 j hj
    rw [g1, g2, g3]
    exact k5 j hj
/-- one change taken back -/
def tb (e1 e2 e3 : Int32) (Q Hn : Nat) (B : zB) : Nat × zB := if e1 = nI 2 then (s_X0_dropLastHelp Hn, B) else if s_X0_hasBequest Q e2 = true then (if e1 = 0 then (Hn, (B.1, B.2.1, B.2.2.1, B.2.2.2.1, B.2.2.2.2.1, B.2.2.2.2.2.1, B.2.2.2.2.2.2.1, (upd B.2.2.2.2.2.2.2.1 e2.toNatClampNeg e3), B.2.2.2.2.2.2.2.2)) else if e1 = nI 1 then (Hn, (B.1, B.2.1, B.2.2.1, B.2.2.2.1, B.2.2.2.2.1, B.2.2.2.2.2.1, (upd B.2.2.2.2.2.2.1 e2.toNatClampNeg e3), B.2.2.2.2.2.2.2)) else (Hn, B)) else (Hn, B)
theorem takeBack_eq (t : Nat) (Ch : zC) (Q Hn : Nat) (B : zB) : s_X1_takeBack (t + 1) Ch Q Hn B = (true, t, tb (Ch.1 t) (Ch.2.1 t) (Ch.2.2 t) Q Hn B) := by
  have a : ¬ t + 1 = 0 := by omega
  unfold s_X1_takeBack tb
  rw [if_neg a, Nat.add_sub_cancel]
  by_cases c : Ch.1 t = nI 2
  · rw [if_pos c, if_pos c]
  · rw [if_neg c, if_neg c]
    by_cases d : s_X0_hasBequest Q (Ch.2.1 t) = true
    · rw [if_pos d, if_pos d]
      by_cases e : Ch.1 t = 0
      · rw [if_pos e, if_pos e, if_pos d]
      · rw [if_neg e, if_neg e, if_pos d]
        by_cases f : Ch.1 t = nI 1
        · rw [if_pos f, if_pos f]
        · rw [if_neg f, if_neg f]
    · rw [if_neg d, if_neg d, if_neg d]
theorem tb_eqv {e1 e2 e3 : Int32} {Q Hn : Nat} {B B2 : zB} (h : EQV Hn B B2) : (tb e1 e2 e3 Q Hn B2).1 = (tb e1 e2 e3 Q Hn B).1 ∧ EQV (tb e1 e2 e3 Q Hn B).1 (tb e1 e2 e3 Q Hn B).2 (tb e1 e2 e3 Q Hn B2).2 := by
  obtain ⟨h1, h2, h3, h4, h5, h6, h7, h8, h9⟩ := h
  unfold tb
  by_cases c : e1 = nI 2
  · rw [if_pos c, if_pos c]
    refine ⟨rfl, h1, h2, h3, h4, h5, h6, h7, h8, fun j hj => h9 j ?_⟩
    have hj' : j < s_X0_dropLastHelp Hn := hj
    unfold s_X0_dropLastHelp at hj'
    split at hj' <;> omega
  · rw [if_neg c, if_neg c]
    by_cases d : s_X0_hasBequest Q e2 = true
    · rw [if_pos d, if_pos d]
      by_cases e : e1 = 0
      · rw [if_pos e, if_pos e]
        exact ⟨rfl, h1, h2, h3, h4, h5, h6, h7, by rw [h8], h9⟩
      · rw [if_neg e, if_neg e]
        by_cases f : e1 = nI 1
        · rw [if_pos f, if_pos f]
          exact ⟨rfl, h1, h2, h3, h4, h5, h6, by rw [h7], h8, h9⟩
        · rw [if_neg f, if_neg f]
          exact ⟨rfl, h1, h2, h3, h4, h5, h6, h7, h8, h9⟩
    · rw [if_neg d, if_neg d]
      exact ⟨rfl, h1, h2, h3, h4, h5, h6, h7, h8, h9⟩
/-- the changes noted, against the images noted -/
def HIS (P Q : Nat) (sd : Int32) (Ch : zC) (mpe mbo : zF) : Nat → Nat → zB → Prop
  | 0, _, _ => True
  | t + 1, Hn, B => BK P Q (tb (Ch.1 t) (Ch.2.1 t) (Ch.2.2 t) Q Hn B).1 sd (tb (Ch.1 t) (Ch.2.1 t) (Ch.2.2 t) Q Hn B).2 P Q sd mpe (fun q => mbo (40 * t + q)) ∧ HIS P Q sd Ch mpe mbo t (tb (Ch.1 t) (Ch.2.1 t) (Ch.2.2 t) Q Hn B).1 (tb (Ch.1 t) (Ch.2.1 t) (Ch.2.2 t) Q Hn B).2
section
variable {P Q : Nat} {sd : Int32} {mpe : zF}
theorem HIS_eqv {Ch : zC} {mbo : zF} : ∀ (t Hn : Nat) (B B2 : zB), EQV Hn B B2 → HIS P Q sd Ch mpe mbo t Hn B → HIS P Q sd Ch mpe mbo t Hn B2
  | 0, _, _, _, _, _ => trivial
  | t + 1, Hn, B, B2, h, ⟨k1, k2⟩ => by
    obtain ⟨e1, e2⟩ := tb_eqv (e1 := Ch.1 t) (e2 := Ch.2.1 t) (e3 := Ch.2.2 t) (Q := Q) h
    show BK P Q _ sd _ P Q sd mpe _ ∧ HIS P Q sd Ch mpe mbo t _ _
    rw [e1]
    exact ⟨BK_eqv k1 e2, HIS_eqv t _ _ _ e2 k2⟩
theorem HIS_ext {Ch Ch2 : zC} {mbo mbo2 : zF} : ∀ (t Hn : Nat) (B : zB), (∀ k, k < t → Ch2.1 k = Ch.1 k ∧ Ch2.2.1 k = Ch.2.1 k ∧ Ch2.2.2 k = Ch.2.2 k) → (∀ q, q < 40 * t → mbo2 q = mbo q) → HIS P Q sd Ch mpe mbo t Hn B → HIS P Q sd Ch2 mpe mbo2 t Hn B
  | 0, _, _, _, _, _ => trivial
  | t + 1, Hn, B, h1, h2, ⟨k1, k2⟩ => by
    obtain ⟨e1, e2, e3⟩ := h1 t (by omega)
    show BK P Q _ sd _ P Q sd mpe _ ∧ HIS P Q sd Ch2 mpe mbo2 t _ _
    rw [e1, e2, e3]
    exact ⟨BK_congr k1 (fun q hq => h2 _ (by omega)), HIS_ext t _ _ (fun k hk => h1 k (by omega)) (fun q hq => h2 q (by omega)) k2⟩
theorem HIS_shift {Ch Ch2 : zC} {mbo mbo2 : zF} : ∀ (t Hn : Nat) (B : zB), (∀ k, k < t → Ch2.1 k = Ch.1 (k + 1) ∧ Ch2.2.1 k = Ch.2.1 (k + 1) ∧ Ch2.2.2 k = Ch.2.2 (k + 1)) → (∀ q, q < 40 * t → mbo2 q = mbo (q + 40)) → HIS P Q sd Ch mpe mbo (t + 1) Hn B → HIS P Q sd Ch2 mpe mbo2 t Hn B
  | 0, _, _, _, _, _ => trivial
  | t + 1, Hn, B, h1, h2, ⟨k1, k2⟩ => by
    obtain ⟨e1, e2, e3⟩ := h1 t (by omega)
    show BK P Q _ sd _ P Q sd mpe _ ∧ HIS P Q sd Ch2 mpe mbo2 t _ _
    rw [e1, e2, e3]
    refine ⟨BK_congr k1 (fun q hq => ?_), HIS_shift t _ _ (fun k hk => h1 k (by omega)) (fun q hq => h2 q (by omega)) k2⟩
    rw [h2 _ (by omega)]
    show mbo (40 * t + q + 40) = mbo (40 * (t + 1) + q)
    congr 1
    omega
theorem lose_at : ∀ (n k : Nat) (Ch : zC), 1 ≤ k → (∀ j, k - 1 ≤ j → j < k - 1 + n → (f_X1_loseOldest_2 n k Ch).1 j = Ch.1 (j + 1) ∧ (f_X1_loseOldest_2 n k Ch).2.1 j = Ch.2.1 (j + 1) ∧ (f_X1_loseOldest_2 n k Ch).2.2 j = Ch.2.2 (j + 1)) ∧ ∀ j, (j < k - 1 ∨ k - 1 + n ≤ j) → (f_X1_loseOldest_2 n k Ch).1 j = Ch.1 j ∧ (f_X1_loseOldest_2 n k Ch).2.1 j = Ch.2.1 j ∧ (f_X1_loseOldest_2 n k Ch).2.2 j = Ch.2.2 j
  | 0, k, Ch, h => ⟨fun j a b => absurd a (by omega), fun j _ => ⟨rfl, rfl, rfl⟩⟩
  | n + 1, k, Ch, h => by
    obtain ⟨h1, h2⟩ := lose_at n (k + 1) ((upd Ch.1 (k - 1) (Ch.1 k)), (upd Ch.2.1 (k - 1) (Ch.2.1 k)), (upd Ch.2.2 (k - 1) (Ch.2.2 k))) (by omega)
    rw [f_X1_loseOldest_2]
    refine ⟨fun j a b => ?_, fun j a => ?_⟩
    · by_cases q : j = k - 1
      · obtain ⟨g1, g2, g3⟩ := h2 j (by omega)
        rw [g1, g2, g3, q, show k - 1 + 1 = k by omega]
        exact ⟨pk_us, pk_us, pk_us⟩
      · obtain ⟨g1, g2, g3⟩ := h1 j (by omega) (by omega)
        rw [g1, g2, g3]
        exact ⟨pk_un (by omega), pk_un (by omega), pk_un (by omega)⟩
    · obtain ⟨g1, g2, g3⟩ := h2 j (by omega)
      rw [g1, g2, g3]
      exact ⟨pk_un (by omega), pk_un (by omega), pk_un (by omega)⟩
theorem note11_at2 : ∀ (n k : Nat) (g : zF) (q : Nat), f_X7_note_11 n k g q = if k ≤ q ∧ q < k + n then g (q + 40) else g q
  | 0, k, g, q => (if_neg (by omega)).symm
  | n + 1, k, g, q => by
    rw [f_X7_note_11, note11_at2 n (k + 1) _ q]
    by_cases c : k + 1 ≤ q ∧ q < k + 1 + n
    · rw [if_pos c, if_pos (by omega), pk_un (by omega)]
    · rw [if_neg c]
      by_cases w : q = k
      · subst w
        rw [pk_us, if_pos (by omega)]
      · rw [pk_un w, if_neg (by omega)]
theorem copy3_at (f : Nat → Int32) (fr to : Nat) : ∀ (n k : Nat) (g : Nat → Int32) (q : Nat), f_X7_copy_3 f fr to n k g q = if to + k ≤ q ∧ q < to + k + n then f (fr + (q - to)) else g q
  | 0, k, g, q => (if_neg (by omega)).symm
  | n + 1, k, g, q => by
    rw [f_X7_copy_3, copy3_at f fr to n (k + 1) _ q]
    by_cases c : to + (k + 1) ≤ q ∧ q < to + (k + 1) + n
    · rw [if_pos c, if_pos (by omega)]
    · rw [if_neg c]
      by_cases w : q = to + k
      · subst w
        rw [pk_us, if_pos (by omega), show to + k - to = k by omega]
      · rw [pk_un w, if_neg (by omega)]
theorem copy_at (f g : Nat → Int32) (fr to q : Nat) : s_X7_copy f g fr to q = if to ≤ q ∧ q < to + 40 then f (fr + (q - to)) else g q := by
  have h := copy3_at f fr to 40 0 g q
  rw [Nat.add_zero] at h
  exact h
/-- a change is noted on both sides -/
theorem note_rel {Ch : zC} {mbo mno : zF} {cn Hn Hn2 : Nat} {B B2 : zB} {a1 a2 a3 : Int32} (hcn : cn ≤ 8) (K : BK P Q Hn sd B P Q sd mpe mno) (H : HIS P Q sd Ch mpe mbo cn Hn B) (ht : (tb a1 a2 a3 Q Hn2 B2).1 = Hn ∧ EQV Hn B (tb a1 a2 a3 Q Hn2 B2).2) :
    (s_X1_note cn Ch a1 a2 a3).1 = (s_X7_note cn mno mbo 280).1 ∧ (s_X1_note cn Ch a1 a2 a3).1 ≤ 8 ∧ HIS P Q sd (s_X1_note cn Ch a1 a2 a3).2 mpe (s_X7_note cn mno mbo 280).2 (s_X1_note cn Ch a1 a2 a3).1 Hn2 B2 := by
  obtain ⟨N, hN⟩ : ∃ N : Nat, N = 280 := ⟨_, rfl⟩
  rw [← hN]
  have key : ∀ (t : Nat) (C2 : zC) (m2 : zF), C2.1 t = a1 → C2.2.1 t = a2 → C2.2.2 t = a3 → (∀ q, q < 40 → m2 (40 * t + q) = mno q) → HIS P Q sd C2 mpe m2 t Hn B → HIS P Q sd C2 mpe m2 (t + 1) Hn2 B2 := by
    intro t C2 m2 e1 e2 e3 hm hH
    show BK P Q _ sd _ P Q sd mpe _ ∧ HIS P Q sd C2 mpe m2 t _ _
    rw [e1, e2, e3, ht.1]
    exact ⟨BK_congr (BK_eqv K ht.2) hm, HIS_eqv t _ _ _ ht.2 hH⟩
  unfold s_X1_note s_X7_note
  by_cases c : cn < 8
  · rw [if_pos c, if_neg (by omega : ¬ cn = 8)]
    refine ⟨rfl, (by omega : cn + 1 ≤ 8), key cn _ _ pk_us pk_us pk_us (fun q hq => ?_) (HIS_ext cn _ _ (fun k hk => ⟨pk_un (by omega), pk_un (by omega), pk_un (by omega)⟩) (fun q hq => ?_) H)⟩
    · show s_X7_copy mno mbo 0 (40 * cn) (40 * cn + q) = mno q
      rw [copy_at, if_pos (by omega)]
      congr 1
      omega
    · show s_X7_copy mno mbo 0 (40 * cn) q = mbo q
      rw [copy_at, if_neg (by omega)]
  · have e8 : cn = 8 := by omega
    subst e8
    rw [if_neg (by decide), if_pos rfl]
    obtain ⟨l1, l2⟩ := lose_at 7 1 Ch (by decide)
    have el : s_X1_loseOldest Ch = (7, f_X1_loseOldest_2 7 1 Ch) := rfl
    rw [el]
    refine ⟨rfl, (by decide : 7 + 1 ≤ 8), ?_⟩
    dsimp only
    refine key 7 _ _ (by show upd (f_X1_loseOldest_2 7 1 Ch).1 7 a1 7 = a1; exact pk_us) (by show upd (f_X1_loseOldest_2 7 1 Ch).2.1 7 a2 7 = a2; exact pk_us) (by show upd (f_X1_loseOldest_2 7 1 Ch).2.2 7 a3 7 = a3; exact pk_us) (fun q hq => ?_) (HIS_shift 7 _ _ (fun k hk => ?_) (fun q hq => ?_) H)
    · show s_X7_copy mno (f_X7_note_11 N 0 mbo) 0 (40 * 7) (40 * 7 + q) = mno q
      rw [copy_at, if_pos (by omega)]
      exact congrArg mno (by omega)
    · obtain ⟨g1, g2, g3⟩ := l1 k (by omega) (by omega)
      exact ⟨(pk_un (by omega)).trans g1, (pk_un (by omega)).trans g2, (pk_un (by omega)).trans g3⟩
    · show s_X7_copy mno (f_X7_note_11 N 0 mbo) 0 (40 * 7) q = mbo (q + 40)
      rw [copy_at, if_neg (by omega), note11_at2, if_pos (by omega)]
end
