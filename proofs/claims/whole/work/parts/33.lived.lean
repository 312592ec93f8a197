/-! ===== answers of the years ===== -/
def TO (old : Bool) (P Q Hn : Nat) (sd : Int32) (B : zB) (hav : Int32) (Y : zY) (PA : Nat → Nat → Int32) : Prop := old = false → ∃ Y0 PA0, hav = (s_X5_run Y0 PA0 P Q Hn sd B).1 ∧ Y = (s_X5_run Y0 PA0 P Q Hn sd B).2.1 ∧ PA = (s_X5_run Y0 PA0 P Q Hn sd B).2.2
section
variable {P Q Hn : Nat} {sd msd : Int32} {B : zB} {mP mQ : Nat} {mpe mno : zF} {old : Bool} {hav : Int32} {Y : zY} {PA : Nat → Nat → Int32}
theorem lived_eq (y : Nat → Nat) (h : TO old P Q Hn sd B hav Y PA) : ∃ Y0 PA0, s_X6_lived y old P Q Hn sd B hav Y PA = (y 0, false, (s_X5_run Y0 PA0 P Q Hn sd B).1, (s_X5_run Y0 PA0 P Q Hn sd B).2.1, (s_X5_run Y0 PA0 P Q Hn sd B).2.2) := by
  unfold s_X6_lived
  cases old with
  | true => exact ⟨Y, PA, if_pos rfl⟩
  | false =>
    obtain ⟨Y0, PA0, h1, h2, h3⟩ := h rfl
    refine ⟨Y0, PA0, ?_⟩
    rw [if_neg (by decide), ← h1, ← h2, ← h3]
theorem TO_new (Y0 : zY) (PA0 : Nat → Nat → Int32) : TO false P Q Hn sd B (s_X5_run Y0 PA0 P Q Hn sd B).1 (s_X5_run Y0 PA0 P Q Hn sd B).2.1 (s_X5_run Y0 PA0 P Q Hn sd B).2.2 := fun _ => ⟨Y0, PA0, rfl, rfl, rfl⟩
theorem BK.plain (K : BK P Q Hn sd B mP mQ msd mpe mno) (mwi mon : zF) : SC P Q Hn 6 (nI 0) 0 (bnOf B) B Q mno (wiP mno Q mwi) (onP mpe P mon) := by
  refine SC_plain K (fun q hq => wiP_at hq) (fun j hj => ?_) rfl rfl rfl
  obtain ⟨-, -, ⟨x, x0, x1, x2, x3⟩, ⟨y, y1, y2, y3⟩, -⟩ := K.2.1 j hj
  exact ⟨⟨x, x0, x1, x2⟩, ⟨y, y1, y2⟩, onP_at (by omega), onP_at (by omega), (onP_at (by omega)).trans (x3.trans x2.symm), (onP_at (by omega)).trans (y3.trans y2.symm), onP_at (by omega)⟩
theorem plain_run (K : BK P Q Hn sd B mP mQ msd mpe mno) (Y0 : zY) (PA0 : Nat → Nat → Int32) (mwi mon mdi mco mgo mbr mca : zF) :
    (s_X5_run Y0 PA0 P Q Hn sd B).1 = (s_X7_runPlain P Q sd mpe mno mwi mon mdi mco mgo mbr mca Hn).2.2.1 ∧
    (∀ j, j < P → (s_X5_run Y0 PA0 P Q Hn sd B).2.1.2.2.2.2.1 j = (if (s_X7_runPlain P Q sd mpe mno mwi mon mdi mco mgo mbr mca Hn).2.2.2.2.2.1 j < 0 then (-4 : Int32) else (s_X7_runPlain P Q sd mpe mno mwi mon mdi mco mgo mbr mca Hn).2.2.2.2.2.1 j) ∧ (s_X5_run Y0 PA0 P Q Hn sd B).2.1.2.2.2.2.2.1 j = (s_X7_runPlain P Q sd mpe mno mwi mon mdi mco mgo mbr mca Hn).2.2.2.2.2.2.2.1 j) ∧
    (∀ y, y < 151 → ∀ j, j < P → (s_X7_runPlain P Q sd mpe mno mwi mon mdi mco mgo mbr mca Hn).2.2.2.2.2.2.2.2.2 (6 * y + j) = (s_X5_run Y0 PA0 P Q Hn sd B).2.2 j y) ∧
    yMU P (bnOf B) (s_X7_runPlain P Q sd mpe mno mwi mon mdi mco mgo mbr mca Hn).2.2.1 (s_X7_runPlain P Q sd mpe mno mwi mon mdi mco mgo mbr mca Hn).2.2.2.2.2.1 ∧
    (∀ k, k < Q → (s_X5_run Y0 PA0 P Q Hn sd B).2.1.2.2.2.2.2.2 k = (s_X7_runPlain P Q sd mpe mno mwi mon mdi mco mgo mbr mca Hn).2.2.2.2.2.2.2.2.1 k) ∧
    ∀ j, j < P → B.1 j = nI (bnOf B j) ∧ bnOf B j ≤ 60 ∧ (s_X7_runPlain P Q sd mpe mno mwi mon mdi mco mgo mbr mca Hn).2.2.2.2.1 (5 * j) = B.1 j := by
  have hP := K.1.2.1
  have S := K.plain mwi mon
  obtain ⟨r1, r2, r3, r4⟩ := run_all (sd := sd) S (by omega) Y0 PA0 mdi mco mgo mbr mca
  refine ⟨r1, r2, r3, r4, fun k hk => ?_, fun j hj => ?_⟩
  · exact run_br (sd := sd) S (K.pl (fun q hq => wiP_at hq)) (by omega) Y0 PA0 mdi mco mgo mbr mca k hk
  · obtain ⟨⟨c1, c2, c3, -⟩, -⟩ := S.2.1 j hj
    exact ⟨c1, c2, c3⟩
theorem ans_dies (K : BK P Q Hn sd B mP mQ msd mpe mno) (T : TO old P Q Hn sd B hav Y PA) (y : Nat → Nat) (mwm : Nat) (mls mhd : Int32) (mwi mon mdi mco mgo mbr mca : zF) (i : Int32) :
    (s_X6_dies y old P Q Hn sd B hav Y PA i).1 = (s_X7_dies mP mQ mwm msd mls mhd mpe mno mwi mon mdi mco mgo mbr mca i Hn).1 ∧ TO (s_X6_dies y old P Q Hn sd B hav Y PA i).2.1 P Q Hn sd B (s_X6_dies y old P Q Hn sd B hav Y PA i).2.2.1 (s_X6_dies y old P Q Hn sd B hav Y PA i).2.2.2.1 (s_X6_dies y old P Q Hn sd B hav Y PA i).2.2.2.2 := by
  have hP := K.1.2.1
  unfold s_X6_dies s_X7_dies
  rw [K.eP, K.eQ, K.es, ← hasP_in (P := P) (by omega)]
  by_cases h : s_X0_hasPerson P i = true
  · obtain ⟨e, hi⟩ := hasP_nat9 h (by omega)
    obtain ⟨Y0, PA0, el⟩ := lived_eq y T
    obtain ⟨r1, r2, r3, r4, r5, r6⟩ := plain_run K Y0 PA0 mwi mon mdi mco mgo mbr mca
    rw [if_pos h, if_pos h, el]
    refine ⟨?_, TO_new Y0 PA0⟩
    dsimp only
    rw [(r2 _ hi).1]
    by_cases c : (s_X7_runPlain P Q sd mpe mno mwi mon mdi mco mgo mbr mca Hn).2.2.2.2.2.1 i.toNatClampNeg < 0
    · rw [if_pos c, if_neg (Int32.not_le.mpr c)]
    · rw [if_neg c, if_pos (Int32.not_lt.mp c)]
  · rw [if_neg h, if_neg h]
    exact ⟨rfl, T⟩
theorem ans_having (K : BK P Q Hn sd B mP mQ msd mpe mno) (T : TO old P Q Hn sd B hav Y PA) (y : Nat → Nat) (mwi mon mdi mco mgo mbr mca : zF) :
    (s_X6_having y old P Q Hn sd B hav Y PA).1 = (s_X7_having mP mQ msd mpe mno mwi mon mdi mco mgo mbr mca Hn).1 ∧ TO (s_X6_having y old P Q Hn sd B hav Y PA).2.1 P Q Hn sd B (s_X6_having y old P Q Hn sd B hav Y PA).2.2.1 (s_X6_having y old P Q Hn sd B hav Y PA).2.2.2.1 (s_X6_having y old P Q Hn sd B hav Y PA).2.2.2.2 := by
  unfold s_X6_having s_X7_having
  rw [K.eP, K.eQ, K.es]
  obtain ⟨Y0, PA0, el⟩ := lived_eq y T
  obtain ⟨r1, r2, r3, r4, r5, r6⟩ := plain_run K Y0 PA0 mwi mon mdi mco mgo mbr mca
  rw [el]
  exact ⟨r1, TO_new Y0 PA0⟩
theorem ans_coins (K : BK P Q Hn sd B mP mQ msd mpe mno) (T : TO old P Q Hn sd B hav Y PA) (y : Nat → Nat) (mwm : Nat) (mls mhd : Int32) (mwi mon mdi mco mgo mbr mca : zF) (i yr : Int32) :
    (s_X6_coins y old P Q Hn sd B hav Y PA i yr).1 = (s_X7_coins mP mQ mwm msd mls mhd mpe mno mwi mon mdi mco mgo mbr mca i yr Hn).1 ∧ TO (s_X6_coins y old P Q Hn sd B hav Y PA i yr).2.1 P Q Hn sd B (s_X6_coins y old P Q Hn sd B hav Y PA i yr).2.2.1 (s_X6_coins y old P Q Hn sd B hav Y PA i yr).2.2.2.1 (s_X6_coins y old P Q Hn sd B hav Y PA i yr).2.2.2.2 := by
  have hP := K.1.2.1
  unfold s_X6_coins s_X7_coins
  rw [K.eP, K.eQ, K.es, ← hasP_in (P := P) (by omega), within_in]
  by_cases h : s_X0_hasPerson P i = true
  · obtain ⟨e, hi⟩ := hasP_nat9 h (by omega)
    rw [if_pos h, if_pos h]
    by_cases hw : s_X7_in yr (nI 0) (nI 150) = true
    · obtain ⟨ew, hw2⟩ := in_nat hw (by decide) (by decide)
      obtain ⟨Y0, PA0, el⟩ := lived_eq y T
      obtain ⟨r1, r2, r3, r4, r5, r6⟩ := plain_run K Y0 PA0 mwi mon mdi mco mgo mbr mca
      rw [if_pos hw, if_pos hw, el]
      exact ⟨(r3 _ (by omega) _ hi).symm, TO_new Y0 PA0⟩
    · rw [if_neg hw, if_neg hw]
      exact ⟨rfl, T⟩
  · rw [if_neg h, if_neg h]
    exact ⟨rfl, T⟩
theorem ans_brought (K : BK P Q Hn sd B mP mQ msd mpe mno) (T : TO old P Q Hn sd B hav Y PA) (y : Nat → Nat) (mwm : Nat) (mls mhd : Int32) (mwi mon mdi mco mgo mbr mca : zF) (i : Int32) :
    (s_X6_brought y old P Q Hn sd B hav Y PA i).1 = (s_X7_brought mP mQ mwm msd mls mhd mpe mno mwi mon mdi mco mgo mbr mca i Hn).1 ∧ TO (s_X6_brought y old P Q Hn sd B hav Y PA i).2.1 P Q Hn sd B (s_X6_brought y old P Q Hn sd B hav Y PA i).2.2.1 (s_X6_brought y old P Q Hn sd B hav Y PA i).2.2.2.1 (s_X6_brought y old P Q Hn sd B hav Y PA i).2.2.2.2 := by
  have hQ := K.1.2.2.1
  unfold s_X6_brought s_X7_brought
  rw [K.eP, K.eQ, K.es, hasB_hasP, ← hasP_in (P := Q) (by omega)]
  by_cases h : s_X0_hasPerson Q i = true
  · obtain ⟨e, hi⟩ := hasP_nat9 h (by omega)
    obtain ⟨Y0, PA0, el⟩ := lived_eq y T
    obtain ⟨r1, r2, r3, r4, r5, r6⟩ := plain_run K Y0 PA0 mwi mon mdi mco mgo mbr mca
    rw [if_pos h, if_pos h, el]
    exact ⟨r5 _ hi, TO_new Y0 PA0⟩
  · rw [if_neg h, if_neg h]
    exact ⟨rfl, T⟩
theorem ans_inherited (K : BK P Q Hn sd B mP mQ msd mpe mno) (T : TO old P Q Hn sd B hav Y PA) (y : Nat → Nat) (mwm : Nat) (mls mhd : Int32) (mwi mon mdi mco mgo mbr mca : zF) (i : Int32) :
    (s_X6_inherited y old P Q Hn sd B hav Y PA i).1 = (s_X7_inherited mP mQ mwm msd mls mhd mpe mno mwi mon mdi mco mgo mbr mca i Hn).1 ∧ TO (s_X6_inherited y old P Q Hn sd B hav Y PA i).2.1 P Q Hn sd B (s_X6_inherited y old P Q Hn sd B hav Y PA i).2.2.1 (s_X6_inherited y old P Q Hn sd B hav Y PA i).2.2.2.1 (s_X6_inherited y old P Q Hn sd B hav Y PA i).2.2.2.2 := by
  have hP := K.1.2.1
  unfold s_X6_inherited s_X7_inherited
  rw [K.eP, K.eQ, K.es, ← hasP_in (P := P) (by omega)]
  by_cases h : s_X0_hasPerson P i = true
  · obtain ⟨e, hi⟩ := hasP_nat9 h (by omega)
    obtain ⟨Y0, PA0, el⟩ := lived_eq y T
    obtain ⟨r1, r2, r3, r4, r5, r6⟩ := plain_run K Y0 PA0 mwi mon mdi mco mgo mbr mca
    rw [if_pos h, if_pos h, el]
    exact ⟨(r2 _ hi).2, TO_new Y0 PA0⟩
  · rw [if_neg h, if_neg h]
    exact ⟨rfl, T⟩
theorem ans_first (K : BK P Q Hn sd B mP mQ msd mpe mno) (T : TO old P Q Hn sd B hav Y PA) (y : Nat → Nat) (mwi mon mdi mco mgo mbr mca : zF) :
    (s_X6_first y old P Q Hn sd B hav Y PA).1 = (s_X7_first mP mQ msd mpe mno mwi mon mdi mco mgo mbr mca Hn).1 ∧ TO (s_X6_first y old P Q Hn sd B hav Y PA).2.1 P Q Hn sd B (s_X6_first y old P Q Hn sd B hav Y PA).2.2.1 (s_X6_first y old P Q Hn sd B hav Y PA).2.2.2.1 (s_X6_first y old P Q Hn sd B hav Y PA).2.2.2.2 := by
  unfold s_X6_first s_X7_first
  rw [K.eP, K.eQ, K.es]
  obtain ⟨Y0, PA0, el⟩ := lived_eq y T
  obtain ⟨r1, r2, r3, r4, r5, r6⟩ := plain_run K Y0 PA0 mwi mon mdi mco mgo mbr mca
  rw [el]
  refine ⟨?_, TO_new Y0 PA0⟩
  exact first_rel K.1.2.1 r1.symm (by rw [r1]; exact r4) (fun j hj => (r2 j hj).1) P 0 (-4) (nI 151) (by omega) (Or.inl ⟨by decide, rfl⟩)
theorem ans_longest (K : BK P Q Hn sd B mP mQ msd mpe mno) (T : TO old P Q Hn sd B hav Y PA) (y : Nat → Nat) (mwm : Nat) (mls mhd : Int32) (mwi mon mdi mco mgo mbr mca : zF) (wh : Int32) :
    (s_X6_longest y old P Q Hn sd B hav Y PA wh).1 = (s_X7_longest mP mQ mwm msd mls mhd mpe mno mwi mon mdi mco mgo mbr mca wh Hn).1 ∧ TO (s_X6_longest y old P Q Hn sd B hav Y PA wh).2.1 P Q Hn sd B (s_X6_longest y old P Q Hn sd B hav Y PA wh).2.2.1 (s_X6_longest y old P Q Hn sd B hav Y PA wh).2.2.2.1 (s_X6_longest y old P Q Hn sd B hav Y PA wh).2.2.2.2 := by
  unfold s_X6_longest s_X7_longest
  rw [K.eP, K.eQ, K.es]
  obtain ⟨Y0, PA0, el⟩ := lived_eq y T
  obtain ⟨r1, r2, r3, r4, r5, r6⟩ := plain_run K Y0 PA0 mwi mon mdi mco mgo mbr mca
  have hl := longest_all (Y := (s_X5_run Y0 PA0 P Q Hn sd B).2.1) (B := B) (u := s_X7_runPlain P Q sd mpe mno mwi mon mdi mco mgo mbr mca Hn) K.1.1 K.1.2.1 r4 r6 (fun j hj => (r2 j hj).1)
  have el2 : s_X6_lived y false P Q Hn sd B (s_X5_run Y0 PA0 P Q Hn sd B).1 (s_X5_run Y0 PA0 P Q Hn sd B).2.1 (s_X5_run Y0 PA0 P Q Hn sd B).2.2 = (y 0, false, (s_X5_run Y0 PA0 P Q Hn sd B).1, (s_X5_run Y0 PA0 P Q Hn sd B).2.1, (s_X5_run Y0 PA0 P Q Hn sd B).2.2) := if_neg (by decide)
  by_cases h0 : wh = 0
  · have hin : s_X7_in wh (nI 0) (nI 1) = true := by rw [h0]; decide
    rw [if_pos h0, if_pos hin, el]
    dsimp only
    rw [if_pos h0, if_pos h0]
    exact ⟨hl.1.symm, TO_new Y0 PA0⟩
  · rw [if_neg h0]
    by_cases h1 : wh = nI 1
    · have hin : s_X7_in wh (nI 0) (nI 1) = true := by rw [h1]; decide
      rw [if_pos h1, if_pos hin, el]
      dsimp only
      rw [if_neg h0, if_neg h0, el2]
      exact ⟨hl.2.symm, TO_new Y0 PA0⟩
    · have hin : ¬ s_X7_in wh (nI 0) (nI 1) = true := fun z => by
        obtain ⟨e, hw⟩ := in_nat z (by decide) (by decide)
        have : wh.toNatClampNeg = 0 ∨ wh.toNatClampNeg = 1 := by omega
        rcases this with q | q
        · rw [q] at e; exact h0 (e.trans nI_0)
        · rw [q] at e; exact h1 e
      rw [if_neg h1, if_neg hin]
      exact ⟨rfl, T⟩
end
