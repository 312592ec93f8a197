/-! ===== one run against the other ===== -/
theorem lv_agree {P i yr t : Nat} {st mon mdi : zF} (hy : yr ≤ 150) (hP : P ≤ 6) (ht : t < P) (hl : ∀ j, j < P → (st j = nI 1 ↔ s_X7_lives mon mdi j yr = true)) : lvC (upd st i (nI 2)) P (nI t) = lvM mon (upd mdi i (nI yr)) yr (nI t) := by
  have e1 : lvM mon (upd mdi i (nI yr)) yr (nI t) = s_X7_lives mon (upd mdi i (nI yr)) t yr := by
    unfold lvM
    rw [if_neg (nI_pos (by omega)), nI_clamp (by omega)]
  rw [e1, Bool.eq_iff_iff, lvC_nI ht (by omega)]
  by_cases q : t = i
  · subst q
    rw [pk_us, lives_dead hy]
    exact ⟨fun h => absurd h n21, fun h => (by cases h)⟩
  · have e2 : s_X7_lives mon (upd mdi i (nI yr)) t yr = s_X7_lives mon mdi t yr := by
      unfold s_X7_lives
      rw [pk_un q]
    rw [pk_un q, e2]
    exact hl t ht
theorem ofs_ne {i0 j : Nat} {d : Int32} {st : zF} (h : j ≠ i0) : ofs i0 d st j = nI 0 := if_neg (fun q => h q.1)
theorem ofs_dead {i0 j : Nat} {d : Int32} {st : zF} (h : st j ≠ nI 1) : ofs i0 d st j = nI 0 := if_neg (fun q => h q.2)
/-- a death of one who isn't the special one, on both sides -/
theorem die_rel {P Q Hn i0 dn mwm i yr : Nat} {d : Int32} {bn : Nat → Nat} {B : zB} {mno mwi mon mdi mco mgo mbr : zF} {Y : zY} (S : SC P Q Hn i0 d dn bn B mwm mno mwi mon) (hy : yr ≤ 150) (hi : i < P) (hne : i ≠ i0) (hR : yRL P i0 d bn (yr + 1) Y mdi mco mgo) (ha : ∃ a, a < 2 ^ 31 ∧ Y.2.1 i = nI a) (hv : Y.1 i = nI 1) :
    yRL P i0 d bn (yr + 1) (s_X5_die Y P Q B i yr) (s_X7_die mwm mwi mon mdi mco mgo mbr i yr).1 (s_X7_die mwm mwi mon mdi mco mgo mbr i yr).2.1 (s_X7_die mwm mwi mon mdi mco mgo mbr i yr).2.2.1 := by
  obtain ⟨⟨hP, hQ, hH, hmw, ed, hdn⟩, hb, hh, ⟨hs1, hs2⟩, hl1, hl2⟩ := S
  obtain ⟨a, ha1, ea⟩ := ha
  have em : mco i = nI a := by rw [(hR i hi).2.2.1, ofs_ne hne, z_add0, ea]
  obtain ⟨br, e⟩ := dieC_form Y P Q B i yr ⟨a, ha1, ea⟩ (fun j hj => by obtain ⟨⟨z, h1, h2⟩, -⟩ := hs1 j hj; exact ⟨z, by omega, h2⟩)
  obtain ⟨br2, e2⟩ := dieM_form mwm mwi mon mdi mco mgo mbr i yr hy ⟨a, ha1, em⟩ (fun j hj => by obtain ⟨z, h1, h2⟩ := hs2 j hj; exact ⟨z, by omega, h2⟩)
  have hlv := hR.lives (mon := mon) (fun j hj => by obtain ⟨⟨c1, c2, c3, -⟩, -⟩ := hb j hj; exact ⟨c3.trans c1, c2⟩) hy
  have hmem : ∀ x ∈ nzC B Q i, ∃ t, t < P ∧ x.1 = nI t := fun x hx => by
    obtain ⟨k, k1, k2, k3, k4⟩ := nzl_mem Q 0 hx
    obtain ⟨-, t, t1, t2⟩ := hs1 k (by omega)
    exact ⟨t, t1, by rw [k4]; exact t2⟩
  have hrel := pyG_rel (P := P) (i := i) (of := ofs i0 d Y.1) (lv := lvC (upd Y.1 i (nI 2)) P) (lv2 := lvM mon (upd mdi i (nI yr)) yr) hi (ofs_ne hne) (nzC B Q i) Y.2.1 Y.2.2.2.2.2.1 mco mgo
    (fun x hx => by
      obtain ⟨t, t1, t2⟩ := hmem x hx
      rw [t2]
      refine ⟨lv_agree hy hP t1 hlv, fun _ => ?_⟩
      rw [nI_clamp (by omega)]
      exact t1) (fun j hj => (hR j hj).2.2.1) (fun j hj => (hR j hj).2.2.2.2.symm)
  rw [e, e2, ← hl1 i hi hne]
  obtain ⟨r1, r2⟩ := hrel
  intro j hj
  obtain ⟨c1, c2, c3, c4, c5⟩ := hR j hj
  by_cases q : j = i
  · subst q
    refine ⟨fun hb1 => ?_, fun _ => ?_, ?_, ?_, (r2 j hj).symm⟩
    · exact absurd ((c1 hb1).1.symm.trans hv) n01
    · show upd Y.1 j (nI 2) j = nI 1 ↔ upd mdi j (nI yr) j < 0
      rw [pk_us, pk_us]
      exact ⟨fun h => absurd h n21, fun h => absurd h (nI_pos (by omega))⟩
    · show upd _ j (nI 0) j = upd _ j (nI 0) j + ofs i0 d _ j
      rw [pk_us, pk_us, ofs_ne hne, z_add0]
    · show upd Y.2.2.2.2.1 j (nI yr) j = if upd mdi j (nI yr) j < 0 then _ else upd mdi j (nI yr) j
      rw [pk_us, pk_us, if_neg (nI_pos (by omega))]
  · refine ⟨fun hb1 => ?_, fun hb1 => ?_, ?_, ?_, (r2 j hj).symm⟩
    · obtain ⟨g1, g2, g3, g4⟩ := c1 hb1
      have g5 : (pyG (lvC (upd Y.1 i (nI 2)) P) i (nzC B Q i) Y.2.1 Y.2.2.2.2.2.1).1 j = nI 0 := by
        rw [pyG_other q, g3]
        intro x hx hv2
        have := (lvC_lt hv2 (by omega)).2.2
        intro z
        rw [z, pk_un q, g1] at this
        exact n01 this
      refine ⟨(pk_un q).trans g1, by rw [show (_ : zF × zF × zF × zF).1 = upd mdi i (nI yr) from rfl, pk_un q]; exact g2, (pk_un q).trans g5, ?_⟩
      refine (pk_un q).trans ?_
      rw [r1 j hj, g5, ofs_dead (by rw [g1]; exact n01), z_add0]
    · show upd Y.1 i (nI 2) j = nI 1 ↔ upd mdi i (nI yr) j < 0
      rw [pk_un q, pk_un q]
      exact c2 hb1
    · show upd _ i (nI 0) j = upd _ i (nI 0) j + ofs i0 d (upd Y.1 i (nI 2)) j
      rw [pk_un q, pk_un q, r1 j hj]
      unfold ofs
      rw [pk_un q]
    · show upd Y.2.2.2.2.1 i (nI yr) j = if upd mdi i (nI yr) j < 0 then _ else upd mdi i (nI yr) j
      rw [pk_un q, pk_un q]
      exact c4
/-- the bits of who died having it -/
theorem has_tab : ∀ v : Fin 64, ∀ i : Fin 6, nI v.val ||| ((nI 1) <<< ((nI i.val) &&& 31)) = nI (v.val ||| 2 ^ i.val) ∧ v.val ||| 2 ^ i.val < 64 ∧ ∀ j : Fin 6, s_X7_has (nI (v.val ||| 2 ^ i.val)) j.val = (decide (i = j) || s_X7_has (nI v.val) j.val) := by decide +kernel
theorem has_set {x : Int32} {i : Nat} (hx : ∃ v, v < 64 ∧ x = nI v) (hi : i < 6) : (∃ v, v < 64 ∧ x ||| ((nI 1) <<< ((nI i) &&& 31)) = nI v) ∧ s_X7_has (x ||| ((nI 1) <<< ((nI i) &&& 31))) i = true ∧ ∀ j, j < 6 → j ≠ i → s_X7_has (x ||| ((nI 1) <<< ((nI i) &&& 31))) j = s_X7_has x j := by
  obtain ⟨v, hv, rfl⟩ := hx
  obtain ⟨h1, h2, h3⟩ := has_tab ⟨v, hv⟩ ⟨i, hi⟩
  refine ⟨⟨_, h2, h1⟩, ?_, fun j hj q => ?_⟩
  · rw [h1, h3 ⟨i, hi⟩]
    simp
  · rw [h1, h3 ⟨j, hj⟩]
    have : ¬ (⟨i, hi⟩ : Fin 6) = ⟨j, hj⟩ := fun z => q (Fin.mk.inj z).symm
    simp [this]
/-- what the special one leaves at the most can be told of, once he is dead in the reference -/
def yPD (i0 dn Ln : Nat) (bn : Nat → Nat) (y : Nat) (Y : zY) (mhd : Int32) (mdi : zF) : Prop := ¬ mdi i0 < 0 ∧ bn i0 < y ∧
  ((s_X7_has mhd i0 = true ∧ (∃ h, h < 2 ^ 30 ∧ Y.2.2.2.1 i0 = nI h ∧ Ln ≤ h + dn) ∧ (Y.1 i0 = nI 1 → ∃ p, p < 2 ^ 30 ∧ Y.2.1 i0 = nI p ∧ Ln ≤ p + dn)) ∨
   (s_X7_has mhd i0 = false ∧ Y.1 i0 ≠ nI 1 ∧ ∃ h, h < 2 ^ 30 ∧ Y.2.2.2.1 i0 = nI h ∧ h + dn < Ln))
/-- the whole relation within a year -/
def yFR (P i0 : Nat) (d : Int32) (bn : Nat → Nat) (y : Nat) (hav : Int32) (Y : zY) (mhd : Int32) (mdi mco mgo : zF) : Prop :=
  yRL P i0 d bn y Y mdi mco mgo ∧ hav = mhd ∧ (i0 < P → mdi i0 < 0 ∧ s_X7_has mhd i0 = false)
theorem turnM_unary {P mwm i yr : Nat} {mhd : Int32} {mwi mon mdi mco mgo mbr : zF} (hh : ∃ v, v < 64 ∧ mhd = nI v) (hP : P ≤ 6) (hi : i < P) : (∃ v, v < 64 ∧ (s_X7_turn mwm mhd mwi mon mdi mco mgo mbr i yr).1 = nI v) ∧ ∀ j, j < P → j ≠ i → (s_X7_turn mwm mhd mwi mon mdi mco mgo mbr i yr).2.1 j = mdi j ∧ s_X7_has (s_X7_turn mwm mhd mwi mon mdi mco mgo mbr i yr).1 j = s_X7_has mhd j := by
  obtain ⟨s1, s2, s3⟩ := has_set hh (show i < 6 by omega)
  have ed : (s_X7_die mwm mwi mon mdi mco mgo mbr i yr).1 = upd mdi i (nI yr) := rfl
  rw [turnM_form]
  split
  · exact ⟨s1, fun j hj q => ⟨by rw [show (_ : Int32 × zF × zF × zF × zF).2.1 = upd mdi i (nI yr) from rfl]; exact pk_un q, s3 j (by omega) q⟩⟩
  · split
    · exact ⟨hh, fun j hj q => ⟨rfl, rfl⟩⟩
    · exact ⟨hh, fun j hj q => ⟨by rw [show (_ : Int32 × zF × zF × zF × zF).2.1 = upd mdi i (nI yr) from rfl]; exact pk_un q, rfl⟩⟩
theorem leavM {mwm : Nat} {mwi : zF} {j : Nat} : s_X7_leaving mwm mwi j = lsum (nzM mwi mwm j) (nI 0) := leaving_eq mwi j mwm 0 (nI 0)
/-- a turn of one who isn't the special one, on both sides -/
theorem turn_rel {P Q Hn i0 dn mwm i yr : Nat} {d hav mhd : Int32} {bn : Nat → Nat} {B : zB} {mno mwi mon mdi mco mgo mbr : zF} {Y : zY} (S : SC P Q Hn i0 d dn bn B mwm mno mwi mon) (hy : yr ≤ 150) (hi : i < P) (hne : i ≠ i0) (hR : yFR P i0 d bn (yr + 1) hav Y mhd mdi mco mgo) (hh : ∃ v, v < 64 ∧ mhd = nI v) (ha : ∃ a, a < 2 ^ 31 ∧ Y.2.1 i = nI a) (hv : Y.1 i = nI 1) (hW : Y.2.2.1 i = lsum (nzC B Q i) (nI 0)) :
    yFR P i0 d bn (yr + 1) (s_X5_takeTurn hav Y P Q B i yr).1 (s_X5_takeTurn hav Y P Q B i yr).2 (s_X7_turn mwm mhd mwi mon mdi mco mgo mbr i yr).1 (s_X7_turn mwm mhd mwi mon mdi mco mgo mbr i yr).2.1 (s_X7_turn mwm mhd mwi mon mdi mco mgo mbr i yr).2.2.1 (s_X7_turn mwm mhd mwi mon mdi mco mgo mbr i yr).2.2.2.1 := by
  have hu := turnM_unary (mwm := mwm) (yr := yr) (mwi := mwi) (mon := mon) (mdi := mdi) (mco := mco) (mgo := mgo) (mbr := mbr) hh S.1.1 hi
  obtain ⟨hR1, rfl, hR3⟩ := hR
  have hR3' : i0 < P → (s_X7_turn mwm hav mwi mon mdi mco mgo mbr i yr).2.1 i0 < 0 ∧ s_X7_has (s_X7_turn mwm hav mwi mon mdi mco mgo mbr i yr).1 i0 = false := fun h0 => by
    obtain ⟨u1, u2⟩ := hu.2 i0 h0 (Ne.symm hne)
    rw [u1, u2]
    exact hR3 h0
  have hd := die_rel (mbr := mbr) S hy hi hne (Y := yHeld Y i) (mdi := mdi) (mco := mco) (mgo := mgo) (fun j hj => hR1 j hj) ha hv
  obtain ⟨⟨hP, hQ, hH, hmw, ed, hdn⟩, hb, hh2, ⟨hs1, hs2⟩, hl1, hl2⟩ := S
  obtain ⟨⟨b1, b2, b3, b4, b5, b6, b7⟩, -⟩ := hb i hi
  have eW : s_X7_leaving mwm mwi i = Y.2.2.1 i := by rw [leavM, ← hl1 i hi hne, hW]
  have eP : mco i = Y.2.1 i := by rw [(hR1 i hi).2.2.1, ofs_ne hne, z_add0]
  refine ⟨?_, ?_, hR3'⟩
  · rw [turnC_live hv, turnM_form, eW, eP, b3, b5]
    split
    · exact hd
    · split
      · exact fun j hj => hR1 j hj
      · exact hd
  · rw [turnC_live hv, turnM_form, eW, eP, b3, b5]
    split
    · rfl
    · split <;> rfl
