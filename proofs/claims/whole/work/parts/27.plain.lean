/-! ===== what a run leaves in the reference; what each bequest brings ===== -/
def yMU (P : Nat) (bn : Nat → Nat) (mhd : Int32) (mdi : zF) : Prop := ((∃ v, v < 64 ∧ mhd = nI v) ∧ ∀ j, P ≤ j → j < 6 → s_X7_has mhd j = false) ∧ ∀ j, j < P → mdi j < 0 ∨ ∃ y, bn j ≤ y ∧ y ≤ 150 ∧ mdi j = nI y
theorem mu_turn {P mwm i yr : Nat} {bn : Nat → Nat} {mhd : Int32} {mwi mon mdi mco mgo mbr : zF} (hP : P ≤ 6) (hy : yr ≤ 150) (hi : i < P) (hb : bn i ≤ yr) (h : yMU P bn mhd mdi) : yMU P bn (s_X7_turn mwm mhd mwi mon mdi mco mgo mbr i yr).1 (s_X7_turn mwm mhd mwi mon mdi mco mgo mbr i yr).2.1 := by
  obtain ⟨⟨h1, h2⟩, h3⟩ := h
  obtain ⟨s1, s2, s3⟩ := has_set h1 (show i < 6 by omega)
  have hd : ∀ j, j < P → upd mdi i (nI yr) j < 0 ∨ ∃ y, bn j ≤ y ∧ y ≤ 150 ∧ upd mdi i (nI yr) j = nI y := fun j hj => by
    by_cases q : j = i
    · subst q
      exact Or.inr ⟨yr, hb, hy, pk_us⟩
    · rw [pk_un q]
      exact h3 j hj
  rw [turnM_form]
  split
  · exact ⟨⟨s1, fun j a b => (s3 j b (by omega)).trans (h2 j a b)⟩, hd⟩
  · split
    · exact ⟨⟨h1, h2⟩, h3⟩
    · exact ⟨⟨h1, h2⟩, hd⟩
theorem mu_turns {P mwm yr : Nat} {bn : Nat → Nat} {mwi mon : zF} (hP : P ≤ 6) (hy : yr ≤ 150) (hb : ∀ j, j < P → mon (5 * j) = nI (bn j) ∧ bn j ≤ 60) : ∀ (n i : Nat) (mhd : Int32) (mdi mco mgo mbr : zF), i + n = P → yMU P bn mhd mdi → yMU P bn (f_X7_run_250 mwm mwi mon yr n i mhd mdi mco mgo mbr).1 (f_X7_run_250 mwm mwi mon yr n i mhd mdi mco mgo mbr).2.1
  | 0, i, mhd, mdi, mco, mgo, mbr, _, h => h
  | n + 1, i, mhd, mdi, mco, mgo, mbr, hn, h => by
    rw [f_X7_run_250]
    by_cases hv : s_X7_lives mon mdi i yr = true
    · rw [if_pos hv]
      obtain ⟨b1, b2⟩ := hb i (by omega)
      have := ((lives_iff b1 (by omega) (by omega)).mp hv).2
      exact mu_turns hP hy hb n (i + 1) _ _ _ _ _ (by omega) (mu_turn hP hy (by omega) this h)
    · rw [if_neg hv]
      exact mu_turns hP hy hb n (i + 1) _ _ _ _ _ (by omega) h
theorem mu_years {P mwm Hn : Nat} {sd : Int32} {bn : Nat → Nat} {mno mwi mon : zF} (hP : P ≤ 6) (hb : ∀ j, j < P → mon (5 * j) = nI (bn j) ∧ bn j ≤ 60) : ∀ (n yr : Nat) (mhd : Int32) (mdi mco mgo mbr mca : zF), yr + n ≤ 151 → yMU P bn mhd mdi → yMU P bn (f_X7_run_63 P mwm sd mno mwi mon Hn n yr mhd mdi mco mgo mbr mca).1 (f_X7_run_63 P mwm sd mno mwi mon Hn n yr mhd mdi mco mgo mbr mca).2.1
  | 0, yr, mhd, mdi, mco, mgo, mbr, mca, _, h => h
  | n + 1, yr, mhd, mdi, mco, mgo, mbr, mca, hn, h => by
    rw [f_X7_run_63]
    exact mu_years hP hb n (yr + 1) _ _ _ _ _ _ (by omega) (mu_turns hP (by omega) hb P 0 _ _ _ _ _ (by omega) h)
theorem mu_run {P mwm Hn : Nat} {sd : Int32} {bn : Nat → Nat} {mno mwi mon : zF} (hP : P ≤ 6) (hb : ∀ j, j < P → mon (5 * j) = nI (bn j) ∧ bn j ≤ 60) (mdi mco mgo mbr mca : zF) : yMU P bn (s_X7_run P mwm sd mno mwi mon mdi mco mgo mbr mca Hn).1 (s_X7_run P mwm sd mno mwi mon mdi mco mgo mbr mca Hn).2.1 := by
  obtain ⟨N, hN⟩ : ∃ N : Nat, N = 151 := ⟨_, rfl⟩
  rw [run7_eq hN]
  refine mu_years hP hb N 0 _ _ _ _ _ _ (by omega) ⟨⟨⟨0, by decide, rfl⟩, fun j _ hj => has_0 ⟨j, hj⟩⟩, fun j hj => Or.inl ?_⟩
  rw [((run7_at 6 0 mdi mco mgo j).1 ⟨Nat.zero_le _, by omega⟩).1]
  exact int_neg1
/-- what comes by each bequest -/
def yBR (Q : Nat) (gv : Nat → Nat) (Y : zY) (mdi mbr : zF) : Prop := ∀ k, k < Q → Y.2.2.2.2.2.2 k = mbr k ∧ (mdi (gv k) < 0 → mbr k = nI 0)
def yPL (P Q : Nat) (gv : Nat → Nat) (B : zB) (mwi : zF) : Prop := ∀ k, k < Q → B.2.2.2.2.2.1 k = mwi (3 * k) ∧ B.2.2.2.2.2.2.1 k = mwi (3 * k + 1) ∧ B.2.2.2.2.2.2.2.1 k = mwi (3 * k + 2) ∧ B.2.2.2.2.2.1 k = nI (gv k) ∧ gv k < P ∧ ∃ t, t < P ∧ B.2.2.2.2.2.2.1 k = nI t
theorem die_lock {P Q i yr : Nat} {gv : Nat → Nat} {B : zB} {mwi mon mdi st : zF} (hP : P ≤ 6) (hi : i < P) (hpl : yPL P Q gv B mwi) (hlv : ∀ t, t < P → lvC st P (nI t) = lvM mon (upd mdi i (nI yr)) yr (nI t)) : ∀ (n k : Nat) (Y : zY) (mco mgo mbr : zF), Y.1 = st → k + n = Q → (∀ j, j < P → mco j = Y.2.1 j) → (∀ q, q < Q → Y.2.2.2.2.2.2 q = mbr q) → (∀ q, k ≤ q → q < Q → gv q = i → mbr q = nI 0) →
    (∀ q, q < Q → (f_X5_die_16 P B i n k Y).2.2.2.2.2.2 q = (f_X7_die_9 mwi mon mdi i yr n k mco mgo mbr).2.2 q) ∧ ∀ q, q < Q → gv q ≠ i → (f_X7_die_9 mwi mon mdi i yr n k mco mgo mbr).2.2 q = mbr q
  | 0, k, Y, mco, mgo, mbr, _, _, _, h2, _ => ⟨h2, fun _ _ _ => rfl⟩
  | n + 1, k, Y, mco, mgo, mbr, hs, hk, h1, h2, h3 => by
    obtain ⟨e1, e2, e3, e4, e5, t, t1, t2⟩ := hpl k (by omega)
    rw [f_X5_die_16, die9_step, ← e1, ← e2, ← e3]
    by_cases h : B.2.2.2.2.2.1 k = nI i
    · have hg : gv k = i := by
        have := e4.symm.trans h
        rw [nI_eq (by omega) (by omega)] at this
        exact this
      rw [if_pos h, if_pos h, pay_eq, hs, t2, ← hlv t t1, h1 i hi, nI_clamp (by omega)]
      have hp : ∀ j, j < P → upd mco i (Y.2.1 i - mn (B.2.2.2.2.2.2.2.1 k) (Y.2.1 i)) j = upd Y.2.1 i (Y.2.1 i - mn (B.2.2.2.2.2.2.2.1 k) (Y.2.1 i)) j := fun j hj => by
        by_cases q : j = i
        · subst q; rw [pk_us, pk_us]
        · rw [pk_un q, pk_un q]; exact h1 j hj
      by_cases hl : lvC st P (nI t) = true
      · rw [if_pos hl, if_pos hl]
        obtain ⟨r1, r2⟩ := die_lock hP hi hpl hlv n (k + 1) (st, (upd (upd Y.2.1 i ((Y.2.1 i) - mn (B.2.2.2.2.2.2.2.1 k) (Y.2.1 i))) t (((upd Y.2.1 i ((Y.2.1 i) - mn (B.2.2.2.2.2.2.2.1 k) (Y.2.1 i))) t) + mn (B.2.2.2.2.2.2.2.1 k) (Y.2.1 i))), Y.2.2.1, Y.2.2.2.1, Y.2.2.2.2.1, (upd Y.2.2.2.2.2.1 t ((Y.2.2.2.2.2.1 t) + mn (B.2.2.2.2.2.2.2.1 k) (Y.2.1 i))), (upd Y.2.2.2.2.2.2 k (mn (B.2.2.2.2.2.2.2.1 k) (Y.2.1 i))))
          (upd (upd mco i (Y.2.1 i - mn (B.2.2.2.2.2.2.2.1 k) (Y.2.1 i))) t (upd mco i (Y.2.1 i - mn (B.2.2.2.2.2.2.2.1 k) (Y.2.1 i)) t + mn (B.2.2.2.2.2.2.2.1 k) (Y.2.1 i))) (upd mgo t (mgo t + mn (B.2.2.2.2.2.2.2.1 k) (Y.2.1 i))) (upd mbr k (mbr k + mn (B.2.2.2.2.2.2.2.1 k) (Y.2.1 i))) rfl (by omega)
          (fun j hj => by
            show upd _ t _ j = upd _ t _ j
            by_cases q : j = t
            · subst q
              rw [pk_us, pk_us, hp j hj]
            · rw [pk_un q, pk_un q]
              exact hp j hj)
          (fun q hq => by
            show upd Y.2.2.2.2.2.2 k _ q = upd mbr k _ q
            by_cases w : q = k
            · subst w
              rw [pk_us, pk_us, h3 q (Nat.le_refl _) hq hg, z_0add]
            · rw [pk_un w, pk_un w]
              exact h2 q hq)
          (fun q a b c => by
            rw [pk_un (by omega)]
            exact h3 q (by omega) b c)
        exact ⟨r1, fun q a b => (r2 q a b).trans (pk_un (fun w => b (w ▸ hg)))⟩
      · rw [if_neg hl, if_neg hl]
        exact die_lock hP hi hpl hlv n (k + 1) (st, (upd Y.2.1 i ((Y.2.1 i) - mn (B.2.2.2.2.2.2.2.1 k) (Y.2.1 i))), Y.2.2) (upd mco i (Y.2.1 i - mn (B.2.2.2.2.2.2.2.1 k) (Y.2.1 i))) mgo mbr rfl (by omega) hp h2 (fun q a b c => h3 q (by omega) b c)
    · rw [if_neg h, if_neg h]
      exact die_lock hP hi hpl hlv n (k + 1) Y mco mgo mbr hs (by omega) h1 h2 (fun q a b c => h3 q (by omega) b c)
theorem br_die {P Q Hn i0 dn i yr : Nat} {d : Int32} {bn gv : Nat → Nat} {B : zB} {mno mwi mon mdi mco mgo mbr : zF} {Y : zY} (S : SC P Q Hn i0 d dn bn B Q mno mwi mon) (hpl : yPL P Q gv B mwi) (h6 : P ≤ i0) (hy : yr ≤ 150) (hi : i < P) (hR : yRL P i0 d bn (yr + 1) Y mdi mco mgo) (hm : mdi i < 0) (h : yBR Q gv Y mdi mbr) :
    yBR Q gv (s_X5_die Y P Q B i yr) (s_X7_die Q mwi mon mdi mco mgo mbr i yr).1 (s_X7_die Q mwi mon mdi mco mgo mbr i yr).2.2.2 := by
  have hP : P ≤ 6 := S.1.1
  have hlv := hR.lives (mon := mon) (fun j hj => by obtain ⟨⟨c1, c2, c3, -⟩, -⟩ := S.2.1 j hj; exact ⟨c3.trans c1, c2⟩) hy
  obtain ⟨r1, r2⟩ := die_lock (mon := mon) (mdi := mdi) (yr := yr) hP hi hpl (fun t ht => lv_agree (i := i) hy hP ht hlv) Q 0 ((upd Y.1 i (nI 2)), Y.2.1, Y.2.2.1, Y.2.2.2.1, (upd Y.2.2.2.2.1 i (nI yr)), Y.2.2.2.2.2) mco mgo mbr rfl (by omega)
    (fun j hj => by
      show mco j = Y.2.1 j
      rw [(hR j hj).2.2.1, ofs_ne (by omega), z_add0]) (fun q hq => (h q hq).1) (fun q _ hq hg => (h q hq).2 (by rw [hg]; exact hm))
  intro k hk
  refine ⟨r1 k hk, fun hd => ?_⟩
  have hd' : upd mdi i (nI yr) (gv k) < 0 := hd
  by_cases q : gv k = i
  · rw [q, pk_us] at hd'
    exact absurd hd' (nI_pos (by omega))
  · rw [pk_un q] at hd'
    exact (r2 k hk q).trans ((h k hk).2 hd')
theorem br_turn {P Q Hn i0 dn i yr : Nat} {d hav mhd : Int32} {bn gv : Nat → Nat} {B : zB} {mno mwi mon mdi mco mgo mbr : zF} {Y : zY} (S : SC P Q Hn i0 d dn bn B Q mno mwi mon) (hpl : yPL P Q gv B mwi) (h6 : P ≤ i0) (hy : yr ≤ 150) (hi : i < P) (hR : yRL P i0 d bn (yr + 1) Y mdi mco mgo) (hv : Y.1 i = nI 1) (hm : mdi i < 0) (hW : Y.2.2.1 i = lsum (nzC B Q i) (nI 0)) (h : yBR Q gv Y mdi mbr) :
    yBR Q gv (s_X5_takeTurn hav Y P Q B i yr).2 (s_X7_turn Q mhd mwi mon mdi mco mgo mbr i yr).2.1 (s_X7_turn Q mhd mwi mon mdi mco mgo mbr i yr).2.2.2.2 := by
  have hd := br_die (Y := yHeld Y i) S hpl h6 hy hi (fun j hj => hR j hj) hm h
  obtain ⟨⟨b1, b2, b3, b4, b5, b6, b7⟩, -⟩ := S.2.1 i hi
  have eW : s_X7_leaving Q mwi i = Y.2.2.1 i := by rw [leavM, ← S.2.2.2.2.1 i hi (by omega), hW]
  have eP : mco i = Y.2.1 i := by rw [(hR i hi).2.2.1, ofs_ne (by omega), z_add0]
  rw [turnC_live hv, turnM_form, eW, eP, b3, b5]
  split
  · exact hd
  · split
    · exact h
    · exact hd
theorem br_turns {P Q Hn i0 dn yr M Ln : Nat} {d : Int32} {bn gv : Nat → Nat} {B : zB} {mno mwi mon : zF} (S : SC P Q Hn i0 d dn bn B Q mno mwi mon) (hpl : yPL P Q gv B mwi) (h6 : P ≤ i0) (hy : yr ≤ 150) (hM : M + 6000 < 2 ^ 29) : ∀ (n i : Nat) (hav : Int32) (Y : zY) (mhd : Int32) (mdi mco mgo mbr : zF), i + n = P → yLI P Q i0 dn Ln yr M d bn B i hav Y mhd mdi mco mgo → yBR Q gv Y mdi mbr →
    yBR Q gv (f_X5_run_30 P Q B yr n i hav Y).2 (f_X7_run_250 Q mwi mon yr n i mhd mdi mco mgo mbr).2.1 (f_X7_run_250 Q mwi mon yr n i mhd mdi mco mgo mbr).2.2.2.2
  | 0, i, hav, Y, mhd, mdi, mco, mgo, mbr, _, _, h => h
  | n + 1, i, hav, Y, mhd, mdi, mco, mgo, mbr, hn, hI, h => by
    have hi : i < P := by omega
    have hN := turns_rel (mbr := mbr) (e := i + 1) S hy hM (by omega) (Ln := Ln) (fun z => absurd z (by omega)) 1 i hav Y mhd mdi mco mgo (by omega) hI
    obtain ⟨hB, hW, hh, hc⟩ := hI
    rcases hc with ⟨hF, -⟩ | ⟨z, -⟩
    · have hlv := hF.1.lives (mon := mon) (fun j hj => by obtain ⟨⟨c1, c2, c3, -⟩, -⟩ := S.2.1 j hj; exact ⟨c3.trans c1, c2⟩) hy i hi
      rw [f_X5_run_30, f_X5_run_30, f_X7_run_250, f_X7_run_250] at hN
      rw [f_X5_run_30, f_X7_run_250]
      by_cases hv : s_X7_lives mon mdi i yr = true
      · rw [if_pos hv] at hN ⊢
        obtain ⟨b1, b2, -⟩ := (S.2.1 i hi).1
        obtain ⟨c3, -⟩ := (S.2.1 i hi).1.2.2
        have hm := ((lives_iff (c3.trans b1) (by omega) (by omega)).mp hv).1
        exact br_turns S hpl h6 hy hM n (i + 1) _ _ _ _ _ _ _ (by omega) hN (br_turn S hpl h6 hy hi hF.1 (hlv.mpr hv) hm (hW i hi) h)
      · rw [if_neg hv] at hN ⊢
        have hst : Y.1 i ≠ nI 1 := fun z => hv (hlv.mp z)
        rw [turnC_dead hst] at hN ⊢
        exact br_turns S hpl h6 hy hM n (i + 1) _ _ _ _ _ _ _ (by omega) hN h
    · exact absurd z (by omega)
theorem br_years {P Q Hn i0 dn Ln : Nat} {d sd : Int32} {bn gv : Nat → Nat} {B : zB} {mno mwi mon : zF} (S : SC P Q Hn i0 d dn bn B Q mno mwi mon) (hpl : yPL P Q gv B mwi) (h6 : P ≤ i0) : ∀ (n yr : Nat) (hav : Int32) (Y : zY) (PA : Nat → Nat → Int32) (mhd : Int32) (mdi mco mgo mbr mca : zF), yr + n ≤ 151 → yYI P Q i0 dn Ln yr d bn B hav Y mhd mdi mco mgo → yRC P i0 yr PA mca → yBR Q gv Y mdi mbr →
    yBR Q gv (f_X5_run_6 P Q Hn sd B n yr hav Y PA).2.1 (f_X7_run_63 P Q sd mno mwi mon Hn n yr mhd mdi mco mgo mbr mca).2.1 (f_X7_run_63 P Q sd mno mwi mon Hn n yr mhd mdi mco mgo mbr mca).2.2.2.2.1
  | 0, yr, hav, Y, PA, mhd, mdi, mco, mgo, mbr, mca, _, _, _, h => h
  | n + 1, yr, hav, Y, PA, mhd, mdi, mco, mgo, mbr, mca, hn, hI, hr, h => by
    have hN := years_rel (sd := sd) (ey := yr + 1) (by omega) S (Ln := Ln) (fun z => absurd z (by omega)) 1 yr hav Y PA mhd mdi mco mgo mbr mca (by omega) hI hr
    have h0 := year_LI (sd := sd) S (by omega) hI
    have e : ∃ st pu, s_X5_work (s_X5_bringHelp (s_X5_bear Y P B yr) P Hn B yr) P sd B yr = (st, pu, Y.2.2) := by
      obtain ⟨hB, -⟩ := hI
      obtain ⟨st, pu, e, -⟩ := year_class (sd := sd) (yr := yr) (B := B) S.1.1 S.1.2.2.1 (by omega : 99 ≤ 6000 * yr + 100) (by omega) hB (fun j hj => ⟨(S.2.1 j hj).2.1, (S.2.1 j hj).2.2.2.2⟩) (fun h hx => (S.2.2.1 h hx).2)
      exact ⟨st, pu, e⟩
    rw [f_X5_run_6, f_X5_run_6, f_X7_run_63, f_X7_run_63] at hN
    rw [f_X5_run_6, f_X7_run_63]
    refine br_years S hpl h6 n (yr + 1) _ _ _ _ _ _ _ _ _ (by omega) hN.1 hN.2 ?_
    refine br_turns S hpl h6 (by omega) (by omega : 6000 * yr + 700 + 6000 < 2 ^ 29) P 0 _ _ _ _ _ _ _ (by omega) h0 ?_
    obtain ⟨st, pu, e⟩ := e
    rw [e]
    exact h
/-- what each bequest brings is the same -/
theorem run_br {P Q Hn i0 dn : Nat} {d sd : Int32} {bn gv : Nat → Nat} {B : zB} {mno mwi mon : zF} (S : SC P Q Hn i0 d dn bn B Q mno mwi mon) (hpl : yPL P Q gv B mwi) (h6 : P ≤ i0) (Y : zY) (PA : Nat → Nat → Int32) (mdi mco mgo mbr mca : zF) (k : Nat) (hk : k < Q) : (s_X5_run Y PA P Q Hn sd B).2.1.2.2.2.2.2.2 k = (s_X7_run P Q sd mno mwi mon mdi mco mgo mbr mca Hn).2.2.2.2.1 k := by
  obtain ⟨N, hN⟩ : ∃ N : Nat, N = 151 := ⟨_, rfl⟩
  rw [run5_eq hN, run7_eq hN]
  refine (br_years (Ln := 1) S hpl h6 N 0 _ _ PA _ _ _ _ (f_X7_run_42 10 0 mbr) mca (by omega) (start_rel S Y mdi mco mgo) (fun _ y h => absurd h (Nat.not_lt_zero y)) (fun k hk => ?_) k hk).1
  have hQ : Q ≤ 9 := S.1.2.1
  obtain ⟨br, e, e1, -⟩ := prep76_at Q 0 (f_X5_prepare_7 Q B P 0 Y)
  have e' : s_X5_prepare Y P Q B = (nI 0, f_X5_prepare_76 Q 0 (f_X5_prepare_7 Q B P 0 Y)) := rfl
  have e2 : f_X7_run_42 10 0 mbr k = nI 0 := by rw [run42_at, if_pos (by omega)]
  rw [e', e, e2]
  exact ⟨e1 k (Nat.zero_le _) (by omega), fun _ => rfl⟩
