/-! ===== whole runs, on both sides ===== -/
theorem z_0add (s : Int32) : nI 0 + s = s := by rw [nI_0]; exact Int32.zero_add s
theorem year_class {P Hn yr M : Nat} {sd : Int32} {B : zB} {Y : zY} (hP : P ≤ 6) (hH : Hn ≤ 4) (hM : 99 ≤ M) (hM2 : M + 600 < 2 ^ 30) (hB : Bd P M Y) (hg : ∀ j, j < P → (∃ g, g ≤ 9 ∧ B.2.1 j = nI g) ∧ ∃ x, x ≤ 99 ∧ B.2.2.2.2.1 j = nI x) (hh : ∀ h, h < Hn → (∃ f, f < P ∧ B.2.2.2.2.2.2.2.2.1 h = nI f) ∧ ∃ c, c ≤ 99 ∧ B.2.2.2.2.2.2.2.2.2.2 h = nI c) :
    ∃ st pu, s_X5_work (s_X5_bringHelp (s_X5_bear Y P B yr) P Hn B yr) P sd B yr = (st, pu, Y.2.2) ∧ (∀ j, j < P → st j = if B.1 j = nI yr then nI 1 else Y.1 j) ∧ (∀ j, j < P → ∃ n, n ≤ M + 600 ∧ pu j = nI n) ∧ ∀ j b, j < P → B.1 j ≠ nI yr → Y.2.1 j = nI b → b ≤ M → ∃ b2, pu j = nI b2 ∧ b ≤ b2 ∧ b2 ≤ M + 600 := by
  obtain ⟨st, pu1, e1, h1⟩ := bearC_at B yr P 0 Y
  have e1' : s_X5_bear Y P B yr = (st, pu1, Y.2.2) := e1
  obtain ⟨pu2, e2, -, h2⟩ := help_mono (P := P) (B := B) (yr := yr) (by omega) Hn 0 (st, pu1, Y.2.2) (fun h _ hx => hh h (by omega))
  have e2' : s_X5_bringHelp (st, pu1, Y.2.2) P Hn B yr = (st, pu2, Y.2.2) := e2
  obtain ⟨pu3, e3, h3⟩ := workC_at sd B yr P 0 (st, pu2, Y.2.2)
  have key : ∀ j b, j < P → pu1 j = nI b → b ≤ M → ∃ b2, pu3 j = nI b2 ∧ b ≤ b2 ∧ b2 ≤ M + 600 := by
    intro j b hj hb hbM
    obtain ⟨b2, w1, w2, w3⟩ := h2 j b hb (by omega)
    obtain ⟨⟨g, g1, g2⟩, -⟩ := hg j hj
    obtain ⟨w, v1, v2⟩ := wages_le (sd := sd) (B := B) (i := j) (yr := yr) g2 g1
    rw [h3 j]
    split
    · refine ⟨b2 + w, ?_, by omega, by omega⟩
      show pu2 j + _ = _
      rw [w1, v2, nI_add]
    · exact ⟨b2, w1, w2, by omega⟩
  refine ⟨st, pu3, by rw [e1', e2']; exact e3, fun j hj => ?_, fun j hj => ?_, fun j b hj hne hb hbM => ?_⟩
  · rw [(h1 j).1]
    by_cases q : B.1 j = nI yr
    · rw [if_pos q, if_pos ⟨Nat.zero_le _, by omega, q⟩]
    · rw [if_neg q, if_neg (fun z => q z.2.2)]
  · by_cases q : B.1 j = nI yr
    · obtain ⟨-, x, x1, x2⟩ := hg j hj
      obtain ⟨b2, w1, w2, w3⟩ := key j x hj (by rw [(h1 j).2, if_pos ⟨Nat.zero_le _, by omega, q⟩]; exact x2) (by omega)
      exact ⟨b2, w3, w1⟩
    · obtain ⟨n, n1, n2⟩ := hB j hj
      obtain ⟨b2, w1, w2, w3⟩ := key j n hj (by rw [(h1 j).2, if_neg (fun z => q z.2.2)]; exact n2) n1
      exact ⟨b2, w3, w1⟩
  · exact key j b hj (by rw [(h1 j).2, if_neg (fun z => hne z.2.2)]; exact hb) hbM
theorem year_rel {P Q Hn i0 dn mwm yr : Nat} {d sd : Int32} {bn : Nat → Nat} {B : zB} {mno mwi mon mdi mco mgo : zF} {Y : zY} (S : SC P Q Hn i0 d dn bn B mwm mno mwi mon) (hy : yr ≤ 150) (hR : yRL P i0 d bn yr Y mdi mco mgo) :
    yRL P i0 d bn (yr + 1) (s_X5_work (s_X5_bringHelp (s_X5_bear Y P B yr) P Hn B yr) P sd B yr) mdi (f_X7_run_206 sd mon yr mdi P 0 (f_X7_run_123 mno mon yr mdi Hn 0 (f_X7_run_72 mon yr P 0 mco))) mgo := by
  obtain ⟨⟨hP, hQ, hH, hmw, ed, hdn⟩, hb, hh, -, -, -⟩ := S
  obtain ⟨st, pu1, e1, h1⟩ := bearC_at B yr P 0 Y
  have e1' : s_X5_bear Y P B yr = (st, pu1, Y.2.2) := e1
  have hR1 : yRL P i0 d bn (yr + 1) (st, pu1, Y.2.2) mdi (f_X7_run_72 mon yr P 0 mco) mgo := by
    intro j hj
    obtain ⟨c1, c2, c3, c4, c5⟩ := hR j hj
    obtain ⟨⟨b1, b2, b3, b4, b5, b6, b7⟩, -⟩ := hb j hj
    obtain ⟨s1, s2⟩ := h1 j
    by_cases q : bn j = yr
    · have e : B.1 j = nI yr := by rw [b1, q]
      have s1' : st j = nI 1 := by rw [s1, if_pos ⟨Nat.zero_le _, by omega, e⟩]
      have s2' : pu1 j = B.2.2.2.2.1 j := by rw [s2, if_pos ⟨Nat.zero_le _, by omega, e⟩]
      have m' : f_X7_run_72 mon yr P 0 mco j = mco j + mon (5 * j + 4) := by rw [bearM_at, if_pos ⟨Nat.zero_le _, by omega, b3.trans e⟩]
      obtain ⟨g1, g2, g3, g4⟩ := c1 (by omega)
      refine ⟨fun z => absurd z (by omega), fun _ => ⟨fun _ => g2, fun _ => s1'⟩, ?_, c4, c5⟩
      show f_X7_run_72 mon yr P 0 mco j = pu1 j + ofs i0 d st j
      rw [m', g4, b7, s2', z_0add]
      by_cases w : j = i0
      · rw [if_pos w, show ofs i0 d st j = d from if_pos ⟨w, s1'⟩]
      · rw [if_neg w, ofs_ne w]
    · have e : ¬ B.1 j = nI yr := by
        rw [b1, nI_eq (by omega) (by omega)]
        exact q
      have s1' : st j = Y.1 j := by rw [s1, if_neg (fun z => e z.2.2)]
      have s2' : pu1 j = Y.2.1 j := by rw [s2, if_neg (fun z => e z.2.2)]
      have m' : f_X7_run_72 mon yr P 0 mco j = mco j := by rw [bearM_at, if_neg (fun z => e (b3.symm.trans z.2.2))]
      refine ⟨fun z => ?_, fun z => ?_, ?_, c4, c5⟩
      · obtain ⟨g1, g2, g3, g4⟩ := c1 (by omega)
        exact ⟨s1'.trans g1, g2, s2'.trans g3, m'.trans g4⟩
      · show st j = nI 1 ↔ _
        rw [s1']
        exact c2 (by omega)
      · show f_X7_run_72 mon yr P 0 mco j = pu1 j + ofs i0 d st j
        rw [m', c3, s2']
        unfold ofs
        rw [s1']
  have hl := hR1.lives (mon := mon) (fun j hj => by obtain ⟨⟨c1, c2, c3, -⟩, -⟩ := hb j hj; exact ⟨c3.trans c1, c2⟩) hy
  obtain ⟨pu2, e2, hp2⟩ := help_rel (P := P) (B := B) (yr := yr) (mno := mno) (mon := mon) (mdi := mdi) (of := ofs i0 d st) (by omega) (fun _ _ => trivial) Hn 0 (st, pu1, Y.2.2) (f_X7_run_72 mon yr P 0 mco) (fun h _ hx => by
    obtain ⟨⟨x1, x2, x3⟩, x4, -⟩ := hh h (by omega)
    exact ⟨x1, x2, x3, x4⟩) hl (fun j hj => (hR1 j hj).2.2.1)
  obtain ⟨pu2', e2', h0, -⟩ := help_mono (P := P) (B := B) (yr := yr) (by omega) Hn 0 (st, pu1, Y.2.2) (fun h _ hx => (hh h (by omega)).2)
  have epu : pu2' = pu2 := congrArg (fun z : zY => z.2.1) (e2'.symm.trans e2)
  subst epu
  have hR2 : yRL P i0 d bn (yr + 1) (st, pu2', Y.2.2) mdi (f_X7_run_123 mno mon yr mdi Hn 0 (f_X7_run_72 mon yr P 0 mco)) mgo := by
    intro j hj
    obtain ⟨c1, c2, c3, c4, c5⟩ := hR1 j hj
    refine ⟨fun z => ?_, c2, hp2 j hj, c4, c5⟩
    obtain ⟨g1, g2, g3, g4⟩ := c1 z
    have g5 : pu2' j = nI 0 := (h0 j (by show st j ≠ nI 1; rw [show st j = nI 0 from g1]; exact n01)).trans g3
    refine ⟨g1, g2, g5, ?_⟩
    rw [hp2 j hj, g5, ofs_dead (by rw [show st j = nI 0 from g1]; exact n01), z_add0]
  have e2'' : s_X5_bringHelp (st, pu1, Y.2.2) P Hn B yr = (st, pu2', Y.2.2) := e2
  obtain ⟨pu3, e3, h3⟩ := workC_at sd B yr P 0 (st, pu2', Y.2.2)
  have e3' : s_X5_work (st, pu2', Y.2.2) P sd B yr = (st, pu3, Y.2.2) := e3
  rw [e1', e2'', e3']
  intro j hj
  obtain ⟨c1, c2, c3, c4, c5⟩ := hR2 j hj
  obtain ⟨⟨b1, b2, b3, b4, b5, b6, b7⟩, -, -, ⟨kd, k1, k2⟩, -⟩ := hb j hj
  have h3j := h3 j
  by_cases hv : st j = nI 1
  · have hlv := (hl j hj).mp hv
    have m1 : f_X7_run_206 sd mon yr mdi P 0 (f_X7_run_123 mno mon yr mdi Hn 0 (f_X7_run_72 mon yr P 0 mco)) j = f_X7_run_123 mno mon yr mdi Hn 0 (f_X7_run_72 mon yr P 0 mco) j + (if nI yr - B.1 j < nI 10 then nI 0 else s_X5_wages sd B j yr) := by
      rw [workM_at, if_pos ⟨Nat.zero_le _, by omega, hlv⟩, gain_eq b3 b4 b6 k2 k1]
    refine ⟨fun z => absurd ((c1 z).1.symm.trans hv) n01, c2, ?_, c4, c5⟩
    show f_X7_run_206 _ _ _ _ _ _ _ j = pu3 j + ofs i0 d st j
    rw [m1, c3, h3j]
    by_cases g : nI yr - B.1 j < nI 10
    · rw [if_pos g, if_neg (fun z => z.2.2.2 g), z_add0]
    · rw [if_neg g, if_pos ⟨Nat.zero_le _, by omega, hv, g⟩, Int32.add_assoc, Int32.add_comm (ofs i0 d _ j), ← Int32.add_assoc]
  · have m1 : f_X7_run_206 sd mon yr mdi P 0 (f_X7_run_123 mno mon yr mdi Hn 0 (f_X7_run_72 mon yr P 0 mco)) j = f_X7_run_123 mno mon yr mdi Hn 0 (f_X7_run_72 mon yr P 0 mco) j := by
      rw [workM_at, if_neg (fun z => hv ((hl j hj).mpr z.2.2))]
    have p1 : pu3 j = pu2' j := by rw [h3j, if_neg (fun z => hv z.2.2.1)]
    refine ⟨fun z => ?_, c2, ?_, c4, c5⟩
    · obtain ⟨g1, g2, g3, g4⟩ := c1 z
      exact ⟨g1, g2, p1.trans g3, m1.trans g4⟩
    · show f_X7_run_206 _ _ _ _ _ _ _ j = pu3 j + ofs i0 d st j
      rw [m1, p1]
      exact c3
theorem run55_at (v : Int32 × zY) (yr : Nat) : ∀ (n k : Nat) (PA : Nat → Nat → Int32) (j y : Nat), f_X5_run_55 v yr n k PA j y = if k ≤ j ∧ j < k + n ∧ y = yr then v.2.2.1 j else PA j y
  | 0, k, PA, j, y => (if_neg (by omega)).symm
  | n + 1, k, PA, j, y => by
    rw [f_X5_run_55, run55_at v yr n (k + 1) _ j y]
    by_cases q : j = k
    · subst q
      have c1 : ¬ (j + 1 ≤ j ∧ j < j + 1 + n ∧ y = yr) := by omega
      rw [if_neg c1, va_up_self]
      by_cases w : y = yr
      · have c2 : j ≤ j ∧ j < j + (n + 1) ∧ y = yr := ⟨Nat.le_refl _, by omega, w⟩
        rw [if_pos c2, w, pk_us]
      · have c2 : ¬ (j ≤ j ∧ j < j + (n + 1) ∧ y = yr) := fun z => w z.2.2
        rw [if_neg c2, pk_un w]
    · rw [va_up_ne _ _ q]
      by_cases c : k + 1 ≤ j ∧ j < k + 1 + n ∧ y = yr
      · rw [if_pos c, if_pos ⟨by omega, by omega, c.2.2⟩]
      · have c2 : ¬ (k ≤ j ∧ j < k + (n + 1) ∧ y = yr) := fun x => c ⟨by omega, by omega, x.2.2⟩
        rw [if_neg c, if_neg c2]
theorem run281_at (v : Int32 × zF × zF × zF × zF) (yr : Nat) : ∀ (n k : Nat) (mca : zF) (q : Nat), f_X7_run_281 v yr n k mca q = if 6 * yr + k ≤ q ∧ q < 6 * yr + k + n then v.2.2.1 (q - 6 * yr) else mca q
  | 0, k, mca, q => (if_neg (by omega)).symm
  | n + 1, k, mca, q => by
    rw [f_X7_run_281, run281_at v yr n (k + 1) _ q]
    by_cases w : q = 6 * yr + k
    · have c1 : ¬ (6 * yr + (k + 1) ≤ q ∧ q < 6 * yr + (k + 1) + n) := by omega
      have c2 : 6 * yr + k ≤ q ∧ q < 6 * yr + k + (n + 1) := by omega
      rw [if_neg c1, if_pos c2, w, pk_us, show 6 * yr + k - 6 * yr = k by omega]
    · rw [pk_un w]
      by_cases c : 6 * yr + (k + 1) ≤ q ∧ q < 6 * yr + (k + 1) + n
      · rw [if_pos c, if_pos (by omega)]
      · have c2 : ¬ (6 * yr + k ≤ q ∧ q < 6 * yr + k + (n + 1)) := by omega
        rw [if_neg c, if_neg c2]
def yYI (P Q i0 dn Ln yr : Nat) (d : Int32) (bn : Nat → Nat) (B : zB) (hav : Int32) (Y : zY) (mhd : Int32) (mdi mco mgo : zF) : Prop :=
  Bd P (6000 * yr + 100) Y ∧ (∀ j, j < P → Y.2.2.1 j = lsum (nzC B Q j) (nI 0)) ∧ (∃ v, v < 64 ∧ mhd = nI v) ∧
  ((yFR P i0 d bn yr hav Y mhd mdi mco mgo ∧ (i0 < P → 151 ≤ yr → ∃ h, h < 2 ^ 30 ∧ Y.2.2.2.1 i0 = nI h ∧ h + dn < Ln)) ∨ (i0 < P ∧ yPD i0 dn Ln bn yr Y mhd mdi))
def yRC (P i0 yr : Nat) (PA : Nat → Nat → Int32) (mca : zF) : Prop := P ≤ i0 → ∀ y, y < yr → ∀ j, j < P → mca (6 * y + j) = PA j y
theorem year_LI {P Q Hn i0 dn mwm Ln yr : Nat} {d sd hav mhd : Int32} {bn : Nat → Nat} {B : zB} {mno mwi mon mdi mco mgo : zF} {Y : zY} (S : SC P Q Hn i0 d dn bn B mwm mno mwi mon) (hy : yr ≤ 150) (h : yYI P Q i0 dn Ln yr d bn B hav Y mhd mdi mco mgo) :
    yLI P Q i0 dn Ln yr (6000 * yr + 700) d bn B 0 hav (s_X5_work (s_X5_bringHelp (s_X5_bear Y P B yr) P Hn B yr) P sd B yr) mhd mdi (f_X7_run_206 sd mon yr mdi P 0 (f_X7_run_123 mno mon yr mdi Hn 0 (f_X7_run_72 mon yr P 0 mco))) mgo := by
  have hP : P ≤ 6 := S.1.1
  obtain ⟨hB, hW, hh, hc⟩ := h
  obtain ⟨st, pu, e, s1, s2, s3⟩ := year_class (sd := sd) (yr := yr) (B := B) hP S.1.2.2.1 (by omega : 99 ≤ 6000 * yr + 100) (by omega) hB (fun j hj => ⟨(S.2.1 j hj).2.1, (S.2.1 j hj).2.2.2.2⟩) (fun h hx => (S.2.2.1 h hx).2)
  refine ⟨?_, ?_, hh, ?_⟩
  · rw [e]
    exact fun j hj => s2 j hj
  · rw [e]
    exact hW
  · rcases hc with ⟨⟨f1, f2, f3⟩, -⟩ | ⟨i1, p1, p2, p3⟩
    · exact Or.inl ⟨⟨year_rel S hy f1, f2, f3⟩, fun _ h1 => absurd h1 (Nat.not_lt_zero _)⟩
    · refine Or.inr ⟨i1, p1, by omega, ?_⟩
      rw [e]
      obtain ⟨⟨b1, b2, -⟩, -⟩ := S.2.1 i0 i1
      have hne : B.1 i0 ≠ nI yr := by
        rw [b1, Ne, nI_eq (by omega) (by omega)]
        omega
      have est : st i0 = Y.1 i0 := by rw [s1 i0 i1, if_neg hne]
      rcases p3 with ⟨a1, a2, a3⟩ | ⟨a1, a2, a3⟩
      · refine Or.inl ⟨a1, a2, fun z => ?_⟩
        obtain ⟨p, g1, g2, g3⟩ := a3 (est.symm.trans z)
        obtain ⟨p', q1, q2⟩ := hB i0 i1
        have e9 : p = p' := by
          have := g2.symm.trans q2
          rw [nI_eq (by omega) (by omega)] at this
          exact this
        obtain ⟨b3, w1, w2, w3⟩ := s3 i0 p i1 hne g2 (by omega)
        exact ⟨b3, by omega, w1, by omega⟩
      · exact Or.inr ⟨a1, by rw [show (_ : zY).1 i0 = st i0 from rfl, est]; exact a2, a3⟩
theorem years_rel {P Q Hn i0 dn mwm Ln : Nat} {d sd : Int32} {bn : Nat → Nat} {B : zB} {mno mwi mon : zF} {ey : Nat} (hey : ey ≤ 151) (S : SC P Q Hn i0 d dn bn B mwm mno mwi mon) (hL : i0 < P → s_X7_leaving mwm mwi i0 = nI Ln ∧ 0 < Ln ∧ Ln < 2 ^ 30) : ∀ (n yr : Nat) (hav : Int32) (Y : zY) (PA : Nat → Nat → Int32) (mhd : Int32) (mdi mco mgo mbr mca : zF), yr + n = ey → yYI P Q i0 dn Ln yr d bn B hav Y mhd mdi mco mgo → yRC P i0 yr PA mca →
    yYI P Q i0 dn Ln ey d bn B (f_X5_run_6 P Q Hn sd B n yr hav Y PA).1 (f_X5_run_6 P Q Hn sd B n yr hav Y PA).2.1 (f_X7_run_63 P mwm sd mno mwi mon Hn n yr mhd mdi mco mgo mbr mca).1 (f_X7_run_63 P mwm sd mno mwi mon Hn n yr mhd mdi mco mgo mbr mca).2.1 (f_X7_run_63 P mwm sd mno mwi mon Hn n yr mhd mdi mco mgo mbr mca).2.2.1 (f_X7_run_63 P mwm sd mno mwi mon Hn n yr mhd mdi mco mgo mbr mca).2.2.2.1 ∧ yRC P i0 ey (f_X5_run_6 P Q Hn sd B n yr hav Y PA).2.2 (f_X7_run_63 P mwm sd mno mwi mon Hn n yr mhd mdi mco mgo mbr mca).2.2.2.2.2
  | 0, yr, hav, Y, PA, mhd, mdi, mco, mgo, mbr, mca, hn, h, hr => by
    have e9 : yr = ey := by omega
    subst e9
    exact ⟨h, hr⟩
  | n + 1, yr, hav, Y, PA, mhd, mdi, mco, mgo, mbr, mca, hn, h, hr => by
    have hP : P ≤ 6 := S.1.1
    have hQ : Q ≤ 9 := S.1.2.1
    have hy : yr ≤ 150 := by omega
    obtain ⟨hB, hW, hh, hc⟩ := h
    have h0 := year_LI (sd := sd) S hy ⟨hB, hW, hh, hc⟩
    have h1 := turns_rel (mbr := mbr) S hy (by omega : 6000 * yr + 700 + 6000 < 2 ^ 29) (Nat.le_refl P) hL P 0 hav _ mhd mdi _ mgo (by omega) h0
    rw [f_X5_run_6, f_X7_run_63]
    refine years_rel hey S hL n (yr + 1) _ _ _ _ _ _ _ _ _ (by omega) ?_ ?_
    · obtain ⟨k1, k2, k3, k4⟩ := h1
      refine ⟨fun j hj => ?_, k2, k3, ?_⟩
      · obtain ⟨m, m1, m2⟩ := k1 j hj
        exact ⟨m, by omega, m2⟩
      · rcases k4 with ⟨f1, f2⟩ | f
        · refine Or.inl ⟨f1, fun i1 i2 => f2 i1 i1 ?_⟩
          obtain ⟨⟨b1, b2, -⟩, -⟩ := S.2.1 i0 i1
          omega
        · exact Or.inr f
    · intro hpl y hyy j hj
      rcases h1.2.2.2 with ⟨f1, -⟩ | ⟨f1, -⟩
      · rw [run281_at, run55_at]
        by_cases w : y = yr
        · have c1 : 6 * yr + 0 ≤ 6 * y + j ∧ 6 * y + j < 6 * yr + 0 + P := by omega
          have c2 : 0 ≤ j ∧ j < 0 + P ∧ y = yr := ⟨Nat.zero_le _, by omega, w⟩
          rw [if_pos c1, if_pos c2, w, show 6 * yr + j - 6 * yr = j by omega, (f1.1 j hj).2.2.1, ofs_ne (by omega), z_add0]
        · have c1 : ¬ (6 * yr + 0 ≤ 6 * y + j ∧ 6 * y + j < 6 * yr + 0 + P) := by omega
          have c2 : ¬ (0 ≤ j ∧ j < 0 + P ∧ y = yr) := fun z => w z.2.2
          rw [if_neg c1, if_neg c2]
          exact hr hpl y (by omega) j hj
      · exact absurd f1 (by omega)
