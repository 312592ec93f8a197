/-! ===== a book and the reference's rows: the same ===== -/
def BK (P Q Hn : Nat) (sd : Int32) (B : zB) (mP mQ : Nat) (msd : Int32) (mpe mno : zF) : Prop :=
  (1 ≤ P ∧ P ≤ 6 ∧ Q ≤ 9 ∧ Hn ≤ 4 ∧ mP = P ∧ mQ = Q ∧ msd = sd) ∧
  (∀ j, j < P → (∃ b, b ≤ 60 ∧ B.1 j = nI b ∧ mpe (5 * j) = nI b) ∧ (∃ g, g ≤ 9 ∧ B.2.1 j = nI g ∧ mpe (5 * j + 1) = nI g) ∧ (∃ x, 20 ≤ x ∧ x ≤ 99 ∧ B.2.2.1 j = nI x ∧ mpe (5 * j + 2) = nI x) ∧ (∃ x, x ≤ 3 ∧ B.2.2.2.1 j = nI x ∧ mpe (5 * j + 3) = nI x) ∧ (∃ x, x ≤ 99 ∧ B.2.2.2.2.1 j = nI x ∧ mpe (5 * j + 4) = nI x)) ∧
  (∀ k, k < Q → (∃ f, f < P ∧ yFr B k = nI f ∧ mno (3 * k) = nI f) ∧ (∃ t, t < P ∧ yTo B k = nI t ∧ mno (3 * k + 1) = nI t) ∧ (∃ z, 1 ≤ z ∧ z ≤ 99 ∧ ySz B k = nI z ∧ mno (3 * k + 2) = nI z)) ∧
  mno 27 = nI Hn ∧
  (∀ h, h < Hn → (∃ f, f < P ∧ B.2.2.2.2.2.2.2.2.1 h = nI f ∧ mno (28 + 3 * h) = nI f) ∧ (∃ y, y ≤ 150 ∧ B.2.2.2.2.2.2.2.2.2.1 h = nI y ∧ mno (28 + 3 * h + 1) = nI y) ∧ (∃ c, 1 ≤ c ∧ c ≤ 99 ∧ B.2.2.2.2.2.2.2.2.2.2 h = nI c ∧ mno (28 + 3 * h + 2) = nI c))
abbrev bnOf (B : zB) (j : Nat) : Nat := (B.1 j).toNatClampNeg
abbrev gvOf (B : zB) (k : Nat) : Nat := (yFr B k).toNatClampNeg
theorem SC_gen {P Q Hn i0 dn mwm : Nat} {sd d msd : Int32} {B B2 : zB} {mP mQ : Nat} {mpe mno mwi mon : zF} (K : BK P Q Hn sd B mP mQ msd mpe mno)
    (h1 : ∀ j, j < P → B2.1 j = B.1 j ∧ B2.2.1 j = B.2.1 j ∧ (∃ x, 20 ≤ x ∧ x ≤ 99 ∧ B2.2.2.1 j = nI x) ∧ (∃ x, x ≤ 3 ∧ B2.2.2.2.1 j = nI x) ∧ B2.2.2.2.2.1 j = B.2.2.2.2.1 j ∧ mon (5 * j) = mpe (5 * j) ∧ mon (5 * j + 1) = mpe (5 * j + 1) ∧ mon (5 * j + 2) = B2.2.2.1 j ∧ mon (5 * j + 3) = B2.2.2.2.1 j ∧ mon (5 * j + 4) = mpe (5 * j + 4) + (if j = i0 then d else nI 0))
    (h2 : B2.2.2.2.2.2.2.2.2 = B.2.2.2.2.2.2.2.2) (h3 : ∀ k, k < Q → (∃ z, z ≤ 99 ∧ ySz B2 k = nI z) ∧ yTo B2 k = yTo B k) (h4 : mwm ≤ 10) (h5 : ∀ k, k < mwm → ∃ z, z ≤ 300 ∧ mwi (3 * k + 2) = nI z) (h6 : d = nI dn ∧ dn ≤ 300) (h7 : ∀ j, j < P → j ≠ i0 → nzC B2 Q j = nzM mwi mwm j) (h8 : i0 < P → nzC B2 Q i0 = []) :
    SC P Q Hn i0 d dn (bnOf B) B2 mwm mno mwi mon := by
  obtain ⟨⟨k1, k2, k3, k4, -⟩, k5, k6, k7, k8⟩ := K
  refine ⟨⟨k2, k3, k4, h4, h6.1, h6.2⟩, fun j hj => ?_, fun h hh => ?_, ⟨fun k hk => ⟨(h3 k hk).1, ?_⟩, h5⟩, h7, h8⟩
  · obtain ⟨⟨b, b1, b2, b3⟩, ⟨g, g1, g2, g3⟩, -, -, ⟨x, x1, x2, x3⟩⟩ := k5 j hj
    obtain ⟨a1, a2, a3, a4, a5, a6, a7, a8, a9, a10⟩ := h1 j hj
    have eb : bnOf B j = b := by
      show (B.1 j).toNatClampNeg = b
      rw [b2, nI_clamp (by omega)]
    refine ⟨⟨?_, by omega, ?_, ?_, a8, a9, ?_⟩, ⟨g, g1, a2.trans g2⟩, a3, a4, ⟨x, x1, a5.trans x2⟩⟩
    · rw [a1, b2, eb]
    · rw [a6, b3, a1, b2]
    · rw [a7, g3, a2, g2]
    · rw [a10, x3, a5, x2]
  · obtain ⟨⟨f, f1, f2, f3⟩, ⟨y, y1, y2, y3⟩, ⟨c, c0, c1, c2, c3⟩⟩ := k8 h hh
    have e1 : B2.2.2.2.2.2.2.2.2.1 h = nI f := by rw [h2]; exact f2
    have e2 : B2.2.2.2.2.2.2.2.2.2.1 h = nI y := by rw [h2]; exact y2
    have e3 : B2.2.2.2.2.2.2.2.2.2.2 h = nI c := by rw [h2]; exact c2
    exact ⟨⟨f3.trans e1.symm, y3.trans e2.symm, c3.trans e3.symm⟩, ⟨f, f1, e1⟩, ⟨c, c1, e3⟩⟩
  · obtain ⟨-, ⟨t, t1, t2, t3⟩, -⟩ := k6 k hk
    exact ⟨t, t1, (h3 k hk).2.trans t2⟩
abbrev wiP (mno : zF) (mQ : Nat) (mwi : zF) : zF := f_X7_prepare_10 mno (3 * mQ) 0 mwi
abbrev onP (mpe : zF) (mP : Nat) (mon : zF) : zF := f_X7_prepare_40 mpe (5 * mP) 0 mon
theorem wiP_at {mno mwi : zF} {mQ q : Nat} (h : q < 3 * mQ) : wiP mno mQ mwi q = mno q := by
  rw [wiP, prep10_at, if_pos (by omega)]
theorem onP_at {mpe mon : zF} {mP q : Nat} (h : q < 5 * mP) : onP mpe mP mon q = mpe q := by
  rw [onP, prep40_at, if_pos (by omega)]
/-- the lists of what is left: the same where the tables are -/
theorem BK.lists {P Q Hn : Nat} {sd msd : Int32} {B : zB} {mP mQ : Nat} {mpe mno : zF} (K : BK P Q Hn sd B mP mQ msd mpe mno) {B2 : zB} {mwi : zF} (h1 : ∀ k, k < Q → yFr B2 k = yFr B k ∧ yTo B2 k = yTo B k ∧ ySz B2 k = ySz B k) (h2 : ∀ q, q < 3 * Q → mwi q = mno q) (j : Nat) : nzC B2 Q j = nzM mwi Q j := by
  refine nzl_congr Q 0 (fun k _ hk => ?_)
  obtain ⟨⟨f, f1, f2, f3⟩, ⟨t, t1, t2, t3⟩, ⟨z, z0, z1, z2, z3⟩⟩ := K.2.2.1 k (by omega)
  obtain ⟨a1, a2, a3⟩ := h1 k (by omega)
  refine ⟨?_, ?_, ?_⟩
  · rw [a1, f2]
    show _ = mwi (3 * k + 0)
    rw [h2 _ (by omega)]
    exact f3.symm
  · rw [a2, t2]
    show _ = mwi (3 * k + 1)
    rw [h2 _ (by omega)]
    exact t3.symm
  · rw [a3, z2]
    show _ = mwi (3 * k + 2)
    rw [h2 _ (by omega)]
    exact z3.symm
theorem BK.sizes {P Q Hn : Nat} {sd msd : Int32} {B : zB} {mP mQ : Nat} {mpe mno : zF} (K : BK P Q Hn sd B mP mQ msd mpe mno) {k : Nat} (hk : k < Q) : ∃ z, z ≤ 99 ∧ ySz B k = nI z := by
  obtain ⟨-, -, ⟨z, z0, z1, z2, z3⟩⟩ := K.2.2.1 k hk
  exact ⟨z, z1, z2⟩
theorem BK.msizes {P Q Hn : Nat} {sd msd : Int32} {B : zB} {mP mQ : Nat} {mpe mno : zF} (K : BK P Q Hn sd B mP mQ msd mpe mno) {mwi : zF} (h2 : ∀ q, q < 3 * Q → mwi q = mno q) {k : Nat} (hk : k < Q) : ∃ z, z ≤ 300 ∧ mwi (3 * k + 2) = nI z := by
  obtain ⟨-, -, ⟨z, z0, z1, z2, z3⟩⟩ := K.2.2.1 k hk
  exact ⟨z, by omega, by rw [h2 _ (by omega)]; exact z3⟩
/-- the plain start: kinds, limits may be others -/
theorem SC_plain {P Q Hn : Nat} {sd msd : Int32} {B B2 : zB} {mP mQ : Nat} {mpe mno mwi mon : zF} (K : BK P Q Hn sd B mP mQ msd mpe mno) (hw : ∀ q, q < 3 * Q → mwi q = mno q)
    (h1 : ∀ j, j < P → (∃ x, 20 ≤ x ∧ x ≤ 99 ∧ B2.2.2.1 j = nI x) ∧ (∃ x, x ≤ 3 ∧ B2.2.2.2.1 j = nI x) ∧ mon (5 * j) = mpe (5 * j) ∧ mon (5 * j + 1) = mpe (5 * j + 1) ∧ mon (5 * j + 2) = B2.2.2.1 j ∧ mon (5 * j + 3) = B2.2.2.2.1 j ∧ mon (5 * j + 4) = mpe (5 * j + 4))
    (hb : B2.1 = B.1) (hg : B2.2.1 = B.2.1) (h2 : B2.2.2.2.2 = B.2.2.2.2) : SC P Q Hn 6 (nI 0) 0 (bnOf B) B2 Q mno mwi mon := by
  have hP := K.1.2.1
  have hQ := K.1.2.2.1
  have e : ∀ k, yFr B2 k = yFr B k ∧ yTo B2 k = yTo B k ∧ ySz B2 k = ySz B k := fun k => by
    refine ⟨?_, ?_, ?_⟩
    · show B2.2.2.2.2.2.1 k = B.2.2.2.2.2.1 k
      rw [h2]
    · show B2.2.2.2.2.2.2.1 k = B.2.2.2.2.2.2.1 k
      rw [h2]
    · show B2.2.2.2.2.2.2.2.1 k = B.2.2.2.2.2.2.2.1 k
      rw [h2]
  refine SC_gen K (fun j hj => ?_) (by rw [h2]) (fun k hk => ⟨?_, (e k).2.1⟩) (by omega) (fun k hk => K.msizes hw hk) ⟨rfl, by decide⟩ (fun j hj _ => K.lists (fun k _ => e k) hw j) (fun h => absurd h (by omega))
  · obtain ⟨a1, a2, a3, a4, a5, a6, a7⟩ := h1 j hj
    exact ⟨by rw [hb], by rw [hg], a1, a2, by rw [h2], a3, a4, a5, a6, by rw [if_neg (by omega), z_add0]; exact a7⟩
  · obtain ⟨z, z1, z2⟩ := K.sizes hk
    exact ⟨z, z1, (e k).2.2.trans z2⟩
theorem BK.pl {P Q Hn : Nat} {sd msd : Int32} {B : zB} {mP mQ : Nat} {mpe mno mwi : zF} (K : BK P Q Hn sd B mP mQ msd mpe mno) (hw : ∀ q, q < 3 * Q → mwi q = mno q) : yPL P Q (gvOf B) B mwi := by
  intro k hk
  have hP := K.1.2.1
  obtain ⟨⟨f, f1, f2, f3⟩, ⟨t, t1, t2, t3⟩, ⟨z, z0, z1, z2, z3⟩⟩ := K.2.2.1 k hk
  have eg : gvOf B k = f := by
    show (yFr B k).toNatClampNeg = f
    rw [f2, nI_clamp (by omega)]
  refine ⟨?_, ?_, ?_, by rw [eg]; exact f2, by omega, t, t1, t2⟩
  · rw [hw _ (by omega), f3]; exact f2
  · rw [hw _ (by omega), t3]; exact t2
  · rw [hw _ (by omega), z3]; exact z2
/-- what two runs without a special one show -/
theorem run_all {P Q Hn i0 dn mwm : Nat} {d sd : Int32} {bn : Nat → Nat} {B : zB} {mno mwi mon : zF} (S : SC P Q Hn i0 d dn bn B mwm mno mwi mon) (h6 : P ≤ i0) (Y : zY) (PA : Nat → Nat → Int32) (mdi mco mgo mbr mca : zF) :
    (s_X5_run Y PA P Q Hn sd B).1 = (s_X7_run P mwm sd mno mwi mon mdi mco mgo mbr mca Hn).1 ∧ (∀ j, j < P → (s_X5_run Y PA P Q Hn sd B).2.1.2.2.2.2.1 j = (if (s_X7_run P mwm sd mno mwi mon mdi mco mgo mbr mca Hn).2.1 j < 0 then (-4 : Int32) else (s_X7_run P mwm sd mno mwi mon mdi mco mgo mbr mca Hn).2.1 j) ∧ (s_X5_run Y PA P Q Hn sd B).2.1.2.2.2.2.2.1 j = (s_X7_run P mwm sd mno mwi mon mdi mco mgo mbr mca Hn).2.2.2.1 j) ∧
    (∀ y, y < 151 → ∀ j, j < P → (s_X7_run P mwm sd mno mwi mon mdi mco mgo mbr mca Hn).2.2.2.2.2 (6 * y + j) = (s_X5_run Y PA P Q Hn sd B).2.2 j y) ∧ yMU P bn (s_X7_run P mwm sd mno mwi mon mdi mco mgo mbr mca Hn).1 (s_X7_run P mwm sd mno mwi mon mdi mco mgo mbr mca Hn).2.1 := by
  obtain ⟨N, hN⟩ : ∃ N : Nat, N = 151 := ⟨_, rfl⟩
  have hm := mu_run (mwm := mwm) (Hn := Hn) (sd := sd) (mno := mno) (mwi := mwi) S.1.1 (bn := bn) (mon := mon) (fun j hj => by obtain ⟨⟨c1, c2, c3, -⟩, -⟩ := S.2.1 j hj; exact ⟨c3.trans c1, c2⟩) mdi mco mgo mbr mca
  obtain ⟨⟨-, -, -, h4⟩, h5⟩ := run_rel (sd := sd) (Ln := 1) hN S (fun z => absurd z (by omega)) Y PA mdi mco mgo mbr mca
  rcases h4 with ⟨⟨f1, f2, -⟩, -⟩ | ⟨z, -⟩
  · exact ⟨f2, fun j hj => (f1 j hj).2.2.2, fun y hy j hj => h5 h6 y (by omega) j hj, hm⟩
  · exact absurd z (by omega)
