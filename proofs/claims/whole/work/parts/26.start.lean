/-! ===== the start and the end of a run ===== -/
theorem prep7_at (Q : Nat) (B : zB) : ∀ (n k : Nat) (Y : zY) (j : Nat), (k ≤ j ∧ j < k + n → (f_X5_prepare_7 Q B n k Y).1 j = nI 0 ∧ (f_X5_prepare_7 Q B n k Y).2.1 j = nI 0 ∧ (f_X5_prepare_7 Q B n k Y).2.2.1 j = s_X0_leaves Q B (nI j) ∧ (f_X5_prepare_7 Q B n k Y).2.2.2.1 j = nI 0 ∧ (f_X5_prepare_7 Q B n k Y).2.2.2.2.1 j = -4 ∧ (f_X5_prepare_7 Q B n k Y).2.2.2.2.2.1 j = nI 0) ∧
    (j < k → (f_X5_prepare_7 Q B n k Y).1 j = Y.1 j ∧ (f_X5_prepare_7 Q B n k Y).2.1 j = Y.2.1 j ∧ (f_X5_prepare_7 Q B n k Y).2.2.1 j = Y.2.2.1 j ∧ (f_X5_prepare_7 Q B n k Y).2.2.2.1 j = Y.2.2.2.1 j ∧ (f_X5_prepare_7 Q B n k Y).2.2.2.2.1 j = Y.2.2.2.2.1 j ∧ (f_X5_prepare_7 Q B n k Y).2.2.2.2.2.1 j = Y.2.2.2.2.2.1 j)
  | 0, k, Y, j => ⟨fun h => absurd h (by omega), fun _ => ⟨rfl, rfl, rfl, rfl, rfl, rfl⟩⟩
  | n + 1, k, Y, j => by
    obtain ⟨h1, h2⟩ := prep7_at Q B n (k + 1) ((upd Y.1 k (nI 0)), (upd Y.2.1 k (nI 0)), (upd Y.2.2.1 k (s_X0_leaves Q B (nI k))), (upd Y.2.2.2.1 k (nI 0)), (upd Y.2.2.2.2.1 k (-4)), (upd Y.2.2.2.2.2.1 k (nI 0)), Y.2.2.2.2.2.2) j
    rw [f_X5_prepare_7]
    refine ⟨fun h => ?_, fun h => ?_⟩
    · by_cases q : j = k
      · subst q
        obtain ⟨g1, g2, g3, g4, g5, g6⟩ := h2 (by omega)
        exact ⟨g1.trans pk_us, g2.trans pk_us, g3.trans pk_us, g4.trans pk_us, g5.trans pk_us, g6.trans pk_us⟩
      · exact h1 (by omega)
    · obtain ⟨g1, g2, g3, g4, g5, g6⟩ := h2 (by omega)
      have q : j ≠ k := by omega
      exact ⟨g1.trans (pk_un q), g2.trans (pk_un q), g3.trans (pk_un q), g4.trans (pk_un q), g5.trans (pk_un q), g6.trans (pk_un q)⟩
theorem prep76_at : ∀ (n k : Nat) (Y : zY), ∃ br, f_X5_prepare_76 n k Y = (Y.1, Y.2.1, Y.2.2.1, Y.2.2.2.1, Y.2.2.2.2.1, Y.2.2.2.2.2.1, br) ∧ (∀ j, k ≤ j → j < k + n → br j = nI 0) ∧ ∀ j, j < k → br j = Y.2.2.2.2.2.2 j
  | 0, k, Y => ⟨Y.2.2.2.2.2.2, rfl, fun j h1 h2 => absurd h1 (by omega), fun _ _ => rfl⟩
  | n + 1, k, Y => by
    obtain ⟨br, e, h1, h2⟩ := prep76_at n (k + 1) (Y.1, Y.2.1, Y.2.2.1, Y.2.2.2.1, Y.2.2.2.2.1, Y.2.2.2.2.2.1, (upd Y.2.2.2.2.2.2 k (nI 0)))
    rw [f_X5_prepare_76]
    refine ⟨br, e, fun j a b => ?_, fun j a => ?_⟩
    · by_cases q : j = k
      · subst q
        exact (h2 j (by omega)).trans pk_us
      · exact h1 j (by omega) (by omega)
    · exact (h2 j (by omega)).trans (pk_un (by omega))
theorem run7_at : ∀ (n k : Nat) (mdi mco mgo : zF) (j : Nat), (k ≤ j ∧ j < k + n → (f_X7_run_7 n k mdi mco mgo).1 j = -1 ∧ (f_X7_run_7 n k mdi mco mgo).2.1 j = nI 0 ∧ (f_X7_run_7 n k mdi mco mgo).2.2 j = nI 0) ∧ (j < k → (f_X7_run_7 n k mdi mco mgo).1 j = mdi j ∧ (f_X7_run_7 n k mdi mco mgo).2.1 j = mco j ∧ (f_X7_run_7 n k mdi mco mgo).2.2 j = mgo j)
  | 0, k, mdi, mco, mgo, j => ⟨fun h => absurd h (by omega), fun _ => ⟨rfl, rfl, rfl⟩⟩
  | n + 1, k, mdi, mco, mgo, j => by
    obtain ⟨h1, h2⟩ := run7_at n (k + 1) (upd mdi k (-1)) (upd mco k (nI 0)) (upd mgo k (nI 0)) j
    rw [f_X7_run_7]
    refine ⟨fun h => ?_, fun h => ?_⟩
    · by_cases q : j = k
      · subst q
        obtain ⟨g1, g2, g3⟩ := h2 (by omega)
        exact ⟨g1.trans pk_us, g2.trans pk_us, g3.trans pk_us⟩
      · exact h1 (by omega)
    · obtain ⟨g1, g2, g3⟩ := h2 (by omega)
      have q : j ≠ k := by omega
      exact ⟨g1.trans (pk_un q), g2.trans (pk_un q), g3.trans (pk_un q)⟩
theorem run42_at : ∀ (n k : Nat) (mbr : zF) (j : Nat), f_X7_run_42 n k mbr j = if k ≤ j ∧ j < k + n then nI 0 else mbr j
  | 0, k, mbr, j => (if_neg (by omega)).symm
  | n + 1, k, mbr, j => by
    rw [f_X7_run_42, run42_at n (k + 1) _ j]
    by_cases c : k + 1 ≤ j ∧ j < k + 1 + n
    · rw [if_pos c, if_pos (by omega)]
    · rw [if_neg c]
      by_cases q : j = k
      · subst q
        rw [pk_us, if_pos (by omega)]
      · rw [pk_un q, if_neg (by omega)]
theorem has_0 : ∀ j : Fin 6, s_X7_has (nI 0) j.val = false := by decide +kernel
/-- where a run begins -/
theorem start_rel {P Q Hn i0 dn mwm Ln : Nat} {d : Int32} {bn : Nat → Nat} {B : zB} {mno mwi mon : zF} (S : SC P Q Hn i0 d dn bn B mwm mno mwi mon) (Y : zY) (mdi mco mgo : zF) : yYI P Q i0 dn Ln 0 d bn B (s_X5_prepare Y P Q B).1 (s_X5_prepare Y P Q B).2 (nI 0) (f_X7_run_7 6 0 mdi mco mgo).1 (f_X7_run_7 6 0 mdi mco mgo).2.1 (f_X7_run_7 6 0 mdi mco mgo).2.2 := by
  have hP : P ≤ 6 := S.1.1
  obtain ⟨br, e, -, -⟩ := prep76_at Q 0 (f_X5_prepare_7 Q B P 0 Y)
  have e' : s_X5_prepare Y P Q B = (nI 0, f_X5_prepare_76 Q 0 (f_X5_prepare_7 Q B P 0 Y)) := rfl
  rw [e', e]
  refine ⟨fun j hj => ⟨0, by omega, ((prep7_at Q B P 0 Y j).1 ⟨Nat.zero_le _, by omega⟩).2.1⟩, fun j hj => ?_, ⟨0, by decide, rfl⟩, Or.inl ⟨⟨fun j hj => ?_, rfl, fun h => ?_⟩, fun _ h => absurd h (by decide)⟩⟩
  · refine (((prep7_at Q B P 0 Y j).1 ⟨Nat.zero_le _, by omega⟩).2.2.1).trans ?_
    exact leaves_eq B (nI j) Q 0 (nI 0)
  · obtain ⟨g1, g2, g3, g4, g5, g6⟩ := (prep7_at Q B P 0 Y j).1 ⟨Nat.zero_le _, by omega⟩
    obtain ⟨r1, r2, r3⟩ := (run7_at 6 0 mdi mco mgo j).1 ⟨Nat.zero_le _, by omega⟩
    refine ⟨fun _ => ⟨g1, by rw [r1]; exact int_neg1, g2, r2⟩, fun h => absurd h (Nat.not_lt_zero _), ?_, ?_, g6.trans r3.symm⟩
    · show (f_X7_run_7 6 0 mdi mco mgo).2.1 j = (f_X5_prepare_7 Q B P 0 Y).2.1 j + ofs i0 d (f_X5_prepare_7 Q B P 0 Y).1 j
      rw [r2, g2, ofs_dead (by rw [g1]; exact n01), z_add0]
    · refine g5.trans ?_
      rw [r1, if_pos int_neg1]
  · obtain ⟨r1, r2, r3⟩ := (run7_at 6 0 mdi mco mgo i0).1 ⟨Nat.zero_le _, by omega⟩
    exact ⟨by rw [r1]; exact int_neg1, has_0 ⟨i0, by omega⟩⟩
theorem prod3 {α β γ : Type} (v : α × β × γ) : (v.1, v.2.1, v.2.2) = v := rfl
theorem prod6 {α β γ δ ε ζ : Type} (v : α × β × γ × δ × ε × ζ) : (v.1, v.2.1, v.2.2.1, v.2.2.2.1, v.2.2.2.2.1, v.2.2.2.2.2) = v := rfl
theorem run5_eq {N : Nat} (hN : N = 151) (Y : zY) (PA : Nat → Nat → Int32) (P Q Hn : Nat) (sd : Int32) (B : zB) : s_X5_run Y PA P Q Hn sd B = f_X5_run_6 P Q Hn sd B N 0 (s_X5_prepare Y P Q B).1 (s_X5_prepare Y P Q B).2 PA := by
  unfold s_X5_run
  rw [← hN]
theorem run7_eq {N : Nat} (hN : N = 151) (P mwm : Nat) (sd : Int32) (mno mwi mon mdi mco mgo mbr mca : zF) (Hn : Nat) : s_X7_run P mwm sd mno mwi mon mdi mco mgo mbr mca Hn = f_X7_run_63 P mwm sd mno mwi mon Hn N 0 (nI 0) (f_X7_run_7 6 0 mdi mco mgo).1 (f_X7_run_7 6 0 mdi mco mgo).2.1 (f_X7_run_7 6 0 mdi mco mgo).2.2 (f_X7_run_42 10 0 mbr) mca := by
  unfold s_X7_run
  rw [← hN]
/-- one whole run against the other -/
theorem run_rel {P Q Hn i0 dn mwm Ln N : Nat} {d sd : Int32} {bn : Nat → Nat} {B : zB} {mno mwi mon : zF} (hN : N = 151) (S : SC P Q Hn i0 d dn bn B mwm mno mwi mon) (hL : i0 < P → s_X7_leaving mwm mwi i0 = nI Ln ∧ 0 < Ln ∧ Ln < 2 ^ 30) (Y : zY) (PA : Nat → Nat → Int32) (mdi mco mgo mbr mca : zF) :
    yYI P Q i0 dn Ln N d bn B (s_X5_run Y PA P Q Hn sd B).1 (s_X5_run Y PA P Q Hn sd B).2.1 (s_X7_run P mwm sd mno mwi mon mdi mco mgo mbr mca Hn).1 (s_X7_run P mwm sd mno mwi mon mdi mco mgo mbr mca Hn).2.1 (s_X7_run P mwm sd mno mwi mon mdi mco mgo mbr mca Hn).2.2.1 (s_X7_run P mwm sd mno mwi mon mdi mco mgo mbr mca Hn).2.2.2.1 ∧ yRC P i0 N (s_X5_run Y PA P Q Hn sd B).2.2 (s_X7_run P mwm sd mno mwi mon mdi mco mgo mbr mca Hn).2.2.2.2.2 := by
  rw [run5_eq hN, run7_eq hN]
  exact years_rel (ey := N) (by omega) S hL N 0 _ _ PA _ _ _ _ (f_X7_run_42 10 0 mbr) mca (Nat.zero_add N) (start_rel S Y mdi mco mgo) (fun _ y h => absurd h (Nat.not_lt_zero y))
/-- of the special one: whether the reference lets him die having it -/
theorem run_special {P Q Hn i0 dn mwm Ln : Nat} {d sd : Int32} {bn : Nat → Nat} {B : zB} {mno mwi mon : zF} (S : SC P Q Hn i0 d dn bn B mwm mno mwi mon) (hi : i0 < P) (hL : s_X7_leaving mwm mwi i0 = nI Ln ∧ 0 < Ln ∧ Ln < 2 ^ 30) (Y : zY) (PA : Nat → Nat → Int32) (mdi mco mgo mbr mca : zF) :
    ∃ h, h < 2 ^ 30 ∧ (s_X5_run Y PA P Q Hn sd B).2.1.2.2.2.1 i0 = nI h ∧ (s_X7_has (s_X7_run P mwm sd mno mwi mon mdi mco mgo mbr mca Hn).1 i0 = true ↔ Ln ≤ h + dn) := by
  obtain ⟨N, hN⟩ : ∃ N : Nat, N = 151 := ⟨_, rfl⟩
  obtain ⟨⟨-, -, -, h4⟩, -⟩ := run_rel (sd := sd) hN S (fun _ => hL) Y PA mdi mco mgo mbr mca
  rcases h4 with ⟨⟨f1, f2, f3⟩, f4⟩ | ⟨-, p1, p2, p3⟩
  · obtain ⟨h, h1, h2, h3⟩ := f4 hi (by omega)
    refine ⟨h, h1, h2, ?_⟩
    rw [(f3 hi).2]
    exact ⟨fun z => (by cases z), fun z => by omega⟩
  · rcases p3 with ⟨a1, ⟨h, h1, h2, h3⟩, -⟩ | ⟨a1, a2, h, h1, h2, h3⟩
    · exact ⟨h, h1, h2, ⟨fun _ => h3, fun _ => a1⟩⟩
    · refine ⟨h, h1, h2, ?_⟩
      rw [a1]
      exact ⟨fun z => (by cases z), fun z => by omega⟩
