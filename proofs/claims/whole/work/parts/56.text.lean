/-! ===== the text laid at first: the JDK's String members over it ===== -/
abbrev byt0 : List Int32 := [112, 48, 44, 51, 44, 54, 48, 44, 48, 59, 112, 53, 44, 52, 44, 53, 48, 44, 49, 59, 112, 49, 48, 44, 50, 44, 55, 48, 44, 50, 59, 112, 49, 50, 44, 53, 44, 52, 48, 44, 51, 59, 119, 48, 44, 49, 44, 52, 48, 59, 119, 48, 44, 50, 44, 50, 48, 59, 119, 49, 44, 51, 44, 54, 48, 59, 119, 50, 44, 48, 44, 49, 53, 59, 119, 51, 44, 50, 44, 51, 48, 59, 103, 50, 44, 53, 59, 122, 55, 59]
def zStr (A : Nat → Prop) (kS vS : Nat) (U : State) (H : Heap) : Prop :=
  va_Z "java/lang/String" "COMPACT_STRINGS" "Z" (.int (nI 1)) A U H ∧ va_O "java/lang/String" kS A U H ∧ va_OF "java/lang/String" "coder" "B" (.int (nI 0)) kS A U H ∧ va_OF "java/lang/String" "value" "[B" (.ref vS) kS A U H ∧ va_T .byte vS 90 (fun j => .int (byt0.getD j 0)) A U H ∧ va_Zq "jdk/internal/util/Preconditions" "SIOOBE_FORMATTER" "Ljava/util/function/BiFunction;" A U H
theorem zStr.moved {A : Nat → Prop} {kS vS : Nat} {u U : State} {H : Heap} (hvm : u.vm.Alike U.vm) (h : zStr A kS vS u H) : zStr A kS vS U H := ⟨h.1.moved hvm, h.2.1.moved hvm, h.2.2.1.moved hvm, h.2.2.2.1.moved hvm, h.2.2.2.2.1.moved hvm, h.2.2.2.2.2.moved hvm⟩
theorem zStr.kept {A : Nat → Prop} {kS vS : Nat} {U : State} {H H1 : Heap} (h : zStr A kS vS U H) (hq : ∀ a : Nat, a < H.size → ¬ A a → H1[a]? = H[a]?) : zStr A kS vS U H1 := ⟨h.1.kept hq, h.2.1.kept hq, h.2.2.1.kept hq, h.2.2.2.1.kept hq, h.2.2.2.2.1.kept hq, h.2.2.2.2.2.kept hq⟩
theorem zStr.narrow {A B : Nat → Prop} {kS vS : Nat} {U : State} {H : Heap} (h : zStr A kS vS U H) (hq : ∀ q, B q → A q) : zStr B kS vS U H := ⟨h.1.narrow hq, h.2.1.narrow hq, h.2.2.1.narrow hq, h.2.2.2.1.narrow hq, h.2.2.2.2.1.narrow hq, h.2.2.2.2.2.narrow hq⟩
/-- the judgement with the text in hand -/
def zSO (l : Launch) (R : Room) (cc : ByteArray) (nL : Nat) (Ts : List Cond) (own : String) (D : va_G) (tys : zTy) (A : Nat → Prop) (kS vS : Nat) (Z : List va_W → zL → Nat → List Value → Prop) : Prop :=
  ∃ (p : Program) (e : Env) (s : State) (m : MethodId) (args : Array Value) (below : List Frame) (meth : Method) (c : Code) (cells slots : Nat) (Q : State → Prop),
    CallFix p m c cc nL s args Ts own ∧ (va_K D vwCl tys s ∧ zNw s) ∧ (cells ≤ R.cells ∧ slots ≤ R.slots) ∧ zStr A kS vS s s.heap ∧
    Z = fun gs lv pc st => ∀ (H : Heap) (locs : List Loc) (ls : Array Slot), va_P D vwCl gs.flatten H → va_D A gs.flatten → va_S A s.heap H locs → lv_has ls nL lv → W p l e R s m args below meth c H locs cells slots Q (F0 m pc ls st)
def zJPre (D : va_G) (tys : zTy) (args : List Value) (kS vS : Nat) : Array Value → State → Prop := fun v U => zPre D tys args [] v U ∧ zStr (fun _ => False) kS vS U U.heap
def zJPost (v : Option Value) : Array Value → State → Outcome → State → Prop := fun _ st oc t => oc = .returned v ∧ va_F (fun _ => False) st t
def zJ (l : Launch) (y : MethodName) (wds : List Cond) (rm : Room) (D : va_G) (tys : zTy) (kS vS : Nat) (args : List Value) (v : Option Value) : Prop :=
  Met l y wds rm (zJPre D tys args kS vS) (zJPost v) 0 0 (fun _ => False)
section
variable {l : Launch} {R : Room} {cc : ByteArray} {nL : Nat} {Ts : List Cond} {own : String} {D : va_G} {tys : zTy} {A : Nat → Prop} {kS vS : Nat} {Z : List va_W → zL → Nat → List Value → Prop} {ws : List va_W} {lv lv2 : zL} {pc pc2 : Nat} {st : List Value}
theorem zSO.ok (O : zSO l R cc nL Ts own D tys A kS vS Z) : zOK l R cc nL Ts own D tys A Z := by
  obtain ⟨p, e, s, m, args, below, meth, c, cells, slots, Q, h1, h2, h3, h4, h5⟩ := O
  exact ⟨p, e, s, m, args, below, meth, c, cells, slots, Q, h1, h2, h3, h5⟩
theorem zj_gets (O : zSO l R cc nL Ts own D tys A kS vS Z) {idx : Nat} (hl : Cond.fieldLink own idx "java/lang/String" "COMPACT_STRINGS" "Z" ∈ Ts) (hdg : decode cc pc = .ok (.getstatic idx, 3)) (hpc : pc + 3 = pc2) (k : Z ws lv pc2 (.int (nI 1) :: st)) : Z ws lv pc st := by
  obtain ⟨p, e, s, m, args, below, meth, c, cells, slots, Q, ⟨hx, hb, hml, ho, hts⟩, hK, hr, hE, rfl⟩ := O
  subst hpc
  intro H locs ls hP hD hS hl9
  exact va_gets hx hb hE.1 hS ho (hts _ hl) (fun _ h => h) hdg (k H locs ls hP hD hS hl9)
theorem zj_getq (O : zSO l R cc nL Ts own D tys A kS vS Z) {idx : Nat} (hl : Cond.fieldLink own idx "jdk/internal/util/Preconditions" "SIOOBE_FORMATTER" "Ljava/util/function/BiFunction;" ∈ Ts) (hdg : decode cc pc = .ok (.getstatic idx, 3)) (hpc : pc + 3 = pc2) (k : ∀ r : Option Nat, Z ws lv pc2 (va_rf r :: st)) : Z ws lv pc st := by
  obtain ⟨p, e, s, m, args, below, meth, c, cells, slots, Q, ⟨hx, hb, hml, ho, hts⟩, hK, hr, hE, rfl⟩ := O
  subst hpc
  intro H locs ls hP hD hS hl9
  rcases hE.2.2.2.2.2 with h | ⟨t, h⟩
  · exact va_gets hx hb h hS ho (hts _ hl) (fun _ h => h) hdg (k none H locs ls hP hD hS hl9)
  · exact va_gets hx hb h hS ho (hts _ hl) (fun _ h => h) hdg (k (some t) H locs ls hP hD hS hl9)
theorem zj_val (O : zSO l R cc nL Ts own D tys A kS vS Z) {idx : Nat} (hl : Cond.fieldLink own idx "java/lang/String" "value" "[B" ∈ Ts) (hdg : decode cc pc = .ok (.getfield idx, 3)) (hpc : pc + 3 = pc2) (k : Z ws lv pc2 (.ref vS :: st)) : Z ws lv pc (.ref kS :: st) := by
  obtain ⟨p, e, s, m, args, below, meth, c, cells, slots, Q, ⟨hx, hb, hml, ho, hts⟩, hK, hr, hE, rfl⟩ := O
  subst hpc
  intro H locs ls hP hD hS hl9
  exact vk_getf hx hb hE.2.2.2.1 hS ho (hts _ hl) (fun _ h => h) hdg (k H locs ls hP hD hS hl9)
theorem zj_cod (O : zSO l R cc nL Ts own D tys A kS vS Z) {idx : Nat} (hl : Cond.fieldLink own idx "java/lang/String" "coder" "B" ∈ Ts) (hdg : decode cc pc = .ok (.getfield idx, 3)) (hpc : pc + 3 = pc2) (k : Z ws lv pc2 (.int (nI 0) :: st)) : Z ws lv pc (.ref kS :: st) := by
  obtain ⟨p, e, s, m, args, below, meth, c, cells, slots, Q, ⟨hx, hb, hml, ho, hts⟩, hK, hr, hE, rfl⟩ := O
  subst hpc
  intro H locs ls hP hD hS hl9
  exact vk_getf hx hb hE.2.2.1 hS ho (hts _ hl) (fun _ h => h) hdg (k H locs ls hP hD hS hl9)
theorem zj_len (O : zSO l R cc nL Ts own D tys A kS vS Z) (hdg : decode cc pc = .ok (.arraylength, 1)) (hpc : pc + 1 = pc2) (k : Z ws lv pc2 (.int (nI 90) :: st)) : Z ws lv pc (.ref vS :: st) := by
  obtain ⟨p, e, s, m, args, below, meth, c, cells, slots, Q, ⟨hx, hb, hml, ho, hts⟩, hK, hr, hE, rfl⟩ := O
  subst hpc
  intro H locs ls hP hD hS hl9
  exact va_tlen hx hb hE.2.2.2.2.1 hS rfl hdg (k H locs ls hP hD hS hl9)
theorem zj_ld (O : zSO l R cc nL Ts own D tys A kS vS Z) {j : Nat} (hj : j < 90) (hdg : decode cc pc = .ok (.baload, 1)) (hpc : pc + 1 = pc2) (k : Z ws lv pc2 (.int (byt0.getD j 0) :: st)) : Z ws lv pc (.int (nI j) :: .ref vS :: st) := by
  obtain ⟨p, e, s, m, args, below, meth, c, cells, slots, Q, ⟨hx, hb, hml, ho, hts⟩, hK, hr, hE, rfl⟩ := O
  subst hpc
  intro H locs ls hP hD hS hl9
  exact va_tb hx hb hE.2.2.2.2.1 hS (vp_in_nI hj (by decide)) (by rw [nI_clamp (by omega)]) hdg (k H locs ls hP hD hS hl9)
theorem zJ_blind {args : List Value} : FrameBlind (zJPre D tys args kS vS) := fun a U g mk q => ⟨⟨q.1.1, q.1.2.1, ⟨va_K.moved (u := U) (U := U.calling g mk a) (Vm.Alike.refl U.vm) q.1.2.2.1.1, zNw.same (u := U) (U := U.calling g mk a) rfl q.1.2.2.1.2⟩, q.1.2.2.2⟩, q.2.moved (U := U.calling g mk a) (Vm.Alike.refl U.vm)⟩
theorem zJ_nil {H : Heap} : va_P D vwCl [] H ∧ va_D (fun _ => True) [] := by
  refine ⟨fun k q h => ?_, fun i j x y h => ?_, fun k q h => ?_⟩ <;> cases h
theorem zj_callV (O : zSO l R cc nL Ts own D tys A kS vS Z) {y : MethodName} {wy : List Cond} {rmy : Room} {idx n : Nat} {As rest : List Value} {v : Option Value} (hM : zJ l y wy rmy D tys kS vS (.ref kS :: As) v) (hS9 : zSV R Ts own idx y wy rmy n) (hy : y.cls = "java/lang/String") (hn : As.length = n) (hst : As.reverse ++ .ref kS :: rest = st) (hdg : decode cc pc = .ok (.invokevirtual idx, 3)) (hsum : (rest.map fun v => v.category).sum ≤ 8) (hpc : pc + 3 = pc2) (k : Z ws lv pc2 (v.toList ++ rest)) : Z ws lv pc st := by
  obtain ⟨p, e, s, m, args, below, meth, c, cells, slots, Q, ⟨hx, hb, hml, ho, hts⟩, ⟨hK, hN⟩, hroom, hE, rfl⟩ := O
  subst hpc
  subst hst
  intro H locs ls hP hD hS hl
  have hEH := hE.kept hS.2.1
  obtain ⟨bytes, maxL, ret, ws', hw, hG, hrc, hd, hR⟩ := hS9
  obtain ⟨cell, c1, c2, c3, -⟩ := hEH.2.1
  have HR := va_runV (e := e) (H := H) (locs := locs) (cells := cells) (slots := slots) (below := below) (meth := meth) (g := F0 m pc ls (As.reverse ++ .ref kS :: rest)) (rest := rest) (As := As) ⟨hx, hb, hml, ho, hts⟩ hM (cwV n hts hG hw hrc.1 hrc.2 ⟨rfl, hd⟩ hR)
    ⟨zJ_blind, ⟨cell, c1, c2, by rw [hy]; exact c3⟩, fun U hU hW => ⟨⟨rfl, zJ_nil.1, ⟨va_K.moved hW.alike hK, zNw.warm hW hN⟩, (zJ_nil (D := D) (H := H)).2⟩, by rw [hU]; exact (hEH.moved hW.alike).narrow (fun _ h => h.elim)⟩⟩ rfl hn hl.1 rfl (lv_room hsum) hdg hroom
  intro T hT X
  obtain ⟨v', st₀, t, T', L, h0, X', hL, e1, e2, ⟨hv', hz, hk9⟩, stp⟩ := HR T hT X
  rw [h0, ← e1] at hz
  rw [h0] at hk9
  have hk2 : ∀ q : Nat, q < H.size → T'.heap[q]? = H[q]? := fun q h1 => by rw [e1]; exact hk9 q h1 (fun h => h)
  cases hv'
  have hL0 : L = [] := List.eq_nil_iff_forall_not_mem.mpr (fun q hq => hL q hq)
  subst hL0
  rw [List.append_nil] at X'
  obtain ⟨t2, a1, b1⟩ := k T'.heap locs ls (hP.kept (fun j q hj => hk2 _ (hP j q hj).lt)) hD ⟨Nat.le_trans hS.1 hz, fun q h1 h2 => (hk2 q (Nat.lt_of_lt_of_le h1 hS.1)).trans (hS.2.1 q h1 h2), hS.2.2⟩ hl T' rfl X'
  exact ⟨t2, stp t2 a1, b1⟩
theorem zj_callS (O : zSO l R cc nL Ts own D tys A kS vS Z) {y : MethodName} {wy : List Cond} {rmy : Room} {idx n : Nat} {As rest : List Value} {v : Option Value} (hM : zJ l y wy rmy D tys kS vS As v) (hS9 : zSS R Ts own idx y wy rmy n) (hn : As.length = n) (hst : As.reverse ++ rest = st) (hdg : decode cc pc = .ok (.invokestatic idx, 3)) (hsum : (rest.map fun v => v.category).sum ≤ 8) (hpc : pc + 3 = pc2) (k : Z ws lv pc2 (v.toList ++ rest)) : Z ws lv pc st := by
  obtain ⟨p, e, s, m, args, below, meth, c, cells, slots, Q, ⟨hx, hb, hml, ho, hts⟩, ⟨hK, hN⟩, hroom, hE, rfl⟩ := O
  subst hpc
  subst hst
  intro H locs ls hP hD hS hl
  have hEH := hE.kept hS.2.1
  obtain ⟨bytes, maxL, ret, ws', hw, hG, hrc, hd, hR⟩ := hS9
  have HR := va_runS (e := e) (H := H) (locs := locs) (cells := cells) (slots := slots) (below := below) (meth := meth) (g := F0 m pc ls (As.reverse ++ rest)) (rest := rest) (As := As) ⟨hx, hb, hml, ho, hts⟩ hM (va_cwS n hts hG hw hrc.1 hrc.2 hd hR)
    ⟨zJ_blind, fun U hU hW => ⟨⟨rfl, zJ_nil.1, ⟨va_K.moved hW.alike hK, zNw.warm hW hN⟩, (zJ_nil (D := D) (H := H)).2⟩, by rw [hU]; exact (hEH.moved hW.alike).narrow (fun _ h => h.elim)⟩⟩ rfl hn hl.1 rfl (lv_room hsum) hdg hroom
  intro T hT X
  obtain ⟨v', st₀, t, T', L, h0, X', hL, e1, e2, ⟨hv', hz, hk9⟩, stp⟩ := HR T hT X
  rw [h0, ← e1] at hz
  rw [h0] at hk9
  have hk2 : ∀ q : Nat, q < H.size → T'.heap[q]? = H[q]? := fun q h1 => by rw [e1]; exact hk9 q h1 (fun h => h)
  cases hv'
  have hL0 : L = [] := List.eq_nil_iff_forall_not_mem.mpr (fun q hq => hL q hq)
  subst hL0
  rw [List.append_nil] at X'
  obtain ⟨t2, a1, b1⟩ := k T'.heap locs ls (hP.kept (fun j q hj => hk2 _ (hP j q hj).lt)) hD ⟨Nat.le_trans hS.1 hz, fun q h1 h2 => (hk2 q (Nat.lt_of_lt_of_le h1 hS.1)).trans (hS.2.1 q h1 h2), hS.2.2⟩ hl T' rfl X'
  exact ⟨t2, stp t2 a1, b1⟩
end
theorem zJ_int {l : Launch} {y : MethodName} {wds ws' : List Cond} {rm : Room} {D : va_G} {tys : zTy} {kS vS : Nat} {args : List Value} {v : Option Value} {cc : ByteArray} {maxL : Nat} {ty : FieldType} {lv : zL}
    (hy : plainName y.cls = true) (hw : wds = Cond.code y cc maxL (some ty) :: ws') (hargs : (lg_sl args).length ≤ maxL) (hlv : lv_args 0 args = lv)
    (body : ∀ Z : List va_W → zL → Nat → List Value → Prop, zSO l rm cc maxL wds y.cls D tys (fun _ => False) kS vS Z → (∀ (lv : zL) (pc : Nat) (x : Int32), decode cc pc = .ok (.ireturn, 1) → narrow ty (.int x) = .int x → some (.int x) = v → Z [] lv pc [.int x]) → Z [] lv 0 []) : zJ l y wds rm D tys kS vS args v := by
  refine Met.ofW (cc := cc) (maxL := maxL) (ret := some ty) hy hw ?_
  intro p e s m args1 below meth c s₁ B hml hv
  obtain ⟨⟨rfl, hP, hKN, hD0⟩, hE⟩ := hv
  have hts := atoms_spec (ws := wds) B.pre
  have hown : s.vm.findClass y.cls = some m.cls := findClass_of_methodNamed B.named
  have hl := lv_entry args (n := maxL) hargs
  rw [lg_entry_eq]
  rw [hlv] at hl
  refine body (fun gs lv pc st => ∀ (H : Heap) (locs : List Loc) (ls : Array Slot), va_P D vwCl gs.flatten H → va_D (fun _ => False) gs.flatten → va_S (fun _ => False) s.heap H locs → lv_has ls maxL lv → W p l e (headSpec wds rm).room s m args.toArray below meth c H locs 0 0 (MQ below (zJPost v) args.toArray s 0 0 (fun _ => False)) (F0 m pc ls st))
    ⟨p, e, s, m, args.toArray, below, meth, c, 0, 0, _, ⟨B.exec, B.bytes, hml, hown, hts⟩, hKN, ⟨Nat.zero_le _, Nat.zero_le _⟩, hE, rfl⟩ ?_ s.heap [] _ (fun k q h => by cases h) ⟨fun i j x y h => (by cases h), fun k q h => (by cases h)⟩ va_S.rf hl
  intro lv pc x hdg hn hv2 H locs ls hP2 hD2 hS2 hl2
  exact W.zret B.exec B.bytes B.returns hn (fun t ht hW => ⟨by rw [← hv2], hS2.F ht⟩) hS2.2.2 hdg B.notSynchronized
theorem zJ_void {l : Launch} {y : MethodName} {wds ws' : List Cond} {rm : Room} {D : va_G} {tys : zTy} {kS vS : Nat} {args : List Value} {cc : ByteArray} {maxL : Nat} {lv : zL}
    (hy : plainName y.cls = true) (hw : wds = Cond.code y cc maxL none :: ws') (hargs : (lg_sl args).length ≤ maxL) (hlv : lv_args 0 args = lv)
    (body : ∀ Z : List va_W → zL → Nat → List Value → Prop, zSO l rm cc maxL wds y.cls D tys (fun _ => False) kS vS Z → (∀ (lv : zL) (pc : Nat), decode cc pc = .ok (.return_, 1) → Z [] lv pc []) → Z [] lv 0 []) : zJ l y wds rm D tys kS vS args none := by
  refine Met.ofW (cc := cc) (maxL := maxL) (ret := none) hy hw ?_
  intro p e s m args1 below meth c s₁ B hml hv
  obtain ⟨⟨rfl, hP, hKN, hD0⟩, hE⟩ := hv
  have hts := atoms_spec (ws := wds) B.pre
  have hown : s.vm.findClass y.cls = some m.cls := findClass_of_methodNamed B.named
  have hl := lv_entry args (n := maxL) hargs
  rw [lg_entry_eq]
  rw [hlv] at hl
  refine body (fun gs lv pc st => ∀ (H : Heap) (locs : List Loc) (ls : Array Slot), va_P D vwCl gs.flatten H → va_D (fun _ => False) gs.flatten → va_S (fun _ => False) s.heap H locs → lv_has ls maxL lv → W p l e (headSpec wds rm).room s m args.toArray below meth c H locs 0 0 (MQ below (zJPost none) args.toArray s 0 0 (fun _ => False)) (F0 m pc ls st))
    ⟨p, e, s, m, args.toArray, below, meth, c, 0, 0, _, ⟨B.exec, B.bytes, hml, hown, hts⟩, hKN, ⟨Nat.zero_le _, Nat.zero_le _⟩, hE, rfl⟩ ?_ s.heap [] _ (fun k q h => by cases h) ⟨fun i j x y h => (by cases h), fun k q h => (by cases h)⟩ va_S.rf hl
  intro lv pc hdg H locs ls hP2 hD2 hS2 hl2
  exact W.vret B.exec B.bytes B.returns (fun t ht hW => ⟨rfl, hS2.F ht⟩) hS2.2.2 hdg B.notSynchronized
abbrev rm_J3 : Room := { frames := 0, cells := 0, slots := 0, locals := 0 }
abbrev rm_JC : Room := { frames := 1, cells := 0, slots := 0, locals := 22 }
abbrev rm_J1 : Room := { frames := 2, cells := 0, slots := 0, locals := 43 }
abbrev rm_JL : Room := { frames := 0, cells := 0, slots := 0, locals := 0 }
abbrev rm_JA : Room := { frames := 3, cells := 0, slots := 0, locals := 64 }
abbrev rm_JO : Room := { frames := 0, cells := 0, slots := 0, locals := 0 }
abbrev rm_JN : Room := { frames := 1, cells := 0, slots := 0, locals := 20 }
theorem byt_chr : ∀ j, j < 90 → (((byt0.getD j 0) &&& nI 255).toUInt32 % 65536).toInt32 = byt0.getD j 0 ∧ narrow .char (.int (byt0.getD j 0)) = .int (byt0.getD j 0) := by decide +kernel
section
variable (l : Launch) (D : va_G) (tys : zTy) (kS vS : Nat)
theorem c_J3_checkIndex {j : Nat} (hj : j < 90) (r : Option Nat) : zJ l yJ3_checkIndex_8e157 wsJ3_checkIndex_8e157 rm_J3 D tys kS vS [.int (nI j), .int (nI 90), va_rf r] (some (.int (nI j))) := by
  refine zJ_int (cc := cJ3_checkIndex_8e157) (maxL := 3) (lv := [(0, .int (nI j)), (1, .int (nI 90)), (2, va_rf r)]) (by decide +kernel) rfl (by cases r <;> exact Nat.le_of_ble_eq_true rfl) (by cases r <;> rfl) (fun Z O hret => ?_)
  refine zr_iload_n (pc2 := 1) O.ok dJ3_checkIndex_8e157_0 rfl 0 rfl rfl ?_
  refine zn_if_lt (pc2 := 4) (tgt := 9) O.ok dJ3_checkIndex_8e157_1 rfl rfl (by omega) (fun h => h.elim) (fun _ => ?_)
  refine zr_iload_n (pc2 := 5) O.ok dJ3_checkIndex_8e157_4 rfl 0 rfl rfl ?_
  refine zr_iload_n (pc2 := 6) O.ok dJ3_checkIndex_8e157_5 rfl 1 rfl rfl ?_
  refine zn_icmp_lt (pc2 := 9) (tgt := 16) O.ok dJ3_checkIndex_8e157_6 rfl rfl (by omega) (by omega) (fun _ => ?_) (fun h => absurd hj h)
  refine zr_iload_n (pc2 := 17) O.ok dJ3_checkIndex_8e157_16 rfl 0 rfl rfl ?_
  exact hret _ _ _ dJ3_checkIndex_8e157_17 rfl rfl
theorem sC_JC : zSS rm_JC wsJ0_checkIndex_df160 RJ0 1059 yJ3_checkIndex_8e157 wsJ3_checkIndex_8e157 rm_J3 3 := ⟨_, _, _, _, rfl, gJ0_checkIndex_df160_J3_checkIndex_8e157, ⟨rfl, rfl⟩, by decide +kernel, by decide⟩
theorem c_J0_checkIndex {j : Nat} (hj : j < 90) : zJ l yJ0_checkIndex_df160 wsJ0_checkIndex_df160 rm_JC D tys kS vS [.int (nI j), .int (nI 90)] none := by
  refine zJ_void (cc := cJ0_checkIndex_df160) (maxL := 2) (lv := [(0, .int (nI j)), (1, .int (nI 90))]) (by decide +kernel) rfl (Nat.le_of_ble_eq_true rfl) rfl (fun Z O hret => ?_)
  refine zr_iload_n (pc2 := 1) O.ok dJ0_checkIndex_df160_0 rfl 0 rfl rfl ?_
  refine zr_iload_n (pc2 := 2) O.ok dJ0_checkIndex_df160_1 rfl 1 rfl rfl ?_
  refine zj_getq (pc2 := 5) O (List.mem_of_getElem? (i := 1) (by rfl)) dJ0_checkIndex_df160_2 rfl (fun r => ?_)
  refine zj_callS (pc2 := 8) (As := [.int (nI j), .int (nI 90), va_rf r]) (rest := []) O (c_J3_checkIndex l D tys kS vS hj r) sC_JC rfl rfl dJ0_checkIndex_df160_5 (Nat.le_of_ble_eq_true rfl) rfl ?_
  refine zr_pop (pc2 := 9) O.ok dJ0_checkIndex_df160_8 rfl rfl ?_
  exact hret _ _ dJ0_checkIndex_df160_9
theorem sC_J1 : zSS rm_J1 wsJ1_charAt_3b067 RJ1 9 yJ0_checkIndex_df160 wsJ0_checkIndex_df160 rm_JC 2 := ⟨_, _, _, _, rfl, gJ1_charAt_3b067_J0_checkIndex_df160, ⟨rfl, rfl⟩, by decide +kernel, by decide⟩
theorem c_J1_charAt {j : Nat} (hj : j < 90) : zJ l yJ1_charAt_3b067 wsJ1_charAt_3b067 rm_J1 D tys kS vS [.ref vS, .int (nI j)] (some (.int (byt0.getD j 0))) := by
  refine zJ_int (cc := cJ1_charAt_3b067) (maxL := 2) (lv := [(0, .ref vS), (1, .int (nI j))]) (by decide +kernel) rfl (Nat.le_of_ble_eq_true rfl) rfl (fun Z O hret => ?_)
  refine zr_iload_n (pc2 := 1) O.ok dJ1_charAt_3b067_0 rfl 1 rfl rfl ?_
  refine zr_aload_n (pc2 := 2) O.ok dJ1_charAt_3b067_1 rfl 0 rfl rfl ?_
  refine zj_len (pc2 := 3) O dJ1_charAt_3b067_2 rfl ?_
  refine zj_callS (pc2 := 6) (As := [.int (nI j), .int (nI 90)]) (rest := []) O (c_J0_checkIndex l D tys kS vS hj) sC_J1 rfl rfl dJ1_charAt_3b067_3 (Nat.le_of_ble_eq_true rfl) rfl ?_
  refine zr_aload_n (pc2 := 7) O.ok dJ1_charAt_3b067_6 rfl 0 rfl rfl ?_
  refine zr_iload_n (pc2 := 8) O.ok dJ1_charAt_3b067_7 rfl 1 rfl rfl ?_
  refine zj_ld (pc2 := 9) O hj dJ1_charAt_3b067_8 rfl ?_
  refine zr_sipush (v := (nI 255)) (pc2 := 12) O.ok dJ1_charAt_3b067_9 (by decide +kernel) rfl ?_
  refine zr_iand (pc2 := 13) O.ok dJ1_charAt_3b067_12 rfl rfl ?_
  refine zr_i2c (pc2 := 14) O.ok dJ1_charAt_3b067_13 (byt_chr j hj).1 rfl ?_
  exact hret _ _ _ dJ1_charAt_3b067_14 (byt_chr j hj).2 rfl
theorem c_J0_isLatin1 : zJ l yJ0_isLatin1_aae02 wsJ0_isLatin1_aae02 rm_JL D tys kS vS [.ref kS] (some (.int (nI 1))) := by
  refine zJ_int (cc := cJ0_isLatin1_aae02) (maxL := 1) (lv := [(0, .ref kS)]) (by decide +kernel) rfl (Nat.le_of_ble_eq_true rfl) rfl (fun Z O hret => ?_)
  refine zj_gets (pc2 := 3) O (List.mem_of_getElem? (i := 1) (by rfl)) dJ0_isLatin1_aae02_0 rfl ?_
  refine zr_if_eq (pc2 := 6) (tgt := 17) O.ok dJ0_isLatin1_aae02_3 rfl rfl (fun h => absurd h (by decide)) (fun _ => ?_)
  refine zr_aload_n (pc2 := 7) O.ok dJ0_isLatin1_aae02_6 rfl 0 rfl rfl ?_
  refine zj_cod (pc2 := 10) O (List.mem_of_getElem? (i := 2) (by rfl)) dJ0_isLatin1_aae02_7 rfl ?_
  refine zr_if_ne (pc2 := 13) (tgt := 17) O.ok dJ0_isLatin1_aae02_10 rfl rfl (fun h => absurd rfl h) (fun _ => ?_)
  refine zr_iconst (v := (nI 1)) (pc2 := 14) O.ok dJ0_isLatin1_aae02_13 (by decide +kernel) rfl ?_
  refine zr_goto (tgt := 18) O.ok dJ0_isLatin1_aae02_14 rfl ?_
  exact hret _ _ _ dJ0_isLatin1_aae02_18 (by decide +kernel) rfl
theorem c_J0_coder : zJ l yJ0_coder_7d493 wsJ0_coder_7d493 rm_JO D tys kS vS [.ref kS] (some (.int (nI 0))) := by
  refine zJ_int (cc := cJ0_coder_7d493) (maxL := 1) (lv := [(0, .ref kS)]) (by decide +kernel) rfl (Nat.le_of_ble_eq_true rfl) rfl (fun Z O hret => ?_)
  refine zj_gets (pc2 := 3) O (List.mem_of_getElem? (i := 1) (by rfl)) dJ0_coder_7d493_0 rfl ?_
  refine zr_if_eq (pc2 := 6) (tgt := 13) O.ok dJ0_coder_7d493_3 rfl rfl (fun h => absurd h (by decide)) (fun _ => ?_)
  refine zr_aload_n (pc2 := 7) O.ok dJ0_coder_7d493_6 rfl 0 rfl rfl ?_
  refine zj_cod (pc2 := 10) O (List.mem_of_getElem? (i := 2) (by rfl)) dJ0_coder_7d493_7 rfl ?_
  refine zr_goto (tgt := 14) O.ok dJ0_coder_7d493_10 rfl ?_
  exact hret _ _ _ dJ0_coder_7d493_14 (by decide +kernel) rfl
theorem sC_JN : zSV rm_JN wsJ0_length_8abf5 RJ0 335 yJ0_coder_7d493 wsJ0_coder_7d493 rm_JO 0 := ⟨_, _, _, _, rfl, gJ0_length_8abf5_J0_coder_7d493, ⟨rfl, rfl⟩, by decide +kernel, by decide⟩
theorem c_J0_length : zJ l yJ0_length_8abf5 wsJ0_length_8abf5 rm_JN D tys kS vS [.ref kS] (some (.int (nI 90))) := by
  refine zJ_int (cc := cJ0_length_8abf5) (maxL := 1) (lv := [(0, .ref kS)]) (by decide +kernel) rfl (Nat.le_of_ble_eq_true rfl) rfl (fun Z O hret => ?_)
  refine zr_aload_n (pc2 := 1) O.ok dJ0_length_8abf5_0 rfl 0 rfl rfl ?_
  refine zj_val (pc2 := 4) O (List.mem_of_getElem? (i := 1) (by rfl)) dJ0_length_8abf5_1 rfl ?_
  refine zj_len (pc2 := 5) O dJ0_length_8abf5_4 rfl ?_
  refine zr_aload_n (pc2 := 6) O.ok dJ0_length_8abf5_5 rfl 0 rfl rfl ?_
  refine zj_callV (pc2 := 9) (As := []) (rest := [.int (nI 90)]) O (c_J0_coder l D tys kS vS) sC_JN rfl rfl rfl dJ0_length_8abf5_6 (Nat.le_of_ble_eq_true rfl) rfl ?_
  refine zr_ishr (v := nI 90) (pc2 := 10) O.ok dJ0_length_8abf5_9 (by decide +kernel) rfl ?_
  exact hret _ _ _ dJ0_length_8abf5_10 rfl rfl
theorem sC_JA1 : zSV rm_JA wsJ0_charAt_5068e RJ0 492 yJ0_isLatin1_aae02 wsJ0_isLatin1_aae02 rm_JL 0 := ⟨_, _, _, _, rfl, gJ0_charAt_5068e_J0_isLatin1_aae02, ⟨rfl, rfl⟩, by decide +kernel, by decide⟩
theorem sC_JA2 : zSS rm_JA wsJ0_charAt_5068e RJ0 495 yJ1_charAt_3b067 wsJ1_charAt_3b067 rm_J1 2 := ⟨_, _, _, _, rfl, gJ0_charAt_5068e_J1_charAt_3b067, ⟨rfl, rfl⟩, by decide +kernel, by decide⟩
theorem c_J0_charAt {j : Nat} (hj : j < 90) : zJ l yJ0_charAt_5068e wsJ0_charAt_5068e rm_JA D tys kS vS [.ref kS, .int (nI j)] (some (.int (byt0.getD j 0))) := by
  refine zJ_int (cc := cJ0_charAt_5068e) (maxL := 2) (lv := [(0, .ref kS), (1, .int (nI j))]) (by decide +kernel) rfl (Nat.le_of_ble_eq_true rfl) rfl (fun Z O hret => ?_)
  refine zr_aload_n (pc2 := 1) O.ok dJ0_charAt_5068e_0 rfl 0 rfl rfl ?_
  refine zj_callV (pc2 := 4) (As := []) (rest := []) O (c_J0_isLatin1 l D tys kS vS) sC_JA1 rfl rfl rfl dJ0_charAt_5068e_1 (Nat.le_of_ble_eq_true rfl) rfl ?_
  refine zr_if_eq (pc2 := 7) (tgt := 16) O.ok dJ0_charAt_5068e_4 rfl rfl (fun h => absurd h (by decide)) (fun _ => ?_)
  refine zr_aload_n (pc2 := 8) O.ok dJ0_charAt_5068e_7 rfl 0 rfl rfl ?_
  refine zj_val (pc2 := 11) O (List.mem_of_getElem? (i := 1) (by rfl)) dJ0_charAt_5068e_8 rfl ?_
  refine zr_iload_n (pc2 := 12) O.ok dJ0_charAt_5068e_11 rfl 1 rfl rfl ?_
  refine zj_callS (pc2 := 15) (As := [.ref vS, .int (nI j)]) (rest := []) O (c_J1_charAt l D tys kS vS hj) sC_JA2 rfl rfl dJ0_charAt_5068e_12 (Nat.le_of_ble_eq_true rfl) rfl ?_
  exact hret _ _ _ dJ0_charAt_5068e_15 (byt_chr j hj).2 rfl
end
