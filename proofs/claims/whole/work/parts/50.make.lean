/-! ===== making: the judgement with what is made counted ===== -/
def zON (l : Launch) (R : Room) (cc : ByteArray) (nL : Nat) (Ts : List Cond) (own : String) (D : va_G) (tys : zTy) (A : Nat → Prop) (E : State → Array Value → Prop) (ini : Bool) (Z : Nat → Nat → List va_W → zL → Nat → List Value → Prop) : Prop :=
  ∃ (p : Program) (e : Env) (s : State) (m : MethodId) (args : Array Value) (below : List Frame) (meth : Method) (c : Code) (Q : State → Prop),
    CallFix p m c cc nL s args Ts own ∧ (va_K D vwCl tys s ∧ zNw s) ∧ (∀ q : Nat, s.heap.size ≤ q → A q) ∧ (ini = true → meth.name = "<init>") ∧ E s args ∧
    Z = fun k n gs lv pc st => ∀ (H : Heap) (locs : List Loc) (ls : Array Slot), va_P D vwCl gs.flatten H → va_D A gs.flatten → va_S A s.heap H locs → lv_has ls nL lv → W p l e R s m args below meth c H locs k n Q (F0 m pc ls st)
/-- a contract of a maker: of the object b alone it makes the cells G2 -/
def zMkPre (D : va_G) (tys : zTy) (args : List Value) (W : va_W) (sz : Nat) (E : (Nat → Prop) → State → Prop) : Array Value → State → Prop := fun v U => zPre D tys args W v U ∧ U.heap.size = sz ∧ E (va_A W sz) U
def zMkPost (D : va_G) (W : va_W) (sz i0 b : Nat) (G2 : (Nat → Nat) → va_W) : Array Value → State → Outcome → State → Prop := fun _ st oc t => (oc = .returned none ∧ ∃ a : Nat → Nat, a i0 = b ∧ va_P D vwCl (G2 a) t.heap ∧ va_D (va_A W sz) (G2 a)) ∧ va_F (va_A W sz) st t
def zMk (l : Launch) (y : MethodName) (wds : List Cond) (rm : Room) (D : va_G) (tys : zTy) (args : List Value) (W : va_W) (E : (Nat → Prop) → State → Prop) (i0 b : Nat) (G2 : (Nat → Nat) → va_W) (mc ms : Nat) : Prop :=
  ∀ sz : Nat, Met l y wds rm (zMkPre D tys args W sz E) (zMkPost D W sz i0 b G2) mc ms (va_A W sz)
/-- static facts: a final field of the class itself; a maker's call -/
def zFF (Ts : List Cond) (own : String) (idx ci k : Nat) (ty : FieldType) : Prop := ∃ (T : u_T) (N : Nat) (ty0 : Nat → FieldType), vwCl[ci]? = some (own, T, N) ∧ (∀ w ∈ u_ws own T N, w ∈ Ts) ∧ k < N ∧ (T k).1 = own ∧ Cond.fieldLink own idx own (T k).2.1 (T k).2.2.1 ∈ Ts ∧
  (∀ k, k < N → parseFieldDescriptor (T k).2.2.1 = some (ty0 k)) ∧ (∀ a, a < N → ∀ b, b < N → a ≠ b → (T a).2.1 ≠ (T b).2.1) ∧ (T k).2.2.2 = true ∧ parseFieldDescriptor (T k).2.2.1 = some ty
def zMC (R : Room) (Ts : List Cond) (own : String) (idx : Nat) (y : MethodName) (wy : List Cond) (rmy : Room) (n mc ms : Nat) : Prop := ∃ (bytes : ByteArray) (maxL : Nat) (ws' : List Cond), wy = Cond.code y bytes maxL none :: ws' ∧ GoodIn Ts wy ∧ (rmy.cells = mc ∧ rmy.slots = ms) ∧ (Cond.initialized y.cls ∈ Ts ∧ Cond.instanceMethod y ∈ Ts ∧ ((∃ host, Cond.methodLinkNest own idx y host ∈ zNest) ∨ Cond.methodLink own idx y ∈ Ts)) ∧ y.name = "<init>" ∧
  (y.cls ≠ "java/lang/invoke/MethodHandle" ∧ y.cls ≠ "java/lang/invoke/VarHandle" ∧ (parseMethodDescriptor y.desc).map (fun d => d.parameters.length) = some n) ∧ (rmy.frames + 1 ≤ R.frames ∧ 8 + (maxL + 11) + rmy.locals ≤ R.locals)
def zNW (Ts : List Cond) (own : String) (idx ci : Nat) (N : Nat) (fs : List Value) : Prop := ∃ (C : String) (T : u_T) (ty : Nat → FieldType), vwCl[ci]? = some (C, T, N) ∧ (∀ w ∈ u_ws C T N, w ∈ Ts) ∧ (∀ k, k < N → parseFieldDescriptor (T k).2.2.1 = some (ty k)) ∧ Cond.classLink own idx C ∈ Ts ∧ Cond.instantiable C N ∈ Ts ∧ Cond.initialized C ∈ Ts ∧ (∀ j, j < N → defaultValue (ty j) = vp_V fs j)
section
variable {l : Launch} {R : Room} {cc : ByteArray} {nL : Nat} {Ts : List Cond} {own : String} {D : va_G} {tys : zTy} {A : Nat → Prop} {E : State → Array Value → Prop} {ini : Bool} {Z : Nat → Nat → List va_W → zL → Nat → List Value → Prop} {k n : Nat} {ws ws2 : List va_W} {lv lv2 : zL} {pc pc2 : Nat} {st : List Value}
theorem zk_as (O : zON l R cc nL Ts own D tys A E ini Z) (h1 : k ≤ R.cells) (h2 : n ≤ R.slots) : zOK l R cc nL Ts own D tys A (Z k n) := by
  obtain ⟨p, e, s, m, args, below, meth, c, Q, hF, hK, hA, hi, hE, rfl⟩ := O
  exact ⟨p, e, s, m, args, below, meth, c, k, n, Q, hF, hK, ⟨h1, h2⟩, rfl⟩
theorem zk_wid (O : zON l R cc nL Ts own D tys A E ini Z) {k2 n2 : Nat} (h1 : k ≤ k2) (h2 : n ≤ n2) (kk : Z k2 n2 ws lv pc st) : Z k n ws lv pc st := by
  obtain ⟨p, e, s, m, args, below, meth, c, Q, hF, hK, hA, hi, hE, rfl⟩ := O
  intro H locs ls hP hD hS hl
  exact W.widen h1 h2 (kk H locs ls hP hD hS hl)
theorem zk_obj (O : zON l R cc nL Ts own D tys A E ini Z) {a idx : Nat} (h1 : Cond.methodLink own idx objectInit ∈ Ts) (h2 : Cond.instanceMethod objectInit ∈ Ts) (h3 : Cond.code objectInit ⟨#[0xb1]⟩ 1 none ∈ Ts) (hdg : decode cc pc = .ok (.invokespecial idx, 3)) (hR : 1 ≤ R.frames) (hsum : (st.map fun v => v.category).sum + 12 ≤ R.locals) (hpc : pc + 3 = pc2) (kk : Z k n ws lv pc2 st) : Z k n ws lv pc (.ref a :: st) := by
  obtain ⟨p, e, s, m, args, below, meth, c, Q, ⟨hx, hb, hml, ho, hts⟩, hK, hA, hi, hE, rfl⟩ := O
  subst hpc
  intro H locs ls hP hD hS hl
  refine W.objInit hx hb ho (hts _ h1) (hts _ h2) (hts _ h3) rfl (by rw [hml]; exact hl.1) rfl hdg hR ?_ ?_
  · show 2 * 0 + _ + 12 ≤ _
    omega
  · exact W.eq (g2 := F0 m (pc + 3) ls st) rfl (kk H locs ls hP hD hS hl)
theorem zapp1 {ws : List va_W} {G : va_W} : (ws ++ [G]).flatten = ws.flatten ++ G := by simp
theorem zk_new (O : zON l R cc nL Ts own D tys A E ini Z) {idx ci N : Nat} {fs : List Value} (hF : zNW Ts own idx ci N fs) (hc : k + 1 ≤ R.cells) (hs : n + N ≤ R.slots) (hdg : decode cc pc = .ok (.new idx, 3)) (hpc : pc + 3 = pc2) (kk : ∀ q : Nat, Z (k + 1) (n + N) (ws ++ [[(q, .inr (ci, fs))]]) lv pc2 (.ref q :: st)) : Z k n ws lv pc st := by
  obtain ⟨p, e, s, m, args, below, meth, c, Q, ⟨hx, hb, hml, ho, hts⟩, ⟨hK, hN⟩, hA, hi, hE, rfl⟩ := O
  subst hpc
  intro H locs ls hP hD hS hl
  obtain ⟨C, T, ty, h1, h2, h3, h4, h5, h6, h7⟩ := hF
  refine va_new hx hb hts h2 ty h3 ho (hts _ h4) (hts _ h5) (hts _ h6) hK hP hD hS hA h1 h7 hc hs hdg (fun q H1 hP1 hD1 hS1 => ?_)
  exact kk q H1 locs ls (by rw [zapp1]; exact hP1) (by rw [zapp1]; exact hD1) hS1 hl
theorem zk_newI (O : zON l R cc nL Ts own D tys A E ini Z) {N t0 : Nat} {cA : ClassId} (harr : Cond.arrayClass .int ∈ Ts) (ht : tys[t0]? = some (cA, .int)) (hN : N ≤ 1000) (hc : k + 1 ≤ R.cells) (hs : n + N ≤ R.slots) (hdg : decode cc pc = .ok (.newarray .int, 2)) (hpc : pc + 2 = pc2) (kk : ∀ q : Nat, Z (k + 1) (n + N) (ws ++ [[(q, .inl (cA, N, .inl (fun _ => nI 0)))]]) lv pc2 (.ref q :: st)) : Z k n ws lv pc (.int (nI N) :: st) := by
  obtain ⟨p, e, s, m, args, below, meth, c, Q, ⟨hx, hb, hml, ho, hts⟩, ⟨hK, hN9⟩, hA, hi, hE, rfl⟩ := O
  subst hpc
  intro H locs ls hP hD hS hl
  refine va_newa (atype := .int) (N' := N) (a0 := (N, .inl (fun _ => nI 0))) hx hb (hts _ harr) rfl hK hP hD hS hA (fun cA => rfl) (nI_pos (by omega)) (nI_clamp (by omega)) ?_ hc hs hdg (fun q cB H1 hK1 hP1 hD1 hS1 => ?_)
  · show N * 4 ≤ _
    omega
  · have e1 : s.vm.findClass ("[" ++ FieldType.int.toString) = some cB := (hK1.2 tys.length (cB, .int) (by rw [List.getElem?_append_right (Nat.le_refl _), Nat.sub_self]; rfl)).2
    have e2 : s.vm.findClass ("[" ++ FieldType.int.toString) = some cA := (hK.2 t0 (cA, .int) ht).2
    have e3 : cB = cA := Option.some.inj (e1.symm.trans e2)
    subst e3
    exact kk q H1 locs ls (by rw [zapp1]; exact hP1) (by rw [zapp1]; exact hD1) hS1 hl
theorem zk_newC (O : zON l R cc nL Ts own D tys A E ini Z) {N t0 : Nat} {cA : ClassId} (harr : Cond.arrayClass .char ∈ Ts) (ht : tys[t0]? = some (cA, .char)) (hN : N ≤ 1000) (hc : k + 1 ≤ R.cells) (hs : n + N ≤ R.slots) (hdg : decode cc pc = .ok (.newarray .char, 2)) (hpc : pc + 2 = pc2) (kk : ∀ q : Nat, Z (k + 1) (n + N) (ws ++ [[(q, .inl (cA, N, .inl (fun _ => nI 0)))]]) lv pc2 (.ref q :: st)) : Z k n ws lv pc (.int (nI N) :: st) := by
  obtain ⟨p, e, s, m, args, below, meth, c, Q, ⟨hx, hb, hml, ho, hts⟩, ⟨hK, hN9⟩, hA, hi, hE, rfl⟩ := O
  subst hpc
  intro H locs ls hP hD hS hl
  refine va_newa (atype := .char) (N' := N) (a0 := (N, .inl (fun _ => nI 0))) hx hb (hts _ harr) rfl hK hP hD hS hA (fun cA => rfl) (nI_pos (by omega)) (nI_clamp (by omega)) ?_ hc hs hdg (fun q cB H1 hK1 hP1 hD1 hS1 => ?_)
  · show N * 2 ≤ _
    omega
  · have e1 : s.vm.findClass ("[" ++ FieldType.char.toString) = some cB := (hK1.2 tys.length (cB, .char) (by rw [List.getElem?_append_right (Nat.le_refl _), Nat.sub_self]; rfl)).2
    have e2 : s.vm.findClass ("[" ++ FieldType.char.toString) = some cA := (hK.2 t0 (cA, .char) ht).2
    have e3 : cB = cA := Option.some.inj (e1.symm.trans e2)
    subst e3
    exact kk q H1 locs ls (by rw [zapp1]; exact hP1) (by rw [zapp1]; exact hD1) hS1 hl
theorem zk_putF (O : zON l R cc nL Ts own D tys A E true Z) {a idx ci kf : Nat} {ty : FieldType} {fs : List Value} {v : Value} (hF : zFF Ts own idx ci kf ty) (g0 q0 : Nat) {G : va_W} (hg : ws[g0]? = some G) (he : G[q0]? = some (a, .inr (ci, fs))) (hn : narrow ty v = v) (hfit : fits ty v = true) (hlen : kf < fs.length) (hdg : decode cc pc = .ok (.putfield idx, 3)) {G2 : va_W} (hG2 : G.set q0 (a, .inr (ci, fs.set kf v)) = G2) (hws : ws.set g0 G2 = ws2) (hpc : pc + 3 = pc2) (kk : Z k n ws2 lv pc2 st) : Z k n ws lv pc (v :: .ref a :: st) := by
  obtain ⟨p, e, s, m, args, below, meth, c, Q, ⟨hx, hb, hml, ho, hts⟩, ⟨hK, hN⟩, hA, hi, hE, rfl⟩ := O
  subst hpc
  intro H locs ls hP hD hS hl
  subst hws
  subst hG2
  obtain ⟨T, N, ty0, h1, h2, h3, h4, h5, h6, h7, h8, h9⟩ := hF
  exact va_putF hx hb hts h2 ty0 h6 h7 ho hK hP hD hS (zoff ws g0 + q0) (zflat_at _ _ _ _ _ hg he) h1 kf h3 (hts _ h5) (fun x hx => by rw [h4] at hx; exact hx) h8 (hi rfl) h4 h9 hn hfit hlen hdg (fun H1 locs1 hP1 hD1 hS1 => kk H1 locs1 ls (by rw [zflat_set _ _ _ _ _ _ hg he] at hP1; exact hP1) (by rw [zflat_set _ _ _ _ _ _ hg he] at hD1; exact hD1) hS1 hl)
/-- a maker's call: the new object is the last group -/
theorem zk_callI (O : zON l R cc nL Ts own D tys A E ini Z) {y : MethodName} {wy : List Cond} {rmy : Room} {As rest : List Value} {b idx nA mc ms i0 : Nat} {e0 : va_E} {G2 : (Nat → Nat) → va_W} {ws0 : List va_W} {E1 : (Nat → Prop) → State → Prop} (hM : zMk l y wy rmy D tys (.ref b :: As) [(b, e0)] E1 i0 b G2 mc ms) (hS9 : zMC R Ts own idx y wy rmy nA mc ms)
    (hE1 : ∀ (s U : State) (args : Array Value) (H : Heap) (locs : List Loc) (B : Nat → Prop), E s args → va_S A s.heap H locs → (∀ q, B q → A q) → s.WarmedH U.vm → U.heap = H → E1 B U) (hEb : ∀ (B : Nat → Prop) (u U : State), u.vm = U.vm → u.heap = U.heap → E1 B u → E1 B U)
    (hws : ws0 ++ [[(b, e0)]] = ws) (hn : As.length = nA) (hst : As.reverse ++ .ref b :: rest = st) (hdg : decode cc pc = .ok (.invokespecial idx, 3)) (hsum : (rest.map fun v => v.category).sum ≤ 8) (hc : k + mc ≤ R.cells) (hs : n + ms ≤ R.slots) (hpc : pc + 3 = pc2) (kk : ∀ a : Nat → Nat, a i0 = b → Z (k + mc) (n + ms) (ws0 ++ [G2 a]) lv pc2 rest) : Z k n ws lv pc st := by
  obtain ⟨p, e, s, m, args, below, meth, c, Q, ⟨hx, hb, hml, ho, hts⟩, ⟨hK, hN⟩, hA, hi, hE, rfl⟩ := O
  subst hpc
  subst hws
  subst hst
  intro H locs ls hP hD hS hl
  rw [zapp1] at hP hD
  have hb1 : (ws0.flatten ++ [(b, e0)])[ws0.flatten.length]? = some (b, e0) := by rw [List.getElem?_append_right (Nat.le_refl _), Nat.sub_self]; rfl
  have hlt : b < H.size := (hP _ _ hb1).lt
  have hAb : A b := hD.2 _ _ hb1
  have hAA : ∀ q, va_A [(b, e0)] H.size q → A q := by
    intro q h
    rcases h with ⟨j, e9, h⟩ | h
    · obtain rfl : q = b := by
        cases j with
        | zero => exact (congrArg Prod.fst (Option.some.inj h)).symm
        | succ j => cases h
      exact hAb
    · exact hA q (Nat.le_trans hS.1 h)
  have hP0 : va_P D vwCl [(b, e0)] H := fun j q hj => by
    cases j with
    | zero => cases hj; exact hP _ _ hb1
    | succ j => cases hj
  have hD0 : va_D (fun _ => True) [(b, e0)] := ⟨fun i j x y hi hj _ => by
      cases i with
      | succ i => cases hi
      | zero => cases j with
        | succ j => cases hj
        | zero => rfl, fun _ _ _ => trivial⟩
  have hblind : FrameBlind (zMkPre D tys (.ref b :: As) [(b, e0)] H.size E1) := fun a U g mk q => ⟨⟨q.1.1, q.1.2.1, ⟨va_K.moved (u := U) (U := U.calling g mk a) (Vm.Alike.refl U.vm) q.1.2.2.1.1, zNw.same (u := U) (U := U.calling g mk a) rfl q.1.2.2.1.2⟩, q.1.2.2.2⟩, q.2.1, hEb _ U _ rfl rfl q.2.2⟩
  obtain ⟨bytes, maxL, ws', hw, hG, hrc, ⟨hn1, hn2, hn3⟩, hy, hd, hR⟩ := hS9
  have hpre : PreS s H (zMkPre D tys (.ref b :: As) [(b, e0)] H.size E1) (.ref b :: As) := ⟨hblind, fun U hU hW => ⟨⟨rfl, by rw [hU]; exact hP0, ⟨va_K.moved hW.alike hK, zNw.warm hW hN⟩, hD0⟩, by rw [hU], hE1 s U args H locs _ hE hS hAA hW hU⟩⟩
  have HR : va_Run p l e R s m args below meth c H locs k n mc ms (F0 m pc ls (As.reverse ++ .ref b :: rest)) rest (zMkPost D [(b, e0)] H.size i0 b G2 (Value.ref b :: As).toArray) (va_A [(b, e0)] H.size) := by
    rcases hn3 with ⟨host, hn3⟩ | hn3
    · exact va_runIN (e := e) (H := H) (locs := locs) (cells := k) (slots := n) (below := below) (meth := meth) (g := F0 m pc ls (As.reverse ++ .ref b :: rest)) (rest := rest) (As := As) ⟨hx, hb, hml, ho, hts⟩ (hM H.size) ⟨va_cnB nA hts hG hw hrc.1 hrc.2 (hN _ hn3) (hts _ hn1) hd hR, hy, hts _ hn2⟩ hpre rfl hn hl.1 rfl (lv_room hsum) hdg ⟨hc, hs⟩
    · exact va_runI (e := e) (H := H) (locs := locs) (cells := k) (slots := n) (below := below) (meth := meth) (g := F0 m pc ls (As.reverse ++ .ref b :: rest)) (rest := rest) (As := As) ⟨hx, hb, hml, ho, hts⟩ (hM H.size) (cwI nA hts hG hw hrc.1 hrc.2 (hts _ hn1) (hts _ hn3) (hts _ hn2) hy hd hR) hpre rfl hn hl.1 rfl (lv_room hsum) hdg ⟨hc, hs⟩
  intro T hT X
  obtain ⟨v', st₀, t, T', L, h0, X', hL, e1, e2, ⟨⟨hv', a, ha, hP1, hD1⟩, hz, hk⟩, stp⟩ := HR T hT X
  cases hv'
  rw [h0] at hz hk
  rw [← e1] at hP1 hz
  have hk2 : ∀ q : Nat, q < H.size → ¬ va_A [(b, e0)] H.size q → T'.heap[q]? = H[q]? := fun q h1 h2 => by rw [e1]; exact hk q h1 h2
  have hw0 : ∀ (j : Nat) (x : Nat × va_E), ws0.flatten[j]? = some x → x.1 < H.size ∧ ¬ va_A [(b, e0)] H.size x.1 := by
    intro j x hj
    have hl0 := (List.getElem?_eq_some_iff.mp hj).1
    have h1 : (ws0.flatten ++ [(b, e0)])[j]? = some x := by rw [List.getElem?_append_left hl0]; exact hj
    have h2 := (hP _ _ h1).lt
    refine ⟨h2, ?_⟩
    rintro (⟨i, e9, h⟩ | h)
    · obtain rfl : x.1 = b := by
        cases i with
        | zero => exact (congrArg Prod.fst (Option.some.inj h)).symm
        | succ i => cases h
      have := hD.1 _ _ _ _ h1 hb1 rfl
      omega
    · exact absurd h (Nat.not_le.mpr h2)
  have hPw : va_P D vwCl ws0.flatten T'.heap := fun j x hj => by
    have hl0 := (List.getElem?_eq_some_iff.mp hj).1
    have h1 : (ws0.flatten ++ [(b, e0)])[j]? = some x := by rw [List.getElem?_append_left hl0]; exact hj
    obtain ⟨h2, h3⟩ := hw0 j x hj
    exact (hP _ _ h1).kept (hk2 _ h2 h3)
  have hDw : va_D A ws0.flatten := ⟨fun i j x y hi hj hxy => by
      have hli := (List.getElem?_eq_some_iff.mp hi).1
      have hlj := (List.getElem?_eq_some_iff.mp hj).1
      exact hD.1 i j x y (by rw [List.getElem?_append_left hli]; exact hi) (by rw [List.getElem?_append_left hlj]; exact hj) hxy, fun j x hj => by
      have hlj := (List.getElem?_eq_some_iff.mp hj).1
      exact hD.2 j x (by rw [List.getElem?_append_left hlj]; exact hj)⟩
  have hP2 : va_P D vwCl (ws0 ++ [G2 a]).flatten T'.heap := by rw [zapp1]; exact hPw.app hP1
  have hD2 : va_D A (ws0 ++ [G2 a]).flatten := by
    rw [zapp1]
    exact hDw.app (hD1.weaken (fun _ _ _ h => hAA _ h)) (fun i j x y hi hj hxy => (hw0 i x hi).2 (by rw [hxy]; exact hD1.2 j y hj))
  have hS2 : va_S A s.heap T'.heap (locs ++ L) := ⟨Nat.le_trans hS.1 hz, fun q h1 h2 => by
      rw [hk2 q (Nat.lt_of_lt_of_le h1 hS.1) (fun z => h2 (hAA q z))]; exact hS.2.1 q h1 h2, fun q hq => by
      rcases List.mem_append.mp hq with h | h
      · exact hS.2.2 q h
      · exact hAA _ (hL q h)⟩
  obtain ⟨t2, a1, b1⟩ := kk a ha T'.heap (locs ++ L) ls hP2 hD2 hS2 hl T' rfl X'
  exact ⟨t2, stp t2 a1, b1⟩
end
/-- a maker's start and its end -/
theorem zMk_void {l : Launch} {y : MethodName} {wds ws' : List Cond} {rm : Room} {D : va_G} {tys : zTy} {args : List Value} {b i0 mc ms : Nat} {e0 : va_E} {G2 : (Nat → Nat) → va_W} {E : (Nat → Prop) → State → Prop} {cc : ByteArray} {maxL : Nat} {lv : zL}
    (hy : plainName y.cls = true) (hi : y.name = "<init>") (hw : wds = Cond.code y cc maxL none :: ws') (hargs : (lg_sl args).length ≤ maxL) (hlv : lv_args 0 args = lv)
    (body : ∀ (A : Nat → Prop) (Z : Nat → Nat → List va_W → zL → Nat → List Value → Prop), zON l rm cc maxL wds y.cls D tys A (fun s _ => E A s) true Z → (∀ (ws : List va_W) (lv : zL) (pc : Nat) (a : Nat → Nat), decode cc pc = .ok (.return_, 1) → a i0 = b → ws.flatten = G2 a → Z mc ms ws lv pc []) → Z 0 0 [[(b, e0)]] lv 0 []) : zMk l y wds rm D tys args [(b, e0)] E i0 b G2 mc ms := by
  intro sz
  refine Met.ofW (cc := cc) (maxL := maxL) (ret := none) hy hw ?_
  intro p e s m args1 below meth c s₁ B hml hv
  obtain ⟨⟨rfl, hP, hKN, hD0⟩, hsz, hE⟩ := hv
  have hts := atoms_spec (ws := wds) B.pre
  have hown : s.vm.findClass y.cls = some m.cls := findClass_of_methodNamed B.named
  have hin : meth.name = "<init>" := (name_of_methodNamed B.named B.method).1.trans hi
  subst hsz
  have hD := hD0.self (sz := s.heap.size)
  have hl := lv_entry args (n := maxL) hargs
  rw [lg_entry_eq]
  rw [hlv] at hl
  refine body (va_A [(b, e0)] s.heap.size) (fun k n gs lv pc st => ∀ (H : Heap) (locs : List Loc) (ls : Array Slot), va_P D vwCl gs.flatten H → va_D (va_A [(b, e0)] s.heap.size) gs.flatten → va_S (va_A [(b, e0)] s.heap.size) s.heap H locs → lv_has ls maxL lv → W p l e (headSpec wds rm).room s m args.toArray below meth c H locs k n (MQ below (zMkPost D [(b, e0)] s.heap.size i0 b G2) args.toArray s mc ms (va_A [(b, e0)] s.heap.size)) (F0 m pc ls st))
    ⟨p, e, s, m, args.toArray, below, meth, c, _, ⟨B.exec, B.bytes, hml, hown, hts⟩, hKN, fun q hq => Or.inr hq, fun _ => hin, hE, rfl⟩ ?_ s.heap [] _ hP hD va_S.rf hl
  intro ws lv pc a hdg ha hws H locs ls hP2 hD2 hS2 hl2
  rw [hws] at hP2 hD2
  exact W.vret B.exec B.bytes B.returns (fun t ht hW => ⟨⟨rfl, a, ha, by rw [ht]; exact hP2, hD2⟩, hS2.F ht⟩) hS2.2.2 hdg B.notSynchronized
