/-! ===== base: a judgement over abstract cells, locals and stack (zOK says that Z is the machine's W under all heaps and locals that hold them) ===== -/
def zNestF : List (String × Nat × String × String × String × String) := [("WillsReadFirst$Reader", 28, "WillsReadFirst$Scroll", "length", "I", "WillsReadFirst"), ("WillsReadFirst", 98, "WillsReadFirst$Scroll", "length", "I", "WillsReadFirst"), ("WillsReadFirst$Years", 59, "WillsReadFirst$Book", "people", "I", "WillsReadFirst"), ("WillsReadFirst", 100, "WillsReadFirst$Book", "people", "I", "WillsReadFirst"), ("WillsReadFirst$Years", 75, "WillsReadFirst$Book", "born", "[I", "WillsReadFirst"), ("WillsReadFirst", 112, "WillsReadFirst$Book", "born", "[I", "WillsReadFirst"), ("WillsReadFirst", 116, "WillsReadFirst$Book", "gain", "[I", "WillsReadFirst"), ("WillsReadFirst$Years", 101, "WillsReadFirst$Book", "gain", "[I", "WillsReadFirst"), ("WillsReadFirst", 119, "WillsReadFirst$Book", "limit", "[I", "WillsReadFirst"), ("WillsReadFirst$Years", 129, "WillsReadFirst$Book", "limit", "[I", "WillsReadFirst"), ("WillsReadFirst", 122, "WillsReadFirst$Book", "kind", "[I", "WillsReadFirst"), ("WillsReadFirst$Years", 104, "WillsReadFirst$Book", "kind", "[I", "WillsReadFirst"), ("WillsReadFirst$Years", 78, "WillsReadFirst$Book", "gift", "[I", "WillsReadFirst"), ("WillsReadFirst", 125, "WillsReadFirst$Book", "gift", "[I", "WillsReadFirst"), ("WillsReadFirst$Years", 72, "WillsReadFirst$Book", "bequests", "I", "WillsReadFirst"), ("WillsReadFirst", 206, "WillsReadFirst$Book", "bequests", "I", "WillsReadFirst"), ("WillsReadFirst", 135, "WillsReadFirst$Book", "from", "[I", "WillsReadFirst"), ("WillsReadFirst$Years", 132, "WillsReadFirst$Book", "from", "[I", "WillsReadFirst"), ("WillsReadFirst$Changes", 40, "WillsReadFirst$Book", "to", "[I", "WillsReadFirst"), ("WillsReadFirst", 138, "WillsReadFirst$Book", "to", "[I", "WillsReadFirst"), ("WillsReadFirst$Years", 146, "WillsReadFirst$Book", "to", "[I", "WillsReadFirst"), ("WillsReadFirst$Changes", 37, "WillsReadFirst$Book", "size", "[I", "WillsReadFirst"), ("WillsReadFirst", 141, "WillsReadFirst$Book", "size", "[I", "WillsReadFirst"), ("WillsReadFirst$Years", 138, "WillsReadFirst$Book", "size", "[I", "WillsReadFirst"), ("WillsReadFirst$Years", 81, "WillsReadFirst$Book", "helps", "I", "WillsReadFirst"), ("WillsReadFirst", 155, "WillsReadFirst$Book", "helps", "I", "WillsReadFirst"), ("WillsReadFirst$Years", 87, "WillsReadFirst$Book", "helpFor", "[I", "WillsReadFirst"), ("WillsReadFirst$Years", 84, "WillsReadFirst$Book", "helpYear", "[I", "WillsReadFirst"), ("WillsReadFirst$Years", 94, "WillsReadFirst$Book", "helpCoins", "[I", "WillsReadFirst"), ("WillsReadFirst$Years", 113, "WillsReadFirst$Book", "seed", "I", "WillsReadFirst"), ("WillsReadFirst", 240, "WillsReadFirst$Book", "seed", "I", "WillsReadFirst"), ("WillsReadFirst", 253, "WillsReadFirst$Years", "heldOnTurn", "[I", "WillsReadFirst"), ("WillsReadFirst", 169, "WillsReadFirst$Years", "died", "[I", "WillsReadFirst"), ("WillsReadFirst", 182, "WillsReadFirst$Years", "got", "[I", "WillsReadFirst"), ("WillsReadFirst", 179, "WillsReadFirst$Years", "came", "[I", "WillsReadFirst"), ("WillsReadFirst$Sights", 25, "WillsReadFirst$Years", "purseAt", "[[I", "WillsReadFirst"), ("WillsReadFirst", 175, "WillsReadFirst$Years", "purseAt", "[[I", "WillsReadFirst"), ("WillsReadFirst", 172, "WillsReadFirst$Years", "havingBits", "I", "WillsReadFirst"), ("WillsReadFirst", 162, "WillsReadFirst$Changes", "noted", "I", "WillsReadFirst"), ("WillsReadFirst", 230, "WillsReadFirst$Sights", "told", "I", "WillsReadFirst")]
def zNestM : List (String × Nat × MethodName × String) := [("WillsReadFirst", 9, ⟨"WillsReadFirst$Scroll", "<init>", "()V"⟩, "WillsReadFirst"), ("WillsReadFirst", 27, ⟨"WillsReadFirst$Book", "<init>", "()V"⟩, "WillsReadFirst"), ("WillsReadFirst", 53, ⟨"WillsReadFirst$Changes", "<init>", "()V"⟩, "WillsReadFirst"), ("WillsReadFirst", 60, ⟨"WillsReadFirst$Sights", "<init>", "()V"⟩, "WillsReadFirst"), ("WillsReadFirst$Book", 58, ⟨"WillsReadFirst", "isWithin", "(III)Z"⟩, "WillsReadFirst")]
/-- links to private members of nest mates -/
def zNest : List Cond := zNestF.map (fun q => Cond.fieldLinkNest q.1 q.2.1 q.2.2.1 q.2.2.2.1 q.2.2.2.2.1 q.2.2.2.2.2) ++ zNestM.map (fun q => Cond.methodLinkNest q.1 q.2.1 q.2.2.1 q.2.2.2)
def zNw (U : State) : Prop := ∀ w ∈ zNest, va_Nw w U
theorem zNest_on : ∀ w ∈ zNest, w.onTables = true := by
  intro w hw
  rcases List.mem_append.mp hw with h | h
  · obtain ⟨q, -, rfl⟩ := List.mem_map.mp h; rfl
  · obtain ⟨q, -, rfl⟩ := List.mem_map.mp h; rfl
theorem zNw.warm {s U : State} (hW : s.WarmedH U.vm) (h : zNw s) : zNw U := by
  intro w hw
  have h0 := h w hw
  rcases List.mem_append.mp hw with h1 | h1
  · obtain ⟨q, -, rfl⟩ := List.mem_map.mp h1; exact va_Nw.warmF hW h0
  · obtain ⟨q, -, rfl⟩ := List.mem_map.mp h1; exact va_Nw.warmM hW h0
theorem zNw.same {u U : State} (hv : u.vm = U.vm) (h : zNw u) : zNw U := fun w hw => va_Nw.same (zNest_on w hw) hv (h w hw)
abbrev zL : Type := List (Nat × Value)
abbrev zTy : Type := List (ClassId × FieldType)
/-- the cells' addresses -/
def zA (W : va_W) : Nat → Prop := fun q => ∃ (k : Nat) (e : va_E), W[k]? = some (q, e)
def zOK (l : Launch) (R : Room) (cc : ByteArray) (nL : Nat) (Ts : List Cond) (own : String) (D : va_G) (tys : zTy) (A : Nat → Prop) (Z : List va_W → zL → Nat → List Value → Prop) : Prop :=
  ∃ (p : Program) (e : Env) (s : State) (m : MethodId) (args : Array Value) (below : List Frame) (meth : Method) (c : Code) (cells slots : Nat) (Q : State → Prop),
    CallFix p m c cc nL s args Ts own ∧ (va_K D vwCl tys s ∧ zNw s) ∧ (cells ≤ R.cells ∧ slots ≤ R.slots) ∧
    Z = fun gs lv pc st => ∀ (H : Heap) (locs : List Loc) (ls : Array Slot), va_P D vwCl gs.flatten H → va_D A gs.flatten → va_S A s.heap H locs → lv_has ls nL lv → W p l e R s m args below meth c H locs cells slots Q (F0 m pc ls st)
/-- a contract of a method that makes nothing: from the cells W it answers v and leaves the cells W2 -/
def zPre (D : va_G) (tys : zTy) (args : List Value) (W : va_W) : Array Value → State → Prop := va_Pc args (fun U => va_P D vwCl W U.heap ∧ (va_K D vwCl tys U ∧ zNw U) ∧ va_D (fun _ => True) W)
def zPost (D : va_G) (W : va_W) (v : Option Value) (W2 : va_W) : Array Value → State → Outcome → State → Prop := fun _ st oc t => (oc = .returned v ∧ va_P D vwCl W2 t.heap) ∧ va_F (zA W) st t
def zD (l : Launch) (y : MethodName) (wds : List Cond) (rm : Room) (D : va_G) (tys : zTy) (args : List Value) (W : List va_W) (v : Option Value) (W2 : List va_W) : Prop :=
  Met l y wds rm (zPre D tys args W.flatten) (zPost D W.flatten v W2.flatten) 0 0 (zA W.flatten)
theorem zAddr {A : Nat → Prop} {ws ws2 : va_W} (h : ws2.map Prod.fst = ws.map Prod.fst) (hD : va_D A ws) : va_D A ws2 := by
  have key : ∀ (k : Nat) (q : Nat × va_E), ws2[k]? = some q → ∃ q0, ws[k]? = some q0 ∧ q0.1 = q.1 := by
    intro k q hk
    have h1 : (ws2.map Prod.fst)[k]? = some q.1 := by rw [List.getElem?_map, hk]; rfl
    rw [h, List.getElem?_map] at h1
    cases hw : ws[k]? with
    | none => rw [hw] at h1; cases h1
    | some q0 => rw [hw] at h1; exact ⟨q0, rfl, Option.some.inj h1⟩
  refine ⟨fun i j x y hi hj hxy => ?_, fun k q hk => ?_⟩
  · obtain ⟨x0, h1, h2⟩ := key i x hi
    obtain ⟨y0, h3, h4⟩ := key j y hj
    exact hD.1 i j x0 y0 h1 h3 (h2.trans (hxy.trans h4.symm))
  · obtain ⟨q0, h1, h2⟩ := key k q hk
    rw [← h2]
    exact hD.2 k q0 h1
/-- blocks put at their places -/
def zput {α : Type} : List α → List Nat → List α → List α
  | ws, [], _ => ws
  | ws, i :: is, qs => match qs with
    | [] => ws
    | q :: qs => zput (ws.set i q) is qs
theorem zput_get {α : Type} : ∀ (is : List Nat) (qs ws : List α), is.length = qs.length → ∀ (k : Nat) (q : α), (zput ws is qs)[k]? = some q → q ∈ qs ∨ (k ∉ is ∧ ws[k]? = some q)
  | [], [], ws, _, k, q, h => Or.inr ⟨List.not_mem_nil, h⟩
  | [], _ :: _, ws, hl, _, _, _ => by simp at hl
  | _ :: _, [], ws, hl, _, _, _ => by simp at hl
  | i :: is, x :: qs, ws, hl, k, q, h => by
    rcases zput_get is qs (ws.set i x) (by simpa using hl) k q h with h1 | ⟨h1, h2⟩
    · exact Or.inl (List.mem_cons_of_mem _ h1)
    · by_cases hk : k = i
      · subst hk
        have hlt : k < ws.length := by
          have := (List.getElem?_eq_some_iff.mp h2).1
          simpa using this
        rw [List.getElem?_set_self hlt] at h2
        cases h2
        exact Or.inl List.mem_cons_self
      · rw [List.getElem?_set_ne (Ne.symm hk)] at h2
        exact Or.inr ⟨fun z => by rcases List.mem_cons.mp z with z | z; exact hk z; exact h1 z, h2⟩
theorem zput_map {α β : Type} (f : α → β) : ∀ (is : List Nat) (qs ws : List α), is.map (fun i => (ws[i]?).map f) = qs.map (fun q => some (f q)) → (zput ws is qs).map f = ws.map f
  | [], _, _, _ => by rw [zput]
  | _ :: _, [], _, _ => by rw [zput]
  | i :: is, x :: qs, ws, h => by
    simp only [List.map_cons, List.cons.injEq] at h
    obtain ⟨h1, h2⟩ := h
    have ha : ∀ j : Nat, ((ws.set i x)[j]?).map f = (ws[j]?).map f := by
      intro j
      by_cases hj : i = j
      · subst hj
        cases hw : ws[i]? with
        | none => rw [hw] at h1; cases h1
        | some q0 =>
          rw [hw] at h1
          rw [List.getElem?_set_self (List.getElem?_eq_some_iff.mp hw).1]
          exact h1.symm
      · rw [List.getElem?_set_ne hj]
    have hs : (ws.set i x).map f = ws.map f := by
      apply List.ext_getElem?
      intro j
      rw [List.getElem?_map, List.getElem?_map]
      exact ha j
    refine (zput_map f is qs (ws.set i x) ?_).trans hs
    rw [← h2]
    exact List.map_congr_left (fun j _ => ha j)
/-- a block's place in the whole -/
def zoff : List va_W → Nat → Nat
  | [], _ => 0
  | _ :: _, 0 => 0
  | G :: R, g + 1 => G.length + zoff R g
theorem zflat_at : ∀ (gs : List va_W) (g q : Nat) (G : va_W) (x : Nat × va_E), gs[g]? = some G → G[q]? = some x → gs.flatten[zoff gs g + q]? = some x
  | [], g, q, G, x, h, _ => by simp at h
  | G0 :: R, 0, q, G, x, h, h2 => by
    rw [List.getElem?_cons_zero] at h
    cases h
    have hl := (List.getElem?_eq_some_iff.mp h2).1
    rw [List.flatten_cons, zoff, Nat.zero_add, List.getElem?_append_left hl]
    exact h2
  | G0 :: R, g + 1, q, G, x, h, h2 => by
    rw [List.getElem?_cons_succ] at h
    rw [List.flatten_cons, zoff, Nat.add_assoc, List.getElem?_append_right (Nat.le_add_right _ _), Nat.add_sub_cancel_left]
    exact zflat_at R g q G x h h2
theorem zflat_pos : ∀ (gs : List va_W) (k : Nat) (x : Nat × va_E), gs.flatten[k]? = some x → ∃ (g q : Nat) (G : va_W), gs[g]? = some G ∧ G[q]? = some x ∧ k = zoff gs g + q
  | [], k, x, h => by simp at h
  | G0 :: R, k, x, h => by
    rw [List.flatten_cons] at h
    by_cases hl : k < G0.length
    · rw [List.getElem?_append_left hl] at h
      exact ⟨0, k, G0, rfl, h, by rw [zoff, Nat.zero_add]⟩
    · rw [List.getElem?_append_right (by omega)] at h
      obtain ⟨g, q, G, h1, h2, h3⟩ := zflat_pos R _ x h
      exact ⟨g + 1, q, G, h1, h2, by rw [zoff]; omega⟩
theorem zflat_set : ∀ (gs : List va_W) (g q : Nat) (G : va_W) (x y : Nat × va_E), gs[g]? = some G → G[q]? = some x → gs.flatten.set (zoff gs g + q) y = (gs.set g (G.set q y)).flatten
  | [], g, q, G, x, y, h, _ => by simp at h
  | G0 :: R, 0, q, G, x, y, h, h2 => by
    rw [List.getElem?_cons_zero] at h
    cases h
    have hl := (List.getElem?_eq_some_iff.mp h2).1
    rw [List.flatten_cons, zoff, Nat.zero_add, List.set_append_left _ _ hl, List.set_cons_zero, List.flatten_cons]
  | G0 :: R, g + 1, q, G, x, y, h, h2 => by
    rw [List.getElem?_cons_succ] at h
    rw [List.flatten_cons, zoff, Nat.add_assoc, List.set_append_right _ _ (Nat.le_add_right _ _), Nat.add_sub_cancel_left, zflat_set R g q G x y h h2, List.set_cons_succ, List.flatten_cons]
theorem zoff_inj : ∀ (gs : List va_W) (g g2 q q2 : Nat) (G G2 : va_W) (x x2 : Nat × va_E), gs[g]? = some G → gs[g2]? = some G2 → G[q]? = some x → G2[q2]? = some x2 → zoff gs g + q = zoff gs g2 + q2 → g = g2 ∧ q = q2
  | [], g, g2, q, q2, G, G2, x, x2, h, _, _, _, _ => by simp at h
  | G0 :: R, 0, 0, q, q2, G, G2, x, x2, _, _, _, _, e => ⟨rfl, by simpa [zoff] using e⟩
  | G0 :: R, 0, g2 + 1, q, q2, G, G2, x, x2, h, _, h3, _, e => by
    rw [List.getElem?_cons_zero] at h
    cases h
    have hl := (List.getElem?_eq_some_iff.mp h3).1
    simp only [zoff] at e
    omega
  | G0 :: R, g + 1, 0, q, q2, G, G2, x, x2, _, h, _, h3, e => by
    rw [List.getElem?_cons_zero] at h
    cases h
    have hl := (List.getElem?_eq_some_iff.mp h3).1
    simp only [zoff] at e
    omega
  | G0 :: R, g + 1, g2 + 1, q, q2, G, G2, x, x2, h, h2, h3, h4, e => by
    rw [List.getElem?_cons_succ] at h h2
    simp only [zoff] at e
    obtain ⟨e1, e2⟩ := zoff_inj R g g2 q q2 G G2 x x2 h h2 h3 h4 (by omega)
    exact ⟨by rw [e1], e2⟩
theorem zmemP {D : va_G} {ws : va_W} {H : Heap} : va_P D vwCl ws H ↔ ∀ q ∈ ws, va_at D vwCl q H := by
  refine ⟨fun h q hq => ?_, fun h k q hk => h q (List.mem_of_getElem? hk)⟩
  obtain ⟨k, hk⟩ := List.getElem?_of_mem hq
  exact h k q hk
theorem zmemF {gs : List va_W} {x : Nat × va_E} (h : x ∈ gs.flatten) : ∃ (g q : Nat) (G : va_W), gs[g]? = some G ∧ G[q]? = some x := by
  obtain ⟨k, hk⟩ := List.getElem?_of_mem h
  obtain ⟨g, q, G, h1, h2, -⟩ := zflat_pos gs k x hk
  exact ⟨g, q, G, h1, h2⟩
/-- some of the blocks -/
theorem zsel_at {gs gc : List va_W} {is : List Nat} (hC : is.map (fun i => gs[i]?) = gc.map some) {j : Nat} {G : va_W} (h : gc[j]? = some G) : ∃ i, is[j]? = some i ∧ gs[i]? = some G := by
  have h1 : (is.map (fun i => gs[i]?))[j]? = some (some G) := by rw [hC, List.getElem?_map, h]; rfl
  rw [List.getElem?_map] at h1
  cases hi : is[j]? with
  | none => rw [hi] at h1; cases h1
  | some i => rw [hi] at h1; exact ⟨i, rfl, Option.some.inj h1⟩
theorem zselP {D : va_G} {gs gc : List va_W} {H : Heap} {is : List Nat} (hP : va_P D vwCl gs.flatten H) (hC : is.map (fun i => gs[i]?) = gc.map some) : va_P D vwCl gc.flatten H := by
  rw [zmemP] at hP ⊢
  intro x hx
  obtain ⟨j, q, G, h1, h2⟩ := zmemF hx
  obtain ⟨i, -, h3⟩ := zsel_at hC h1
  exact hP x (List.mem_of_getElem? (zflat_at gs i q G x h3 h2))
theorem zselD {A : Nat → Prop} {gs gc : List va_W} {is : List Nat} (hD : va_D A gs.flatten) (hn : va_nd is = true) (hC : is.map (fun i => gs[i]?) = gc.map some) : va_D A gc.flatten := by
  refine ⟨fun k k2 x y hk hk2 e => ?_, fun k x hk => ?_⟩
  · obtain ⟨g, q, G, h1, h2, h3⟩ := zflat_pos gc k x hk
    obtain ⟨g2, q2, G2, h4, h5, h6⟩ := zflat_pos gc k2 y hk2
    obtain ⟨i, a1, a2⟩ := zsel_at hC h1
    obtain ⟨i2, b1, b2⟩ := zsel_at hC h4
    have e1 := hD.1 _ _ x y (zflat_at gs i q G x a2 h2) (zflat_at gs i2 q2 G2 y b2 h5) e
    obtain ⟨e2, e3⟩ := zoff_inj gs i i2 q q2 G G2 x y a2 b2 h2 h5 e1
    subst e2
    have e4 := va_nd_inj is hn g g2 i a1 b1
    subst e4
    rw [h3, h6, e3]
  · obtain ⟨g, q, G, h1, h2, h3⟩ := zflat_pos gc k x hk
    obtain ⟨i, a1, a2⟩ := zsel_at hC h1
    exact hD.2 _ x (zflat_at gs i q G x a2 h2)
theorem zmapF (f : Nat × va_E → Nat) : ∀ gs : List va_W, gs.flatten.map f = (gs.map (fun G => G.map f)).flatten
  | [] => rfl
  | G :: R => by rw [List.flatten_cons, List.map_append, List.map_cons, List.flatten_cons, zmapF f R]
theorem zput_ok {D : va_G} {A : Nat → Prop} {gs gc g1 : List va_W} {H H1 : Heap} (hP : va_P D vwCl gs.flatten H) (hD : va_D A gs.flatten) (is : List Nat) (hC : is.map (fun i => gs[i]?) = gc.map some) (ha : g1.map (fun G => G.map Prod.fst) = gc.map (fun G => G.map Prod.fst))
    (hk : ∀ q : Nat, q < H.size → ¬ zA gc.flatten q → H1[q]? = H[q]?) (hP1 : va_P D vwCl g1.flatten H1) : va_P D vwCl (zput gs is g1).flatten H1 ∧ va_D A (zput gs is g1).flatten := by
  have hl : is.length = g1.length := by
    have h1 := congrArg List.length hC
    have h2 := congrArg List.length ha
    simp only [List.length_map] at h1 h2
    omega
  have hm : is.map (fun i => (gs[i]?).map (fun G : va_W => G.map Prod.fst)) = g1.map (fun q => some (q.map Prod.fst)) := by
    have h1 : is.map (fun i => (gs[i]?).map (fun G : va_W => G.map Prod.fst)) = (is.map (fun i => gs[i]?)).map (fun o => o.map (fun G : va_W => G.map Prod.fst)) := by rw [List.map_map]; rfl
    have h2 : g1.map (fun q => some (q.map Prod.fst)) = (g1.map (fun G => G.map Prod.fst)).map some := by rw [List.map_map]; rfl
    rw [h1, hC, h2, ha, List.map_map, List.map_map]
    rfl
  refine ⟨?_, ?_⟩
  · rw [zmemP]
    intro x hx
    obtain ⟨g, q, G, h1, h2⟩ := zmemF hx
    rcases zput_get is g1 gs hl g G h1 with h | ⟨h3, h4⟩
    · rw [zmemP] at hP1
      exact hP1 x (List.mem_flatten.mpr ⟨G, h, List.mem_of_getElem? h2⟩)
    · have hat := hP _ x (zflat_at gs g q G x h4 h2)
      refine hat.kept (hk x.1 hat.lt ?_)
      rintro ⟨j, e, hj⟩
      obtain ⟨g2, q2, G2, b1, b2, -⟩ := zflat_pos gc j (x.1, e) hj
      obtain ⟨i, c1, c2⟩ := zsel_at hC b1
      have e1 := hD.1 _ _ x (x.1, e) (zflat_at gs g q G x h4 h2) (zflat_at gs i q2 G2 (x.1, e) c2 b2) rfl
      obtain ⟨e2, -⟩ := zoff_inj gs g i q q2 G G2 x (x.1, e) h4 c2 h2 b2 e1
      subst e2
      exact h3 (List.mem_of_getElem? c1)
  · refine zAddr ?_ hD
    rw [zmapF, zmapF, zput_map (fun G : va_W => G.map Prod.fst) is g1 gs hm]
/-- static facts: a field's place, a call's words -/
def zGF (Ts : List Cond) (own : String) (idx ci k : Nat) : Prop := ∃ (C : String) (T : u_T) (N : Nat), vwCl[ci]? = some (C, T, N) ∧ (∀ w ∈ u_ws C T N, w ∈ Ts) ∧ k < N ∧ (T k).1 = C ∧ ((∃ host, Cond.fieldLinkNest own idx C (T k).2.1 (T k).2.2.1 host ∈ zNest) ∨ Cond.fieldLink own idx C (T k).2.1 (T k).2.2.1 ∈ Ts)
def zPF (Ts : List Cond) (own : String) (idx ci k : Nat) (ty : FieldType) : Prop := ∃ (C : String) (T : u_T) (N : Nat) (ty0 : Nat → FieldType), vwCl[ci]? = some (C, T, N) ∧ (∀ w ∈ u_ws C T N, w ∈ Ts) ∧ k < N ∧ (T k).1 = C ∧ ((∃ host, Cond.fieldLinkNest own idx C (T k).2.1 (T k).2.2.1 host ∈ zNest) ∨ Cond.fieldLink own idx C (T k).2.1 (T k).2.2.1 ∈ Ts) ∧
  (∀ k, k < N → parseFieldDescriptor (T k).2.2.1 = some (ty0 k)) ∧ (∀ a, a < N → ∀ b, b < N → a ≠ b → (T a).2.1 ≠ (T b).2.1) ∧ (T k).2.2.2 = false ∧ parseFieldDescriptor (T k).2.2.1 = some ty
def zSV (R : Room) (Ts : List Cond) (own : String) (idx : Nat) (y : MethodName) (wy : List Cond) (rmy : Room) (n : Nat) : Prop := ∃ (bytes : ByteArray) (maxL : Nat) (ret : Option FieldType) (ws' : List Cond), wy = Cond.code y bytes maxL ret :: ws' ∧ GoodIn Ts (wsV own idx y.cls y wy) ∧ (rmy.cells = 0 ∧ rmy.slots = 0) ∧
  (y.cls ≠ "java/lang/invoke/MethodHandle" ∧ y.cls ≠ "java/lang/invoke/VarHandle" ∧ (parseMethodDescriptor y.desc).map (fun d => d.parameters.length) = some n) ∧ (rmy.frames + 1 ≤ R.frames ∧ 8 + (maxL + 11) + rmy.locals ≤ R.locals)
def zSS (R : Room) (Ts : List Cond) (own : String) (idx : Nat) (y : MethodName) (wy : List Cond) (rmy : Room) (n : Nat) : Prop := ∃ (bytes : ByteArray) (maxL : Nat) (ret : Option FieldType) (ws' : List Cond), wy = Cond.code y bytes maxL ret :: ws' ∧ GoodIn Ts (va_wsS own idx y wy) ∧ (rmy.cells = 0 ∧ rmy.slots = 0) ∧
  (y.cls ≠ "java/lang/invoke/MethodHandle" ∧ y.cls ≠ "java/lang/invoke/VarHandle" ∧ (parseMethodDescriptor y.desc).map (fun d => d.parameters.length) = some n) ∧ (rmy.frames + 1 ≤ R.frames ∧ 8 + (maxL + 11) + rmy.locals ≤ R.locals)
def zSN (R : Room) (Ts : List Cond) (own : String) (idx : Nat) (y : MethodName) (wy : List Cond) (rmy : Room) (n : Nat) : Prop := ∃ (bytes : ByteArray) (maxL : Nat) (ret : Option FieldType) (ws' : List Cond) (host : String), wy = Cond.code y bytes maxL ret :: ws' ∧ GoodIn Ts wy ∧ (Cond.methodLinkNest own idx y host ∈ zNest ∧ Cond.initialized y.cls ∈ Ts ∧ Cond.static y ∈ Ts) ∧ (rmy.cells = 0 ∧ rmy.slots = 0) ∧
  (y.cls ≠ "java/lang/invoke/MethodHandle" ∧ y.cls ≠ "java/lang/invoke/VarHandle" ∧ (parseMethodDescriptor y.desc).map (fun d => d.parameters.length) = some n) ∧ (rmy.frames + 1 ≤ R.frames ∧ 8 + (maxL + 11) + rmy.locals ≤ R.locals)
/-- booleans as the machine holds them -/
def zb (b : Bool) : Int32 := if b then nI 1 else nI 0
theorem zb_t : zb true = nI 1 := rfl
theorem zb_f : zb false = nI 0 := rfl
theorem zb_eq0 (b : Bool) : zb b = 0 ↔ b = false := by cases b <;> decide +kernel
theorem zb_nar (b : Bool) : narrow .boolean (.int (zb b)) = .int (zb b) := by cases b <;> decide +kernel
theorem zb_fit (b : Bool) : fits .boolean (.int (zb b)) = true := by cases b <;> decide +kernel
theorem zb_inj {a b : Bool} : zb a = zb b ↔ a = b := by cases a <;> cases b <;> decide +kernel
section ZR
variable {l : Launch} {R : Room} {cc : ByteArray} {nL : Nat} {Ts : List Cond} {own : String} {D : va_G} {tys : zTy} {A : Nat → Prop} {Z : List va_W → zL → Nat → List Value → Prop}
variable {ws ws2 : List va_W} {lv lv2 : zL} {pc pc2 : Nat} {st : List Value}
theorem zr_cast (h : ws = ws2) (k : Z ws2 lv pc st) : Z ws lv pc st := by subst h; exact k
theorem zr_sub (O : zOK l R cc nL Ts own D tys A Z) (ks : List Nat) (h : lv_pick lv ks = lv2) (k : Z ws lv2 pc st) : Z ws lv pc st := by
  obtain ⟨p, e, s, m, args, below, meth, c, cells, slots, Q, ⟨hx, hb, hml, ho, hts⟩, ⟨hK, hN⟩, hroom, rfl⟩ := O
  intro H locs ls hP hD hS hl
  exact k H locs ls hP hD hS (lv_sub hl ks h)
/-- some of the blocks -/
theorem zr_cells (O : zOK l R cc nL Ts own D tys A Z) (is : List Nat) (hn : va_nd is = true) (h : is.map (fun i => ws[i]?) = ws2.map some) (k : Z ws2 lv pc st) : Z ws lv pc st := by
  obtain ⟨p, e, s, m, args, below, meth, c, cells, slots, Q, ⟨hx, hb, hml, ho, hts⟩, ⟨hK, hN⟩, hroom, rfl⟩ := O
  intro H locs ls hP hD hS hl
  exact k H locs ls (zselP hP h) (zselD hD hn h) hS hl
/-- the same cells, cut otherwise -/
theorem zr_flat (O : zOK l R cc nL Ts own D tys A Z) (h : ws.flatten = ws2.flatten) (k : Z ws2 lv pc st) : Z ws lv pc st := by
  obtain ⟨p, e, s, m, args, below, meth, c, cells, slots, Q, ⟨hx, hb, hml, ho, hts⟩, ⟨hK, hN⟩, hroom, rfl⟩ := O
  intro H locs ls hP hD hS hl
  rw [h] at hP hD
  exact k H locs ls hP hD hS hl
theorem zr_iconst (O : zOK l R cc nL Ts own D tys A Z) {n : Int} {v : Int32} (hdg : decode cc pc = .ok (.iconst n, 1)) (hv : Int32.ofInt n = v) (hpc : pc + 1 = pc2) (k : Z ws lv pc2 (.int v :: st)) : Z ws lv pc (st) := by
  obtain ⟨p, e, s, m, args, below, meth, c, cells, slots, Q, ⟨hx, hb, hml, ho, hts⟩, ⟨hK, hN⟩, hroom, rfl⟩ := O
  subst hpc
  intro H locs ls hP hD hS hl
  exact lv_iconst hx hb hdg hv (k H locs ls hP hD hS hl)
theorem zr_bipush (O : zOK l R cc nL Ts own D tys A Z) {n : Int} {v : Int32} (hdg : decode cc pc = .ok (.bipush n, 2)) (hv : (Int8.ofInt n).toInt32 = v) (hpc : pc + 2 = pc2) (k : Z ws lv pc2 (.int v :: st)) : Z ws lv pc (st) := by
  obtain ⟨p, e, s, m, args, below, meth, c, cells, slots, Q, ⟨hx, hb, hml, ho, hts⟩, ⟨hK, hN⟩, hroom, rfl⟩ := O
  subst hpc
  intro H locs ls hP hD hS hl
  exact lv_bipush hx hb hdg hv (k H locs ls hP hD hS hl)
theorem zr_sipush (O : zOK l R cc nL Ts own D tys A Z) {n : Int} {v : Int32} (hdg : decode cc pc = .ok (.sipush n, 3)) (hv : (Int16.ofInt n).toInt32 = v) (hpc : pc + 3 = pc2) (k : Z ws lv pc2 (.int v :: st)) : Z ws lv pc (st) := by
  obtain ⟨p, e, s, m, args, below, meth, c, cells, slots, Q, ⟨hx, hb, hml, ho, hts⟩, ⟨hK, hN⟩, hroom, rfl⟩ := O
  subst hpc
  intro H locs ls hP hD hS hl
  exact lv_sipush hx hb hdg hv (k H locs ls hP hD hS hl)
theorem zr_lconst (O : zOK l R cc nL Ts own D tys A Z) {n : Fin 2} {v : Int64} (hdg : decode cc pc = .ok (.lconst n, 1)) (hv : Int64.ofNat (n : Nat) = v) (hpc : pc + 1 = pc2) (k : Z ws lv pc2 (.long v :: st)) : Z ws lv pc (st) := by
  obtain ⟨p, e, s, m, args, below, meth, c, cells, slots, Q, ⟨hx, hb, hml, ho, hts⟩, ⟨hK, hN⟩, hroom, rfl⟩ := O
  subst hpc
  intro H locs ls hP hD hS hl
  exact lv_lconst hx hb hdg hv (k H locs ls hP hD hS hl)
theorem zr_iload_n (O : zOK l R cc nL Ts own D tys A Z) {f : Fin 4} {i : Nat} {x : Int32} (hdg : decode cc pc = .ok (.iload_n f, 1)) (hi : (f : Nat) = i) (q : Nat) (hq : lv[q]? = some (i, .int x)) (hpc : pc + 1 = pc2) (k : Z ws lv pc2 (.int x :: st)) : Z ws lv pc (st) := by
  obtain ⟨p, e, s, m, args, below, meth, c, cells, slots, Q, ⟨hx, hb, hml, ho, hts⟩, ⟨hK, hN⟩, hroom, rfl⟩ := O
  subst hpc
  intro H locs ls hP hD hS hl
  exact lv_iload_n hx hb hdg hi (lv_at hl q hq) (k H locs ls hP hD hS hl)
theorem zr_iload (O : zOK l R cc nL Ts own D tys A Z) {i : Nat} {x : Int32} (hdg : decode cc pc = .ok (.iload i, 2)) (q : Nat) (hq : lv[q]? = some (i, .int x)) (hpc : pc + 2 = pc2) (k : Z ws lv pc2 (.int x :: st)) : Z ws lv pc (st) := by
  obtain ⟨p, e, s, m, args, below, meth, c, cells, slots, Q, ⟨hx, hb, hml, ho, hts⟩, ⟨hK, hN⟩, hroom, rfl⟩ := O
  subst hpc
  intro H locs ls hP hD hS hl
  exact lv_iload hx hb hdg (lv_at hl q hq) (k H locs ls hP hD hS hl)
theorem zr_aload_n (O : zOK l R cc nL Ts own D tys A Z) {f : Fin 4} {i : Nat} {x : Nat} (hdg : decode cc pc = .ok (.aload_n f, 1)) (hi : (f : Nat) = i) (q : Nat) (hq : lv[q]? = some (i, .ref x)) (hpc : pc + 1 = pc2) (k : Z ws lv pc2 (.ref x :: st)) : Z ws lv pc (st) := by
  obtain ⟨p, e, s, m, args, below, meth, c, cells, slots, Q, ⟨hx, hb, hml, ho, hts⟩, ⟨hK, hN⟩, hroom, rfl⟩ := O
  subst hpc
  intro H locs ls hP hD hS hl
  exact lv_aload_n hx hb hdg hi (lv_at hl q hq) (k H locs ls hP hD hS hl)
theorem zr_aload (O : zOK l R cc nL Ts own D tys A Z) {i : Nat} {x : Nat} (hdg : decode cc pc = .ok (.aload i, 2)) (q : Nat) (hq : lv[q]? = some (i, .ref x)) (hpc : pc + 2 = pc2) (k : Z ws lv pc2 (.ref x :: st)) : Z ws lv pc (st) := by
  obtain ⟨p, e, s, m, args, below, meth, c, cells, slots, Q, ⟨hx, hb, hml, ho, hts⟩, ⟨hK, hN⟩, hroom, rfl⟩ := O
  subst hpc
  intro H locs ls hP hD hS hl
  exact lv_aload hx hb hdg (lv_at hl q hq) (k H locs ls hP hD hS hl)
theorem zr_lload_n (O : zOK l R cc nL Ts own D tys A Z) {f : Fin 4} {i : Nat} {x : Int64} (hdg : decode cc pc = .ok (.lload_n f, 1)) (hi : (f : Nat) = i) (q : Nat) (hq : lv[q]? = some (i, .long x)) (hpc : pc + 1 = pc2) (k : Z ws lv pc2 (.long x :: st)) : Z ws lv pc (st) := by
  obtain ⟨p, e, s, m, args, below, meth, c, cells, slots, Q, ⟨hx, hb, hml, ho, hts⟩, ⟨hK, hN⟩, hroom, rfl⟩ := O
  subst hpc
  intro H locs ls hP hD hS hl
  exact lv_lload_n hx hb hdg hi (lv_at hl q hq) (k H locs ls hP hD hS hl)
theorem zr_lload (O : zOK l R cc nL Ts own D tys A Z) {i : Nat} {x : Int64} (hdg : decode cc pc = .ok (.lload i, 2)) (q : Nat) (hq : lv[q]? = some (i, .long x)) (hpc : pc + 2 = pc2) (k : Z ws lv pc2 (.long x :: st)) : Z ws lv pc (st) := by
  obtain ⟨p, e, s, m, args, below, meth, c, cells, slots, Q, ⟨hx, hb, hml, ho, hts⟩, ⟨hK, hN⟩, hroom, rfl⟩ := O
  subst hpc
  intro H locs ls hP hD hS hl
  exact lv_lload hx hb hdg (lv_at hl q hq) (k H locs ls hP hD hS hl)
theorem zr_istore_n (O : zOK l R cc nL Ts own D tys A Z) {f : Fin 4} {i : Nat} {x : Int32} (hdg : decode cc pc = .ok (.istore_n f, 1)) (hi : (f : Nat) = i) (hn : i < nL) (hlv : (i, Value.int x) :: lv.filter (fun q => !(q.1 == i) && !(q.1 + 1 == i && q.2.category == 2)) = lv2) (hpc : pc + 1 = pc2) (k : Z ws lv2 pc2 st) : Z ws lv pc (.int x :: st) := by
  obtain ⟨p, e, s, m, args, below, meth, c, cells, slots, Q, ⟨hx, hb, hml, ho, hts⟩, ⟨hK, hN⟩, hroom, rfl⟩ := O
  subst hpc
  intro H locs ls hP hD hS hl
  exact lv_istore_n hx hb hdg hi hl hn hlv (fun ls2 hl2 => k H locs ls2 hP hD hS hl2)
theorem zr_istore (O : zOK l R cc nL Ts own D tys A Z) {i : Nat} {x : Int32} (hdg : decode cc pc = .ok (.istore i, 2)) (hn : i < nL) (hlv : (i, Value.int x) :: lv.filter (fun q => !(q.1 == i) && !(q.1 + 1 == i && q.2.category == 2)) = lv2) (hpc : pc + 2 = pc2) (k : Z ws lv2 pc2 st) : Z ws lv pc (.int x :: st) := by
  obtain ⟨p, e, s, m, args, below, meth, c, cells, slots, Q, ⟨hx, hb, hml, ho, hts⟩, ⟨hK, hN⟩, hroom, rfl⟩ := O
  subst hpc
  intro H locs ls hP hD hS hl
  exact lv_istore hx hb hdg hl hn hlv (fun ls2 hl2 => k H locs ls2 hP hD hS hl2)
theorem zr_astore_n (O : zOK l R cc nL Ts own D tys A Z) {f : Fin 4} {i : Nat} {x : Nat} (hdg : decode cc pc = .ok (.astore_n f, 1)) (hi : (f : Nat) = i) (hn : i < nL) (hlv : (i, Value.ref x) :: lv.filter (fun q => !(q.1 == i) && !(q.1 + 1 == i && q.2.category == 2)) = lv2) (hpc : pc + 1 = pc2) (k : Z ws lv2 pc2 st) : Z ws lv pc (.ref x :: st) := by
  obtain ⟨p, e, s, m, args, below, meth, c, cells, slots, Q, ⟨hx, hb, hml, ho, hts⟩, ⟨hK, hN⟩, hroom, rfl⟩ := O
  subst hpc
  intro H locs ls hP hD hS hl
  exact lv_astore_n hx hb hdg hi hl hn hlv (fun ls2 hl2 => k H locs ls2 hP hD hS hl2)
theorem zr_astore (O : zOK l R cc nL Ts own D tys A Z) {i : Nat} {x : Nat} (hdg : decode cc pc = .ok (.astore i, 2)) (hn : i < nL) (hlv : (i, Value.ref x) :: lv.filter (fun q => !(q.1 == i) && !(q.1 + 1 == i && q.2.category == 2)) = lv2) (hpc : pc + 2 = pc2) (k : Z ws lv2 pc2 st) : Z ws lv pc (.ref x :: st) := by
  obtain ⟨p, e, s, m, args, below, meth, c, cells, slots, Q, ⟨hx, hb, hml, ho, hts⟩, ⟨hK, hN⟩, hroom, rfl⟩ := O
  subst hpc
  intro H locs ls hP hD hS hl
  exact lv_astore hx hb hdg hl hn hlv (fun ls2 hl2 => k H locs ls2 hP hD hS hl2)
theorem zr_lstore_n (O : zOK l R cc nL Ts own D tys A Z) {f : Fin 4} {i : Nat} {x : Int64} (hdg : decode cc pc = .ok (.lstore_n f, 1)) (hi : (f : Nat) = i) (hn : i + 1 < nL) (hlv : (i, Value.long x) :: lv.filter (fun q => !(q.1 == i) && (!(q.1 == i + 1) && !(q.1 + 1 == i && q.2.category == 2))) = lv2) (hpc : pc + 1 = pc2) (k : Z ws lv2 pc2 st) : Z ws lv pc (.long x :: st) := by
  obtain ⟨p, e, s, m, args, below, meth, c, cells, slots, Q, ⟨hx, hb, hml, ho, hts⟩, ⟨hK, hN⟩, hroom, rfl⟩ := O
  subst hpc
  intro H locs ls hP hD hS hl
  exact lv_lstore_n hx hb hdg hi hl hn hlv (fun ls2 hl2 => k H locs ls2 hP hD hS hl2)
theorem zr_lstore (O : zOK l R cc nL Ts own D tys A Z) {i : Nat} {x : Int64} (hdg : decode cc pc = .ok (.lstore i, 2)) (hn : i + 1 < nL) (hlv : (i, Value.long x) :: lv.filter (fun q => !(q.1 == i) && (!(q.1 == i + 1) && !(q.1 + 1 == i && q.2.category == 2))) = lv2) (hpc : pc + 2 = pc2) (k : Z ws lv2 pc2 st) : Z ws lv pc (.long x :: st) := by
  obtain ⟨p, e, s, m, args, below, meth, c, cells, slots, Q, ⟨hx, hb, hml, ho, hts⟩, ⟨hK, hN⟩, hroom, rfl⟩ := O
  subst hpc
  intro H locs ls hP hD hS hl
  exact lv_lstore hx hb hdg hl hn hlv (fun ls2 hl2 => k H locs ls2 hP hD hS hl2)
theorem zr_iinc (O : zOK l R cc nL Ts own D tys A Z) {i : Nat} {n : Int} {x v : Int32} (hdg : decode cc pc = .ok (.iinc i n, 3)) (q : Nat) (hq : lv[q]? = some (i, .int x)) (hv : x + Int32.ofInt n = v) (hn : i < nL) (hlv : (i, Value.int v) :: lv.filter (fun q => !(q.1 == i) && !(q.1 + 1 == i && q.2.category == 2)) = lv2) (hpc : pc + 3 = pc2) (k : Z ws lv2 pc2 st) : Z ws lv pc (st) := by
  obtain ⟨p, e, s, m, args, below, meth, c, cells, slots, Q, ⟨hx, hb, hml, ho, hts⟩, ⟨hK, hN⟩, hroom, rfl⟩ := O
  subst hpc
  intro H locs ls hP hD hS hl
  exact lv_iinc hx hb hdg hl hq hv hn hlv (fun ls2 hl2 => k H locs ls2 hP hD hS hl2)
theorem zr_iadd (O : zOK l R cc nL Ts own D tys A Z) {x y v : Int32} (hdg : decode cc pc = .ok (.iadd, 1)) (hv : x + y = v) (hpc : pc + 1 = pc2) (k : Z ws lv pc2 (.int v :: st)) : Z ws lv pc (.int y :: .int x :: st) := by
  obtain ⟨p, e, s, m, args, below, meth, c, cells, slots, Q, ⟨hx, hb, hml, ho, hts⟩, ⟨hK, hN⟩, hroom, rfl⟩ := O
  subst hpc
  intro H locs ls hP hD hS hl
  subst hv; exact lv_iadd hx hb hdg (k H locs ls hP hD hS hl)
theorem zr_isub (O : zOK l R cc nL Ts own D tys A Z) {x y v : Int32} (hdg : decode cc pc = .ok (.isub, 1)) (hv : x - y = v) (hpc : pc + 1 = pc2) (k : Z ws lv pc2 (.int v :: st)) : Z ws lv pc (.int y :: .int x :: st) := by
  obtain ⟨p, e, s, m, args, below, meth, c, cells, slots, Q, ⟨hx, hb, hml, ho, hts⟩, ⟨hK, hN⟩, hroom, rfl⟩ := O
  subst hpc
  intro H locs ls hP hD hS hl
  subst hv; exact lv_isub hx hb hdg (k H locs ls hP hD hS hl)
theorem zr_imul (O : zOK l R cc nL Ts own D tys A Z) {x y v : Int32} (hdg : decode cc pc = .ok (.imul, 1)) (hv : x * y = v) (hpc : pc + 1 = pc2) (k : Z ws lv pc2 (.int v :: st)) : Z ws lv pc (.int y :: .int x :: st) := by
  obtain ⟨p, e, s, m, args, below, meth, c, cells, slots, Q, ⟨hx, hb, hml, ho, hts⟩, ⟨hK, hN⟩, hroom, rfl⟩ := O
  subst hpc
  intro H locs ls hP hD hS hl
  subst hv; exact lv_imul hx hb hdg (k H locs ls hP hD hS hl)
theorem zr_iand (O : zOK l R cc nL Ts own D tys A Z) {x y v : Int32} (hdg : decode cc pc = .ok (.iand, 1)) (hv : x &&& y = v) (hpc : pc + 1 = pc2) (k : Z ws lv pc2 (.int v :: st)) : Z ws lv pc (.int y :: .int x :: st) := by
  obtain ⟨p, e, s, m, args, below, meth, c, cells, slots, Q, ⟨hx, hb, hml, ho, hts⟩, ⟨hK, hN⟩, hroom, rfl⟩ := O
  subst hpc
  intro H locs ls hP hD hS hl
  subst hv; exact lv_iand hx hb hdg (k H locs ls hP hD hS hl)
theorem zr_ior (O : zOK l R cc nL Ts own D tys A Z) {x y v : Int32} (hdg : decode cc pc = .ok (.ior, 1)) (hv : x ||| y = v) (hpc : pc + 1 = pc2) (k : Z ws lv pc2 (.int v :: st)) : Z ws lv pc (.int y :: .int x :: st) := by
  obtain ⟨p, e, s, m, args, below, meth, c, cells, slots, Q, ⟨hx, hb, hml, ho, hts⟩, ⟨hK, hN⟩, hroom, rfl⟩ := O
  subst hpc
  intro H locs ls hP hD hS hl
  subst hv; exact lv_ior hx hb hdg (k H locs ls hP hD hS hl)
theorem zr_ishl (O : zOK l R cc nL Ts own D tys A Z) {x y v : Int32} (hdg : decode cc pc = .ok (.ishl, 1)) (hv : x <<< (y &&& 31) = v) (hpc : pc + 1 = pc2) (k : Z ws lv pc2 (.int v :: st)) : Z ws lv pc (.int y :: .int x :: st) := by
  obtain ⟨p, e, s, m, args, below, meth, c, cells, slots, Q, ⟨hx, hb, hml, ho, hts⟩, ⟨hK, hN⟩, hroom, rfl⟩ := O
  subst hpc
  intro H locs ls hP hD hS hl
  subst hv; exact lv_ishl hx hb hdg (k H locs ls hP hD hS hl)
theorem zr_ishr (O : zOK l R cc nL Ts own D tys A Z) {x y v : Int32} (hdg : decode cc pc = .ok (.ishr, 1)) (hv : x >>> (y &&& 31) = v) (hpc : pc + 1 = pc2) (k : Z ws lv pc2 (.int v :: st)) : Z ws lv pc (.int y :: .int x :: st) := by
  obtain ⟨p, e, s, m, args, below, meth, c, cells, slots, Q, ⟨hx, hb, hml, ho, hts⟩, ⟨hK, hN⟩, hroom, rfl⟩ := O
  subst hpc
  intro H locs ls hP hD hS hl
  subst hv; exact lv_ishr hx hb hdg (k H locs ls hP hD hS hl)
theorem zr_iushr (O : zOK l R cc nL Ts own D tys A Z) {x y v : Int32} (hdg : decode cc pc = .ok (.iushr, 1)) (hv : (x.toUInt32 >>> (y.toUInt32 &&& Int32.toUInt32 31)).toInt32 = v) (hpc : pc + 1 = pc2) (k : Z ws lv pc2 (.int v :: st)) : Z ws lv pc (.int y :: .int x :: st) := by
  obtain ⟨p, e, s, m, args, below, meth, c, cells, slots, Q, ⟨hx, hb, hml, ho, hts⟩, ⟨hK, hN⟩, hroom, rfl⟩ := O
  subst hpc
  intro H locs ls hP hD hS hl
  exact lv_iushr hx hb hdg hv (k H locs ls hP hD hS hl)
theorem zr_idiv (O : zOK l R cc nL Ts own D tys A Z) {x y v : Int32} (hdg : decode cc pc = .ok (.idiv, 1)) (hne : ¬ y = 0) (hv : x / y = v) (hpc : pc + 1 = pc2) (k : Z ws lv pc2 (.int v :: st)) : Z ws lv pc (.int y :: .int x :: st) := by
  obtain ⟨p, e, s, m, args, below, meth, c, cells, slots, Q, ⟨hx, hb, hml, ho, hts⟩, ⟨hK, hN⟩, hroom, rfl⟩ := O
  subst hpc
  intro H locs ls hP hD hS hl
  subst hv; exact lv_idiv hx hb hdg hne (k H locs ls hP hD hS hl)
theorem zr_irem (O : zOK l R cc nL Ts own D tys A Z) {x y v : Int32} (hdg : decode cc pc = .ok (.irem, 1)) (hne : ¬ y = 0) (hv : x - x / y * y = v) (hpc : pc + 1 = pc2) (k : Z ws lv pc2 (.int v :: st)) : Z ws lv pc (.int y :: .int x :: st) := by
  obtain ⟨p, e, s, m, args, below, meth, c, cells, slots, Q, ⟨hx, hb, hml, ho, hts⟩, ⟨hK, hN⟩, hroom, rfl⟩ := O
  subst hpc
  intro H locs ls hP hD hS hl
  subst hv; exact lv_irem hx hb hdg hne (k H locs ls hP hD hS hl)
theorem zr_ladd (O : zOK l R cc nL Ts own D tys A Z) {x y v : Int64} (hdg : decode cc pc = .ok (.ladd, 1)) (hv : x + y = v) (hpc : pc + 1 = pc2) (k : Z ws lv pc2 (.long v :: st)) : Z ws lv pc (.long y :: .long x :: st) := by
  obtain ⟨p, e, s, m, args, below, meth, c, cells, slots, Q, ⟨hx, hb, hml, ho, hts⟩, ⟨hK, hN⟩, hroom, rfl⟩ := O
  subst hpc
  intro H locs ls hP hD hS hl
  subst hv; exact lv_ladd hx hb hdg (k H locs ls hP hD hS hl)
theorem zr_lmul (O : zOK l R cc nL Ts own D tys A Z) {x y v : Int64} (hdg : decode cc pc = .ok (.lmul, 1)) (hv : x * y = v) (hpc : pc + 1 = pc2) (k : Z ws lv pc2 (.long v :: st)) : Z ws lv pc (.long y :: .long x :: st) := by
  obtain ⟨p, e, s, m, args, below, meth, c, cells, slots, Q, ⟨hx, hb, hml, ho, hts⟩, ⟨hK, hN⟩, hroom, rfl⟩ := O
  subst hpc
  intro H locs ls hP hD hS hl
  subst hv; exact lv_lmul hx hb hdg (k H locs ls hP hD hS hl)
theorem zr_ldiv (O : zOK l R cc nL Ts own D tys A Z) {x y v : Int64} (hdg : decode cc pc = .ok (.ldiv, 1)) (hne : ¬ y = 0) (hv : x / y = v) (hpc : pc + 1 = pc2) (k : Z ws lv pc2 (.long v :: st)) : Z ws lv pc (.long y :: .long x :: st) := by
  obtain ⟨p, e, s, m, args, below, meth, c, cells, slots, Q, ⟨hx, hb, hml, ho, hts⟩, ⟨hK, hN⟩, hroom, rfl⟩ := O
  subst hpc
  intro H locs ls hP hD hS hl
  subst hv; exact lv_ldiv hx hb hdg hne (k H locs ls hP hD hS hl)
theorem zr_lrem (O : zOK l R cc nL Ts own D tys A Z) {x y v : Int64} (hdg : decode cc pc = .ok (.lrem, 1)) (hne : ¬ y = 0) (hv : x - x / y * y = v) (hpc : pc + 1 = pc2) (k : Z ws lv pc2 (.long v :: st)) : Z ws lv pc (.long y :: .long x :: st) := by
  obtain ⟨p, e, s, m, args, below, meth, c, cells, slots, Q, ⟨hx, hb, hml, ho, hts⟩, ⟨hK, hN⟩, hroom, rfl⟩ := O
  subst hpc
  intro H locs ls hP hD hS hl
  subst hv; exact lv_lrem hx hb hdg hne (k H locs ls hP hD hS hl)
theorem zr_i2l (O : zOK l R cc nL Ts own D tys A Z) {x : Int32} {v : Int64} (hdg : decode cc pc = .ok (.i2l, 1)) (hv : x.toInt64 = v) (hpc : pc + 1 = pc2) (k : Z ws lv pc2 (.long v :: st)) : Z ws lv pc (.int x :: st) := by
  obtain ⟨p, e, s, m, args, below, meth, c, cells, slots, Q, ⟨hx, hb, hml, ho, hts⟩, ⟨hK, hN⟩, hroom, rfl⟩ := O
  subst hpc
  intro H locs ls hP hD hS hl
  exact lv_i2l hx hb hdg hv (k H locs ls hP hD hS hl)
theorem zr_i2c (O : zOK l R cc nL Ts own D tys A Z) {x v : Int32} (hdg : decode cc pc = .ok (.i2c, 1)) (hv : (x.toUInt32 % 65536).toInt32 = v) (hpc : pc + 1 = pc2) (k : Z ws lv pc2 (.int v :: st)) : Z ws lv pc (.int x :: st) := by
  obtain ⟨p, e, s, m, args, below, meth, c, cells, slots, Q, ⟨hx, hb, hml, ho, hts⟩, ⟨hK, hN⟩, hroom, rfl⟩ := O
  subst hpc
  intro H locs ls hP hD hS hl
  exact lv_i2c hx hb hdg hv (k H locs ls hP hD hS hl)
theorem zr_dup (O : zOK l R cc nL Ts own D tys A Z) {x : Value} (hdg : decode cc pc = .ok (.dup, 1)) (hx1 : x.category = 1) (hpc : pc + 1 = pc2) (k : Z ws lv pc2 (x :: x :: st)) : Z ws lv pc (x :: st) := by
  obtain ⟨p, e, s, m, args, below, meth, c, cells, slots, Q, ⟨hx, hb, hml, ho, hts⟩, ⟨hK, hN⟩, hroom, rfl⟩ := O
  subst hpc
  intro H locs ls hP hD hS hl
  exact lv_dup hx hb hdg hx1 (k H locs ls hP hD hS hl)
theorem zr_pop (O : zOK l R cc nL Ts own D tys A Z) {x : Value} (hdg : decode cc pc = .ok (.pop, 1)) (hx1 : x.category = 1) (hpc : pc + 1 = pc2) (k : Z ws lv pc2 (st)) : Z ws lv pc (x :: st) := by
  obtain ⟨p, e, s, m, args, below, meth, c, cells, slots, Q, ⟨hx, hb, hml, ho, hts⟩, ⟨hK, hN⟩, hroom, rfl⟩ := O
  subst hpc
  intro H locs ls hP hD hS hl
  exact lv_pop hx hb hdg hx1 (k H locs ls hP hD hS hl)
theorem zr_dup2 (O : zOK l R cc nL Ts own D tys A Z) {x y : Value} (hdg : decode cc pc = .ok (.dup2, 1)) (hx1 : x.category = 1) (hy1 : y.category = 1) (hpc : pc + 1 = pc2) (k : Z ws lv pc2 (x :: y :: x :: y :: st)) : Z ws lv pc (x :: y :: st) := by
  obtain ⟨p, e, s, m, args, below, meth, c, cells, slots, Q, ⟨hx, hb, hml, ho, hts⟩, ⟨hK, hN⟩, hroom, rfl⟩ := O
  subst hpc
  intro H locs ls hP hD hS hl
  exact lv_dup2_11 hx hb hdg hx1 hy1 (k H locs ls hP hD hS hl)
theorem zr_lcmp (O : zOK l R cc nL Ts own D tys A Z) {x y : Int64} {v : Int32} (hdg : decode cc pc = .ok (.lcmp, 1)) (hv : lg_cmp x y = v) (hpc : pc + 1 = pc2) (k : Z ws lv pc2 (.int v :: st)) : Z ws lv pc (.long y :: .long x :: st) := by
  obtain ⟨p, e, s, m, args, below, meth, c, cells, slots, Q, ⟨hx, hb, hml, ho, hts⟩, ⟨hK, hN⟩, hroom, rfl⟩ := O
  subst hpc
  intro H locs ls hP hD hS hl
  subst hv; exact W.lcmp hx hb hdg (k H locs ls hP hD hS hl)
theorem zr_ldc2 (O : zOK l R cc nL Ts own D tys A Z) {idx : Nat} {v : Int64} (hc : Cond.constantLong own idx v ∈ Ts) (hdg : decode cc pc = .ok (.ldc2_w idx, 3)) (hpc : pc + 3 = pc2) (k : Z ws lv pc2 (.long v :: st)) : Z ws lv pc (st) := by
  obtain ⟨p, e, s, m, args, below, meth, c, cells, slots, Q, ⟨hx, hb, hml, ho, hts⟩, ⟨hK, hN⟩, hroom, rfl⟩ := O
  subst hpc
  intro H locs ls hP hD hS hl
  exact lv_ldc2 hx hb ho (hts _ hc) hdg (k H locs ls hP hD hS hl)
theorem zr_ldc (O : zOK l R cc nL Ts own D tys A Z) {idx : Nat} {v : Int32} (hc : Cond.constant own idx v ∈ Ts) (hdg : decode cc pc = .ok (.ldc idx, 2)) (hpc : pc + 2 = pc2) (k : Z ws lv pc2 (.int v :: st)) : Z ws lv pc (st) := by
  obtain ⟨p, e, s, m, args, below, meth, c, cells, slots, Q, ⟨hx, hb, hml, ho, hts⟩, ⟨hK, hN⟩, hroom, rfl⟩ := O
  subst hpc
  intro H locs ls hP hD hS hl
  exact lv_ldc hx hb ho (hts _ hc) hdg (k H locs ls hP hD hS hl)
theorem zr_ldcw (O : zOK l R cc nL Ts own D tys A Z) {idx : Nat} {v : Int32} (hc : Cond.constant own idx v ∈ Ts) (hdg : decode cc pc = .ok (.ldc_w idx, 3)) (hpc : pc + 3 = pc2) (k : Z ws lv pc2 (.int v :: st)) : Z ws lv pc (st) := by
  obtain ⟨p, e, s, m, args, below, meth, c, cells, slots, Q, ⟨hx, hb, hml, ho, hts⟩, ⟨hK, hN⟩, hroom, rfl⟩ := O
  subst hpc
  intro H locs ls hP hD hS hl
  exact lv_ldcw hx hb ho (hts _ hc) hdg (k H locs ls hP hD hS hl)
theorem zr_if_eq (O : zOK l R cc nL Ts own D tys A Z) {x : Int32} {off : Int} {tgt : Nat} (hdg : decode cc pc = .ok (.ifCond .eq off, 3)) (ht : (pc : Int) + off = (tgt : Int)) (hpc : pc + 3 = pc2) (kt : x = 0 → Z ws lv tgt st) (kf : ¬ x = 0 → Z ws lv pc2 st) : Z ws lv pc (.int x :: st) := by
  obtain ⟨p, e, s, m, args, below, meth, c, cells, slots, Q, ⟨hx, hb, hml, ho, hts⟩, ⟨hK, hN⟩, hroom, rfl⟩ := O
  subst hpc
  intro H locs ls hP hD hS hl
  exact lv_if_eq hx hb hdg ht (fun h => kt h H locs ls hP hD hS hl) (fun h => kf h H locs ls hP hD hS hl)
theorem zr_if_ne (O : zOK l R cc nL Ts own D tys A Z) {x : Int32} {off : Int} {tgt : Nat} (hdg : decode cc pc = .ok (.ifCond .ne off, 3)) (ht : (pc : Int) + off = (tgt : Int)) (hpc : pc + 3 = pc2) (kt : ¬ x = 0 → Z ws lv tgt st) (kf : x = 0 → Z ws lv pc2 st) : Z ws lv pc (.int x :: st) := by
  obtain ⟨p, e, s, m, args, below, meth, c, cells, slots, Q, ⟨hx, hb, hml, ho, hts⟩, ⟨hK, hN⟩, hroom, rfl⟩ := O
  subst hpc
  intro H locs ls hP hD hS hl
  exact lv_if_ne hx hb hdg ht (fun h => kt h H locs ls hP hD hS hl) (fun h => kf h H locs ls hP hD hS hl)
theorem zr_if_lt (O : zOK l R cc nL Ts own D tys A Z) {x : Int32} {off : Int} {tgt : Nat} (hdg : decode cc pc = .ok (.ifCond .lt off, 3)) (ht : (pc : Int) + off = (tgt : Int)) (hpc : pc + 3 = pc2) (kt : x < 0 → Z ws lv tgt st) (kf : ¬ x < 0 → Z ws lv pc2 st) : Z ws lv pc (.int x :: st) := by
  obtain ⟨p, e, s, m, args, below, meth, c, cells, slots, Q, ⟨hx, hb, hml, ho, hts⟩, ⟨hK, hN⟩, hroom, rfl⟩ := O
  subst hpc
  intro H locs ls hP hD hS hl
  exact lv_if_lt hx hb hdg ht (fun h => kt h H locs ls hP hD hS hl) (fun h => kf h H locs ls hP hD hS hl)
theorem zr_if_ge (O : zOK l R cc nL Ts own D tys A Z) {x : Int32} {off : Int} {tgt : Nat} (hdg : decode cc pc = .ok (.ifCond .ge off, 3)) (ht : (pc : Int) + off = (tgt : Int)) (hpc : pc + 3 = pc2) (kt : 0 ≤ x → Z ws lv tgt st) (kf : ¬ 0 ≤ x → Z ws lv pc2 st) : Z ws lv pc (.int x :: st) := by
  obtain ⟨p, e, s, m, args, below, meth, c, cells, slots, Q, ⟨hx, hb, hml, ho, hts⟩, ⟨hK, hN⟩, hroom, rfl⟩ := O
  subst hpc
  intro H locs ls hP hD hS hl
  exact lv_if_ge hx hb hdg ht (fun h => kt h H locs ls hP hD hS hl) (fun h => kf h H locs ls hP hD hS hl)
theorem zr_if_gt (O : zOK l R cc nL Ts own D tys A Z) {x : Int32} {off : Int} {tgt : Nat} (hdg : decode cc pc = .ok (.ifCond .gt off, 3)) (ht : (pc : Int) + off = (tgt : Int)) (hpc : pc + 3 = pc2) (kt : 0 < x → Z ws lv tgt st) (kf : ¬ 0 < x → Z ws lv pc2 st) : Z ws lv pc (.int x :: st) := by
  obtain ⟨p, e, s, m, args, below, meth, c, cells, slots, Q, ⟨hx, hb, hml, ho, hts⟩, ⟨hK, hN⟩, hroom, rfl⟩ := O
  subst hpc
  intro H locs ls hP hD hS hl
  exact lv_if_gt hx hb hdg ht (fun h => kt h H locs ls hP hD hS hl) (fun h => kf h H locs ls hP hD hS hl)
theorem zr_if_le (O : zOK l R cc nL Ts own D tys A Z) {x : Int32} {off : Int} {tgt : Nat} (hdg : decode cc pc = .ok (.ifCond .le off, 3)) (ht : (pc : Int) + off = (tgt : Int)) (hpc : pc + 3 = pc2) (kt : x ≤ 0 → Z ws lv tgt st) (kf : ¬ x ≤ 0 → Z ws lv pc2 st) : Z ws lv pc (.int x :: st) := by
  obtain ⟨p, e, s, m, args, below, meth, c, cells, slots, Q, ⟨hx, hb, hml, ho, hts⟩, ⟨hK, hN⟩, hroom, rfl⟩ := O
  subst hpc
  intro H locs ls hP hD hS hl
  exact lv_if_le hx hb hdg ht (fun h => kt h H locs ls hP hD hS hl) (fun h => kf h H locs ls hP hD hS hl)
theorem zr_icmp_eq (O : zOK l R cc nL Ts own D tys A Z) {x y : Int32} {off : Int} {tgt : Nat} (hdg : decode cc pc = .ok (.if_icmp .eq off, 3)) (ht : (pc : Int) + off = (tgt : Int)) (hpc : pc + 3 = pc2) (kt : x = y → Z ws lv tgt st) (kf : ¬ x = y → Z ws lv pc2 st) : Z ws lv pc (.int y :: .int x :: st) := by
  obtain ⟨p, e, s, m, args, below, meth, c, cells, slots, Q, ⟨hx, hb, hml, ho, hts⟩, ⟨hK, hN⟩, hroom, rfl⟩ := O
  subst hpc
  intro H locs ls hP hD hS hl
  exact lv_icmp_eq hx hb hdg ht (fun h => kt h H locs ls hP hD hS hl) (fun h => kf h H locs ls hP hD hS hl)
theorem zr_icmp_ne (O : zOK l R cc nL Ts own D tys A Z) {x y : Int32} {off : Int} {tgt : Nat} (hdg : decode cc pc = .ok (.if_icmp .ne off, 3)) (ht : (pc : Int) + off = (tgt : Int)) (hpc : pc + 3 = pc2) (kt : ¬ x = y → Z ws lv tgt st) (kf : x = y → Z ws lv pc2 st) : Z ws lv pc (.int y :: .int x :: st) := by
  obtain ⟨p, e, s, m, args, below, meth, c, cells, slots, Q, ⟨hx, hb, hml, ho, hts⟩, ⟨hK, hN⟩, hroom, rfl⟩ := O
  subst hpc
  intro H locs ls hP hD hS hl
  exact lv_icmp_ne hx hb hdg ht (fun h => kt h H locs ls hP hD hS hl) (fun h => kf h H locs ls hP hD hS hl)
theorem zr_icmp_lt (O : zOK l R cc nL Ts own D tys A Z) {x y : Int32} {off : Int} {tgt : Nat} (hdg : decode cc pc = .ok (.if_icmp .lt off, 3)) (ht : (pc : Int) + off = (tgt : Int)) (hpc : pc + 3 = pc2) (kt : x < y → Z ws lv tgt st) (kf : ¬ x < y → Z ws lv pc2 st) : Z ws lv pc (.int y :: .int x :: st) := by
  obtain ⟨p, e, s, m, args, below, meth, c, cells, slots, Q, ⟨hx, hb, hml, ho, hts⟩, ⟨hK, hN⟩, hroom, rfl⟩ := O
  subst hpc
  intro H locs ls hP hD hS hl
  exact lv_icmp_lt hx hb hdg ht (fun h => kt h H locs ls hP hD hS hl) (fun h => kf h H locs ls hP hD hS hl)
theorem zr_icmp_ge (O : zOK l R cc nL Ts own D tys A Z) {x y : Int32} {off : Int} {tgt : Nat} (hdg : decode cc pc = .ok (.if_icmp .ge off, 3)) (ht : (pc : Int) + off = (tgt : Int)) (hpc : pc + 3 = pc2) (kt : y ≤ x → Z ws lv tgt st) (kf : ¬ y ≤ x → Z ws lv pc2 st) : Z ws lv pc (.int y :: .int x :: st) := by
  obtain ⟨p, e, s, m, args, below, meth, c, cells, slots, Q, ⟨hx, hb, hml, ho, hts⟩, ⟨hK, hN⟩, hroom, rfl⟩ := O
  subst hpc
  intro H locs ls hP hD hS hl
  exact lv_icmp_ge hx hb hdg ht (fun h => kt h H locs ls hP hD hS hl) (fun h => kf h H locs ls hP hD hS hl)
theorem zr_icmp_gt (O : zOK l R cc nL Ts own D tys A Z) {x y : Int32} {off : Int} {tgt : Nat} (hdg : decode cc pc = .ok (.if_icmp .gt off, 3)) (ht : (pc : Int) + off = (tgt : Int)) (hpc : pc + 3 = pc2) (kt : y < x → Z ws lv tgt st) (kf : ¬ y < x → Z ws lv pc2 st) : Z ws lv pc (.int y :: .int x :: st) := by
  obtain ⟨p, e, s, m, args, below, meth, c, cells, slots, Q, ⟨hx, hb, hml, ho, hts⟩, ⟨hK, hN⟩, hroom, rfl⟩ := O
  subst hpc
  intro H locs ls hP hD hS hl
  exact lv_icmp_gt hx hb hdg ht (fun h => kt h H locs ls hP hD hS hl) (fun h => kf h H locs ls hP hD hS hl)
theorem zr_icmp_le (O : zOK l R cc nL Ts own D tys A Z) {x y : Int32} {off : Int} {tgt : Nat} (hdg : decode cc pc = .ok (.if_icmp .le off, 3)) (ht : (pc : Int) + off = (tgt : Int)) (hpc : pc + 3 = pc2) (kt : x ≤ y → Z ws lv tgt st) (kf : ¬ x ≤ y → Z ws lv pc2 st) : Z ws lv pc (.int y :: .int x :: st) := by
  obtain ⟨p, e, s, m, args, below, meth, c, cells, slots, Q, ⟨hx, hb, hml, ho, hts⟩, ⟨hK, hN⟩, hroom, rfl⟩ := O
  subst hpc
  intro H locs ls hP hD hS hl
  exact lv_icmp_le hx hb hdg ht (fun h => kt h H locs ls hP hD hS hl) (fun h => kf h H locs ls hP hD hS hl)
theorem zn_icmp_eq (O : zOK l R cc nL Ts own D tys A Z) {a b : Nat} {off : Int} {tgt : Nat} (hdg : decode cc pc = .ok (.if_icmp .eq off, 3)) (ht : (pc : Int) + off = (tgt : Int)) (hpc : pc + 3 = pc2) (ha : a < 2 ^ 31) (hb2 : b < 2 ^ 31) (kt : a = b → Z ws lv tgt st) (kf : ¬ a = b → Z ws lv pc2 st) : Z ws lv pc (.int (nI b) :: .int (nI a) :: st) := zr_icmp_eq O hdg ht hpc (fun h => kt ((nI_eq ha hb2).mp h)) (fun h => kf (fun z => h ((nI_eq ha hb2).mpr z)))
theorem zn_icmp_ne (O : zOK l R cc nL Ts own D tys A Z) {a b : Nat} {off : Int} {tgt : Nat} (hdg : decode cc pc = .ok (.if_icmp .ne off, 3)) (ht : (pc : Int) + off = (tgt : Int)) (hpc : pc + 3 = pc2) (ha : a < 2 ^ 31) (hb2 : b < 2 ^ 31) (kt : ¬ a = b → Z ws lv tgt st) (kf : a = b → Z ws lv pc2 st) : Z ws lv pc (.int (nI b) :: .int (nI a) :: st) := zr_icmp_ne O hdg ht hpc (fun h => kt (fun z => h ((nI_eq ha hb2).mpr z))) (fun h => kf ((nI_eq ha hb2).mp h))
theorem zn_icmp_lt (O : zOK l R cc nL Ts own D tys A Z) {a b : Nat} {off : Int} {tgt : Nat} (hdg : decode cc pc = .ok (.if_icmp .lt off, 3)) (ht : (pc : Int) + off = (tgt : Int)) (hpc : pc + 3 = pc2) (ha : a < 2 ^ 31) (hb2 : b < 2 ^ 31) (kt : a < b → Z ws lv tgt st) (kf : ¬ a < b → Z ws lv pc2 st) : Z ws lv pc (.int (nI b) :: .int (nI a) :: st) := zr_icmp_lt O hdg ht hpc (fun h => kt ((nI_ltI ha hb2).mp h)) (fun h => kf (fun z => h ((nI_ltI ha hb2).mpr z)))
theorem zn_icmp_ge (O : zOK l R cc nL Ts own D tys A Z) {a b : Nat} {off : Int} {tgt : Nat} (hdg : decode cc pc = .ok (.if_icmp .ge off, 3)) (ht : (pc : Int) + off = (tgt : Int)) (hpc : pc + 3 = pc2) (ha : a < 2 ^ 31) (hb2 : b < 2 ^ 31) (kt : b ≤ a → Z ws lv tgt st) (kf : ¬ b ≤ a → Z ws lv pc2 st) : Z ws lv pc (.int (nI b) :: .int (nI a) :: st) := zr_icmp_ge O hdg ht hpc (fun h => kt ((nI_leI hb2 ha).mp h)) (fun h => kf (fun z => h ((nI_leI hb2 ha).mpr z)))
theorem zn_icmp_gt (O : zOK l R cc nL Ts own D tys A Z) {a b : Nat} {off : Int} {tgt : Nat} (hdg : decode cc pc = .ok (.if_icmp .gt off, 3)) (ht : (pc : Int) + off = (tgt : Int)) (hpc : pc + 3 = pc2) (ha : a < 2 ^ 31) (hb2 : b < 2 ^ 31) (kt : b < a → Z ws lv tgt st) (kf : ¬ b < a → Z ws lv pc2 st) : Z ws lv pc (.int (nI b) :: .int (nI a) :: st) := zr_icmp_gt O hdg ht hpc (fun h => kt ((nI_ltI hb2 ha).mp h)) (fun h => kf (fun z => h ((nI_ltI hb2 ha).mpr z)))
theorem zn_icmp_le (O : zOK l R cc nL Ts own D tys A Z) {a b : Nat} {off : Int} {tgt : Nat} (hdg : decode cc pc = .ok (.if_icmp .le off, 3)) (ht : (pc : Int) + off = (tgt : Int)) (hpc : pc + 3 = pc2) (ha : a < 2 ^ 31) (hb2 : b < 2 ^ 31) (kt : a ≤ b → Z ws lv tgt st) (kf : ¬ a ≤ b → Z ws lv pc2 st) : Z ws lv pc (.int (nI b) :: .int (nI a) :: st) := zr_icmp_le O hdg ht hpc (fun h => kt ((nI_leI ha hb2).mp h)) (fun h => kf (fun z => h ((nI_leI ha hb2).mpr z)))
theorem zn_if_eq (O : zOK l R cc nL Ts own D tys A Z) {a : Nat} {off : Int} {tgt : Nat} (hdg : decode cc pc = .ok (.ifCond .eq off, 3)) (ht : (pc : Int) + off = (tgt : Int)) (hpc : pc + 3 = pc2) (ha : a < 2 ^ 31) (kt : a = 0 → Z ws lv tgt st) (kf : ¬ a = 0 → Z ws lv pc2 st) : Z ws lv pc (.int (nI a) :: st) := zr_if_eq O hdg ht hpc (fun h => kt ((nI_eq ha (by decide)).mp (h.trans nI_0.symm))) (fun h => kf (fun z => h (by rw [z]; exact nI_0)))
theorem zn_if_ne (O : zOK l R cc nL Ts own D tys A Z) {a : Nat} {off : Int} {tgt : Nat} (hdg : decode cc pc = .ok (.ifCond .ne off, 3)) (ht : (pc : Int) + off = (tgt : Int)) (hpc : pc + 3 = pc2) (ha : a < 2 ^ 31) (kt : ¬ a = 0 → Z ws lv tgt st) (kf : a = 0 → Z ws lv pc2 st) : Z ws lv pc (.int (nI a) :: st) := zr_if_ne O hdg ht hpc (fun h => kt (fun z => h (by rw [z]; exact nI_0))) (fun h => kf ((nI_eq ha (by decide)).mp (h.trans nI_0.symm)))
theorem zn_if_lt (O : zOK l R cc nL Ts own D tys A Z) {a : Nat} {off : Int} {tgt : Nat} (hdg : decode cc pc = .ok (.ifCond .lt off, 3)) (ht : (pc : Int) + off = (tgt : Int)) (hpc : pc + 3 = pc2) (ha : a < 2 ^ 31) (kt : False → Z ws lv tgt st) (kf : True → Z ws lv pc2 st) : Z ws lv pc (.int (nI a) :: st) := zr_if_lt O hdg ht hpc (fun h => absurd h (nI_pos ha)) (fun _ => kf trivial)
theorem zn_if_ge (O : zOK l R cc nL Ts own D tys A Z) {a : Nat} {off : Int} {tgt : Nat} (hdg : decode cc pc = .ok (.ifCond .ge off, 3)) (ht : (pc : Int) + off = (tgt : Int)) (hpc : pc + 3 = pc2) (ha : a < 2 ^ 31) (kt : True → Z ws lv tgt st) (kf : False → Z ws lv pc2 st) : Z ws lv pc (.int (nI a) :: st) := zr_if_ge O hdg ht hpc (fun _ => kt trivial) (fun h => absurd (nI_pos' ha) h)
theorem zn_if_gt (O : zOK l R cc nL Ts own D tys A Z) {a : Nat} {off : Int} {tgt : Nat} (hdg : decode cc pc = .ok (.ifCond .gt off, 3)) (ht : (pc : Int) + off = (tgt : Int)) (hpc : pc + 3 = pc2) (ha : a < 2 ^ 31) (kt : 0 < a → Z ws lv tgt st) (kf : ¬ 0 < a → Z ws lv pc2 st) : Z ws lv pc (.int (nI a) :: st) := zr_if_gt O hdg ht hpc (fun h => kt ((nI_ltI (by decide) ha).mp (by rw [nI_0]; exact h))) (fun h => kf (fun z => h (by rw [← nI_0]; exact (nI_ltI (by decide) ha).mpr z)))
theorem zn_if_le (O : zOK l R cc nL Ts own D tys A Z) {a : Nat} {off : Int} {tgt : Nat} (hdg : decode cc pc = .ok (.ifCond .le off, 3)) (ht : (pc : Int) + off = (tgt : Int)) (hpc : pc + 3 = pc2) (ha : a < 2 ^ 31) (kt : a = 0 → Z ws lv tgt st) (kf : ¬ a = 0 → Z ws lv pc2 st) : Z ws lv pc (.int (nI a) :: st) := zr_if_le O hdg ht hpc (fun h => kt (Nat.le_zero.mp ((nI_leI ha (by decide)).mp (by rw [nI_0]; exact h)))) (fun h => kf (fun z => h (by rw [z, nI_0]; exact Int32.le_refl _)))
theorem zb_if_eq (O : zOK l R cc nL Ts own D tys A Z) {b : Bool} {off : Int} {tgt : Nat} (hdg : decode cc pc = .ok (.ifCond .eq off, 3)) (ht : (pc : Int) + off = (tgt : Int)) (hpc : pc + 3 = pc2) (kt : b = false → Z ws lv tgt st) (kf : b = true → Z ws lv pc2 st) : Z ws lv pc (.int (zb b) :: st) := zr_if_eq O hdg ht hpc (fun h => kt ((zb_eq0 b).mp h)) (fun h => kf (by cases hb2 : b with | true => rfl | false => exact absurd ((zb_eq0 b).mpr hb2) h))
theorem zb_if_ne (O : zOK l R cc nL Ts own D tys A Z) {b : Bool} {off : Int} {tgt : Nat} (hdg : decode cc pc = .ok (.ifCond .ne off, 3)) (ht : (pc : Int) + off = (tgt : Int)) (hpc : pc + 3 = pc2) (kt : b = true → Z ws lv tgt st) (kf : b = false → Z ws lv pc2 st) : Z ws lv pc (.int (zb b) :: st) := zr_if_ne O hdg ht hpc (fun h => kt (by cases hb2 : b with | true => rfl | false => exact absurd ((zb_eq0 b).mpr hb2) h)) (fun h => kf ((zb_eq0 b).mp h))
theorem zr_goto (O : zOK l R cc nL Ts own D tys A Z) {off : Int} {tgt : Nat} (hdg : decode cc pc = .ok (.goto off, 3)) (ht : (pc : Int) + off = (tgt : Int)) (k : Z ws lv tgt st) : Z ws lv pc st := by
  obtain ⟨p, e, s, m, args, below, meth, c, cells, slots, Q, ⟨hx, hb, hml, ho, hts⟩, ⟨hK, hN⟩, hroom, rfl⟩ := O
  intro H locs ls hP hD hS hl
  exact lv_goto hx hb hdg ht (k H locs ls hP hD hS hl)
theorem zr_tabOut (O : zOK l R cc nL Ts own D tys A Z) {dflt lo hi : Int} {offs : Array Int} {len : Nat} {x : Int32} {tgt : Nat} (hdg : decode cc pc = .ok (.tableswitch dflt lo hi offs, len)) (h : x.toInt < lo ∨ hi < x.toInt) (ht : (pc : Int) + dflt = (tgt : Int)) (k : Z ws lv tgt st) : Z ws lv pc (.int x :: st) := by
  obtain ⟨p, e, s, m, args, below, meth, c, cells, slots, Q, ⟨hx, hb, hml, ho, hts⟩, ⟨hK, hN⟩, hroom, rfl⟩ := O
  intro H locs ls hP hD hS hl
  exact lv_tableOut hx hb hdg h ht (k H locs ls hP hD hS hl)
theorem zr_tabIn (O : zOK l R cc nL Ts own D tys A Z) {dflt lo hi : Int} {offs : Array Int} {len : Nat} {x : Int32} {off : Int} {tgt : Nat} (hdg : decode cc pc = .ok (.tableswitch dflt lo hi offs, len)) (h1 : ¬ x.toInt < lo) (h2 : ¬ hi < x.toInt) (hof : offs[(x.toInt - lo).toNat]? = some off) (ht : (pc : Int) + off = (tgt : Int)) (k : Z ws lv tgt st) : Z ws lv pc (.int x :: st) := by
  obtain ⟨p, e, s, m, args, below, meth, c, cells, slots, Q, ⟨hx, hb, hml, ho, hts⟩, ⟨hK, hN⟩, hroom, rfl⟩ := O
  intro H locs ls hP hD hS hl
  exact lv_tableIn hx hb hdg h1 h2 hof ht (k H locs ls hP hD hS hl)
theorem zr_lookup (O : zOK l R cc nL Ts own D tys A Z) {dflt : Int} {ps : Array (Int × Int)} {len : Nat} {x : Int32} {off : Int} {tgt : Nat} (hdg : decode cc pc = .ok (.lookupswitch dflt ps, len)) (hp : (ps.toList.zip (ps.toList.drop 1)).all (fun (a, next) => a.1 < next.1) = true) (hof : Op.lookupswitch.offset ps.toList dflt x.toInt = off) (ht : (pc : Int) + off = (tgt : Int)) (k : Z ws lv tgt st) : Z ws lv pc (.int x :: st) := by
  obtain ⟨p, e, s, m, args, below, meth, c, cells, slots, Q, ⟨hx, hb, hml, ho, hts⟩, ⟨hK, hN⟩, hroom, rfl⟩ := O
  intro H locs ls hP hD hS hl
  exact lv_lookup hx hb hdg hp hof ht (k H locs ls hP hD hS hl)
theorem zr_getf (O : zOK l R cc nL Ts own D tys A Z) {a idx ci kf : Nat} {fs : List Value} {v : Value} (hF : zGF Ts own idx ci kf) (g0 q0 : Nat) {G : va_W} (hg : ws[g0]? = some G) (he : G[q0]? = some (a, .inr (ci, fs))) (hv : fs[kf]? = some v) (hdg : decode cc pc = .ok (.getfield idx, 3)) (hpc : pc + 3 = pc2) (k : Z ws lv pc2 (v :: st)) : Z ws lv pc (.ref a :: st) := by
  obtain ⟨p, e, s, m, args, below, meth, c, cells, slots, Q, ⟨hx, hb, hml, ho, hts⟩, ⟨hK, hN⟩, hroom, rfl⟩ := O
  subst hpc
  intro H locs ls hP hD hS hl
  obtain ⟨C, T, N, h1, h2, h3, h4, h5⟩ := hF
  rcases h5 with ⟨host, h5⟩ | h5
  · exact va_getN hx hb hts h2 ho hK hP (zoff ws g0 + q0) (zflat_at _ _ _ _ _ hg he) h1 kf h3 ((hN _ h5).use (zNest_on _ h5)) (fun x hx => by rw [h4] at hx; exact hx) hv hdg (k H locs ls hP hD hS hl)
  · exact va_get hx hb hts h2 ho hK hP (zoff ws g0 + q0) (zflat_at _ _ _ _ _ hg he) h1 kf h3 (hts _ h5) (fun x hx => by rw [h4] at hx; exact hx) hv hdg (k H locs ls hP hD hS hl)
theorem zr_putf (O : zOK l R cc nL Ts own D tys A Z) {a idx ci kf : Nat} {ty : FieldType} {fs : List Value} {v : Value} (hF : zPF Ts own idx ci kf ty) (g0 q0 : Nat) {G : va_W} (hg : ws[g0]? = some G) (he : G[q0]? = some (a, .inr (ci, fs))) (hn : narrow ty v = v) (hfit : fits ty v = true) (hlen : kf < fs.length) (hdg : decode cc pc = .ok (.putfield idx, 3)) {G2 : va_W} (hG2 : G.set q0 (a, .inr (ci, fs.set kf v)) = G2) (hws : ws.set g0 G2 = ws2) (hpc : pc + 3 = pc2) (k : Z ws2 lv pc2 st) : Z ws lv pc (v :: .ref a :: st) := by
  obtain ⟨p, e, s, m, args, below, meth, c, cells, slots, Q, ⟨hx, hb, hml, ho, hts⟩, ⟨hK, hN⟩, hroom, rfl⟩ := O
  subst hpc
  intro H locs ls hP hD hS hl
  subst hws
  subst hG2
  obtain ⟨C, T, N, ty0, h1, h2, h3, h4, h5, h6, h7, h8, h9⟩ := hF
  rcases h5 with ⟨host, h5⟩ | h5
  · exact va_putN hx hb hts h2 ty0 h6 h7 ho hK hP hD hS (zoff ws g0 + q0) (zflat_at _ _ _ _ _ hg he) h1 kf h3 ((hN _ h5).use (zNest_on _ h5)) (fun x hx => by rw [h4] at hx; exact hx) h8 h9 hn hfit hlen hdg (fun H1 locs1 hP1 hD1 hS1 => k H1 locs1 ls (by rw [zflat_set _ _ _ _ _ _ hg he] at hP1; exact hP1) (by rw [zflat_set _ _ _ _ _ _ hg he] at hD1; exact hD1) hS1 hl)
  · exact va_put hx hb hts h2 ty0 h6 h7 ho hK hP hD hS (zoff ws g0 + q0) (zflat_at _ _ _ _ _ hg he) h1 kf h3 (hts _ h5) (fun x hx => by rw [h4] at hx; exact hx) h8 h9 hn hfit hlen hdg (fun H1 locs1 hP1 hD1 hS1 => k H1 locs1 ls (by rw [zflat_set _ _ _ _ _ _ hg he] at hP1; exact hP1) (by rw [zflat_set _ _ _ _ _ _ hg he] at hD1; exact hD1) hS1 hl)
theorem zn_iald (O : zOK l R cc nL Ts own D tys A Z) {a n j : Nat} {cA : ClassId} {f : Nat → Int32} {x : Int32} (g0 q0 t0 : Nat) {G : va_W} (hg : ws[g0]? = some G) (he : G[q0]? = some (a, .inl (cA, n, .inl f))) (ht : tys[t0]? = some (cA, .int)) (hi : x = nI j) (hj : j < n) (hn : n < 2 ^ 31) (hdg : decode cc pc = .ok (.iaload, 1)) (hpc : pc + 1 = pc2) (k : Z ws lv pc2 (.int (f j) :: st)) : Z ws lv pc (.int x :: .ref a :: st) := by
  obtain ⟨p, e, s, m, args, below, meth, c, cells, slots, Q, ⟨hx, hb, hml, ho, hts⟩, ⟨hK, hN⟩, hroom, rfl⟩ := O
  subst hpc
  intro H locs ls hP hD hS hl
  subst hi
  refine va_iald hx hb hK hP (zoff ws g0 + q0) t0 (zflat_at _ _ _ _ _ hg he) ht (vp_in_nI hj hn) hdg ?_
  rw [nI_clamp (by omega)]
  exact k H locs ls hP hD hS hl
theorem zn_cald (O : zOK l R cc nL Ts own D tys A Z) {a n j : Nat} {cA : ClassId} {f : Nat → Int32} {x : Int32} (g0 q0 t0 : Nat) {G : va_W} (hg : ws[g0]? = some G) (he : G[q0]? = some (a, .inl (cA, n, .inl f))) (ht : tys[t0]? = some (cA, .char)) (hi : x = nI j) (hj : j < n) (hn : n < 2 ^ 31) (hdg : decode cc pc = .ok (.caload, 1)) (hpc : pc + 1 = pc2) (k : Z ws lv pc2 (.int (f j) :: st)) : Z ws lv pc (.int x :: .ref a :: st) := by
  obtain ⟨p, e, s, m, args, below, meth, c, cells, slots, Q, ⟨hx, hb, hml, ho, hts⟩, ⟨hK, hN⟩, hroom, rfl⟩ := O
  subst hpc
  intro H locs ls hP hD hS hl
  subst hi
  refine va_cald hx hb hK hP (zoff ws g0 + q0) t0 (zflat_at _ _ _ _ _ hg he) ht (vp_in_nI hj hn) hdg ?_
  rw [nI_clamp (by omega)]
  exact k H locs ls hP hD hS hl
theorem zr_iald (O : zOK l R cc nL Ts own D tys A Z) {a n : Nat} {cA : ClassId} {f : Nat → Int32} {x : Int32} (g0 q0 t0 : Nat) {G : va_W} (hg : ws[g0]? = some G) (he : G[q0]? = some (a, .inl (cA, n, .inl f))) (ht : tys[t0]? = some (cA, .int)) (hi : vp_in x n) (hdg : decode cc pc = .ok (.iaload, 1)) (hpc : pc + 1 = pc2) (k : Z ws lv pc2 (.int (f x.toNatClampNeg) :: st)) : Z ws lv pc (.int x :: .ref a :: st) := by
  obtain ⟨p, e, s, m, args, below, meth, c, cells, slots, Q, ⟨hx, hb, hml, ho, hts⟩, ⟨hK, hN⟩, hroom, rfl⟩ := O
  subst hpc
  intro H locs ls hP hD hS hl
  exact va_iald hx hb hK hP (zoff ws g0 + q0) t0 (zflat_at _ _ _ _ _ hg he) ht hi hdg (k H locs ls hP hD hS hl)
theorem zr_iast (O : zOK l R cc nL Ts own D tys A Z) {a n : Nat} {cA : ClassId} {f : Nat → Int32} {x v : Int32} (g0 q0 t0 : Nat) {G : va_W} (hg : ws[g0]? = some G) (he : G[q0]? = some (a, .inl (cA, n, .inl f))) (ht : tys[t0]? = some (cA, .int)) (hi : vp_in x n) (hdg : decode cc pc = .ok (.iastore, 1)) {G2 : va_W} (hG2 : G.set q0 (a, .inl (cA, n, .inl (upd f x.toNatClampNeg v))) = G2) (hws : ws.set g0 G2 = ws2) (hpc : pc + 1 = pc2) (k : Z ws2 lv pc2 st) : Z ws lv pc (.int v :: .int x :: .ref a :: st) := by
  obtain ⟨p, e, s, m, args, below, meth, c, cells, slots, Q, ⟨hx, hb, hml, ho, hts⟩, ⟨hK, hN⟩, hroom, rfl⟩ := O
  subst hpc
  intro H locs ls hP hD hS hl
  subst hws
  subst hG2
  exact va_iast hx hb hK hP hD hS (zoff ws g0 + q0) t0 (zflat_at _ _ _ _ _ hg he) ht hi hdg (fun H1 locs1 hP1 hD1 hS1 => k H1 locs1 ls (by rw [zflat_set _ _ _ _ _ _ hg he] at hP1; exact hP1) (by rw [zflat_set _ _ _ _ _ _ hg he] at hD1; exact hD1) hS1 hl)
theorem zn_cast (O : zOK l R cc nL Ts own D tys A Z) {a n j : Nat} {cA : ClassId} {f : Nat → Int32} {x v v2 : Int32} (g0 q0 t0 : Nat) {G : va_W} (hg : ws[g0]? = some G) (he : G[q0]? = some (a, .inl (cA, n, .inl f))) (ht : tys[t0]? = some (cA, .char)) (hi : x = nI j) (hj : j < n) (hn : n < 2 ^ 31) (hv : vp_nar .char v = v2) (hdg : decode cc pc = .ok (.castore, 1)) {G2 : va_W} (hG2 : G.set q0 (a, .inl (cA, n, .inl (upd f j v2))) = G2) (hws : ws.set g0 G2 = ws2) (hpc : pc + 1 = pc2) (k : Z ws2 lv pc2 st) : Z ws lv pc (.int v :: .int x :: .ref a :: st) := by
  obtain ⟨p, e, s, m, args, below, meth, c, cells, slots, Q, ⟨hx, hb, hml, ho, hts⟩, ⟨hK, hN⟩, hroom, rfl⟩ := O
  subst hpc
  intro H locs ls hP hD hS hl
  subst hi
  subst hws
  subst hG2
  subst hv
  refine va_cast hx hb hK hP hD hS (zoff ws g0 + q0) t0 (zflat_at _ _ _ _ _ hg he) ht (vp_in_nI hj hn) hdg (fun H1 locs1 hP1 hD1 hS1 => ?_)
  rw [nI_clamp (by omega), zflat_set _ _ _ _ _ _ hg he] at hP1 hD1
  exact k H1 locs1 ls hP1 hD1 hS1 hl
theorem zn_iast (O : zOK l R cc nL Ts own D tys A Z) {a n j : Nat} {cA : ClassId} {f : Nat → Int32} {x v : Int32} (g0 q0 t0 : Nat) {G : va_W} (hg : ws[g0]? = some G) (he : G[q0]? = some (a, .inl (cA, n, .inl f))) (ht : tys[t0]? = some (cA, .int)) (hi : x = nI j) (hj : j < n) (hn : n < 2 ^ 31) (hdg : decode cc pc = .ok (.iastore, 1)) {G2 : va_W} (hG2 : G.set q0 (a, .inl (cA, n, .inl (upd f j v))) = G2) (hws : ws.set g0 G2 = ws2) (hpc : pc + 1 = pc2) (k : Z ws2 lv pc2 st) : Z ws lv pc (.int v :: .int x :: .ref a :: st) := by
  obtain ⟨p, e, s, m, args, below, meth, c, cells, slots, Q, ⟨hx, hb, hml, ho, hts⟩, ⟨hK, hN⟩, hroom, rfl⟩ := O
  subst hpc
  intro H locs ls hP hD hS hl
  subst hi
  subst hws
  subst hG2
  refine va_iast hx hb hK hP hD hS (zoff ws g0 + q0) t0 (zflat_at _ _ _ _ _ hg he) ht (vp_in_nI hj hn) hdg (fun H1 locs1 hP1 hD1 hS1 => ?_)
  rw [nI_clamp (by omega), zflat_set _ _ _ _ _ _ hg he] at hP1 hD1
  exact k H1 locs1 ls hP1 hD1 hS1 hl
theorem zn_alen (O : zOK l R cc nL Ts own D tys A Z) {a : Nat} {cA : ClassId} {x : vp_A} {ty : FieldType} {v : Int32} (g0 q0 t0 : Nat) {G : va_W} (hg : ws[g0]? = some G) (he : G[q0]? = some (a, .inl (cA, x))) (ht : tys[t0]? = some (cA, ty)) (hv : Int32.ofNat x.1 = v) (hdg : decode cc pc = .ok (.arraylength, 1)) (hpc : pc + 1 = pc2) (k : Z ws lv pc2 (.int v :: st)) : Z ws lv pc (.ref a :: st) := by
  obtain ⟨p, e, s, m, args, below, meth, c, cells, slots, Q, ⟨hx, hb, hml, ho, hts⟩, ⟨hK, hN⟩, hroom, rfl⟩ := O
  subst hpc
  intro H locs ls hP hD hS hl
  exact va_alen hx hb hK hP (zoff ws g0 + q0) t0 (zflat_at _ _ _ _ _ hg he) ht hv hdg (k H locs ls hP hD hS hl)
theorem zn_aald (O : zOK l R cc nL Ts own D tys A Z) {a n j r : Nat} {cA : ClassId} {ty : FieldType} {f : Nat → Option Nat} {x : Int32} (g0 q0 t0 : Nat) {G : va_W} (hg : ws[g0]? = some G) (he : G[q0]? = some (a, .inl (cA, n, .inr (.inr (.inr (.inr f)))))) (ht : tys[t0]? = some (cA, .array ty)) (hi : x = nI j) (hj : j < n) (hn : n < 2 ^ 31) (hr : f j = some r) (hdg : decode cc pc = .ok (.aaload, 1)) (hpc : pc + 1 = pc2) (k : Z ws lv pc2 (.ref r :: st)) : Z ws lv pc (.int x :: .ref a :: st) := by
  obtain ⟨p, e, s, m, args, below, meth, c, cells, slots, Q, ⟨hx, hb, hml, ho, hts⟩, ⟨hK, hN⟩, hroom, rfl⟩ := O
  subst hpc
  intro H locs ls hP hD hS hl
  subst hi
  have hin := vp_in_nI hj hn
  have hlt : (nI j).toNatClampNeg < n := Nat.not_le.mp fun q => hin (Or.inr q)
  refine W.aald (v := va_rf (f (nI j).toNatClampNeg)) (ty := .array ty) hx hb (hP _ _ (zflat_at _ _ _ _ _ hg he)) ((hK.2 t0 _ ht).1 n (fun j => va_rf (f j))) rfl (fun q => by cases q) (by show ¬ (nI j < 0 ∨ (arrV _ _ _).slots.size ≤ _); rw [arrV_size]; exact hin) (by show (arrV _ _ _).slots[_]? = _; rw [arrV_read _ _ hlt]) rfl rfl hdg ?_
  rw [nI_clamp (by omega), hr]
  exact k H locs ls hP hD hS hl
theorem zr_aald (O : zOK l R cc nL Ts own D tys A Z) {a n r : Nat} {cA : ClassId} {ty : FieldType} {f : Nat → Option Nat} {x : Int32} (g0 q0 t0 : Nat) {G : va_W} (hg : ws[g0]? = some G) (he : G[q0]? = some (a, .inl (cA, n, .inr (.inr (.inr (.inr f)))))) (ht : tys[t0]? = some (cA, .array ty)) (hin : vp_in x n) (hr : f x.toNatClampNeg = some r) (hdg : decode cc pc = .ok (.aaload, 1)) (hpc : pc + 1 = pc2) (k : Z ws lv pc2 (.ref r :: st)) : Z ws lv pc (.int x :: .ref a :: st) := by
  obtain ⟨p, e, s, m, args, below, meth, c, cells, slots, Q, ⟨hx, hb, hml, ho, hts⟩, ⟨hK, hN⟩, hroom, rfl⟩ := O
  subst hpc
  intro H locs ls hP hD hS hl
  have hlt : x.toNatClampNeg < n := Nat.not_le.mp fun q => hin (Or.inr q)
  refine W.aald (v := va_rf (f x.toNatClampNeg)) (ty := .array ty) hx hb (hP _ _ (zflat_at _ _ _ _ _ hg he)) ((hK.2 t0 _ ht).1 n (fun j => va_rf (f j))) rfl (fun q => by cases q) (by show ¬ (x < 0 ∨ (arrV _ _ _).slots.size ≤ _); rw [arrV_size]; exact hin) (by show (arrV _ _ _).slots[_]? = _; rw [arrV_read _ _ hlt]) rfl rfl hdg ?_
  rw [hr]
  exact k H locs ls hP hD hS hl
theorem zr_max (O : zOK l R cc nL Ts own D tys A Z) {idx : Nat} {x y v : Int32} (hl1 : Cond.methodLink own idx Lib.Math.max.name ∈ Ts) (hl2 : Cond.static Lib.Math.max.name ∈ Ts) (hl3 : Cond.initialized "java/lang/Math" ∈ Ts) (hl4 : Cond.code Lib.Math.max.name Lib.Math.max.code 2 (some .int) ∈ Ts) (hfr : 1 ≤ R.frames) (hlo : (st.map fun v => v.category).sum + 13 ≤ R.locals) (hdg : decode cc pc = .ok (.invokestatic idx, 3)) (hv : (if x < y then y else x) = v) (hpc : pc + 3 = pc2) (k : Z ws lv pc2 (.int v :: st)) : Z ws lv pc (.int y :: .int x :: st) := by
  obtain ⟨p, e, s, m, args, below, meth, c, cells, slots, Q, ⟨hx, hb, hml, ho, hts⟩, ⟨hK, hN⟩, hroom, rfl⟩ := O
  subst hpc
  intro H locs ls hP hD hS hl
  subst hv
  exact va_mmax hx hb (by rw [hml, hl.1]) ho (hts _ hl1) (hts _ hl2) (hts _ hl3) (hts _ hl4) hfr hlo hroom.1 hroom.2 hdg (k H locs ls hP hD hS hl)
theorem zr_min (O : zOK l R cc nL Ts own D tys A Z) {idx : Nat} {x y v : Int32} (hl1 : Cond.methodLink own idx Lib.Math.min.name ∈ Ts) (hl2 : Cond.static Lib.Math.min.name ∈ Ts) (hl3 : Cond.initialized "java/lang/Math" ∈ Ts) (hl4 : Cond.code Lib.Math.min.name Lib.Math.min.code 2 (some .int) ∈ Ts) (hfr : 1 ≤ R.frames) (hlo : (st.map fun v => v.category).sum + 13 ≤ R.locals) (hdg : decode cc pc = .ok (.invokestatic idx, 3)) (hv : (if y < x then y else x) = v) (hpc : pc + 3 = pc2) (k : Z ws lv pc2 (.int v :: st)) : Z ws lv pc (.int y :: .int x :: st) := by
  obtain ⟨p, e, s, m, args, below, meth, c, cells, slots, Q, ⟨hx, hb, hml, ho, hts⟩, ⟨hK, hN⟩, hroom, rfl⟩ := O
  subst hpc
  intro H locs ls hP hD hS hl
  subst hv
  exact va_mmin hx hb (by rw [hml, hl.1]) ho (hts _ hl1) (hts _ hl2) (hts _ hl3) (hts _ hl4) hfr hlo hroom.1 hroom.2 hdg (k H locs ls hP hD hS hl)
theorem zr_callV {As rest : List Value} {v : Option Value} {W W2 : List va_W} (O : zOK l R cc nL Ts own D tys A Z) {y : MethodName} {wy : List Cond} {rmy : Room} {b idx n ci q0 : Nat} {T9 : u_T} {N9 : Nat} {fs : List Value} (hM : zD l y wy rmy D tys (.ref b :: As) W v W2) (hS9 : zSV R Ts own idx y wy rmy n) (hc : vwCl[ci]? = some (y.cls, T9, N9)) {g0 : Nat} {G : va_W} (hg : ws[g0]? = some G) (he : G[q0]? = some (b, .inr (ci, fs))) (hn : As.length = n) (hst : As.reverse ++ .ref b :: rest = st) (hdg : decode cc pc = .ok (.invokevirtual idx, 3)) (isC : List Nat) (hnd : va_nd isC = true) (hC : isC.map (fun i => ws[i]?) = W.map some) (hadr : W2.map (fun G => G.map Prod.fst) = W.map (fun G => G.map Prod.fst)) (hws : zput ws isC W2 = ws2) (hsum : (rest.map fun v => v.category).sum ≤ 8) (hpc : pc + 3 = pc2) (k : Z ws2 lv pc2 (v.toList ++ rest)) : Z ws lv pc st := by
  obtain ⟨p, e, s, m, args, below, meth, c, cells, slots, Q, ⟨hx, hb, hml, ho, hts⟩, ⟨hK, hN⟩, hroom, rfl⟩ := O
  subst hpc
  subst hws
  subst hst
  intro H locs ls hP hD hS hl
  have hblind : FrameBlind (zPre D tys (.ref b :: As) W.flatten) := fun a U g mk q => ⟨q.1, q.2.1, ⟨va_K.moved (u := U) (U := U.calling g mk a) (Vm.Alike.refl U.vm) q.2.2.1.1, zNw.same (u := U) (U := U.calling g mk a) rfl q.2.2.1.2⟩, q.2.2.2⟩
  have hWs : va_P D vwCl W.flatten H := zselP hP hC
  have hDs : va_D (fun _ => True) W.flatten := (zselD hD hnd hC).weaken (fun _ _ _ _ => trivial)
  obtain ⟨bytes, maxL, ret, ws', hw, hG, hrc, hd, hR⟩ := hS9
  have HR := va_runV (e := e) (H := H) (locs := locs) (cells := cells) (slots := slots) (below := below) (meth := meth) (g := F0 m pc ls (As.reverse ++ .ref b :: rest)) (rest := rest) (As := As) ⟨hx, hb, hml, ho, hts⟩ hM (cwV n hts hG hw hrc.1 hrc.2 ⟨rfl, hd⟩ hR)
    ⟨hblind, va_recv hK hP hc (zflat_at _ _ _ _ _ hg he), fun U hU hW => ⟨rfl, by rw [hU]; exact hWs, ⟨va_K.moved hW.alike hK, zNw.warm hW hN⟩, hDs⟩⟩ rfl hn hl.1 rfl (lv_room hsum) hdg hroom
  intro T hT X
  obtain ⟨v', st₀, t, T', L, h0, X', hL, e1, e2, ⟨⟨hv', hP1⟩, hz, hk⟩, stp⟩ := HR T hT X
  cases hv'
  rw [h0] at hz hk
  rw [← e1] at hP1 hz
  have hk2 : ∀ q : Nat, q < H.size → ¬ zA W.flatten q → T'.heap[q]? = H[q]? := fun q h1 h2 => by rw [e1]; exact hk q h1 h2
  obtain ⟨hP2, hD2⟩ := zput_ok hP hD isC hC hadr hk2 hP1
  have hDW := zselD hD hnd hC
  have hAA : ∀ q, zA W.flatten q → A q := by
    rintro q ⟨j, e9, hj⟩
    exact hDW.2 j (q, e9) hj
  have hS2 : va_S A s.heap T'.heap (locs ++ L) := ⟨Nat.le_trans hS.1 hz, fun q h1 h2 => by
      rw [hk2 q (Nat.lt_of_lt_of_le h1 hS.1) (fun z => h2 (hAA q z))]; exact hS.2.1 q h1 h2, fun q hq => by
      rcases List.mem_append.mp hq with h | h
      · exact hS.2.2 q h
      · exact hAA _ (hL q h)⟩
  obtain ⟨t2, a1, b1⟩ := k T'.heap (locs ++ L) ls hP2 hD2 hS2 hl T' rfl X'
  exact ⟨t2, stp t2 a1, b1⟩
theorem zr_callS {As rest : List Value} {v : Option Value} {W W2 : List va_W} (O : zOK l R cc nL Ts own D tys A Z) {y : MethodName} {wy : List Cond} {rmy : Room} {idx n : Nat} (hM : zD l y wy rmy D tys As W v W2) (hS9 : zSS R Ts own idx y wy rmy n) (hn : As.length = n) (hst : As.reverse ++ rest = st) (hdg : decode cc pc = .ok (.invokestatic idx, 3)) (isC : List Nat) (hnd : va_nd isC = true) (hC : isC.map (fun i => ws[i]?) = W.map some) (hadr : W2.map (fun G => G.map Prod.fst) = W.map (fun G => G.map Prod.fst)) (hws : zput ws isC W2 = ws2) (hsum : (rest.map fun v => v.category).sum ≤ 8) (hpc : pc + 3 = pc2) (k : Z ws2 lv pc2 (v.toList ++ rest)) : Z ws lv pc st := by
  obtain ⟨p, e, s, m, args, below, meth, c, cells, slots, Q, ⟨hx, hb, hml, ho, hts⟩, ⟨hK, hN⟩, hroom, rfl⟩ := O
  subst hpc
  subst hws
  subst hst
  intro H locs ls hP hD hS hl
  have hblind : FrameBlind (zPre D tys As W.flatten) := fun a U g mk q => ⟨q.1, q.2.1, ⟨va_K.moved (u := U) (U := U.calling g mk a) (Vm.Alike.refl U.vm) q.2.2.1.1, zNw.same (u := U) (U := U.calling g mk a) rfl q.2.2.1.2⟩, q.2.2.2⟩
  have hWs : va_P D vwCl W.flatten H := zselP hP hC
  have hDs : va_D (fun _ => True) W.flatten := (zselD hD hnd hC).weaken (fun _ _ _ _ => trivial)
  obtain ⟨bytes, maxL, ret, ws', hw, hG, hrc, hd, hR⟩ := hS9
  have HR := va_runS (e := e) (H := H) (locs := locs) (cells := cells) (slots := slots) (below := below) (meth := meth) (g := F0 m pc ls (As.reverse ++ rest)) (rest := rest) (As := As) ⟨hx, hb, hml, ho, hts⟩ hM (va_cwS n hts hG hw hrc.1 hrc.2 hd hR)
    ⟨hblind, fun U hU hW => ⟨rfl, by rw [hU]; exact hWs, ⟨va_K.moved hW.alike hK, zNw.warm hW hN⟩, hDs⟩⟩ rfl hn hl.1 rfl (lv_room hsum) hdg hroom
  intro T hT X
  obtain ⟨v', st₀, t, T', L, h0, X', hL, e1, e2, ⟨⟨hv', hP1⟩, hz, hk⟩, stp⟩ := HR T hT X
  cases hv'
  rw [h0] at hz hk
  rw [← e1] at hP1 hz
  have hk2 : ∀ q : Nat, q < H.size → ¬ zA W.flatten q → T'.heap[q]? = H[q]? := fun q h1 h2 => by rw [e1]; exact hk q h1 h2
  obtain ⟨hP2, hD2⟩ := zput_ok hP hD isC hC hadr hk2 hP1
  have hDW := zselD hD hnd hC
  have hAA : ∀ q, zA W.flatten q → A q := by
    rintro q ⟨j, e9, hj⟩
    exact hDW.2 j (q, e9) hj
  have hS2 : va_S A s.heap T'.heap (locs ++ L) := ⟨Nat.le_trans hS.1 hz, fun q h1 h2 => by
      rw [hk2 q (Nat.lt_of_lt_of_le h1 hS.1) (fun z => h2 (hAA q z))]; exact hS.2.1 q h1 h2, fun q hq => by
      rcases List.mem_append.mp hq with h | h
      · exact hS.2.2 q h
      · exact hAA _ (hL q h)⟩
  obtain ⟨t2, a1, b1⟩ := k T'.heap (locs ++ L) ls hP2 hD2 hS2 hl T' rfl X'
  exact ⟨t2, stp t2 a1, b1⟩
theorem zr_callSN {As rest : List Value} {v : Option Value} {W W2 : List va_W} (O : zOK l R cc nL Ts own D tys A Z) {y : MethodName} {wy : List Cond} {rmy : Room} {idx n : Nat} (hM : zD l y wy rmy D tys As W v W2) (hS9 : zSN R Ts own idx y wy rmy n) (hn : As.length = n) (hst : As.reverse ++ rest = st) (hdg : decode cc pc = .ok (.invokestatic idx, 3)) (isC : List Nat) (hnd : va_nd isC = true) (hC : isC.map (fun i => ws[i]?) = W.map some) (hadr : W2.map (fun G => G.map Prod.fst) = W.map (fun G => G.map Prod.fst)) (hws : zput ws isC W2 = ws2) (hsum : (rest.map fun v => v.category).sum ≤ 8) (hpc : pc + 3 = pc2) (k : Z ws2 lv pc2 (v.toList ++ rest)) : Z ws lv pc st := by
  obtain ⟨p, e, s, m, args, below, meth, c, cells, slots, Q, ⟨hx, hb, hml, ho, hts⟩, ⟨hK, hN⟩, hroom, rfl⟩ := O
  subst hpc
  subst hws
  subst hst
  intro H locs ls hP hD hS hl
  have hblind : FrameBlind (zPre D tys As W.flatten) := fun a U g mk q => ⟨q.1, q.2.1, ⟨va_K.moved (u := U) (U := U.calling g mk a) (Vm.Alike.refl U.vm) q.2.2.1.1, zNw.same (u := U) (U := U.calling g mk a) rfl q.2.2.1.2⟩, q.2.2.2⟩
  have hWs : va_P D vwCl W.flatten H := zselP hP hC
  have hDs : va_D (fun _ => True) W.flatten := (zselD hD hnd hC).weaken (fun _ _ _ _ => trivial)
  obtain ⟨bytes, maxL, ret, ws', host, hw, hG, ⟨hn1, hn2, hn3⟩, hrc, hd, hR⟩ := hS9
  have HR := va_runSN (e := e) (H := H) (locs := locs) (cells := cells) (slots := slots) (below := below) (meth := meth) (g := F0 m pc ls (As.reverse ++ rest)) (rest := rest) (As := As) ⟨hx, hb, hml, ho, hts⟩ hM ⟨va_cnB n hts hG hw hrc.1 hrc.2 (hN _ hn1) (hts _ hn2) hd hR, hts _ hn3, trivial⟩
    ⟨hblind, fun U hU hW => ⟨rfl, by rw [hU]; exact hWs, ⟨va_K.moved hW.alike hK, zNw.warm hW hN⟩, hDs⟩⟩ rfl hn hl.1 rfl (lv_room hsum) hdg hroom
  intro T hT X
  obtain ⟨v', st₀, t, T', L, h0, X', hL, e1, e2, ⟨⟨hv', hP1⟩, hz, hk⟩, stp⟩ := HR T hT X
  cases hv'
  rw [h0] at hz hk
  rw [← e1] at hP1 hz
  have hk2 : ∀ q : Nat, q < H.size → ¬ zA W.flatten q → T'.heap[q]? = H[q]? := fun q h1 h2 => by rw [e1]; exact hk q h1 h2
  obtain ⟨hP2, hD2⟩ := zput_ok hP hD isC hC hadr hk2 hP1
  have hDW := zselD hD hnd hC
  have hAA : ∀ q, zA W.flatten q → A q := by
    rintro q ⟨j, e9, hj⟩
    exact hDW.2 j (q, e9) hj
  have hS2 : va_S A s.heap T'.heap (locs ++ L) := ⟨Nat.le_trans hS.1 hz, fun q h1 h2 => by
      rw [hk2 q (Nat.lt_of_lt_of_le h1 hS.1) (fun z => h2 (hAA q z))]; exact hS.2.1 q h1 h2, fun q hq => by
      rcases List.mem_append.mp hq with h | h
      · exact hS.2.2 q h
      · exact hAA _ (hL q h)⟩
  obtain ⟨t2, a1, b1⟩ := k T'.heap (locs ++ L) ls hP2 hD2 hS2 hl T' rfl X'
  exact ⟨t2, stp t2 a1, b1⟩
/-- an array's contents are told by its places alone -/
theorem zr_arrEq (O : zOK l R cc nL Ts own D tys A Z) {a n : Nat} {cA : ClassId} {f g : Nat → Int32} (g0 q0 : Nat) {G : va_W} (hg : ws[g0]? = some G) (he : G[q0]? = some (a, .inl (cA, n, .inl f))) (hfg : ∀ j, j < n → f j = g j) {G2 : va_W} (hG2 : G.set q0 (a, .inl (cA, n, .inl g)) = G2) (hws : ws.set g0 G2 = ws2) (k : Z ws2 lv pc st) : Z ws lv pc st := by
  obtain ⟨p, e, s, m, args, below, meth, c, cells, slots, Q, ⟨hx, hb, hml, ho, hts⟩, ⟨hK, hN⟩, hroom, rfl⟩ := O
  subst hws
  subst hG2
  intro H locs ls hP hD hS hl
  have hz := zflat_at _ _ _ _ _ hg he
  have hat : va_at D vwCl (a, .inl (cA, n, .inl g)) H := by
    have h0 : H[a]? = some (vp_cell cA (n, .inl f)) := hP _ _ hz
    show H[a]? = some (vp_cell cA (n, .inl g))
    rw [h0, vp_cell_i, vp_cell_i]
    refine congrArg some ?_
    have e9 : (fun j : Fin n => (Value.int (f j.val))) = (fun j : Fin n => Value.int (g j.val)) := funext fun j => by rw [hfg j.val j.isLt]
    show ({ cls := cA, slots := Array.ofFn (n := n) (fun j => Value.int (f j.val)), vm := .none } : Cell) = { cls := cA, slots := Array.ofFn (n := n) (fun j => Value.int (g j.val)), vm := .none }
    rw [e9]
  have hP9 := hP.set hD hz hat (fun _ _ => rfl)
  have hD9 := hD.set (e := .inl (cA, n, .inl g)) hz
  rw [zflat_set _ _ _ _ _ _ hg he] at hP9 hD9
  exact k H locs ls hP9 hD9 hS hl
/-- switches: a case, and none -/
theorem zn_tabIn (O : zOK l R cc nL Ts own D tys A Z) {dflt lo hi : Int} {offs : Array Int} {len : Nat} {x y : Int32} {off : Int} {tgt : Nat} (hxy : x = y) (hdg : decode cc pc = .ok (.tableswitch dflt lo hi offs, len)) (h1 : ¬ y.toInt < lo) (h2 : ¬ hi < y.toInt) (hof : offs[(y.toInt - lo).toNat]? = some off) (ht : (pc : Int) + off = (tgt : Int)) (k : Z ws lv tgt st) : Z ws lv pc (.int x :: st) := by
  subst hxy
  exact zr_tabIn O hdg h1 h2 hof ht k
theorem zn_lookup (O : zOK l R cc nL Ts own D tys A Z) {dflt : Int} {ps : Array (Int × Int)} {len : Nat} {x y : Int32} {off : Int} {tgt : Nat} (hxy : x = y) (hdg : decode cc pc = .ok (.lookupswitch dflt ps, len)) (hp : (ps.toList.zip (ps.toList.drop 1)).all (fun (a, next) => a.1 < next.1) = true) (hof : Op.lookupswitch.offset ps.toList dflt y.toInt = off) (ht : (pc : Int) + off = (tgt : Int)) (k : Z ws lv tgt st) : Z ws lv pc (.int x :: st) := by
  subst hxy
  exact zr_lookup O hdg hp hof ht k
end ZR
theorem zrow_at {ws : va_W} {a : Nat → Nat} {cI : ClassId} {PA : Nat → Nat → Int32} {p j : Nat} (hj : j < 6) (h0 : ws[p + 0]? = some (a (10 + 0), .inl (cI, 151, .inl (PA 0)))) (h1 : ws[p + 1]? = some (a (10 + 1), .inl (cI, 151, .inl (PA 1)))) (h2 : ws[p + 2]? = some (a (10 + 2), .inl (cI, 151, .inl (PA 2)))) (h3 : ws[p + 3]? = some (a (10 + 3), .inl (cI, 151, .inl (PA 3)))) (h4 : ws[p + 4]? = some (a (10 + 4), .inl (cI, 151, .inl (PA 4)))) (h5 : ws[p + 5]? = some (a (10 + 5), .inl (cI, 151, .inl (PA 5)))) : ws[p + j]? = some (a (10 + j), .inl (cI, 151, .inl (PA j))) := by
  rcases (show j = 0 ∨ j = 1 ∨ j = 2 ∨ j = 3 ∨ j = 4 ∨ j = 5 by omega) with rfl | rfl | rfl | rfl | rfl | rfl <;> assumption
theorem zsw_out {x : Int32} (n : Nat) (hn : n < 2 ^ 31) (h : ∀ k, k ≤ n → ¬ x = nI k) : x.toInt < 0 ∨ (n : Int) < x.toInt := by
  rcases Int.lt_or_le x.toInt 0 with h0 | h0
  · exact Or.inl h0
  · rcases Int.lt_or_le (n : Int) x.toInt with h1 | h1
    · exact Or.inr h1
    · refine absurd ?_ (h x.toInt.toNat (by omega))
      apply Int32.toInt_inj.mp
      rw [nI_toInt (by omega)]
      omega
theorem zsw_0 {p : Nat → Prop} : ∀ k, k < 0 → p k := fun k h => absurd h (Nat.not_lt_zero k)
theorem zsw_s {p : Nat → Prop} {n : Nat} (h : ∀ k, k < n → p k) (hn : p n) : ∀ k, k ≤ n → p k := fun k hk => by
  rcases Nat.lt_or_eq_of_le hk with h1 | h1
  · exact h k h1
  · rw [h1]; exact hn
theorem zsw_t {p : Nat → Prop} {n : Nat} (h : ∀ k, k ≤ n → p k) : ∀ k, k < n + 1 → p k := fun k hk => h k (Nat.le_of_lt_succ hk)
/-- an index that was looked at -/
theorem zin_of {x : Int32} {P n : Nat} (h0 : ¬ x < 0) (h1 : ¬ nI P ≤ x) (hP : P ≤ n) (hn : n < 2 ^ 31) : vp_in x n := by
  rw [vp_in_iff]
  rw [Int32.lt_iff_toInt_lt, Int32.toInt_zero] at h0
  rw [Int32.le_iff_toInt_le, nI_toInt (by omega)] at h1
  omega
theorem zif_t {α : Type} {b : Bool} {x y : α} (h : b = true) : (if b = true then x else y) = x := if_pos h
theorem zif_f {α : Type} {b : Bool} {x y : α} (h : b = false) : (if b = true then x else y) = y := if_neg (by rw [h]; decide)
theorem zm_ofIntM {a : Nat} (h : 0 < a) : nI a + Int32.ofInt (-1) = nI (a - 1) := by
  have e : a = (a - 1) + 1 := by omega
  rw [e]
  exact pk_m1 (a - 1)
theorem zm_ofInt1 (a : Nat) : nI a + Int32.ofInt 1 = nI (a + 1) := nI_1 a
/-- a method's start and its end -/
theorem zD_int {l : Launch} {y : MethodName} {wds ws' : List Cond} {rm : Room} {D : va_G} {tys : zTy} {args : List Value} {W0 : List va_W} {v : Option Value} {W2 : List va_W} {cc : ByteArray} {maxL : Nat} {ty : FieldType} {lv : zL}
    (hy : plainName y.cls = true) (hw : wds = Cond.code y cc maxL (some ty) :: ws') (hargs : (lg_sl args).length ≤ maxL) (hlv : lv_args 0 args = lv)
    (body : ∀ Z : List va_W → zL → Nat → List Value → Prop, zOK l rm cc maxL wds y.cls D tys (zA W0.flatten) Z → (∀ (ws : List va_W) (lv : zL) (pc : Nat) (x : Int32), decode cc pc = .ok (.ireturn, 1) → narrow ty (.int x) = .int x → some (.int x) = v → ws = W2 → Z ws lv pc [.int x]) → Z W0 lv 0 []) : zD l y wds rm D tys args W0 v W2 := by
  refine Met.ofW (cc := cc) (maxL := maxL) (ret := some ty) hy hw ?_
  intro p e s m args1 below meth c s₁ B hml hv
  obtain ⟨rfl, hP, hKN, hD0⟩ := hv
  have hts := atoms_spec (ws := wds) B.pre
  have hown : s.vm.findClass y.cls = some m.cls := findClass_of_methodNamed B.named
  have hD : va_D (zA W0.flatten) W0.flatten := ⟨hD0.1, fun k q hk => ⟨k, q.2, hk⟩⟩
  have hl := lv_entry args (n := maxL) hargs
  rw [lg_entry_eq]
  rw [hlv] at hl
  refine body (fun ws lv pc st => ∀ (H : Heap) (locs : List Loc) (ls : Array Slot), va_P D vwCl ws.flatten H → va_D (zA W0.flatten) ws.flatten → va_S (zA W0.flatten) s.heap H locs → lv_has ls maxL lv → W p l e (headSpec wds rm).room s m args.toArray below meth c H locs 0 0 (MQ below (zPost D W0.flatten v W2.flatten) args.toArray s 0 0 (zA W0.flatten)) (F0 m pc ls st))
    ⟨p, e, s, m, args.toArray, below, meth, c, 0, 0, _, ⟨B.exec, B.bytes, hml, hown, hts⟩, hKN, ⟨Nat.zero_le _, Nat.zero_le _⟩, rfl⟩ ?_ s.heap [] _ hP hD va_S.rf hl
  intro ws lv pc x hdg hn hv2 hws H locs ls hP2 hD2 hS2 hl2
  subst hws
  refine W.zret B.exec B.bytes B.returns hn (fun t ht hW => ⟨⟨by rw [← hv2], by rw [ht]; exact hP2⟩, hS2.F ht⟩) hS2.2.2 hdg B.notSynchronized
theorem zD_void {l : Launch} {y : MethodName} {wds ws' : List Cond} {rm : Room} {D : va_G} {tys : zTy} {args : List Value} {W0 : List va_W} {W2 : List va_W} {cc : ByteArray} {maxL : Nat} {lv : zL}
    (hy : plainName y.cls = true) (hw : wds = Cond.code y cc maxL none :: ws') (hargs : (lg_sl args).length ≤ maxL) (hlv : lv_args 0 args = lv)
    (body : ∀ Z : List va_W → zL → Nat → List Value → Prop, zOK l rm cc maxL wds y.cls D tys (zA W0.flatten) Z → (∀ (ws : List va_W) (lv : zL) (pc : Nat), decode cc pc = .ok (.return_, 1) → ws = W2 → Z ws lv pc []) → Z W0 lv 0 []) : zD l y wds rm D tys args W0 none W2 := by
  refine Met.ofW (cc := cc) (maxL := maxL) (ret := none) hy hw ?_
  intro p e s m args1 below meth c s₁ B hml hv
  obtain ⟨rfl, hP, hKN, hD0⟩ := hv
  have hts := atoms_spec (ws := wds) B.pre
  have hown : s.vm.findClass y.cls = some m.cls := findClass_of_methodNamed B.named
  have hD : va_D (zA W0.flatten) W0.flatten := ⟨hD0.1, fun k q hk => ⟨k, q.2, hk⟩⟩
  have hl := lv_entry args (n := maxL) hargs
  rw [lg_entry_eq]
  rw [hlv] at hl
  refine body (fun ws lv pc st => ∀ (H : Heap) (locs : List Loc) (ls : Array Slot), va_P D vwCl ws.flatten H → va_D (zA W0.flatten) ws.flatten → va_S (zA W0.flatten) s.heap H locs → lv_has ls maxL lv → W p l e (headSpec wds rm).room s m args.toArray below meth c H locs 0 0 (MQ below (zPost D W0.flatten none W2.flatten) args.toArray s 0 0 (zA W0.flatten)) (F0 m pc ls st))
    ⟨p, e, s, m, args.toArray, below, meth, c, 0, 0, _, ⟨B.exec, B.bytes, hml, hown, hts⟩, hKN, ⟨Nat.zero_le _, Nat.zero_le _⟩, rfl⟩ ?_ s.heap [] _ hP hD va_S.rf hl
  intro ws lv pc hdg hws H locs ls hP2 hD2 hS2 hl2
  subst hws
  exact W.vret B.exec B.bytes B.returns (fun t ht hW => ⟨⟨rfl, by rw [ht]; exact hP2⟩, hS2.F ht⟩) hS2.2.2 hdg B.notSynchronized
theorem zD_ref {l : Launch} {y : MethodName} {wds ws' : List Cond} {rm : Room} {D : va_G} {tys : zTy} {args : List Value} {W0 : List va_W} {a : Nat} {W2 : List va_W} {cc : ByteArray} {maxL : Nat} {C : String} {lv : zL}
    (hy : plainName y.cls = true) (hw : wds = Cond.code y cc maxL (some (.object C)) :: ws') (hargs : (lg_sl args).length ≤ maxL) (hlv : lv_args 0 args = lv)
    (body : ∀ Z : List va_W → zL → Nat → List Value → Prop, zOK l rm cc maxL wds y.cls D tys (zA W0.flatten) Z → (∀ (ws : List va_W) (lv : zL) (pc : Nat) (a2 : Nat), decode cc pc = .ok (.areturn, 1) → a2 = a → ws = W2 → Z ws lv pc [.ref a2]) → Z W0 lv 0 []) : zD l y wds rm D tys args W0 (some (.ref a)) W2 := by
  refine Met.ofW (cc := cc) (maxL := maxL) (ret := some (.object C)) hy hw ?_
  intro p e s m args1 below meth c s₁ B hml hv
  obtain ⟨rfl, hP, hKN, hD0⟩ := hv
  have hts := atoms_spec (ws := wds) B.pre
  have hown : s.vm.findClass y.cls = some m.cls := findClass_of_methodNamed B.named
  have hD : va_D (zA W0.flatten) W0.flatten := ⟨hD0.1, fun k q hk => ⟨k, q.2, hk⟩⟩
  have hl := lv_entry args (n := maxL) hargs
  rw [lg_entry_eq]
  rw [hlv] at hl
  refine body (fun ws lv pc st => ∀ (H : Heap) (locs : List Loc) (ls : Array Slot), va_P D vwCl ws.flatten H → va_D (zA W0.flatten) ws.flatten → va_S (zA W0.flatten) s.heap H locs → lv_has ls maxL lv → W p l e (headSpec wds rm).room s m args.toArray below meth c H locs 0 0 (MQ below (zPost D W0.flatten (some (.ref a)) W2.flatten) args.toArray s 0 0 (zA W0.flatten)) (F0 m pc ls st))
    ⟨p, e, s, m, args.toArray, below, meth, c, 0, 0, _, ⟨B.exec, B.bytes, hml, hown, hts⟩, hKN, ⟨Nat.zero_le _, Nat.zero_le _⟩, rfl⟩ ?_ s.heap [] _ hP hD va_S.rf hl
  intro ws lv pc a2 hdg ha hws H locs ls hP2 hD2 hS2 hl2
  subst hws
  subst ha
  exact W.aret B.exec B.bytes B.returns (Or.inl ⟨C, rfl⟩) (Or.inr ⟨a2, rfl⟩) (fun t ht hW => ⟨⟨rfl, by rw [ht]; exact hP2⟩, hS2.F ht⟩) hS2.2.2 hdg B.notSynchronized
