/-! ===== the pure heap: addresses to cells, and what it says of the machine's ===== -/
abbrev AE : Type := (Nat × vp_A) ⊕ (Nat × List Value)
abbrev AH : Type := Nat → Option AE
abbrev GG : Type := va_G × (Nat → ClassId) × Nat
abbrev MI : Type := MethodName × ByteArray × Nat × Option FieldType
def ge (G : GG) (e : AE) : va_E := match e with
  | .inl x => .inl (G.2.1 x.1, x.2)
  | .inr o => .inr o
def hp (G : GG) (h : AH) (H : Heap) : Prop := ∀ (a : Nat) (e : AE), h a = some e → G.2.2 ≤ a ∧ va_at G.1 vwCl (a, ge G e) H
def upA (h : AH) (a : Nat) (e : AE) : AH := fun b => if b = a then some e else h b
theorem upA_self (h : AH) (a : Nat) (e : AE) : upA h a e a = some e := if_pos rfl
theorem upA_ne {h : AH} {a b : Nat} {e : AE} (hb : b ≠ a) : upA h a e b = h b := if_neg hb
abbrev tyG (G : GG) : List (ClassId × FieldType) := [(G.2.1 0, .int), (G.2.1 1, .long), (G.2.1 2, .boolean), (G.2.1 3, .object RX2), (G.2.1 4, .object RX0)]
def KG (G : GG) (U : State) : Prop := va_K G.1 vwCl (tyG G) U ∧ va_Nw (.methodLinkNest RX2 42 yX4_within RX4) U ∧ va_Nw (.methodLinkNest RX1 115 yX4_within RX4) U ∧ va_Nw (.castable "[I" "java/lang/Cloneable") U ∧ va_AO RX2 U ∧ va_AO RX0 U
theorem KG.warm {G : GG} {s U : State} (hW : s.WarmedH U.vm) (h : KG G s) : KG G U :=
  ⟨va_K.moved hW.alike h.1, va_Nw.warmM hW h.2.1, va_Nw.warmM hW h.2.2.1, va_Nw.warmC hW h.2.2.2.1, va_AO.moved hW.alike h.2.2.2.2.1, va_AO.moved hW.alike h.2.2.2.2.2⟩
def AN (G : GG) : Nat → Prop := fun q => G.2.2 ≤ q
def rmD (d kc ks : Nat) : Room := { frames := d, cells := kc, slots := ks, locals := 40 * d }
def QQ (G : GG) (post : Option Value → AH → Prop) : Array Value → State → Outcome → State → Prop := fun _ st o t => (∃ (v : Option Value) (h' : AH), o = .returned v ∧ post v h' ∧ hp G h' t.heap) ∧ va_F (AN G) st t
/-- A METHOD'S CONTRACT at a pure heap: it returns, with a value and a pure heap behind it of which 'post' holds -/
def Con (l : Launch) (G : GG) (M : MI) (d kc ks : Nat) (as : List Value) (h : AH) (post : Option Value → AH → Prop) : Prop :=
  Met l M.1 (.code M.1 M.2.1 M.2.2.1 M.2.2.2 :: wsG) (rmD d kc ks) (va_Pc as (fun U => hp G h U.heap ∧ KG G U ∧ G.2.2 ≤ U.heap.size)) (QQ G post) kc ks (AN G)
theorem hp.set {G : GG} {h : AH} {H H1 : Heap} {a : Nat} {e : AE} (hh : hp G h H) (ha : G.2.2 ≤ a) (he : va_at G.1 vwCl (a, ge G e) H1) (oq : ∀ q : Nat, q ≠ a → H1[q]? = H[q]?) : hp G (upA h a e) H1 := by
  intro b x hb
  by_cases hba : b = a
  · subst hba
    rw [upA_self] at hb
    cases hb
    exact ⟨ha, he⟩
  · rw [upA_ne hba] at hb
    exact ⟨(hh b x hb).1, (hh b x hb).2.kept (oq b hba)⟩
theorem hp.lt {G : GG} {h : AH} {H : Heap} (hh : hp G h H) {a : Nat} {e : AE} (ha : h a = some e) : a < H.size := (hh a e ha).2.lt
theorem hp.fresh {G : GG} {h : AH} {H : Heap} (hh : hp G h H) : ∀ b, H.size ≤ b → h b = none := by
  intro b hb
  cases hx : h b with
  | none => rfl
  | some e => exact absurd (hh.lt hx) (by omega)
theorem hp.new {G : GG} {h : AH} {H H1 : Heap} {e : AE} (hh : hp G h H) (hN : G.2.2 ≤ H.size) (he : va_at G.1 vwCl (H.size, ge G e) H1) (oq : ∀ q : Nat, q < H.size → H1[q]? = H[q]?) : hp G (upA h H.size e) H1 := by
  intro b x hb
  by_cases hba : b = H.size
  · subst hba
    rw [upA_self] at hb
    cases hb
    exact ⟨hN, he⟩
  · rw [upA_ne hba] at hb
    exact ⟨(hh b x hb).1, (hh b x hb).2.kept (oq b (hh.lt hb))⟩
/-! ===== locals: a list of what is known, place by place ===== -/
def lg : List (Option Value) → Nat → Option Value
  | [], _ => none
  | x :: _, 0 => x
  | _ :: l, n + 1 => lg l n
def lst : List (Option Value) → Nat → Option Value → List (Option Value)
  | [], _, _ => []
  | _ :: l, 0, v => v :: l
  | x :: l, n + 1, v => x :: lst l n v
theorem lg_lst : ∀ (l : List (Option Value)) (i j : Nat) (v : Option Value), lg (lst l i v) j = if j = i ∧ i < l.length then v else lg l j
  | [], i, j, v => by simp [lg, lst]
  | x :: l, 0, 0, v => by simp [lg, lst]
  | x :: l, 0, j + 1, v => by simp [lg, lst]
  | x :: l, i + 1, 0, v => by simp [lg, lst]
  | x :: l, i + 1, j + 1, v => by simp [lg, lst, lg_lst l i j v]
def lvh (ls : Array Slot) (nL : Nat) (lv : List (Option Value)) : Prop := ls.size = nL ∧ lv_wf ls ∧ ∀ (i : Nat) (v : Value), lg lv i = some v → ls[i]? = some (.val v)
/-- the value that stands just before place i is no long -/
def lvok (lv : List (Option Value)) (i : Nat) : Bool := match i with
  | 0 => true
  | i + 1 => match lg lv i with
    | some v => v.category == 1
    | none => true
def lvp (lv : List (Option Value)) (n : Nat) : List (Nat × Value) := (List.range n).filterMap (fun i => (lg lv i).map (fun v => (i, v)))
theorem lvp_mem {lv : List (Option Value)} {n i : Nat} {v : Value} : (i, v) ∈ lvp lv n ↔ i < n ∧ lg lv i = some v := by
  simp only [lvp, List.mem_filterMap, List.mem_range, Option.map_eq_some_iff, Prod.mk.injEq]
  constructor
  · rintro ⟨j, hj, w, hw, rfl, rfl⟩
    exact ⟨hj, hw⟩
  · rintro ⟨h1, h2⟩
    exact ⟨i, h1, v, h2, rfl, rfl⟩
theorem lvh.has {ls : Array Slot} {nL : Nat} {lv : List (Option Value)} (h : lvh ls nL lv) (n : Nat) : lv_has ls nL (lvp lv n) := ⟨h.1, h.2.1, fun q hq => h.2.2 q.1 q.2 (lvp_mem.mp hq).2⟩
theorem lg_len : ∀ (l : List (Option Value)) (n : Nat) (x : Value), lg l n = some x → n < l.length
  | [], n, x, hx => by cases hx
  | y :: l, 0, x, hx => by simp
  | y :: l, n + 1, x, hx => by have := lg_len l n x hx; simp; omega
theorem lst_len : ∀ (l : List (Option Value)) (i : Nat) (v : Option Value), (lst l i v).length = l.length
  | [], i, v => rfl
  | x :: l, 0, v => rfl
  | x :: l, i + 1, v => by simp [lst, lst_len l i v]
theorem lvh.has_cons {ls : Array Slot} {nL n i : Nat} {x : Value} {lv : List (Option Value)} (h : lvh ls nL lv) (hx : lg lv i = some x) : lv_has ls nL ((i, x) :: lvp lv n) := ⟨h.1, h.2.1, fun q hq => by
  rcases List.mem_cons.mp hq with rfl | hq
  · exact h.2.2 _ _ hx
  · exact (h.has n).2.2 q hq⟩
theorem lvh.of1' {ls' : Array Slot} {nL : Nat} {lv : List (Option Value)} {i : Nat} {v : Value} {L : List (Nat × Value)} (h' : lv_has ls' nL ((i, v) :: L.filter (fun q => !(q.1 == i) && !(q.1 + 1 == i && q.2.category == 2)))) (hL : ∀ q ∈ lvp lv (lv.length + i + 2), q ∈ L) (hok : lvok lv i = true) : lvh ls' nL (lst lv i (some v)) := by
  refine ⟨h'.1, h'.2.1, fun j w hj => ?_⟩
  have hjl := lg_len _ _ _ hj
  rw [lst_len] at hjl
  rw [lg_lst] at hj
  by_cases hji : j = i
  · subst hji
    rw [if_pos ⟨rfl, hjl⟩] at hj
    cases hj
    exact h'.2.2 (j, v) List.mem_cons_self
  · rw [if_neg (fun q => hji q.1)] at hj
    refine h'.2.2 (j, w) (List.mem_cons_of_mem _ (List.mem_filter.mpr ⟨hL _ (lvp_mem.mpr ⟨by omega, hj⟩), ?_⟩))
    simp only [Bool.and_eq_true, Bool.not_eq_true', beq_eq_false_iff_ne, ne_eq, Bool.and_eq_false_iff]
    refine ⟨hji, ?_⟩
    by_cases hj1 : j + 1 = i
    · subst hj1
      right
      simp only [lvok, hj, beq_iff_eq] at hok
      omega
    · exact Or.inl hj1
theorem lvh.of1 {ls' : Array Slot} {nL : Nat} {lv : List (Option Value)} {i : Nat} {v : Value} (h' : lv_has ls' nL ((i, v) :: (lvp lv (lv.length + i + 2)).filter (fun q => !(q.1 == i) && !(q.1 + 1 == i && q.2.category == 2)))) (hok : lvok lv i = true) : lvh ls' nL (lst lv i (some v)) := lvh.of1' h' (fun _ h => h) hok
theorem lvh.of1c {ls' : Array Slot} {nL : Nat} {lv : List (Option Value)} {i : Nat} {v x : Value} (h' : lv_has ls' nL ((i, v) :: ((i, x) :: lvp lv (lv.length + i + 2)).filter (fun q => !(q.1 == i) && !(q.1 + 1 == i && q.2.category == 2)))) (hok : lvok lv i = true) : lvh ls' nL (lst lv i (some v)) := lvh.of1' h' (fun _ h => List.mem_cons_of_mem _ h) hok
theorem lvh.of2 {ls' : Array Slot} {nL : Nat} {lv : List (Option Value)} {i : Nat} {v : Value} (h' : lv_has ls' nL ((i, v) :: (lvp lv (lv.length + i + 2)).filter (fun q => !(q.1 == i) && (!(q.1 == i + 1) && !(q.1 + 1 == i && q.2.category == 2))))) (hok : lvok lv i = true) : lvh ls' nL (lst (lst lv i (some v)) (i + 1) none) := by
  refine ⟨h'.1, h'.2.1, fun j w hj => ?_⟩
  have hjl := lg_len _ _ _ hj
  rw [lst_len, lst_len] at hjl
  rw [lg_lst, lst_len] at hj
  by_cases hj1 : j = i + 1 ∧ i + 1 < lv.length
  · rw [if_pos hj1] at hj
    cases hj
  · rw [if_neg hj1] at hj
    have hj1' : j ≠ i + 1 := fun q => hj1 ⟨q, by omega⟩
    rw [lg_lst] at hj
    by_cases hji : j = i ∧ i < lv.length
    · rw [if_pos hji] at hj
      cases hj
      rw [hji.1]
      exact h'.2.2 (i, v) List.mem_cons_self
    · rw [if_neg hji] at hj
      have hji' : j ≠ i := fun q => hji ⟨q, by omega⟩
      refine h'.2.2 (j, w) (List.mem_cons_of_mem _ (List.mem_filter.mpr ⟨lvp_mem.mpr ⟨by omega, hj⟩, ?_⟩))
      simp only [Bool.and_eq_true, Bool.not_eq_true', beq_eq_false_iff_ne, ne_eq, Bool.and_eq_false_iff]
      refine ⟨hji', hj1', ?_⟩
      by_cases hj2 : j + 1 = i
      · subst hj2
        right
        simp only [lvok, hj, beq_iff_eq] at hok
        omega
      · exact Or.inl hj2
/-- what a method's locals are at its entry -/
def lvd : List Value → List (Option Value)
  | [] => []
  | v :: vs => if v.category = 2 then some v :: none :: lvd vs else some v :: lvd vs
theorem lvd_in : ∀ (vs : List Value) (k i : Nat) (v : Value), lg (lvd vs) i = some v → (k + i, v) ∈ lv_args k vs
  | [], k, i, v, h => by simp [lvd, lg] at h
  | x :: vs, k, i, v, h => by
    by_cases hc : x.category = 2
    · simp only [lvd, if_pos hc] at h
      match i, h with
      | 0, h =>
        simp only [lg] at h
        cases h
        simp [lv_args]
      | 1, h => simp [lg] at h
      | i + 2, h =>
        simp only [lg] at h
        have := lvd_in vs (k + 2) i v h
        simp only [lv_args, if_pos hc]
        rw [show k + (i + 2) = k + 2 + i by omega]
        exact List.mem_cons_of_mem _ this
    · simp only [lvd, if_neg hc] at h
      match i, h with
      | 0, h =>
        simp only [lg] at h
        cases h
        simp [lv_args]
      | i + 1, h =>
        simp only [lg] at h
        have := lvd_in vs (k + 1) i v h
        simp only [lv_args, if_neg hc]
        rw [show k + (i + 1) = k + 1 + i by omega]
        exact List.mem_cons_of_mem _ this
def lpad (l : List (Option Value)) (n : Nat) : List (Option Value) := l ++ List.replicate n none
theorem lg_pad (l : List (Option Value)) (n i : Nat) (v : Value) (h : lg (lpad l n) i = some v) : lg l i = some v := by
  induction l generalizing i with
  | nil =>
    exfalso
    have : ∀ (n i : Nat), lg (List.replicate n none) i = none := by
      intro n
      induction n with
      | zero => intro i; rfl
      | succ n ih =>
        intro i
        cases i with
        | zero => rfl
        | succ i => exact ih i
    simp only [lpad, List.nil_append, this] at h
    cases h
  | cons x l ih =>
    cases i with
    | zero => exact h
    | succ i => exact ih i h
theorem lvh_entry (vs : List Value) {n : Nat} (k : Nat) (h : (lg_sl vs).length ≤ n) : lvh ((lg_sl vs ++ List.replicate (n - (lg_sl vs).length) Slot.unset).toArray) n (lpad (lvd vs) k) := by
  have h0 := lv_entry vs h
  refine ⟨h0.1, h0.2.1, fun i v hi => ?_⟩
  have := lvd_in vs 0 i v (lg_pad _ _ _ _ hi)
  rw [Nat.zero_add] at this
  exact h0.2.2 (i, v) this
/-! ===== the judgement: from here the method comes to its end as Θ asks, whatever the machine around it ===== -/
abbrev TH : Type := Launch × GG × MI × (Array Value → State → Prop) × Room × (List Frame → Array Value → State → State → Prop)
def Cx (G : GG) (M : MI) (E : Array Value → State → Prop) (cc : ByteArray) (p : Program) (s : State) (m : MethodId) (args : Array Value) (meth : Method) (c : Code) : Prop :=
  CallFix p m c cc M.2.2.1 s args wsG M.1.cls ∧ meth.sig.returnType = M.2.2.2 ∧ meth.locks = false ∧ meth.name = M.1.name ∧ KG G s ∧ G.2.2 ≤ s.heap.size ∧ E args s
def J (Θ : TH) (cc : ByteArray) (h : AH) (k : Nat × Nat) (lv : List (Option Value)) (pc : Nat) (st : List Value) : Prop :=
  ∀ (p : Program) (e : Env) (s : State) (m : MethodId) (args : Array Value) (below : List Frame) (meth : Method) (c : Code), Cx Θ.2.1 Θ.2.2.1 Θ.2.2.2.1 cc p s m args meth c →
    ∀ (H : Heap) (locs : List Loc) (ls : Array Slot), hp Θ.2.1 h H → va_S (AN Θ.2.1) s.heap H locs → lvh ls Θ.2.2.1.2.2.1 lv →
      W p Θ.1 e Θ.2.2.2.2.1 s m args below meth c H locs k.1 k.2 (Θ.2.2.2.2.2 below args s) (F0 m pc ls st)
abbrev thM (l : Launch) (G : GG) (M : MI) (d kc ks : Nat) (post : Option Value → AH → Prop) : TH := (l, G, M, fun _ _ => True, rmD d kc ks, fun below args s => MQ below (QQ G post) args s kc ks (AN G))
theorem Con.of {l : Launch} {G : GG} {M : MI} {d kc ks : Nat} {as : List Value} {h : AH} {post : Option Value → AH → Prop} (n : Nat) (hy : plainName M.1.cls = true) (hlen : (lg_sl as).length ≤ M.2.2.1) (hJ : J (thM l G M d kc ks post) M.2.1 h (0, 0) (lpad (lvd as) n) 0 []) : Con l G M d kc ks as h post := by
  refine Met.ofW (cc := M.2.1) (maxL := M.2.2.1) (ret := M.2.2.2) hy rfl ?_
  intro p e s m args below meth c s₁ B hml hv
  obtain ⟨rfl, hH, hK, hN⟩ := hv
  have hts := atoms_spec (ws := .code M.1 M.2.1 M.2.2.1 M.2.2.2 :: wsG) B.pre
  rw [lg_entry_eq]
  exact hJ p e s m _ below meth c ⟨⟨B.exec, B.bytes, hml, findClass_of_methodNamed B.named, fun w hw => hts w (List.mem_cons_of_mem _ hw)⟩, B.returns, B.notSynchronized, (name_of_methodNamed B.named B.method).1, hK, hN, trivial⟩ s.heap [] _ hH va_S.rf (lvh_entry as n hlen)
theorem Con.mono {l : Launch} {G : GG} {M : MI} {d kc ks : Nat} {as : List Value} {h : AH} {post post' : Option Value → AH → Prop} (hc : Con l G M d kc ks as h post) (hp : ∀ v h', post v h' → post' v h') : Con l G M d kc ks as h post' := by
  intro p e ha hcas hclk s m args below hf hpre hP hK
  obtain ⟨t, o, h1, h2, h3, ⟨⟨v, h', e1, e2, e3⟩, hF⟩, hL⟩ := hc p e ha hcas hclk s m args below hf hpre hP hK
  exact ⟨t, o, h1, h2, h3, ⟨⟨v, h', e1, hp v h' e2, e3⟩, hF⟩, hL⟩
section JR
variable {Θ : TH} {cc : ByteArray} {h : AH} {k : Nat × Nat} {lv : List (Option Value)} {pc : Nat} {st : List Value}
theorem J.drop (i : Nat) (kk : J Θ cc h k (lst lv i none) pc st) : J Θ cc h k lv pc st :=
  fun p e s m args below meth c C H locs ls hH hS hl => kk p e s m args below meth c C H locs ls hH hS ⟨hl.1, hl.2.1, fun j v hj => by
    rw [lg_lst] at hj
    split at hj
    · cases hj
    · exact hl.2.2 j v hj⟩
theorem J.eqst {st' : List Value} (hs : st = st') (kk : J Θ cc h k lv pc st') : J Θ cc h k lv pc st := hs ▸ kk
theorem J.eqlv {lv' : List (Option Value)} (hs : lv = lv') (kk : J Θ cc h k lv' pc st) : J Θ cc h k lv pc st := hs ▸ kk
theorem J.eqh {h' : AH} (hs : h = h') (kk : J Θ cc h' k lv pc st) : J Θ cc h k lv pc st := hs ▸ kk
theorem j_iconst {n : Int} {v : Int32} (hd : decode cc pc = .ok (.iconst n, 1)) (hv : Int32.ofInt n = v) (kk : J Θ cc h k lv (pc + 1) (.int v :: st)) : J Θ cc h k lv pc (st) :=
  fun p e s m args below meth c C H locs ls hH hS hl => lv_iconst C.1.1 C.1.2.1 hd hv (kk p e s m args below meth c C H locs ls hH hS hl)
theorem j_bipush {n : Int} {v : Int32} (hd : decode cc pc = .ok (.bipush n, 2)) (hv : (Int8.ofInt n).toInt32 = v) (kk : J Θ cc h k lv (pc + 2) (.int v :: st)) : J Θ cc h k lv pc (st) :=
  fun p e s m args below meth c C H locs ls hH hS hl => lv_bipush C.1.1 C.1.2.1 hd hv (kk p e s m args below meth c C H locs ls hH hS hl)
theorem j_sipush {n : Int} {v : Int32} (hd : decode cc pc = .ok (.sipush n, 3)) (hv : (Int16.ofInt n).toInt32 = v) (kk : J Θ cc h k lv (pc + 3) (.int v :: st)) : J Θ cc h k lv pc (st) :=
  fun p e s m args below meth c C H locs ls hH hS hl => lv_sipush C.1.1 C.1.2.1 hd hv (kk p e s m args below meth c C H locs ls hH hS hl)
theorem j_lconst {n : Fin 2} {v : Int64} (hd : decode cc pc = .ok (.lconst n, 1)) (hv : Int64.ofNat (n : Nat) = v) (kk : J Θ cc h k lv (pc + 1) (.long v :: st)) : J Θ cc h k lv pc (st) :=
  fun p e s m args below meth c C H locs ls hH hS hl => lv_lconst C.1.1 C.1.2.1 hd hv (kk p e s m args below meth c C H locs ls hH hS hl)
theorem j_null (hd : decode cc pc = .ok (.aconst_null, 1)) (kk : J Θ cc h k lv (pc + 1) (.null :: st)) : J Θ cc h k lv pc (st) :=
  fun p e s m args below meth c C H locs ls hH hS hl => lv_null C.1.1 C.1.2.1 hd (kk p e s m args below meth c C H locs ls hH hS hl)
theorem j_ldc {own : String} {index : Nat} {v : Int32} (hM : Θ.2.2.1.1.cls = own) (hw : Cond.constant own index v ∈ wsG) (hd : decode cc pc = .ok (.ldc index, 2)) (kk : J Θ cc h k lv (pc + 2) (.int v :: st)) : J Θ cc h k lv pc (st) :=
  fun p e s m args below meth c C H locs ls hH hS hl => lv_ldc C.1.1 C.1.2.1 (hM ▸ C.1.2.2.2.1) (C.1.2.2.2.2 _ hw) hd (kk p e s m args below meth c C H locs ls hH hS hl)
theorem j_ldc2 {own : String} {index : Nat} {v : Int64} (hM : Θ.2.2.1.1.cls = own) (hw : Cond.constantLong own index v ∈ wsG) (hd : decode cc pc = .ok (.ldc2_w index, 3)) (kk : J Θ cc h k lv (pc + 3) (.long v :: st)) : J Θ cc h k lv pc (st) :=
  fun p e s m args below meth c C H locs ls hH hS hl => lv_ldc2 C.1.1 C.1.2.1 (hM ▸ C.1.2.2.2.1) (C.1.2.2.2.2 _ hw) hd (kk p e s m args below meth c C H locs ls hH hS hl)
theorem j_iload_n {i : Fin 4} {x : Int32} (hd : decode cc pc = .ok (.iload_n i, 1)) (hv : lg lv (i : Nat) = some (.int x)) (kk : J Θ cc h k lv (pc + 1) (.int x :: st)) : J Θ cc h k lv pc (st) :=
  fun p e s m args below meth c C H locs ls hH hS hl => lv_iload_n C.1.1 C.1.2.1 hd rfl (hl.2.2 _ _ hv) (kk p e s m args below meth c C H locs ls hH hS hl)
theorem j_iload {i : Nat} {x : Int32} (hd : decode cc pc = .ok (.iload i, 2)) (hv : lg lv i = some (.int x)) (kk : J Θ cc h k lv (pc + 2) (.int x :: st)) : J Θ cc h k lv pc (st) :=
  fun p e s m args below meth c C H locs ls hH hS hl => lv_iload C.1.1 C.1.2.1 hd (hl.2.2 _ _ hv) (kk p e s m args below meth c C H locs ls hH hS hl)
theorem j_lload_n {i : Fin 4} {x : Int64} (hd : decode cc pc = .ok (.lload_n i, 1)) (hv : lg lv (i : Nat) = some (.long x)) (kk : J Θ cc h k lv (pc + 1) (.long x :: st)) : J Θ cc h k lv pc (st) :=
  fun p e s m args below meth c C H locs ls hH hS hl => lv_lload_n C.1.1 C.1.2.1 hd rfl (hl.2.2 _ _ hv) (kk p e s m args below meth c C H locs ls hH hS hl)
theorem j_lload {i : Nat} {x : Int64} (hd : decode cc pc = .ok (.lload i, 2)) (hv : lg lv i = some (.long x)) (kk : J Θ cc h k lv (pc + 2) (.long x :: st)) : J Θ cc h k lv pc (st) :=
  fun p e s m args below meth c C H locs ls hH hS hl => lv_lload C.1.1 C.1.2.1 hd (hl.2.2 _ _ hv) (kk p e s m args below meth c C H locs ls hH hS hl)
theorem j_aload_n {i : Fin 4} {x : Nat} (hd : decode cc pc = .ok (.aload_n i, 1)) (hv : lg lv (i : Nat) = some (.ref x)) (kk : J Θ cc h k lv (pc + 1) (.ref x :: st)) : J Θ cc h k lv pc (st) :=
  fun p e s m args below meth c C H locs ls hH hS hl => lv_aload_n C.1.1 C.1.2.1 hd rfl (hl.2.2 _ _ hv) (kk p e s m args below meth c C H locs ls hH hS hl)
theorem j_aload {i : Nat} {x : Nat} (hd : decode cc pc = .ok (.aload i, 2)) (hv : lg lv i = some (.ref x)) (kk : J Θ cc h k lv (pc + 2) (.ref x :: st)) : J Θ cc h k lv pc (st) :=
  fun p e s m args below meth c C H locs ls hH hS hl => lv_aload C.1.1 C.1.2.1 hd (hl.2.2 _ _ hv) (kk p e s m args below meth c C H locs ls hH hS hl)
theorem j_aload_nN {i : Fin 4} (hd : decode cc pc = .ok (.aload_n i, 1)) (hv : lg lv (i : Nat) = some .null) (kk : J Θ cc h k lv (pc + 1) (.null :: st)) : J Θ cc h k lv pc (st) :=
  fun p e s m args below meth c C H locs ls hH hS hl => lv_aload_nN C.1.1 C.1.2.1 hd rfl (hl.2.2 _ _ hv) (kk p e s m args below meth c C H locs ls hH hS hl)
theorem j_aloadN {i : Nat} (hd : decode cc pc = .ok (.aload i, 2)) (hv : lg lv i = some .null) (kk : J Θ cc h k lv (pc + 2) (.null :: st)) : J Θ cc h k lv pc (st) :=
  fun p e s m args below meth c C H locs ls hH hS hl => lv_aloadN C.1.1 C.1.2.1 hd (hl.2.2 _ _ hv) (kk p e s m args below meth c C H locs ls hH hS hl)
theorem j_istore_n {i : Fin 4} {x : Int32} (hd : decode cc pc = .ok (.istore_n i, 1)) (hn : (i : Nat) < Θ.2.2.1.2.2.1) (hok : lvok lv (i : Nat) = true) (kk : J Θ cc h k (lst lv (i : Nat) (some (.int x))) (pc + 1) st) : J Θ cc h k lv pc (.int x :: st) :=
  fun p e s m args below meth c C H locs ls hH hS hl => lv_istore_n C.1.1 C.1.2.1 hd rfl (hl.has _) hn rfl (fun ls2 h2 => kk p e s m args below meth c C H locs ls2 hH hS (lvh.of1 h2 hok))
theorem j_istore {i : Nat} {x : Int32} (hd : decode cc pc = .ok (.istore i, 2)) (hn : i < Θ.2.2.1.2.2.1) (hok : lvok lv i = true) (kk : J Θ cc h k (lst lv i (some (.int x))) (pc + 2) st) : J Θ cc h k lv pc (.int x :: st) :=
  fun p e s m args below meth c C H locs ls hH hS hl => lv_istore C.1.1 C.1.2.1 hd (hl.has _) hn rfl (fun ls2 h2 => kk p e s m args below meth c C H locs ls2 hH hS (lvh.of1 h2 hok))
theorem j_lstore_n {i : Fin 4} {x : Int64} (hd : decode cc pc = .ok (.lstore_n i, 1)) (hn : (i : Nat) + 1 < Θ.2.2.1.2.2.1) (hok : lvok lv (i : Nat) = true) (kk : J Θ cc h k (lst (lst lv (i : Nat) (some (.long x))) ((i : Nat) + 1) none) (pc + 1) st) : J Θ cc h k lv pc (.long x :: st) :=
  fun p e s m args below meth c C H locs ls hH hS hl => lv_lstore_n C.1.1 C.1.2.1 hd rfl (hl.has _) hn rfl (fun ls2 h2 => kk p e s m args below meth c C H locs ls2 hH hS (lvh.of2 h2 hok))
theorem j_lstore {i : Nat} {x : Int64} (hd : decode cc pc = .ok (.lstore i, 2)) (hn : i + 1 < Θ.2.2.1.2.2.1) (hok : lvok lv i = true) (kk : J Θ cc h k (lst (lst lv i (some (.long x))) (i + 1) none) (pc + 2) st) : J Θ cc h k lv pc (.long x :: st) :=
  fun p e s m args below meth c C H locs ls hH hS hl => lv_lstore C.1.1 C.1.2.1 hd (hl.has _) hn rfl (fun ls2 h2 => kk p e s m args below meth c C H locs ls2 hH hS (lvh.of2 h2 hok))
theorem j_astore_n {i : Fin 4} {x : Nat} (hd : decode cc pc = .ok (.astore_n i, 1)) (hn : (i : Nat) < Θ.2.2.1.2.2.1) (hok : lvok lv (i : Nat) = true) (kk : J Θ cc h k (lst lv (i : Nat) (some (.ref x))) (pc + 1) st) : J Θ cc h k lv pc (.ref x :: st) :=
  fun p e s m args below meth c C H locs ls hH hS hl => lv_astore_n C.1.1 C.1.2.1 hd rfl (hl.has _) hn rfl (fun ls2 h2 => kk p e s m args below meth c C H locs ls2 hH hS (lvh.of1 h2 hok))
theorem j_astore {i : Nat} {x : Nat} (hd : decode cc pc = .ok (.astore i, 2)) (hn : i < Θ.2.2.1.2.2.1) (hok : lvok lv i = true) (kk : J Θ cc h k (lst lv i (some (.ref x))) (pc + 2) st) : J Θ cc h k lv pc (.ref x :: st) :=
  fun p e s m args below meth c C H locs ls hH hS hl => lv_astore C.1.1 C.1.2.1 hd (hl.has _) hn rfl (fun ls2 h2 => kk p e s m args below meth c C H locs ls2 hH hS (lvh.of1 h2 hok))
theorem j_astore_nN {i : Fin 4} (hd : decode cc pc = .ok (.astore_n i, 1)) (hn : (i : Nat) < Θ.2.2.1.2.2.1) (hok : lvok lv (i : Nat) = true) (kk : J Θ cc h k (lst lv (i : Nat) (some (.null))) (pc + 1) st) : J Θ cc h k lv pc (.null :: st) :=
  fun p e s m args below meth c C H locs ls hH hS hl => lv_astore_nN C.1.1 C.1.2.1 hd rfl (hl.has _) hn rfl (fun ls2 h2 => kk p e s m args below meth c C H locs ls2 hH hS (lvh.of1 h2 hok))
theorem j_astoreN {i : Nat} (hd : decode cc pc = .ok (.astore i, 2)) (hn : i < Θ.2.2.1.2.2.1) (hok : lvok lv i = true) (kk : J Θ cc h k (lst lv i (some (.null))) (pc + 2) st) : J Θ cc h k lv pc (.null :: st) :=
  fun p e s m args below meth c C H locs ls hH hS hl => lv_astoreN C.1.1 C.1.2.1 hd (hl.has _) hn rfl (fun ls2 h2 => kk p e s m args below meth c C H locs ls2 hH hS (lvh.of1 h2 hok))
theorem j_iinc {i : Nat} {n : Int} {x v : Int32} (hd : decode cc pc = .ok (.iinc i n, 3)) (hx : lg lv i = some (.int x)) (hv : x + Int32.ofInt n = v) (hn : i < Θ.2.2.1.2.2.1) (hok : lvok lv i = true) (kk : J Θ cc h k (lst lv i (some (.int v))) (pc + 3) st) : J Θ cc h k lv pc st :=
  fun p e s m args below meth c C H locs ls hH hS hl => lv_iinc (k := 0) (lv := (i, .int x) :: lvp lv (lv.length + i + 2)) C.1.1 C.1.2.1 hd (lvh.has_cons hl hx) rfl hv hn rfl (fun ls2 h2 => kk p e s m args below meth c C H locs ls2 hH hS (lvh.of1c h2 hok))
theorem j_iadd {x y : Int32} (hd : decode cc pc = .ok (.iadd, 1)) (kk : J Θ cc h k lv (pc + 1) (.int (x + y) :: st)) : J Θ cc h k lv pc (.int y :: .int x :: st) :=
  fun p e s m args below meth c C H locs ls hH hS hl => lv_iadd C.1.1 C.1.2.1 hd (kk p e s m args below meth c C H locs ls hH hS hl)
theorem j_isub {x y : Int32} (hd : decode cc pc = .ok (.isub, 1)) (kk : J Θ cc h k lv (pc + 1) (.int (x - y) :: st)) : J Θ cc h k lv pc (.int y :: .int x :: st) :=
  fun p e s m args below meth c C H locs ls hH hS hl => lv_isub C.1.1 C.1.2.1 hd (kk p e s m args below meth c C H locs ls hH hS hl)
theorem j_imul {x y : Int32} (hd : decode cc pc = .ok (.imul, 1)) (kk : J Θ cc h k lv (pc + 1) (.int (x * y) :: st)) : J Θ cc h k lv pc (.int y :: .int x :: st) :=
  fun p e s m args below meth c C H locs ls hH hS hl => lv_imul C.1.1 C.1.2.1 hd (kk p e s m args below meth c C H locs ls hH hS hl)
theorem j_iand {x y : Int32} (hd : decode cc pc = .ok (.iand, 1)) (kk : J Θ cc h k lv (pc + 1) (.int (x &&& y) :: st)) : J Θ cc h k lv pc (.int y :: .int x :: st) :=
  fun p e s m args below meth c C H locs ls hH hS hl => lv_iand C.1.1 C.1.2.1 hd (kk p e s m args below meth c C H locs ls hH hS hl)
theorem j_ior {x y : Int32} (hd : decode cc pc = .ok (.ior, 1)) (kk : J Θ cc h k lv (pc + 1) (.int (x ||| y) :: st)) : J Θ cc h k lv pc (.int y :: .int x :: st) :=
  fun p e s m args below meth c C H locs ls hH hS hl => lv_ior C.1.1 C.1.2.1 hd (kk p e s m args below meth c C H locs ls hH hS hl)
theorem j_ishl {x y : Int32} (hd : decode cc pc = .ok (.ishl, 1)) (kk : J Θ cc h k lv (pc + 1) (.int (x <<< (y &&& 31)) :: st)) : J Θ cc h k lv pc (.int y :: .int x :: st) :=
  fun p e s m args below meth c C H locs ls hH hS hl => lv_ishl C.1.1 C.1.2.1 hd (kk p e s m args below meth c C H locs ls hH hS hl)
theorem j_ishr {x y : Int32} (hd : decode cc pc = .ok (.ishr, 1)) (kk : J Θ cc h k lv (pc + 1) (.int (x >>> (y &&& 31)) :: st)) : J Θ cc h k lv pc (.int y :: .int x :: st) :=
  fun p e s m args below meth c C H locs ls hH hS hl => lv_ishr C.1.1 C.1.2.1 hd (kk p e s m args below meth c C H locs ls hH hS hl)
theorem j_ladd {x y : Int64} (hd : decode cc pc = .ok (.ladd, 1)) (kk : J Θ cc h k lv (pc + 1) (.long (x + y) :: st)) : J Θ cc h k lv pc (.long y :: .long x :: st) :=
  fun p e s m args below meth c C H locs ls hH hS hl => lv_ladd C.1.1 C.1.2.1 hd (kk p e s m args below meth c C H locs ls hH hS hl)
theorem j_lsub {x y : Int64} (hd : decode cc pc = .ok (.lsub, 1)) (kk : J Θ cc h k lv (pc + 1) (.long (x - y) :: st)) : J Θ cc h k lv pc (.long y :: .long x :: st) :=
  fun p e s m args below meth c C H locs ls hH hS hl => lv_lsub C.1.1 C.1.2.1 hd (kk p e s m args below meth c C H locs ls hH hS hl)
theorem j_idiv {x y : Int32} (hd : decode cc pc = .ok (.idiv, 1)) (hne : ¬ y = 0) (kk : J Θ cc h k lv (pc + 1) (.int (x / y) :: st)) : J Θ cc h k lv pc (.int y :: .int x :: st) :=
  fun p e s m args below meth c C H locs ls hH hS hl => lv_idiv C.1.1 C.1.2.1 hd hne (kk p e s m args below meth c C H locs ls hH hS hl)
theorem j_ineg {x : Int32} (hd : decode cc pc = .ok (.ineg, 1)) (kk : J Θ cc h k lv (pc + 1) (.int (-x) :: st)) : J Θ cc h k lv pc (.int x :: st) :=
  fun p e s m args below meth c C H locs ls hH hS hl => lv_ineg C.1.1 C.1.2.1 hd (kk p e s m args below meth c C H locs ls hH hS hl)
theorem j_i2l {x : Int32} (hd : decode cc pc = .ok (.i2l, 1)) (kk : J Θ cc h k lv (pc + 1) (.long x.toInt64 :: st)) : J Θ cc h k lv pc (.int x :: st) :=
  fun p e s m args below meth c C H locs ls hH hS hl => lv_i2l C.1.1 C.1.2.1 hd rfl (kk p e s m args below meth c C H locs ls hH hS hl)
theorem j_l2i {x : Int64} (hd : decode cc pc = .ok (.l2i, 1)) (kk : J Θ cc h k lv (pc + 1) (.int x.toInt32 :: st)) : J Θ cc h k lv pc (.long x :: st) :=
  fun p e s m args below meth c C H locs ls hH hS hl => lv_l2i C.1.1 C.1.2.1 hd rfl (kk p e s m args below meth c C H locs ls hH hS hl)
theorem j_lshl {x : Int64} {y : Int32} (hd : decode cc pc = .ok (.lshl, 1)) (kk : J Θ cc h k lv (pc + 1) (.long (x <<< (y.toInt64 &&& 63)) :: st)) : J Θ cc h k lv pc (.int y :: .long x :: st) :=
  fun p e s m args below meth c C H locs ls hH hS hl => lv_lshl C.1.1 C.1.2.1 hd rfl (kk p e s m args below meth c C H locs ls hH hS hl)
theorem j_lshr {x : Int64} {y : Int32} (hd : decode cc pc = .ok (.lshr, 1)) (kk : J Θ cc h k lv (pc + 1) (.long (x >>> (y.toInt64 &&& 63)) :: st)) : J Θ cc h k lv pc (.int y :: .long x :: st) :=
  fun p e s m args below meth c C H locs ls hH hS hl => lv_lshr C.1.1 C.1.2.1 hd rfl (kk p e s m args below meth c C H locs ls hH hS hl)
theorem j_lcmp {x y : Int64} (hd : decode cc pc = .ok (.lcmp, 1)) (kk : J Θ cc h k lv (pc + 1) (.int (lg_cmp x y) :: st)) : J Θ cc h k lv pc (.long y :: .long x :: st) :=
  fun p e s m args below meth c C H locs ls hH hS hl => W.lcmp C.1.1 C.1.2.1 hd (kk p e s m args below meth c C H locs ls hH hS hl)
theorem j_dup {v : Value} (hd : decode cc pc = .ok (.dup, 1)) (hv : v.category = 1) (kk : J Θ cc h k lv (pc + 1) (v :: v :: st)) : J Θ cc h k lv pc (v :: st) :=
  fun p e s m args below meth c C H locs ls hH hS hl => lv_dup C.1.1 C.1.2.1 hd hv (kk p e s m args below meth c C H locs ls hH hS hl)
theorem j_dup2 {v w : Value} (hd : decode cc pc = .ok (.dup2, 1)) (hv : v.category = 1) (hw : w.category = 1) (kk : J Θ cc h k lv (pc + 1) (v :: w :: v :: w :: st)) : J Θ cc h k lv pc (v :: w :: st) :=
  fun p e s m args below meth c C H locs ls hH hS hl => lv_dup2_11 C.1.1 C.1.2.1 hd hv hw (kk p e s m args below meth c C H locs ls hH hS hl)
theorem j_if_eq {x : Int32} {off : Int} (tgt : Nat) (hd : decode cc pc = .ok (.ifCond .eq off, 3)) (ht : (pc : Int) + off = (tgt : Int)) (kt : x = 0 → J Θ cc h k lv tgt st) (kf : ¬ x = 0 → J Θ cc h k lv (pc + 3) st) : J Θ cc h k lv pc (.int x :: st) :=
  fun p e s m args below meth c C H locs ls hH hS hl => lv_if_eq C.1.1 C.1.2.1 hd ht (fun q => kt q p e s m args below meth c C H locs ls hH hS hl) (fun q => kf q p e s m args below meth c C H locs ls hH hS hl)
theorem j_if_ne {x : Int32} {off : Int} (tgt : Nat) (hd : decode cc pc = .ok (.ifCond .ne off, 3)) (ht : (pc : Int) + off = (tgt : Int)) (kt : ¬ x = 0 → J Θ cc h k lv tgt st) (kf : x = 0 → J Θ cc h k lv (pc + 3) st) : J Θ cc h k lv pc (.int x :: st) :=
  fun p e s m args below meth c C H locs ls hH hS hl => lv_if_ne C.1.1 C.1.2.1 hd ht (fun q => kt q p e s m args below meth c C H locs ls hH hS hl) (fun q => kf q p e s m args below meth c C H locs ls hH hS hl)
theorem j_if_lt {x : Int32} {off : Int} (tgt : Nat) (hd : decode cc pc = .ok (.ifCond .lt off, 3)) (ht : (pc : Int) + off = (tgt : Int)) (kt : x < 0 → J Θ cc h k lv tgt st) (kf : ¬ x < 0 → J Θ cc h k lv (pc + 3) st) : J Θ cc h k lv pc (.int x :: st) :=
  fun p e s m args below meth c C H locs ls hH hS hl => lv_if_lt C.1.1 C.1.2.1 hd ht (fun q => kt q p e s m args below meth c C H locs ls hH hS hl) (fun q => kf q p e s m args below meth c C H locs ls hH hS hl)
theorem j_if_ge {x : Int32} {off : Int} (tgt : Nat) (hd : decode cc pc = .ok (.ifCond .ge off, 3)) (ht : (pc : Int) + off = (tgt : Int)) (kt : 0 ≤ x → J Θ cc h k lv tgt st) (kf : ¬ 0 ≤ x → J Θ cc h k lv (pc + 3) st) : J Θ cc h k lv pc (.int x :: st) :=
  fun p e s m args below meth c C H locs ls hH hS hl => lv_if_ge C.1.1 C.1.2.1 hd ht (fun q => kt q p e s m args below meth c C H locs ls hH hS hl) (fun q => kf q p e s m args below meth c C H locs ls hH hS hl)
theorem j_if_gt {x : Int32} {off : Int} (tgt : Nat) (hd : decode cc pc = .ok (.ifCond .gt off, 3)) (ht : (pc : Int) + off = (tgt : Int)) (kt : 0 < x → J Θ cc h k lv tgt st) (kf : ¬ 0 < x → J Θ cc h k lv (pc + 3) st) : J Θ cc h k lv pc (.int x :: st) :=
  fun p e s m args below meth c C H locs ls hH hS hl => lv_if_gt C.1.1 C.1.2.1 hd ht (fun q => kt q p e s m args below meth c C H locs ls hH hS hl) (fun q => kf q p e s m args below meth c C H locs ls hH hS hl)
theorem j_if_le {x : Int32} {off : Int} (tgt : Nat) (hd : decode cc pc = .ok (.ifCond .le off, 3)) (ht : (pc : Int) + off = (tgt : Int)) (kt : x ≤ 0 → J Θ cc h k lv tgt st) (kf : ¬ x ≤ 0 → J Θ cc h k lv (pc + 3) st) : J Θ cc h k lv pc (.int x :: st) :=
  fun p e s m args below meth c C H locs ls hH hS hl => lv_if_le C.1.1 C.1.2.1 hd ht (fun q => kt q p e s m args below meth c C H locs ls hH hS hl) (fun q => kf q p e s m args below meth c C H locs ls hH hS hl)
theorem j_icmp_eq {x y : Int32} {off : Int} (tgt : Nat) (hd : decode cc pc = .ok (.if_icmp .eq off, 3)) (ht : (pc : Int) + off = (tgt : Int)) (kt : x = y → J Θ cc h k lv tgt st) (kf : ¬ x = y → J Θ cc h k lv (pc + 3) st) : J Θ cc h k lv pc (.int y :: .int x :: st) :=
  fun p e s m args below meth c C H locs ls hH hS hl => lv_icmp_eq C.1.1 C.1.2.1 hd ht (fun q => kt q p e s m args below meth c C H locs ls hH hS hl) (fun q => kf q p e s m args below meth c C H locs ls hH hS hl)
theorem j_icmp_ne {x y : Int32} {off : Int} (tgt : Nat) (hd : decode cc pc = .ok (.if_icmp .ne off, 3)) (ht : (pc : Int) + off = (tgt : Int)) (kt : ¬ x = y → J Θ cc h k lv tgt st) (kf : x = y → J Θ cc h k lv (pc + 3) st) : J Θ cc h k lv pc (.int y :: .int x :: st) :=
  fun p e s m args below meth c C H locs ls hH hS hl => lv_icmp_ne C.1.1 C.1.2.1 hd ht (fun q => kt q p e s m args below meth c C H locs ls hH hS hl) (fun q => kf q p e s m args below meth c C H locs ls hH hS hl)
theorem j_icmp_lt {x y : Int32} {off : Int} (tgt : Nat) (hd : decode cc pc = .ok (.if_icmp .lt off, 3)) (ht : (pc : Int) + off = (tgt : Int)) (kt : x < y → J Θ cc h k lv tgt st) (kf : ¬ x < y → J Θ cc h k lv (pc + 3) st) : J Θ cc h k lv pc (.int y :: .int x :: st) :=
  fun p e s m args below meth c C H locs ls hH hS hl => lv_icmp_lt C.1.1 C.1.2.1 hd ht (fun q => kt q p e s m args below meth c C H locs ls hH hS hl) (fun q => kf q p e s m args below meth c C H locs ls hH hS hl)
theorem j_icmp_ge {x y : Int32} {off : Int} (tgt : Nat) (hd : decode cc pc = .ok (.if_icmp .ge off, 3)) (ht : (pc : Int) + off = (tgt : Int)) (kt : y ≤ x → J Θ cc h k lv tgt st) (kf : ¬ y ≤ x → J Θ cc h k lv (pc + 3) st) : J Θ cc h k lv pc (.int y :: .int x :: st) :=
  fun p e s m args below meth c C H locs ls hH hS hl => lv_icmp_ge C.1.1 C.1.2.1 hd ht (fun q => kt q p e s m args below meth c C H locs ls hH hS hl) (fun q => kf q p e s m args below meth c C H locs ls hH hS hl)
theorem j_icmp_gt {x y : Int32} {off : Int} (tgt : Nat) (hd : decode cc pc = .ok (.if_icmp .gt off, 3)) (ht : (pc : Int) + off = (tgt : Int)) (kt : y < x → J Θ cc h k lv tgt st) (kf : ¬ y < x → J Θ cc h k lv (pc + 3) st) : J Θ cc h k lv pc (.int y :: .int x :: st) :=
  fun p e s m args below meth c C H locs ls hH hS hl => lv_icmp_gt C.1.1 C.1.2.1 hd ht (fun q => kt q p e s m args below meth c C H locs ls hH hS hl) (fun q => kf q p e s m args below meth c C H locs ls hH hS hl)
theorem j_icmp_le {x y : Int32} {off : Int} (tgt : Nat) (hd : decode cc pc = .ok (.if_icmp .le off, 3)) (ht : (pc : Int) + off = (tgt : Int)) (kt : x ≤ y → J Θ cc h k lv tgt st) (kf : ¬ x ≤ y → J Θ cc h k lv (pc + 3) st) : J Θ cc h k lv pc (.int y :: .int x :: st) :=
  fun p e s m args below meth c C H locs ls hH hS hl => lv_icmp_le C.1.1 C.1.2.1 hd ht (fun q => kt q p e s m args below meth c C H locs ls hH hS hl) (fun q => kf q p e s m args below meth c C H locs ls hH hS hl)
theorem j_goto {off : Int} (tgt : Nat) (hd : decode cc pc = .ok (.goto off, 3)) (ht : (pc : Int) + off = (tgt : Int)) (kk : J Θ cc h k lv tgt st) : J Θ cc h k lv pc st :=
  fun p e s m args below meth c C H locs ls hH hS hl => lv_goto C.1.1 C.1.2.1 hd ht (kk p e s m args below meth c C H locs ls hH hS hl)
theorem j_ifnull {x : Nat} {off : Int} (hd : decode cc pc = .ok (.ifnull off, 3)) (kk : J Θ cc h k lv (pc + 3) st) : J Θ cc h k lv pc (.ref x :: st) :=
  fun p e s m args below meth c C H locs ls hH hS hl => lv_ifnull C.1.1 C.1.2.1 hd (kk p e s m args below meth c C H locs ls hH hS hl)
theorem j_ifnullN {off : Int} (tgt : Nat) (hd : decode cc pc = .ok (.ifnull off, 3)) (ht : (pc : Int) + off = (tgt : Int)) (kk : J Θ cc h k lv tgt st) : J Θ cc h k lv pc (.null :: st) :=
  fun p e s m args below meth c C H locs ls hH hS hl => lv_ifnullN C.1.1 C.1.2.1 hd ht (kk p e s m args below meth c C H locs ls hH hS hl)
theorem j_ifnonnull {x : Nat} {off : Int} (tgt : Nat) (hd : decode cc pc = .ok (.ifnonnull off, 3)) (ht : (pc : Int) + off = (tgt : Int)) (kk : J Θ cc h k lv tgt st) : J Θ cc h k lv pc (.ref x :: st) :=
  fun p e s m args below meth c C H locs ls hH hS hl => lv_ifnonnull C.1.1 C.1.2.1 hd ht (kk p e s m args below meth c C H locs ls hH hS hl)
theorem j_ifnonnullN {off : Int} (hd : decode cc pc = .ok (.ifnonnull off, 3)) (kk : J Θ cc h k lv (pc + 3) st) : J Θ cc h k lv pc (.null :: st) :=
  fun p e s m args below meth c C H locs ls hH hS hl => lv_ifnonnullN C.1.1 C.1.2.1 hd (kk p e s m args below meth c C H locs ls hH hS hl)
theorem j_tableOut {dflt lo hi : Int} {offs : Array Int} {len : Nat} {x : Int32} (tgt : Nat) (hd : decode cc pc = .ok (.tableswitch dflt lo hi offs, len)) (hx : x.toInt < lo ∨ hi < x.toInt) (ht : (pc : Int) + dflt = (tgt : Int)) (kk : J Θ cc h k lv tgt st) : J Θ cc h k lv pc (.int x :: st) :=
  fun p e s m args below meth c C H locs ls hH hS hl => lv_tableOut C.1.1 C.1.2.1 hd hx ht (kk p e s m args below meth c C H locs ls hH hS hl)
theorem j_tableIn {dflt lo hi : Int} {offs : Array Int} {len : Nat} {x : Int32} {off : Int} (tgt : Nat) (hd : decode cc pc = .ok (.tableswitch dflt lo hi offs, len)) (h1 : ¬ x.toInt < lo) (h2 : ¬ hi < x.toInt) (ho : offs[(x.toInt - lo).toNat]? = some off) (ht : (pc : Int) + off = (tgt : Int)) (kk : J Θ cc h k lv tgt st) : J Θ cc h k lv pc (.int x :: st) :=
  fun p e s m args below meth c C H locs ls hH hS hl => lv_tableIn C.1.1 C.1.2.1 hd h1 h2 ho ht (kk p e s m args below meth c C H locs ls hH hS hl)
/-! ===== cells ===== -/
theorem hp.one {G : GG} {h : AH} {H : Heap} (hh : hp G h H) {a : Nat} {e : AE} (ha : h a = some e) : va_P G.1 vwCl [(a, ge G e)] H := by
  intro j q hj
  match j, hj with
  | 0, hj =>
    cases hj
    exact (hh a e ha).2
  | j + 1, hj => simp at hj
theorem j_get {C : String} {T : u_T} {N ci index fk a : Nat} {fs : List Value} {v : Value} (he : h a = some (.inr (ci, fs))) (hc : vwCl[ci]? = some (C, T, N)) (hin : ∀ w ∈ u_ws C T N, w ∈ wsG) (hk : fk < N) (hlink : Cond.fieldLink Θ.2.2.1.1.cls index (T fk).1 (T fk).2.1 (T fk).2.2.1 ∈ wsG) (hv : fs[fk]? = some v) (hd : decode cc pc = .ok (.getfield index, 3)) (kk : J Θ cc h k lv (pc + 3) (v :: st)) : J Θ cc h k lv pc (.ref a :: st) := by
  intro p e s m args below meth c C0 H locs ls hH hS hl
  exact va_get (D := Θ.2.1.1) (ws := [(a, .inr (ci, fs))]) C0.1.1 C0.1.2.1 C0.1.2.2.2.2 hin C0.1.2.2.2.1 C0.2.2.2.2.1.1 (hH.one he) 0 rfl hc fk hk (C0.1.2.2.2.2 _ hlink) (fun _ h9 => h9) hv hd (kk p e s m args below meth c C0 H locs ls hH hS hl)
theorem j_put {C : String} {T : u_T} {N ci index fk a : Nat} {fs : List Value} {v : Value} {ty : FieldType} (he : h a = some (.inr (ci, fs))) (hc : vwCl[ci]? = some (C, T, N)) (hin : ∀ w ∈ u_ws C T N, w ∈ wsG) (ty0 : Nat → FieldType) (hty : ∀ k, k < N → parseFieldDescriptor (T k).2.2.1 = some (ty0 k)) (hnm : ∀ a, a < N → ∀ b, b < N → a ≠ b → (T a).2.1 ≠ (T b).2.1) (hk : fk < N) (hlink : Cond.fieldLink Θ.2.2.1.1.cls index (T fk).1 (T fk).2.1 (T fk).2.2.1 ∈ wsG) (hfin : (T fk).2.2.2 = false) (hpd : parseFieldDescriptor (T fk).2.2.1 = some ty) (hn : narrow ty v = v) (hfit : fits ty v = true) (hlen : fk < fs.length) (hd : decode cc pc = .ok (.putfield index, 3)) (kk : J Θ cc (upA h a (.inr (ci, fs.set fk v))) k lv (pc + 3) st) : J Θ cc h k lv pc (v :: .ref a :: st) := by
  intro p e s m args below meth c C0 H locs ls hH hS hl
  have hts := C0.1.2.2.2.2
  have hK := C0.2.2.2.2.1.1
  have hap := va_apart (own := Θ.2.2.1.1.cls) hts hin ty0 hty hnm hK hc
  obtain ⟨hNa, r, h1, cell, q1, q2, q3, q4⟩ := hH a _ he
  have hr : r = (C, T, N) := Option.some.inj (h1.symm.trans hc)
  subst hr
  obtain ⟨hSl, hfc, kC, hkC, hkind⟩ := hK.1 ci _ hc
  obtain ⟨cf, kf, fi, f, hi, hsl⟩ := hSl fk hk
  have hlay := hts _ (hin _ (u_in_lay hk))
  unfold u_lay at hlay
  rw [if_neg (by rw [hfin]; decide)] at hlay
  have hst := (u_facts hfc hkC (u_lays hts hin hk) hi).1
  have h6 := u_store hfc hkC hkind hlay hi hpd hn hfit
  refine W.putK C0.1.1 C0.1.2.1 (f := f) ⟨C0.1.2.2.2.1, hts _ hlink, ⟨_, _, _, hi⟩, hst⟩ (by rw [q2]; exact h6) q1 q3 (by rw [hsl]; exact k2_hasslot (q4 fk hk)) rfl rfl hd fun H' e1 e2 e3 => ?_
  rw [hsl] at e1 ⊢
  exact kk p e s m args below meth c C0 H' _ ls (hH.set hNa ⟨_, hc, t_OB.to (V := updV (vp_V fs) fk v) ⟨_, e1, q2, q3, t_set q4 hap hk v⟩ (fun j _ => vp_updV_set hlen v j)⟩ e3) (hS.put e2 e3 hNa) hl
theorem j_putF {C : String} {T : u_T} {N ci index fk a : Nat} {fs : List Value} {v : Value} {ty : FieldType} (he : h a = some (.inr (ci, fs))) (hc : vwCl[ci]? = some (C, T, N)) (hin : ∀ w ∈ u_ws C T N, w ∈ wsG) (ty0 : Nat → FieldType) (hty : ∀ k, k < N → parseFieldDescriptor (T k).2.2.1 = some (ty0 k)) (hnm : ∀ a, a < N → ∀ b, b < N → a ≠ b → (T a).2.1 ≠ (T b).2.1) (hk : fk < N) (hlink : Cond.fieldLink Θ.2.2.1.1.cls index (T fk).1 (T fk).2.1 (T fk).2.2.1 ∈ wsG) (hfin : (T fk).2.2.2 = true) (hini : Θ.2.2.1.1.name = "<init>") (hdecl : (T fk).1 = Θ.2.2.1.1.cls) (hpd : parseFieldDescriptor (T fk).2.2.1 = some ty) (hn : narrow ty v = v) (hfit : fits ty v = true) (hlen : fk < fs.length) (hd : decode cc pc = .ok (.putfield index, 3)) (kk : J Θ cc (upA h a (.inr (ci, fs.set fk v))) k lv (pc + 3) st) : J Θ cc h k lv pc (v :: .ref a :: st) := by
  intro p e s m args below meth c C0 H locs ls hH hS hl
  have hts := C0.1.2.2.2.2
  have hown := C0.1.2.2.2.1
  have hK := C0.2.2.2.2.1.1
  have hap := va_apart (own := Θ.2.2.1.1.cls) hts hin ty0 hty hnm hK hc
  obtain ⟨hNa, r, h1, cell, q1, q2, q3, q4⟩ := hH a _ he
  have hr : r = (C, T, N) := Option.some.inj (h1.symm.trans hc)
  subst hr
  obtain ⟨hSl, hfc, kC, hkC, hkind⟩ := hK.1 ci _ hc
  obtain ⟨cf, kf, fi, f, hi, hsl⟩ := hSl fk hk
  have hlay := hts _ (hin _ (u_in_lay hk))
  unfold u_lay at hlay
  rw [if_pos hfin] at hlay
  have hst := (u_facts hfc hkC (u_lays hts hin hk) hi).1
  have hcf : m.cls = cf := by
    obtain ⟨_, _, c', _, _, _, -, -, hf', -, -, -, hown2, -⟩ := Cond.laysFinal_spec hlay
    have e1 : c' = cf := by have := hi.symm.trans hf'; simp at this; exact this.1.symm
    rw [hdecl] at hown2
    rw [← e1]; exact Option.some.inj (hown.symm.trans hown2)
  have h6 := u_fits hfc hkC hkind (Or.inr hlay) hi hpd hn hfit
  refine W.putFinK C0.1.1 C0.1.2.1 hown (hts _ hlink) hi hst hcf (C0.2.2.2.1.trans hini) (by rw [q2]; exact h6) q1 q3 (by rw [hsl]; exact k2_hasslot (q4 fk hk)) rfl rfl hd fun H' e1 e2 e3 => ?_
  rw [hsl] at e1 ⊢
  exact kk p e s m args below meth c C0 H' _ ls (hH.set hNa ⟨_, hc, t_OB.to (V := updV (vp_V fs) fk v) ⟨_, e1, q2, q3, t_set q4 hap hk v⟩ (fun j _ => vp_updV_set hlen v j)⟩ e3) (hS.put e2 e3 hNa) hl
/-! arrays: a place is a number j < n, the index on the stack is nI j -/
theorem nI_pin {i : Int32} {j n : Nat} (hi : i = nI j) (hj : j < n) (hn : n < 2147483648) : ¬ (i < 0 ∨ n ≤ i.toNatClampNeg) ∧ i.toNatClampNeg = j := by
  subst hi
  exact ⟨nI_in hj hn, nI_clamp (by omega)⟩
theorem j_iald {a n : Nat} {f : Nat → Int32} {i : Int32} (he : h a = some (.inl (0, n, .inl f))) (j : Nat) (hi : i = nI j) (hj : j < n) (hn : n < 2147483648) (hd : decode cc pc = .ok (.iaload, 1)) (kk : J Θ cc h k lv (pc + 1) (.int (f j) :: st)) : J Θ cc h k lv pc (.int i :: .ref a :: st) := by
  intro p e s m args below meth c C0 H locs ls hH hS hl
  obtain ⟨hin, hcl⟩ := nI_pin hi hj hn
  refine va_iald (D := Θ.2.1.1) (ws := [(a, .inl (Θ.2.1.2.1 0, n, .inl f))]) C0.1.1 C0.1.2.1 C0.2.2.2.2.1.1 (hH.one he) 0 0 rfl rfl hin hd ?_
  rw [hcl]
  exact kk p e s m args below meth c C0 H locs ls hH hS hl
theorem j_zald {a n : Nat} {f : Nat → Int32} {i : Int32} (he : h a = some (.inl (2, n, .inl f))) (j : Nat) (hi : i = nI j) (hj : j < n) (hn : n < 2147483648) (hd : decode cc pc = .ok (.baload, 1)) (kk : J Θ cc h k lv (pc + 1) (.int (f j) :: st)) : J Θ cc h k lv pc (.int i :: .ref a :: st) := by
  intro p e s m args below meth c C0 H locs ls hH hS hl
  obtain ⟨hin, hcl⟩ := nI_pin hi hj hn
  refine va_zald (D := Θ.2.1.1) (ws := [(a, .inl (Θ.2.1.2.1 2, n, .inl f))]) C0.1.1 C0.1.2.1 C0.2.2.2.2.1.1 (hH.one he) 0 2 rfl rfl hin hd ?_
  rw [hcl]
  exact kk p e s m args below meth c C0 H locs ls hH hS hl
theorem j_lald {a n : Nat} {f : Nat → Int64} {i : Int32} (he : h a = some (.inl (1, n, .inr (.inl f)))) (j : Nat) (hi : i = nI j) (hj : j < n) (hn : n < 2147483648) (hd : decode cc pc = .ok (.laload, 1)) (kk : J Θ cc h k lv (pc + 1) (.long (f j) :: st)) : J Θ cc h k lv pc (.int i :: .ref a :: st) := by
  intro p e s m args below meth c C0 H locs ls hH hS hl
  obtain ⟨hin, hcl⟩ := nI_pin hi hj hn
  refine va_lald (D := Θ.2.1.1) (ws := [(a, .inl (Θ.2.1.2.1 1, n, .inr (.inl f)))]) C0.1.1 C0.1.2.1 C0.2.2.2.2.1.1 (hH.one he) 0 1 rfl rfl hin hd ?_
  rw [hcl]
  exact kk p e s m args below meth c C0 H locs ls hH hS hl
theorem j_aldP {a n : Nat} {f : Nat → Option Nat} {i : Int32} (he : h a = some (.inl (3, n, .inr (.inr (.inr (.inr f)))))) (j : Nat) (hi : i = nI j) (hj : j < n) (hn : n < 2147483648) (hd : decode cc pc = .ok (.aaload, 1)) (kk : J Θ cc h k lv (pc + 1) (va_rf (f j) :: st)) : J Θ cc h k lv pc (.int i :: .ref a :: st) := by
  intro p e s m args below meth c C0 H locs ls hH hS hl
  obtain ⟨hin, hcl⟩ := nI_pin hi hj hn
  refine va_aldq (D := Θ.2.1.1) (C := RX2) (ws := [(a, .inl (Θ.2.1.2.1 3, n, .inr (.inr (.inr (.inr f)))))]) C0.1.1 C0.1.2.1 C0.2.2.2.2.1.1 (hH.one he) 0 3 rfl rfl hin hd ?_
  rw [hcl]
  exact kk p e s m args below meth c C0 H locs ls hH hS hl
theorem j_aldB {a n : Nat} {f : Nat → Option Nat} {i : Int32} (he : h a = some (.inl (4, n, .inr (.inr (.inr (.inr f)))))) (j : Nat) (hi : i = nI j) (hj : j < n) (hn : n < 2147483648) (hd : decode cc pc = .ok (.aaload, 1)) (kk : J Θ cc h k lv (pc + 1) (va_rf (f j) :: st)) : J Θ cc h k lv pc (.int i :: .ref a :: st) := by
  intro p e s m args below meth c C0 H locs ls hH hS hl
  obtain ⟨hin, hcl⟩ := nI_pin hi hj hn
  refine va_aldq (D := Θ.2.1.1) (C := RX0) (ws := [(a, .inl (Θ.2.1.2.1 4, n, .inr (.inr (.inr (.inr f)))))]) C0.1.1 C0.1.2.1 C0.2.2.2.2.1.1 (hH.one he) 0 4 rfl rfl hin hd ?_
  rw [hcl]
  exact kk p e s m args below meth c C0 H locs ls hH hS hl
theorem j_iast {a n : Nat} {f : Nat → Int32} {i x : Int32} (he : h a = some (.inl (0, n, .inl f))) (j : Nat) (hi : i = nI j) (hj : j < n) (hn : n < 2147483648) (hd : decode cc pc = .ok (.iastore, 1)) (kk : J Θ cc (upA h a (.inl (0, n, .inl (upd f j x)))) k lv (pc + 1) st) : J Θ cc h k lv pc (.int x :: .int i :: .ref a :: st) := by
  intro p e s m args below meth c C0 H locs ls hH hS hl
  obtain ⟨hin, hcl⟩ := nI_pin hi hj hn
  obtain ⟨hNa, hcell⟩ := hH a _ he
  refine W.iast C0.1.1 C0.1.2.1 hcell ((C0.2.2.2.2.1.1.2 0 _ rfl).1 n (fun j => .int (f j))) (fun q => by cases q) (by show ¬ (i < 0 ∨ (arrV _ _ _).slots.size ≤ _); rw [arrV_size]; exact hin) rfl rfl hd fun H1 e1 z oq => ?_
  refine kk p e s m args below meth c C0 H1 _ ls (hH.set hNa ?_ oq) (hS.put z oq hNa) hl
  show H1[a]? = some (vp_cell _ _)
  rw [e1]
  show some ((vp_cell _ _).setSlot _ _) = _
  rw [vp_cell_i, vp_cell_i, arrV_store, hcl]
  congr 2
  funext q
  by_cases hq : q = j
  · subst hq
    simp [updV, upd]
  · simp [updV, upd, hq]
theorem j_zast {a n : Nat} {f : Nat → Int32} {i x : Int32} (he : h a = some (.inl (2, n, .inl f))) (j : Nat) (hi : i = nI j) (hj : j < n) (hn : n < 2147483648) (hx : narrow .boolean (.int x) = .int x) (hd : decode cc pc = .ok (.bastore, 1)) (kk : J Θ cc (upA h a (.inl (2, n, .inl (upd f j x)))) k lv (pc + 1) st) : J Θ cc h k lv pc (.int x :: .int i :: .ref a :: st) := by
  intro p e s m args below meth c C0 H locs ls hH hS hl
  obtain ⟨hin, hcl⟩ := nI_pin hi hj hn
  obtain ⟨hNa, hcell⟩ := hH a _ he
  refine W.zast C0.1.1 C0.1.2.1 hcell ((C0.2.2.2.2.1.1.2 2 _ rfl).1 n (fun j => .int (f j))) (fun q => by cases q) (by show ¬ (i < 0 ∨ (arrV _ _ _).slots.size ≤ _); rw [arrV_size]; exact hin) rfl rfl hd fun H1 e1 z oq => ?_
  refine kk p e s m args below meth c C0 H1 _ ls (hH.set hNa ?_ oq) (hS.put z oq hNa) hl
  show H1[a]? = some (vp_cell _ _)
  rw [e1, hx]
  show some ((vp_cell _ _).setSlot _ _) = _
  rw [vp_cell_i, vp_cell_i, arrV_store, hcl]
  congr 2
  funext q
  by_cases hq : q = j
  · subst hq
    simp [updV, upd]
  · simp [updV, upd, hq]
theorem j_last {a n : Nat} {f : Nat → Int64} {i : Int32} {x : Int64} (he : h a = some (.inl (1, n, .inr (.inl f)))) (j : Nat) (hi : i = nI j) (hj : j < n) (hn : n < 2147483648) (hd : decode cc pc = .ok (.lastore, 1)) (kk : J Θ cc (upA h a (.inl (1, n, .inr (.inl (vp_updL f j x))))) k lv (pc + 1) st) : J Θ cc h k lv pc (.long x :: .int i :: .ref a :: st) := by
  intro p e s m args below meth c C0 H locs ls hH hS hl
  obtain ⟨hin, hcl⟩ := nI_pin hi hj hn
  obtain ⟨hNa, hcell⟩ := hH a _ he
  refine W.last C0.1.1 C0.1.2.1 hcell ((C0.2.2.2.2.1.1.2 1 _ rfl).1 n (fun j => .long (f j))) (fun q => by cases q) (by show ¬ (i < 0 ∨ (arrV _ _ _).slots.size ≤ _); rw [arrV_size]; exact hin) rfl rfl hd fun H1 e1 z oq => ?_
  refine kk p e s m args below meth c C0 H1 _ ls (hH.set hNa ?_ oq) (hS.put z oq hNa) hl
  show H1[a]? = some (vp_cell _ _)
  rw [e1]
  show some ((vp_cell _ _).setSlot _ _) = _
  rw [vp_cell_l, vp_cell_l, arrV_store, hcl]
  congr 2
  funext q
  by_cases hq : q = j
  · subst hq
    simp [updV, vp_updL]
  · simp [updV, vp_updL, hq]
/-- a store of an object of kind ci into an array (kind t) of its class -/
theorem j_aast {a n v t ci : Nat} {f : Nat → Option Nat} {vs : List Value} {i : Int32} {r : vw_C} (he : h a = some (.inl (t, n, .inr (.inr (.inr (.inr f)))))) (hv : h v = some (.inr (ci, vs))) (hc : vwCl[ci]? = some r) (ht : (tyG Θ.2.1)[t]? = some (Θ.2.1.2.1 t, .object r.1)) (j : Nat) (hi : i = nI j) (hj : j < n) (hn : n < 2147483648) (hd : decode cc pc = .ok (.aastore, 1)) (kk : J Θ cc (upA h a (.inl (t, n, .inr (.inr (.inr (.inr (va_up f j (some v)))))))) k lv (pc + 1) st) : J Θ cc h k lv pc (.ref v :: .int i :: .ref a :: st) := by
  intro p e s m args below meth c C0 H locs ls hH hS hl
  obtain ⟨hin, hcl⟩ := nI_pin hi hj hn
  obtain ⟨hNa, hcell⟩ := hH a _ he
  obtain ⟨-, r', hr', cellV, g1, g2, g3, -⟩ := hH v _ hv
  have hK := C0.2.2.2.2.1.1
  have hcls := (hK.1 ci r hc).2
  obtain ⟨kA, comp, k1, k2, k3, -⟩ := (hK.2 t _ ht).2
  have hcomp : comp = Θ.2.1.1.1 ci := Option.some.inj (k3.symm.trans hcls.1)
  subst hcomp
  obtain ⟨kC, hkC, -⟩ := hcls.2
  have hlt : i.toNatClampNeg < n := Nat.not_le.mp fun q => hin (Or.inr q)
  have h0 : ¬ i < 0 := fun q => hin (Or.inl q)
  refine W.aast C0.1.1 C0.1.2.1 hcell (fun q h => by cases h) (fun h => by cases h) k1 k2 rfl hkC ⟨h0, by show _ < (arrV _ _ _).slots.size; rw [arrV_size]; exact hlt⟩ g1 (fun q h => by rw [g3] at h; cases h) (by rw [g2]; exact hkC) (by rw [g2]; exact va_assign hcls) rfl rfl hd fun H1 e1 z oq => ?_
  refine kk p e s m args below meth c C0 H1 _ ls (hH.set hNa ?_ oq) (hS.put z oq hNa) hl
  show H1[a]? = some (vp_cell _ _)
  rw [e1]
  show some ((vp_cell _ _).setSlot _ _) = _
  rw [vp_cell_q, vp_cell_q, arrV_store, hcl]
  congr 2
  funext q
  by_cases hq : q = j
  · subst hq
    simp [updV, va_up, va_rf]
  · simp [updV, va_up, hq]
theorem j_alen {a t n : Nat} {x : vp_A} {ty : FieldType} (he : h a = some (.inl (t, x))) (ht : (tyG Θ.2.1)[t]? = some (Θ.2.1.2.1 t, ty)) (hn : x.1 = n) (hd : decode cc pc = .ok (.arraylength, 1)) (kk : J Θ cc h k lv (pc + 1) (.int (nI n) :: st)) : J Θ cc h k lv pc (.ref a :: st) := by
  intro p e s m args below meth c C0 H locs ls hH hS hl
  exact va_alen (D := Θ.2.1.1) (ws := [(a, .inl (Θ.2.1.2.1 t, x))]) C0.1.1 C0.1.2.1 C0.2.2.2.2.1.1 (hH.one he) 0 t rfl ht (by rw [hn]; rfl) hd (kk p e s m args below meth c C0 H locs ls hH hS hl)
/-! ===== making ===== -/
theorem j_new {C : String} {T : u_T} {N ci index : Nat} {fs : List Value} (hc : vwCl[ci]? = some (C, T, N)) (hin : ∀ w ∈ u_ws C T N, w ∈ wsG) (ty : Nat → FieldType) (hty : ∀ k, k < N → parseFieldDescriptor (T k).2.2.1 = some (ty k)) (hcl : Cond.classLink Θ.2.2.1.1.cls index C ∈ wsG) (hinst : Cond.instantiable C N ∈ wsG) (hini : Cond.initialized C ∈ wsG) (hfs : ∀ j, j < N → defaultValue (ty j) = vp_V fs j) (h1 : k.1 + 1 ≤ Θ.2.2.2.2.1.cells) (h2 : k.2 + N ≤ Θ.2.2.2.2.1.slots) (hd : decode cc pc = .ok (.new index, 3)) (kk : ∀ a : Nat, (∀ b, a ≤ b → h b = none) → J Θ cc (upA h a (.inr (ci, fs))) (k.1 + 1, k.2 + N) lv (pc + 3) (.ref a :: st)) : J Θ cc h k lv pc st := by
  intro p e s m args below meth c C0 H locs ls hH hS hl
  have hts := C0.1.2.2.2.2
  have hKn := C0.2.2.2.2.1.1.1 ci _ hc
  refine W.newcK C0.1.1 C0.1.2.1 C0.1.2.2.2.1 (hts _ hcl) (hts _ hinst) (hts _ hini) rfl hd h1 h2 hKn.2.1 rfl fun H1 kC hkC e1 z1 o1 => ?_
  exact kk H.size hH.fresh p e s m args below meth c C0 H1 locs ls (hH.new (Nat.le_trans C0.2.2.2.2.2.1 hS.1) ⟨_, hc, (u_born ty hts hin hKn hkC e1 hty).to hfs⟩ o1) ⟨Nat.le_trans hS.1 (by omega), fun x g1 g2 => (o1 x (Nat.lt_of_lt_of_le g1 hS.1)).trans (hS.2.1 x g1 g2), hS.2.2⟩ hl
theorem j_newa {atype : ArrayType} {ty : FieldType} {t : Nat} {n : Int32} {N' : Nat} {a0 : vp_A} (harr : Cond.arrayClass (newarray.typeOf atype) ∈ wsG) (hty : newarray.typeOf atype = ty) (ht : (tyG Θ.2.1)[t]? = some (Θ.2.1.2.1 t, ty)) (hra : ∀ (U : State) (cA : ClassId), va_RA U cA ty = (U.vm.findClass ("[" ++ ty.toString) = some cA)) (ha : ∀ cA : ClassId, vp_cell cA a0 = arrV cA N' (fun _ => defaultValue ty)) (hn : ¬ n < 0) (hN : n.toNatClampNeg = N') (hbytes : N' * componentBytes ty ≤ 536870912) (h1 : k.1 + 1 ≤ Θ.2.2.2.2.1.cells) (h2 : k.2 + N' ≤ Θ.2.2.2.2.1.slots) (hd : decode cc pc = .ok (.newarray atype, 2)) (kk : ∀ a : Nat, (∀ b, a ≤ b → h b = none) → J Θ cc (upA h a (.inl (t, a0))) (k.1 + 1, k.2 + N') lv (pc + 2) (.ref a :: st)) : J Θ cc h k lv pc (.int n :: st) := by
  subst hty
  intro p e s m args below meth c C0 H locs ls hH hS hl
  have hK := C0.2.2.2.2.1.1
  refine va_newaK C0.1.1 C0.1.2.1 (C0.1.2.2.2.2 _ harr) rfl hd rfl hn hN hbytes h1 h2 rfl fun H1 cA e1 z1 o1 hAr hNm => ?_
  have hcA : Θ.2.1.2.1 t = cA := by
    have := (hK.2 t _ ht).2
    rw [hra] at this
    exact Option.some.inj (this.symm.trans hNm)
  exact kk H.size hH.fresh p e s m args below meth c C0 H1 locs ls (hH.new (Nat.le_trans C0.2.2.2.2.2.1 hS.1) (by show H1[H.size]? = some (vp_cell _ _); rw [ha, e1, hcA]) o1) ⟨Nat.le_trans hS.1 (by omega), fun x g1 g2 => (o1 x (Nat.lt_of_lt_of_le g1 hS.1)).trans (hS.2.1 x g1 g2), hS.2.2⟩ hl
theorem j_newi {n : Int32} (N' : Nat) (hn : ¬ n < 0) (hN : n.toNatClampNeg = N') (hb : N' ≤ 1000000) (h1 : k.1 + 1 ≤ Θ.2.2.2.2.1.cells) (h2 : k.2 + N' ≤ Θ.2.2.2.2.1.slots) (hd : decode cc pc = .ok (.newarray .int, 2)) (kk : ∀ a : Nat, (∀ b, a ≤ b → h b = none) → J Θ cc (upA h a (.inl (0, N', .inl (fun _ => 0)))) (k.1 + 1, k.2 + N') lv (pc + 2) (.ref a :: st)) : J Θ cc h k lv pc (.int n :: st) :=
  j_newa (atype := .int) (ty := .int) (t := 0) wa_int rfl rfl (fun _ _ => rfl) (fun _ => rfl) hn hN (by simp [componentBytes]; omega) h1 h2 hd kk
theorem j_newl {n : Int32} (N' : Nat) (hn : ¬ n < 0) (hN : n.toNatClampNeg = N') (hb : N' ≤ 1000000) (h1 : k.1 + 1 ≤ Θ.2.2.2.2.1.cells) (h2 : k.2 + N' ≤ Θ.2.2.2.2.1.slots) (hd : decode cc pc = .ok (.newarray .long, 2)) (kk : ∀ a : Nat, (∀ b, a ≤ b → h b = none) → J Θ cc (upA h a (.inl (1, N', .inr (.inl (fun _ => 0))))) (k.1 + 1, k.2 + N') lv (pc + 2) (.ref a :: st)) : J Θ cc h k lv pc (.int n :: st) :=
  j_newa (atype := .long) (ty := .long) (t := 1) wa_long rfl rfl (fun _ _ => rfl) (fun _ => rfl) hn hN (by simp [componentBytes]; omega) h1 h2 hd kk
theorem j_newz {n : Int32} (N' : Nat) (hn : ¬ n < 0) (hN : n.toNatClampNeg = N') (hb : N' ≤ 1000000) (h1 : k.1 + 1 ≤ Θ.2.2.2.2.1.cells) (h2 : k.2 + N' ≤ Θ.2.2.2.2.1.slots) (hd : decode cc pc = .ok (.newarray .boolean, 2)) (kk : ∀ a : Nat, (∀ b, a ≤ b → h b = none) → J Θ cc (upA h a (.inl (2, N', .inl (fun _ => 0)))) (k.1 + 1, k.2 + N') lv (pc + 2) (.ref a :: st)) : J Θ cc h k lv pc (.int n :: st) :=
  j_newa (atype := .boolean) (ty := .boolean) (t := 2) wa_boolean rfl rfl (fun _ _ => rfl) (fun _ => rfl) hn hN (by simp [componentBytes]; omega) h1 h2 hd kk
theorem j_newq {C : String} {t index : Nat} {n : Int32} (N' : Nat) (ht : (tyG Θ.2.1)[t]? = some (Θ.2.1.2.1 t, .object C)) (hcl : Cond.classLink Θ.2.2.1.1.cls index C ∈ wsG) (hov : ∀ s : State, KG Θ.2.1 s → va_AO C s) (hn : ¬ n < 0) (hN : n.toNatClampNeg = N') (hb : N' ≤ 1000000) (h1 : k.1 + 1 ≤ Θ.2.2.2.2.1.cells) (h2 : k.2 + N' ≤ Θ.2.2.2.2.1.slots) (hd : decode cc pc = .ok (.anewarray index, 3)) (kk : ∀ a : Nat, (∀ b, a ≤ b → h b = none) → J Θ cc (upA h a (.inl (t, N', .inr (.inr (.inr (.inr (fun _ => none))))))) (k.1 + 1, k.2 + N') lv (pc + 3) (.ref a :: st)) : J Θ cc h k lv pc (.int n :: st) := by
  subst hN
  intro p e s m args below meth c C0 H locs ls hH hS hl
  have hK := C0.2.2.2.2.1.1
  refine W.anew C0.1.1 C0.1.2.1 C0.1.2.2.2.1 (C0.1.2.2.2.2 _ hcl) (va_AO.use (hov s C0.2.2.2.2.1)) rfl hd rfl hn (by omega) h1 h2 fun cA kA comp f1 f2 f3 f4 => ?_
  obtain ⟨kA', comp', k1, k2, k3, k4⟩ := (hK.2 t _ ht).2
  have hcA : Θ.2.1.2.1 t = cA := Option.some.inj (k4.symm.trans f1)
  generalize hH1 : H.push ({ cls := cA, slots := Array.replicate n.toNatClampNeg .null, vm := .none } : Cell) = H1
  have z1 : H1.size = H.size + 1 := by rw [← hH1, Array.size_push]
  have e1 : H1[H.size]? = some (arrV cA n.toNatClampNeg (fun _ => .null)) := by rw [← hH1, Array.getElem?_push_size, ← arrV_new]
  have o1 : ∀ q : Nat, q < H.size → H1[q]? = H[q]? := fun q hq => by rw [← hH1, Array.getElem?_push, if_neg (Nat.ne_of_lt hq)]
  exact kk H.size hH.fresh p e s m args below meth c C0 H1 locs ls (hH.new (Nat.le_trans C0.2.2.2.2.2.1 hS.1) (by show H1[H.size]? = some (vp_cell _ _); rw [vp_cell_q, hcA]; exact e1) o1) ⟨Nat.le_trans hS.1 (by omega), fun x g1 g2 => (o1 x (Nat.lt_of_lt_of_le g1 hS.1)).trans (hS.2.1 x g1 g2), hS.2.2⟩ hl
/-! ===== calls ===== -/
def CW (M : MI) (n : Nat) : Prop := Cond.code M.1 M.2.1 M.2.2.1 M.2.2.2 ∈ wsG ∧ Cond.initialized M.1.cls ∈ wsG ∧ M.1.cls ≠ "java/lang/invoke/MethodHandle" ∧ M.1.cls ≠ "java/lang/invoke/VarHandle" ∧ (parseMethodDescriptor M.1.desc).map (fun d => d.parameters.length) = some n ∧ M.2.2.1 ≤ 21
theorem wG_in {M : MI} (hw : Cond.code M.1 M.2.1 M.2.2.1 M.2.2.2 ∈ wsG) : GoodIn wsG (.code M.1 M.2.1 M.2.2.1 M.2.2.2 :: wsG) := by
  intro w hw'
  rcases List.mem_cons.mp hw' with rfl | h
  · exact ⟨hw, wG_good _ hw⟩
  · exact ⟨h, wG_good _ h⟩
theorem va_blind {G : GG} {h : AH} {as : List Value} : FrameBlind (va_Pc as (fun U => hp G h U.heap ∧ KG G U ∧ G.2.2 ≤ U.heap.size)) := fun a U g mk q => ⟨q.1, q.2.1, q.2.2.1.warm (U := U.calling g mk a) (State.WarmedH.refl U), q.2.2.2⟩
theorem j_back {G : GG} {M M' : MI} {kc ks : Nat} {post : Option Value → AH → Prop} {p : Program} {l : Launch} {e : Env} {R : Room} {s : State} {m : MethodId} {args a : Array Value} {below : List Frame} {meth : Method} {c : Code} {H : Heap} {locs : List Loc} {ls : Array Slot} {Q : State → Prop} {kk1 kk2 : Nat} {st rest : List Value}
    (hr : va_Run p l e R s m args below meth c H locs kk1 kk2 kc ks (F0 m pc ls st) rest (QQ G post a) (AN G)) (hS : va_S (AN G) s.heap H locs) (kk : ∀ (v : Option Value) (h' : AH) (H1 : Heap) (locs1 : List Loc), post v h' → hp G h' H1 → va_S (AN G) s.heap H1 locs1 → W p l e R s m args below meth c H1 locs1 (kk1 + kc) (kk2 + ks) Q (F0 m (pc + 3) ls (v.toList ++ rest))) : W p l e R s m args below meth c H locs kk1 kk2 Q (F0 m pc ls st) := by
  intro T hT X
  obtain ⟨v, st₀, t, T', L, h0, X', hL, e1, e2, ⟨⟨v', h', hv, hpo, hh⟩, hz, hk⟩, stp⟩ := hr T hT X
  cases hv
  rw [h0] at hz hk
  obtain ⟨t2, a1, b1⟩ := kk v h' T'.heap (locs ++ L) hpo (by rw [e1]; exact hh)
    ⟨Nat.le_trans hS.1 (by rw [e1]; exact hz), fun q h1 h2 => by rw [e1, hk q (Nat.lt_of_lt_of_le h1 hS.1) h2]; exact hS.2.1 q h1 h2, fun q hq => by
      rcases List.mem_append.mp hq with h | h
      · exact hS.2.2 q h
      · exact hL q h⟩ T' rfl X'
  exact ⟨t2, stp t2 a1, b1⟩
theorem rmD_ok {M : MI} {d kc ks n : Nat} {R : Room} (hw : CW M n) (hd1 : d + 1 ≤ R.frames) (hd2 : 40 * (d + 1) ≤ R.locals) : (rmD d kc ks).frames + 1 ≤ R.frames ∧ 8 + (M.2.2.1 + 11) + (rmD d kc ks).locals ≤ R.locals := by
  refine ⟨hd1, ?_⟩
  have h21 := hw.2.2.2.2.2
  show 8 + (M.2.2.1 + 11) + 40 * d ≤ R.locals
  omega
theorem j_callS {M' : MI} {d kc ks n index : Nat} {as rest : List Value} {post : Option Value → AH → Prop} (hC : Con Θ.1 Θ.2.1 M' d kc ks as h post) (hw : CW M' n) (hl : Cond.methodLink Θ.2.2.1.1.cls index M'.1 ∈ wsG) (hs : Cond.static M'.1 ∈ wsG) (hn : as.length = n) (hst : st = as.reverse ++ rest) (hW : (rest.map fun v => v.category).sum ≤ 8) (hd1 : d + 1 ≤ Θ.2.2.2.2.1.frames) (hd2 : 40 * (d + 1) ≤ Θ.2.2.2.2.1.locals) (hc1 : k.1 + kc ≤ Θ.2.2.2.2.1.cells) (hc2 : k.2 + ks ≤ Θ.2.2.2.2.1.slots) (hd : decode cc pc = .ok (.invokestatic index, 3)) (kk : ∀ (v : Option Value) (h' : AH), post v h' → J Θ cc h' (k.1 + kc, k.2 + ks) lv (pc + 3) (v.toList ++ rest)) : J Θ cc h k lv pc st := by
  intro p e s m args below meth c C0 H locs ls hH hS hl0
  have hts := C0.1.2.2.2.2
  refine j_back (va_runS (As := as) C0.1 hC ⟨callB_of n hts (wG_in hw.1) rfl rfl rfl (hts _ hw.2.1) (hts _ hl) ⟨hw.2.2.1, hw.2.2.2.1, hw.2.2.2.2.1⟩ (rmD_ok hw hd1 hd2), hts _ hs⟩ ⟨va_blind, fun U hU hWU => ⟨rfl, by rw [hU]; exact hH, C0.2.2.2.2.1.warm hWU, by rw [hU]; exact Nat.le_trans C0.2.2.2.2.2.1 hS.1⟩⟩ rfl hn hl0.1 hst (lv_room hW) hd ⟨hc1, hc2⟩) hS (M := M') (M' := M') ?_
  exact fun v h' H1 locs1 hpo hH1 hS1 => kk v h' hpo p e s m args below meth c C0 H1 locs1 ls hH1 hS1 hl0
theorem j_callSN {M' : MI} {d kc ks n index : Nat} {host : String} {as rest : List Value} {post : Option Value → AH → Prop} (hC : Con Θ.1 Θ.2.1 M' d kc ks as h post) (hw : CW M' n) (hl : ∀ s : State, KG Θ.2.1 s → va_Nw (.methodLinkNest Θ.2.2.1.1.cls index M'.1 host) s) (hs : Cond.static M'.1 ∈ wsG) (hn : as.length = n) (hst : st = as.reverse ++ rest) (hW : (rest.map fun v => v.category).sum ≤ 8) (hd1 : d + 1 ≤ Θ.2.2.2.2.1.frames) (hd2 : 40 * (d + 1) ≤ Θ.2.2.2.2.1.locals) (hc1 : k.1 + kc ≤ Θ.2.2.2.2.1.cells) (hc2 : k.2 + ks ≤ Θ.2.2.2.2.1.slots) (hd : decode cc pc = .ok (.invokestatic index, 3)) (kk : ∀ (v : Option Value) (h' : AH), post v h' → J Θ cc h' (k.1 + kc, k.2 + ks) lv (pc + 3) (v.toList ++ rest)) : J Θ cc h k lv pc st := by
  intro p e s m args below meth c C0 H locs ls hH hS hl0
  have hts := C0.1.2.2.2.2
  refine j_back (va_runSN (As := as) C0.1 hC ⟨va_cnB n hts (wG_in hw.1) rfl rfl rfl (hl s C0.2.2.2.2.1) (hts _ hw.2.1) ⟨hw.2.2.1, hw.2.2.2.1, hw.2.2.2.2.1⟩ (rmD_ok hw hd1 hd2), hts _ hs, trivial⟩ ⟨va_blind, fun U hU hWU => ⟨rfl, by rw [hU]; exact hH, C0.2.2.2.2.1.warm hWU, by rw [hU]; exact Nat.le_trans C0.2.2.2.2.2.1 hS.1⟩⟩ rfl hn hl0.1 hst (lv_room hW) hd ⟨hc1, hc2⟩) hS (M := M') (M' := M') ?_
  exact fun v h' H1 locs1 hpo hH1 hS1 => kk v h' hpo p e s m args below meth c C0 H1 locs1 ls hH1 hS1 hl0
theorem j_callV {M' : MI} {d kc ks n index b ci : Nat} {fs as rest : List Value} {T : u_T} {N : Nat} {post : Option Value → AH → Prop} (hC : Con Θ.1 Θ.2.1 M' d kc ks (.ref b :: as) h post) (hb : h b = some (.inr (ci, fs))) (hc : vwCl[ci]? = some (M'.1.cls, T, N)) (hw : CW M' n) (hl : Cond.methodLink Θ.2.2.1.1.cls index M'.1 ∈ wsG) (hi : Cond.instanceMethod M'.1 ∈ wsG) (hx : Cond.selects M'.1.cls M'.1 M'.1 ∈ wsG) (hn : as.length = n) (hst : st = as.reverse ++ .ref b :: rest) (hW : (rest.map fun v => v.category).sum ≤ 8) (hd1 : d + 1 ≤ Θ.2.2.2.2.1.frames) (hd2 : 40 * (d + 1) ≤ Θ.2.2.2.2.1.locals) (hc1 : k.1 + kc ≤ Θ.2.2.2.2.1.cells) (hc2 : k.2 + ks ≤ Θ.2.2.2.2.1.slots) (hd : decode cc pc = .ok (.invokevirtual index, 3)) (kk : ∀ (v : Option Value) (h' : AH), post v h' → J Θ cc h' (k.1 + kc, k.2 + ks) lv (pc + 3) (v.toList ++ rest)) : J Θ cc h k lv pc st := by
  intro p e s m args below meth c C0 H locs ls hH hS hl0
  have hts := C0.1.2.2.2.2
  refine j_back (va_runV (As := as) (b := b) (C := M'.1.cls) C0.1 hC ⟨callB_of n hts (wG_in hw.1) rfl rfl rfl (hts _ hw.2.1) (hts _ hl) ⟨hw.2.2.1, hw.2.2.2.1, hw.2.2.2.2.1⟩ (rmD_ok hw hd1 hd2), hts _ hi, hts _ hx⟩ ⟨va_blind, va_recv C0.2.2.2.2.1.1 (hH.one hb) hc (q0 := 0) rfl, fun U hU hWU => ⟨rfl, by rw [hU]; exact hH, C0.2.2.2.2.1.warm hWU, by rw [hU]; exact Nat.le_trans C0.2.2.2.2.2.1 hS.1⟩⟩ rfl hn hl0.1 hst (lv_room hW) hd ⟨hc1, hc2⟩) hS (M := M') (M' := M') ?_
  exact fun v h' H1 locs1 hpo hH1 hS1 => kk v h' hpo p e s m args below meth c C0 H1 locs1 ls hH1 hS1 hl0
theorem j_callI {M' : MI} {d kc ks n index b : Nat} {as rest : List Value} {post : Option Value → AH → Prop} (hC : Con Θ.1 Θ.2.1 M' d kc ks (.ref b :: as) h post) (hret : M'.2.2.2 = none) (hnm : M'.1.name = "<init>") (hw : CW M' n) (hl : Cond.methodLink Θ.2.2.1.1.cls index M'.1 ∈ wsG) (hi : Cond.instanceMethod M'.1 ∈ wsG) (hn : as.length = n) (hst : st = as.reverse ++ .ref b :: rest) (hW : (rest.map fun v => v.category).sum ≤ 8) (hd1 : d + 1 ≤ Θ.2.2.2.2.1.frames) (hd2 : 40 * (d + 1) ≤ Θ.2.2.2.2.1.locals) (hc1 : k.1 + kc ≤ Θ.2.2.2.2.1.cells) (hc2 : k.2 + ks ≤ Θ.2.2.2.2.1.slots) (hd : decode cc pc = .ok (.invokespecial index, 3)) (kk : ∀ (v : Option Value) (h' : AH), post v h' → J Θ cc h' (k.1 + kc, k.2 + ks) lv (pc + 3) (v.toList ++ rest)) : J Θ cc h k lv pc st := by
  intro p e s m args below meth c C0 H locs ls hH hS hl0
  have hts := C0.1.2.2.2.2
  obtain ⟨y, bytes, maxL, ret⟩ := M'
  cases hret
  refine j_back (va_runI (As := as) (b := b) (bytes := bytes) (maxL := maxL) C0.1 hC ⟨callB_of n hts (wG_in hw.1) rfl rfl rfl (hts _ hw.2.1) (hts _ hl) ⟨hw.2.2.1, hw.2.2.2.1, hw.2.2.2.2.1⟩ (rmD_ok hw hd1 hd2), hnm, hts _ hi⟩ ⟨va_blind, fun U hU hWU => ⟨rfl, by rw [hU]; exact hH, C0.2.2.2.2.1.warm hWU, by rw [hU]; exact Nat.le_trans C0.2.2.2.2.2.1 hS.1⟩⟩ rfl hn hl0.1 hst (lv_room hW) hd ⟨hc1, hc2⟩) hS (M := (y, bytes, maxL, none)) (M' := (y, bytes, maxL, none)) ?_
  exact fun v h' H1 locs1 hpo hH1 hS1 => kk v h' hpo p e s m args below meth c C0 H1 locs1 ls hH1 hS1 hl0
theorem j_objInit {idx a : Nat} (hl : Cond.methodLink Θ.2.2.1.1.cls idx objectInit ∈ wsG) (hW : (st.map fun v => v.category).sum ≤ 8) (hd1 : 1 ≤ Θ.2.2.2.2.1.frames) (hd2 : 40 ≤ Θ.2.2.2.2.1.locals) (hd : decode cc pc = .ok (.invokespecial idx, 3)) (kk : J Θ cc h k lv (pc + 3) st) : J Θ cc h k lv pc (.ref a :: st) := by
  intro p e s m args below meth c C0 H locs ls hH hS hl0
  have hts := C0.1.2.2.2.2
  refine W.objInit C0.1.1 C0.1.2.1 C0.1.2.2.2.1 (hts _ hl) (hts _ wm_O_init) (hts _ wo_objectInit) rfl (by rw [C0.1.2.2.1]; exact hl0.1) rfl hd hd1 (by have := lv_room (m := m) (pc := pc) (ls := ls) (rest := .ref a :: st) hW; omega) (kk p e s m args below meth c C0 H locs ls hH hS hl0)
theorem j_mmax {index : Nat} {x y : Int32} (hl : Cond.methodLink Θ.2.2.1.1.cls index Lib.Math.max.name ∈ wsG) (hs : Cond.static Lib.Math.max.name ∈ wsG) (hW : (st.map fun v => v.category).sum ≤ 8) (hd1 : 1 ≤ Θ.2.2.2.2.1.frames) (hd2 : 40 ≤ Θ.2.2.2.2.1.locals) (hc1 : k.1 ≤ Θ.2.2.2.2.1.cells) (hc2 : k.2 ≤ Θ.2.2.2.2.1.slots) (hd : decode cc pc = .ok (.invokestatic index, 3)) (kk : J Θ cc h k lv (pc + 3) (.int (if x < y then y else x) :: st)) : J Θ cc h k lv pc (.int y :: .int x :: st) := by
  intro p e s m args below meth c C0 H locs ls hH hS hl0
  have hts := C0.1.2.2.2.2
  exact va_mmax C0.1.1 C0.1.2.1 (C0.1.2.2.1.trans hl0.1.symm) C0.1.2.2.2.1 (hts _ hl) (hts _ hs) (hts _ wi_J9) (hts _ wo_max) hd1 (by omega) hc1 hc2 hd (kk p e s m args below meth c C0 H locs ls hH hS hl0)
theorem j_mmin {index : Nat} {x y : Int32} (hl : Cond.methodLink Θ.2.2.1.1.cls index Lib.Math.min.name ∈ wsG) (hs : Cond.static Lib.Math.min.name ∈ wsG) (hW : (st.map fun v => v.category).sum ≤ 8) (hd1 : 1 ≤ Θ.2.2.2.2.1.frames) (hd2 : 40 ≤ Θ.2.2.2.2.1.locals) (hc1 : k.1 ≤ Θ.2.2.2.2.1.cells) (hc2 : k.2 ≤ Θ.2.2.2.2.1.slots) (hd : decode cc pc = .ok (.invokestatic index, 3)) (kk : J Θ cc h k lv (pc + 3) (.int (if y < x then y else x) :: st)) : J Θ cc h k lv pc (.int y :: .int x :: st) := by
  intro p e s m args below meth c C0 H locs ls hH hS hl0
  have hts := C0.1.2.2.2.2
  exact va_mmin C0.1.1 C0.1.2.1 (C0.1.2.2.1.trans hl0.1.symm) C0.1.2.2.2.1 (hts _ hl) (hts _ hs) (hts _ wi_J9) (hts _ wo_min) hd1 (by omega) hc1 hc2 hd (kk p e s m args below meth c C0 H locs ls hH hS hl0)
theorem j_mminl {index : Nat} {x y : Int64} (hl : Cond.methodLink Θ.2.2.1.1.cls index Lib.MathLoose.min_long.x ∈ wsG) (hs : Cond.static Lib.MathLoose.min_long.x ∈ wsG) (hW : (st.map fun v => v.category).sum ≤ 8) (hd1 : 1 ≤ Θ.2.2.2.2.1.frames) (hd2 : 40 ≤ Θ.2.2.2.2.1.locals) (hc1 : k.1 ≤ Θ.2.2.2.2.1.cells) (hc2 : k.2 ≤ Θ.2.2.2.2.1.slots) (hd : decode cc pc = .ok (.invokestatic index, 3)) (kk : J Θ cc h k lv (pc + 3) (.long (if y < x then y else x) :: st)) : J Θ cc h k lv pc (.long y :: .long x :: st) := by
  intro p e s m args below meth c C0 H locs ls hH hS hl0
  have hts := C0.1.2.2.2.2
  exact va_mmin_long C0.1.1 C0.1.2.1 (C0.1.2.2.1.trans hl0.1.symm) C0.1.2.2.2.1 (hts _ hl) (hts _ hs) (hts _ wi_J9) (hts _ wo_minl) hd1 (by omega) hc1 hc2 hd (kk p e s m args below meth c C0 H locs ls hH hS hl0)
theorem va_fitI {G : GG} {n : Nat} {f : Nat → Int32} (i : Nat) (v : Value) (hv : (vp_cell (G.2.1 0) (n, .inl f)).slots[i]? = some v) : fits .int v = true := va_fit (ty := .int) (F := fun j => .int (f j)) (n := n) (cA := G.2.1 0) (fun _ _ => rfl) i v hv
theorem KG.nmI {G : GG} {s : State} (h : KG G s) : s.vm.findClass "[I" = some (G.2.1 0) := (h.1.2 0 _ rfl).2
theorem j_clone {a n index : Nat} {f : Nat → Int32} (he : h a = some (.inl (0, n, .inl f))) (hl : Cond.methodLink Θ.2.2.1.1.cls index ⟨"[I", "clone", "()Ljava/lang/Object;"⟩ ∈ wsG) (hW : (st.map fun v => v.category).sum ≤ 8) (hd1 : 1 ≤ Θ.2.2.2.2.1.frames) (hd2 : 40 ≤ Θ.2.2.2.2.1.locals) (h1 : k.1 + 1 ≤ Θ.2.2.2.2.1.cells) (h2 : k.2 + n ≤ Θ.2.2.2.2.1.slots) (hd : decode cc pc = .ok (.invokevirtual index, 3)) (kk : ∀ b : Nat, (∀ q, b ≤ q → h q = none) → J Θ cc (upA h b (.inl (0, n, .inl f))) (k.1 + 1, k.2 + n) lv (pc + 3) (.ref b :: st)) : J Θ cc h k lv pc (.ref a :: st) := by
  intro p e s m args below meth c C0 H locs ls hH hS hl0
  have hts := C0.1.2.2.2.2
  have hKG := C0.2.2.2.2.1
  have hK := hKG.1
  have hsz : (vp_cell (Θ.2.1.2.1 0) (n, .inl f)).slots.size = n := arrV_size _ _ _
  obtain ⟨c0, t0', f1, f2, f3⟩ := Cond.castable_spec (va_Nw.use (A := args) rfl hKG.2.2.2.1)
  cases hKG.nmI.symm.trans f1
  intro T hT X
  have hcellT : T.heap[a]? = some (vp_cell (Θ.2.1.2.1 0) (n, .inl f)) := by rw [hT]; exact (hH a _ he).2
  obtain ⟨-, kA, hkA, comp, hkind⟩ := State.isArrayOf_alike X.warmed.alike ((hK.2 0 _ rfl).1 0 (fun _ => .null))
  obtain ⟨-, kS, hkS, compS, hkindS⟩ := (hK.2 0 _ rfl).1 0 (fun _ => .null)
  obtain ⟨vm', X', stp⟩ := X.cloneArray C0.1.1 C0.1.2.2.2.1 (hts _ hl) (hts _ wq_clone) (hts _ wv_clone) (hts _ wm_O_clone) (hts _ wx_clone) (a := a) (cell := vp_cell (Θ.2.1.2.1 0) (n, .inl f)) hcellT (fun k h => by cases h) (fun h => by cases h) hKG.nmI f2 f3
    (fun i v hv => by
      have hk' : T.vm.classes[(vp_cell (Θ.2.1.2.1 0) (n, .inl f)).cls]? = some kA := hkA
      simpa [State.fitsSlot, State.slotType?, hk', hkind] using va_fitI (G := Θ.2.1) i v hv)
    (g := F0 m pc ls (.ref a :: st)) rfl (by rw [C0.1.2.2.1]; exact hl0.1) rfl (by rw [C0.1.2.1]; exact hd) hd1 (by show 2 * 0 + _ + 14 ≤ _; omega) h1 (by rw [hsz]; exact h2) (hloader := Vm.clonesLoader_of_array hkS hkindS)
  rw [hsz] at X'
  generalize hH1 : H.push (vp_cell (Θ.2.1.2.1 0) (n, .inl f)) = H1
  have z1 : H1.size = H.size + 1 := by rw [← hH1, Array.size_push]
  have e1 : H1[H.size]? = some (vp_cell (Θ.2.1.2.1 0) (n, .inl f)) := by rw [← hH1, Array.getElem?_push_size]
  have o1 : ∀ q : Nat, q < H.size → H1[q]? = H[q]? := fun q hq => by rw [← hH1, Array.getElem?_push, if_neg (Nat.ne_of_lt hq)]
  obtain ⟨t, b1, b2⟩ := kk H.size hH.fresh p e s m args below meth c C0 H1 locs ls (hH.new (Nat.le_trans C0.2.2.2.2.2.1 hS.1) e1 o1) ⟨Nat.le_trans hS.1 (by omega), fun x g1 g2 => (o1 x (Nat.lt_of_lt_of_le g1 hS.1)).trans (hS.2.1 x g1 g2), hS.2.2⟩ hl0
    ((T.setVm vm').pushCell (vp_cell (Θ.2.1.2.1 0) (n, .inl f))) (by rw [← hH1, ← hT]; rfl) X'
  refine ⟨t, stp t ?_, b2⟩
  rw [hT]
  exact b1
theorem j_castI {a n index : Nat} {f : Nat → Int32} (he : h a = some (.inl (0, n, .inl f))) (hl : Cond.classLink Θ.2.2.1.1.cls index "[I" ∈ wsG) (hd : decode cc pc = .ok (.checkcast index, 3)) (kk : J Θ cc h k lv (pc + 3) (.ref a :: st)) : J Θ cc h k lv pc (.ref a :: st) := by
  intro p e s m args below meth c C0 H locs ls hH hS hl0
  exact va_castA (D := Θ.2.1.1) (ws := [(a, .inl (Θ.2.1.2.1 0, n, .inl f))]) C0.1.1 C0.1.2.1 C0.1.2.2.2.1 (C0.1.2.2.2.2 _ hl) (hH.one he) 0 rfl C0.2.2.2.2.1.nmI hd (kk p e s m args below meth c C0 H locs ls hH hS hl0)
end JR
/-! ===== ends ===== -/
section JE
variable {l : Launch} {G : GG} {M : MI} {d kc ks : Nat} {post : Option Value → AH → Prop} {cc : ByteArray} {h : AH} {k : Nat × Nat} {lv : List (Option Value)} {pc : Nat}
theorem j_iret {v : Int32} (hr : M.2.2.2 = some .int) (h1 : k.1 ≤ kc) (h2 : k.2 ≤ ks) (hd : decode cc pc = .ok (.ireturn, 1)) (hp : post (some (.int v)) h) : J (thM l G M d kc ks post) cc h k lv pc [.int v] := by
  intro p e s m args below meth c C H locs ls hH hS hl
  refine W.widen (k := kc) (n := ks) h1 h2 ?_
  exact W.iret C.1.1 C.1.2.1 (C.2.1.trans hr) (fun t ht hW => ⟨⟨_, h, rfl, hp, by rw [ht]; exact hH⟩, hS.F ht⟩) hS.2.2 hd C.2.2.1
theorem j_zret {v : Int32} (hr : M.2.2.2 = some .boolean) (hn : narrow .boolean (.int v) = .int v) (h1 : k.1 ≤ kc) (h2 : k.2 ≤ ks) (hd : decode cc pc = .ok (.ireturn, 1)) (hp : post (some (.int v)) h) : J (thM l G M d kc ks post) cc h k lv pc [.int v] := by
  intro p e s m args below meth c C H locs ls hH hS hl
  refine W.widen (k := kc) (n := ks) h1 h2 ?_
  exact W.zret C.1.1 C.1.2.1 (C.2.1.trans hr) hn (fun t ht hW => ⟨⟨_, h, rfl, hp, by rw [ht]; exact hH⟩, hS.F ht⟩) hS.2.2 hd C.2.2.1
theorem j_lret {v : Int64} (hr : M.2.2.2 = some .long) (h1 : k.1 ≤ kc) (h2 : k.2 ≤ ks) (hd : decode cc pc = .ok (.lreturn, 1)) (hp : post (some (.long v)) h) : J (thM l G M d kc ks post) cc h k lv pc [.long v] := by
  intro p e s m args below meth c C H locs ls hH hS hl
  refine W.widen (k := kc) (n := ks) h1 h2 ?_
  exact W.lret C.1.1 C.1.2.1 (C.2.1.trans hr) (fun t ht hW => ⟨⟨_, h, rfl, hp, by rw [ht]; exact hH⟩, hS.F ht⟩) hS.2.2 hd C.2.2.1
theorem j_vret (hr : M.2.2.2 = none) (h1 : k.1 ≤ kc) (h2 : k.2 ≤ ks) (hd : decode cc pc = .ok (.return_, 1)) (hp : post none h) : J (thM l G M d kc ks post) cc h k lv pc [] := by
  intro p e s m args below meth c C H locs ls hH hS hl
  refine W.widen (k := kc) (n := ks) h1 h2 ?_
  exact W.vret C.1.1 C.1.2.1 (C.2.1.trans hr) (fun t ht hW => ⟨⟨_, h, rfl, hp, by rw [ht]; exact hH⟩, hS.F ht⟩) hS.2.2 hd C.2.2.1
theorem j_aret {rt : FieldType} {o : Option Nat} (hr : M.2.2.2 = some rt) (hrt : (∃ n, rt = .object n) ∨ ∃ t, rt = .array t) (h1 : k.1 ≤ kc) (h2 : k.2 ≤ ks) (hd : decode cc pc = .ok (.areturn, 1)) (hp : post (some (va_rf o)) h) : J (thM l G M d kc ks post) cc h k lv pc [va_rf o] := by
  intro p e s m args below meth c C H locs ls hH hS hl
  refine W.widen (k := kc) (n := ks) h1 h2 ?_
  exact W.aret C.1.1 C.1.2.1 (C.2.1.trans hr) hrt (va_rf_or o) (fun t ht hW => ⟨⟨_, h, rfl, hp, by rw [ht]; exact hH⟩, hS.F ht⟩) hS.2.2 hd C.2.2.1
end JE
