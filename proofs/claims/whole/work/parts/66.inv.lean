/-! ===== the invariant between calls ===== -/
def PR (w : Int32) (bs tb mt ls th : Nat → Int32) : Prop := (∃ x, w = nI x ∧ x ≤ 5000) ∧ (∀ i, i < 5 → -20000 ≤ (bs i).toInt ∧ (bs i).toInt ≤ 20000) ∧ (∀ i, i < 40 → -50 ≤ (tb i).toInt ∧ (tb i).toInt ≤ 50) ∧ (∀ i, i < 8 → ∃ x, mt i = nI x ∧ 1 ≤ x ∧ x ≤ 50) ∧ ∀ i, i < 8 → ∃ t s : Nat, th i = nI t ∧ ls i = nI s ∧ s ≤ t ∧ t ≤ 99
theorem PR.w {w : Int32} {bs tb mt ls th : Nat → Int32} (h : PR w bs tb mt ls th) : ∃ x, wsum w mt th 8 = nI x ∧ x ≤ 44600 := by
  have key : ∀ n, n ≤ 8 → ∃ x, wsum w mt th n = nI x ∧ x ≤ 5000 + n * 4950 := by
    intro n
    induction n with
    | zero =>
      intro _
      obtain ⟨x, h1, h2⟩ := h.1
      exact ⟨x, h1, by omega⟩
    | succ n ih =>
      intro hn
      obtain ⟨x, h1, h2⟩ := ih (by omega)
      obtain ⟨m, g1, g2, g3⟩ := h.2.2.2.1 n (by omega)
      obtain ⟨t, s, k1, k2, k3, k4⟩ := h.2.2.2.2 n (by omega)
      refine ⟨x + m * t, ?_, ?_⟩
      · rw [wsum, h1, g1, k1, pk_mul, nI_add]
      · have : m * t ≤ 50 * 99 := Nat.mul_le_mul g3 k4
        omega
  obtain ⟨x, h1, h2⟩ := key 8 (Nat.le_refl _)
  exact ⟨x, h1, by omega⟩
def PRp (A : ZT) (p : Nat) : Prop := PR (A (2, p, 0) 0) (A (2, p, 2)) (A (2, p, 3)) (A (2, p, 4)) (A (2, p, 5)) (A (2, p, 6))
def PRb (A : ZT) (b : Nat) : Prop := PR (A (6, b, 0) 0) (A (6, b, 2)) (A (6, b, 3)) (A (6, b, 4)) (A (6, b, 5)) (A (4, b, 3))
theorem PRb.w {A : ZT} {b : Nat} (h : PRb A b) : wNow A b = nI (cl (wNow A b)) ∧ cl (wNow A b) ≤ 44600 := by
  obtain ⟨x, h1, h2⟩ := PR.w h
  have h1 : wNow A b = nI x := h1
  rw [h1, cl_nI (by omega)]
  exact ⟨rfl, h2⟩
theorem PRb.bd {A : ZT} {b : Nat} (h : PRb A b) : BD A b := by
  refine ⟨fun i hi => ?_, fun q i hq hi => ?_, fun q hq => h.2.1 q hq⟩
  · obtain ⟨t, s, h1, h2, h3, h4⟩ := h.2.2.2.2 i hi
    exact ⟨t, s, h1, h2, h3, h4⟩
  · exact h.2.2.1 (q * 8 + i) (by omega)
def XP (np : Nat) (A : ZT) : Prop := ∀ p, p < np → PRp A p
def XB (nb sp : Nat) (A : ZT) : Prop := ∀ b, b < nb → PRb A b ∧ wayOk (A (4, b, 0) 5) ∧ (A (4, b, 0) 8 = -1 ∨ ∃ j, j ≤ sp ∧ A (4, b, 0) 8 = nI j)
def XC (nb sp : Nat) (A : ZT) : Prop := ∀ b, b < nb → A (4, b, 0) 8 = nI sp → planOK A b
def XK (nb nn : Nat) (A : ZT) (L : LT) : Prop := ¬ A (1, 0, 0) 3 = 0 → ∃ cv, L (1, 0, 0) 4 = lI cv ∧ CVok A nb nn cv
def XS (np nb nn sp : Nat) (A : ZT) : Prop := (np ≤ 4 ∧ nb ≤ 24 ∧ nn ≤ 8 ∧ sp < 1000000) ∧ A (0, 0, 0) 1 = nI np ∧ A (0, 0, 0) 3 = nI nb ∧ A (1, 0, 0) 1 = nI nn ∧ A (3, 0, 0) 2 = nI sp
def XI (np nb nn sp : Nat) (A : ZT) (L : LT) : Prop := XS np nb nn sp A ∧ XP np A ∧ XB nb sp A ∧ XC nb sp A ∧ T8 A ∧ XK nb nn A L
theorem XP.congr {np : Nat} {A A2 : ZT} (h : XP np A) (e : ∀ p, p < np → ∀ f, A2 (2, p, f) = A (2, p, f)) : XP np A2 := fun p hp => by
  unfold PRp
  rw [e p hp 0, e p hp 2, e p hp 3, e p hp 4, e p hp 5, e p hp 6]
  exact h p hp
theorem XB.congr {nb sp : Nat} {A A2 : ZT} (h : XB nb sp A) (e : ∀ b, b < nb → (∀ f, A2 (6, b, f) = A (6, b, f)) ∧ A2 (4, b, 3) = A (4, b, 3) ∧ A2 (4, b, 0) 5 = A (4, b, 0) 5 ∧ A2 (4, b, 0) 8 = A (4, b, 0) 8) : XB nb sp A2 := fun b hb => by
  obtain ⟨e1, e2, e3, e4⟩ := e b hb
  unfold PRb
  rw [e1 0, e1 2, e1 3, e1 4, e1 5, e2, e3, e4]
  exact h b hb
theorem planOK_congr {A A2 : ZT} {b : Nat} (h : planOK A b) (e1 : ∀ f, A2 (6, b, f) = A (6, b, f)) (e2 : A2 (4, b, 3) = A (4, b, 3)) (e3 : A2 (4, b, 0) 7 = A (4, b, 0) 7) (e4 : A2 (4, b, 7) = A (4, b, 7)) (e5 : A2 (3, 0, 1) = A (3, 0, 1)) (e6 : A2 (3, 0, 2) = A (3, 0, 2)) : planOK A2 b := by
  have e : xTun A2 b = xTun A b := by
    unfold xTun pNow xtb
    rw [e1 2, e1 3, e1 5, e2, e5, e6]
  unfold planOK
  rw [e, e3, e4]
  exact h
theorem XC.congr {nb sp : Nat} {A A2 : ZT} (h : XC nb sp A) (e : ∀ b, b < nb → (∀ f, A2 (6, b, f) = A (6, b, f)) ∧ A2 (4, b, 3) = A (4, b, 3) ∧ A2 (4, b, 0) 7 = A (4, b, 0) 7 ∧ A2 (4, b, 0) 8 = A (4, b, 0) 8 ∧ A2 (4, b, 7) = A (4, b, 7)) (e5 : A2 (3, 0, 1) = A (3, 0, 1)) (e6 : A2 (3, 0, 2) = A (3, 0, 2)) : XC nb sp A2 := fun b hb hz => by
  obtain ⟨e1, e2, e3, e4, e7⟩ := e b hb
  rw [e4] at hz
  exact planOK_congr (h b hb hz) e1 e2 e3 e7 e5 e6
theorem T8.congr {A A2 : ZT} (h : T8 A) (e : ∀ f, 5 ≤ f → A2 (3, 0, f) = A (3, 0, f)) : T8 A2 := by
  unfold T8
  rw [e 5 (by omega), e 6 (by omega), e 7 (by omega)]
  exact h
theorem CVok_congr {A A2 : ZT} {nb nn : Nat} {cv : Int} (h : CVok A nb nn cv) (e : ∀ b, b < nb → (∀ f, A2 (6, b, f) = A (6, b, f)) ∧ A2 (4, b, 3) = A (4, b, 3) ∧ A2 (4, b, 0) 4 = A (4, b, 0) 4) (e5 : A2 (1, 0, 1) = A (1, 0, 1)) (e6 : A2 (1, 0, 0) 2 = A (1, 0, 0) 2) : CVok A2 nb nn cv := by
  refine ⟨h.1, h.2.1, h.2.2.1, fun hn => ?_⟩
  have hs : sdX A2 nb = sdX A nb := by
    funext b
    unfold sdX
    by_cases q : b < nb
    · rw [(e b q).2.2]
    · rw [decide_eq_false q, Bool.false_and, Bool.false_and]
  have hlt : ∀ b, sdX A nb b = true → b < nb := fun b hb => by
    unfold sdX at hb
    rw [Bool.and_eq_true, decide_eq_true_iff] at hb
    exact hb.1
  rw [hs, e5, e6]
  refine Best_congr (fun b hb => ?_) (fun _ _ => rfl) (fun b hb => ?_) (h.2.2.2 hn)
  · obtain ⟨g1, g2, _⟩ := e b (hlt b hb)
    unfold pNow
    rw [g1 2, g1 3, g2]
  · obtain ⟨g1, g2, _⟩ := e b (hlt b hb)
    unfold wNow
    rw [g1 0, g1 4, g2]
theorem XK.congr {nb nn : Nat} {A A2 : ZT} {L : LT} (h : XK nb nn A L) (e : ∀ b, b < nb → (∀ f, A2 (6, b, f) = A (6, b, f)) ∧ A2 (4, b, 3) = A (4, b, 3) ∧ A2 (4, b, 0) 4 = A (4, b, 0) 4) (e5 : A2 (1, 0, 1) = A (1, 0, 1)) (e6 : A2 (1, 0, 0) 2 = A (1, 0, 0) 2) (e7 : A2 (1, 0, 0) 3 = A (1, 0, 0) 3) : XK nb nn A2 L := fun hk => by
  rw [e7] at hk
  obtain ⟨cv, h1, h2⟩ := h hk
  exact ⟨cv, h1, CVok_congr h2 e e5 e6⟩
theorem XK.no {nb nn : Nat} {A : ZT} {L : LT} (h : A (1, 0, 0) 3 = 0) : XK nb nn A L := fun q => absurd h q
/-- nothing that the invariant tells of the class has changed -/
theorem XI.congr {np nb nn sp : Nat} {A A2 : ZT} {L : LT} (h : XI np nb nn sp A L) (h1 : A2 (0, 0, 0) 1 = A (0, 0, 0) 1) (h3 : A2 (0, 0, 0) 3 = A (0, 0, 0) 3) (h4 : ∀ b j, j ≠ 0 → j ≠ 3 → A2 (4, b, 0) j = A (4, b, 0) j) (hm : ∀ m : NM, m.1 ≠ 0 → m.1 ≠ 5 → (m.1 = 4 → m.2.2 ≠ 0) → A2 m = A m) : XI np nb nn sp A2 L := by
  obtain ⟨a1, a2, a3, a4, a5, a6⟩ := h
  have e2 : ∀ p f, A2 (2, p, f) = A (2, p, f) := fun p f => hm _ (by simp) (by simp) (by simp)
  have e6 : ∀ b f, A2 (6, b, f) = A (6, b, f) := fun b f => hm _ (by simp) (by simp) (by simp)
  have e43 : ∀ b, A2 (4, b, 3) = A (4, b, 3) := fun b => hm _ (by simp) (by simp) (by simp)
  have e47 : ∀ b, A2 (4, b, 7) = A (4, b, 7) := fun b => hm _ (by simp) (by simp) (by simp)
  have e3 : ∀ f, A2 (3, 0, f) = A (3, 0, f) := fun f => hm _ (by simp) (by simp) (by simp)
  have e1 : ∀ f, A2 (1, 0, f) = A (1, 0, f) := fun f => hm _ (by simp) (by simp) (by simp)
  refine ⟨?_, a2.congr (fun p _ f => e2 p f), a3.congr (fun b _ => ⟨e6 b, e43 b, h4 b 5 (by omega) (by omega), h4 b 8 (by omega) (by omega)⟩), a4.congr (fun b _ => ⟨e6 b, e43 b, h4 b 7 (by omega) (by omega), h4 b 8 (by omega) (by omega), e47 b⟩) (e3 1) (e3 2), a5.congr (fun f _ => e3 f), a6.congr (fun b _ => ⟨e6 b, e43 b, h4 b 4 (by omega) (by omega)⟩) (e1 1) (by rw [e1 0]) (by rw [e1 0])⟩
  unfold XS
  rw [h1, h3, e1 0, e3 0]
  exact a1
def on5 (A B : ZT) : Prop := ∀ m : NM, m.1 = 5 → B m = A m
def off5 (A B : ZT) : Prop := ∀ m : NM, m.1 ≠ 5 → B m = A m
theorem on5.rf {A : ZT} : on5 A A := fun _ _ => rfl
theorem off5.rf {A : ZT} : off5 A A := fun _ _ => rfl
theorem on5.up {A B : ZT} (h : on5 A B) {n : NM} (hn : n.1 ≠ 5) (k : Nat) (v : Int32) : on5 A (upZ B n k v) := fun m hm => by
  rw [upZ_ne (m := m) (n := n) (fun e => hn (by rw [← e]; exact hm))]
  exact h m hm
theorem off5.up {A B : ZT} (h : off5 A B) {n : NM} (hn : n.1 = 5) (k : Nat) (v : Int32) : off5 A (upZ B n k v) := fun m hm => by
  rw [upZ_ne (m := m) (n := n) (fun e => hm (by rw [e]; exact hn))]
  exact h m hm
theorem on5.tr {A B C : ZT} (h : on5 A B) (h2 : on5 B C) : on5 A C := fun m hm => (h2 m hm).trans (h m hm)
theorem off5.tr {A B C : ZT} (h : off5 A B) (h2 : off5 B C) : off5 A C := fun m hm => (h2 m hm).trans (h m hm)
theorem off5.it {A : ZT} {f : Nat → ZT → ZT} {B : ZT} (h : off5 A B) (hf : ∀ k X, off5 X (f k X)) (n : Nat) : off5 A (itZ f B n) := by
  induction n with
  | zero => exact h
  | succ n ih => exact ih.tr (hf n _)
theorem on5.it {A : ZT} {f : Nat → ZT → ZT} {B : ZT} (h : on5 A B) (hf : ∀ k X, on5 X (f k X)) (n : Nat) : on5 A (itZ f B n) := by
  induction n with
  | zero => exact h
  | succ n ih => exact ih.tr (hf n _)
/-- the reference's places that are not used yet are 0 -/
def MZ (np nb : Nat) (B : ZT) : Prop := (∀ p, np ≤ p → p < 4 → (∀ i, i < 8 → B (5, 0, 3) (8 * p + i) = 0 ∧ B (5, 0, 4) (8 * p + i) = 0) ∧ (∀ i, i < 5 → B (5, 0, 6) (5 * p + i) = 0) ∧ ∀ i, i < 40 → B (5, 0, 7) (40 * p + i) = 0) ∧ ∀ b, nb ≤ b → b < 24 → B (5, 0, 16) b = 0 ∧ B (5, 0, 17) b = 0
theorem MZ.congr {np nb : Nat} {B B2 : ZT} (h : MZ np nb B) (e3 : B2 (5, 0, 3) = B (5, 0, 3)) (e4 : B2 (5, 0, 4) = B (5, 0, 4)) (e6 : B2 (5, 0, 6) = B (5, 0, 6)) (e7 : B2 (5, 0, 7) = B (5, 0, 7)) (e16 : B2 (5, 0, 16) = B (5, 0, 16)) (e17 : B2 (5, 0, 17) = B (5, 0, 17)) : MZ np nb B2 := by
  unfold MZ
  rw [e3, e4, e6, e7, e16, e17]
  exact h
theorem MZ.up {np nb : Nat} {B : ZT} (h : MZ np nb B) {f : Nat} (hf : f ≠ 3 ∧ f ≠ 4 ∧ f ≠ 6 ∧ f ≠ 7 ∧ f ≠ 16 ∧ f ≠ 17) (k : Nat) (v : Int32) : MZ np nb (upZ B (5, 0, f) k v) := by
  obtain ⟨h1, h2, h3, h4, h5, h6⟩ := hf
  exact h.congr (upZ_ne (by simp [Ne.symm h1])) (upZ_ne (by simp [Ne.symm h2])) (upZ_ne (by simp [Ne.symm h3])) (upZ_ne (by simp [Ne.symm h4])) (upZ_ne (by simp [Ne.symm h5])) (upZ_ne (by simp [Ne.symm h6]))
def SS (np nb nn sp : Nat) (L : LT) (A B : ZT) : Prop := XI np nb nn sp A L ∧ MZ np nb B ∧ EqV np nb A B
theorem SS.chB {np nb nn sp : Nat} {L : LT} {A B B2 : ZT} (h : SS np nb nn sp L A B) (e : on5 B B2) : SS np nb nn sp L A B2 :=
  ⟨h.1, h.2.1.congr (e _ rfl) (e _ rfl) (e _ rfl) (e _ rfl) (e _ rfl) (e _ rfl), h.2.2.congr (fun _ _ _ _ _ _ => rfl) (fun r _ k => by rw [e _ rfl])⟩
theorem rws_5 : ∀ r, r ∈ rws → r.1 ≠ 5 := by decide +kernel
theorem SS.chA {np nb nn sp : Nat} {L : LT} {A A2 B : ZT} (h : SS np nb nn sp L A B) (e : off5 A A2) : SS np nb nn sp L A2 B :=
  ⟨h.1.congr (by rw [e _ (by simp)]) (by rw [e _ (by simp)]) (fun b j _ _ => by rw [e _ (by simp)]) (fun m _ hm _ => e m hm), h.2.1, h.2.2.congr (fun r hr i _ k _ => by rw [e _ (rws_5 r hr)]) (fun _ _ _ => rfl)⟩
theorem upZ_upZ (Z : ZT) (n : NM) (k : Nat) (u v : Int32) : upZ (upZ Z n k u) n k v = upZ Z n k v := by
  funext m j
  by_cases q : m = n ∧ j = k
  · rw [q.1, q.2, upZ_at, upZ_at]
  · have q : m ≠ n ∨ j ≠ k := by
      by_cases p : m = n
      · exact Or.inr (fun z => q ⟨p, z⟩)
      · exact Or.inl p
    rw [upZ_nk q, upZ_nk q, upZ_nk q]
theorem upZ_eta (Z : ZT) (n : NM) (k : Nat) {v : Int32} (h : Z n k = v) : upZ Z n k v = Z := by
  funext m j
  by_cases q : m = n ∧ j = k
  · rw [q.1, q.2, upZ_at, h]
  · have q : m ≠ n ∨ j ≠ k := by
      by_cases p : m = n
      · exact Or.inr (fun z => q ⟨p, z⟩)
      · exact Or.inl p
    rw [upZ_nk q]
theorem upZ_comm (Z : ZT) (n n2 : NM) (k k2 : Nat) (u v : Int32) (h : n ≠ n2 ∨ k ≠ k2) : upZ (upZ Z n k u) n2 k2 v = upZ (upZ Z n2 k2 v) n k u := by
  funext m j
  by_cases q : m = n ∧ j = k
  · rw [q.1, q.2, upZ_at, upZ_nk h, upZ_at]
  · have q : m ≠ n ∨ j ≠ k := by
      by_cases p : m = n
      · exact Or.inr (fun z => q ⟨p, z⟩)
      · exact Or.inl p
    rw [upZ_nk (m := m) (j := j) (n := n) (k := k) q]
    by_cases q2 : m = n2 ∧ j = k2
    · rw [q2.1, q2.2, upZ_at, upZ_at]
    · have q2 : m ≠ n2 ∨ j ≠ k2 := by
        by_cases p : m = n2
        · exact Or.inr (fun z => q2 ⟨p, z⟩)
        · exact Or.inl p
      rw [upZ_nk q2, upZ_nk q2, upZ_nk q]
