/-! THE CLAIM OUT OF ONE WALK OF THE LAW'S BODY. Your part is whole_start (and what it stands on); all else here is the same for every law, but numbers. -/
def R_law : String := "BellFoundryLaw"
def lw_P (b : Addr) (xs : List Int32) (args : Array Value) (s : State) : Prop := args = #[.ref b] ∧ s.IntsAt b xs ∧ xs.length ≤ 2560 ∧ (Jvm.Cond.and given_1 narrow_1).before args s = true
def lw_Q (_ : Array Value) (s : State) (o : Outcome) (t : State) : Prop := o = .returned (some (.int 1)) ∧ Framed s o t [] 600000 7302250
def lw_Z (below : List Frame) (a : Array Value) (s : State) : State → Prop := fun t => ∃ o, t.status = .running ∧ Ended t below o ∧ lw_Q a s o t
/-- the law's own end, with 1 on the stack, nothing written that was there before, its room as the claim has it -/
theorem lw_ret {p : Program} {l : Launch} {e : Env} {s : State} {m : MethodId} {below : List Frame} {meth : Method} {c : Code} {b : Nat} (hx : p.tables.exec = Jvm.exec) (hb : c.code = code) (hr : meth.sig.returnType = ret) (hlocks : meth.locks = false) {pc : Nat} {H : Heap} {ls : Array Slot} (hdg : decode code pc = .ok (.ireturn, 1)) : W p l e room_1 s m #[Value.ref b] below meth c H [] 600000 7302250 (lw_Z below #[Value.ref b] s) (F0 m pc ls [.int 1]) := by
  intro T hT X
  obtain ⟨fs, hret, hrun, hended, hW, hframe⟩ := X.leave (v := some (.int 1)) (hlocks := hlocks) (fun h => by rw [hr] at h; cases h)
  have hmeth' : T.vm.method? m = some meth := X.method'
  refine ⟨T.setFrames fs, ?_, .returned (some (.int 1)), hrun, hended, rfl, ⟨_, rfl⟩, hW, hframe⟩
  jvm_step X.here [X.here.top, hx, hb, hdg, hmeth', hr, ret, narrow_b1]
  (try refine ⟨rfl, ?_⟩); (try refine ⟨rfl, ?_⟩)
  first | (intro acts; rw [hret _ acts rfl rfl rfl]) | rw [hret _ _ rfl rfl rfl]
  exact Steps.refl _
/-- what holds at the law's entry: the machine, the code, the tables' words (any of lw_tbl by 'hts w (by decide +kernel)'), the script of L ints xs at the cell b, what the Statement gives of the start (any of its parts by flat_of_before) -/
def lw_At (p : Program) (s : State) (m : MethodId) (meth : Method) (c : Code) (b L : Nat) (xs : Nat → Int32) : Prop :=
  p.tables.exec = Jvm.exec ∧ c.code = code ∧ meth.sig.returnType = ret ∧ c.maxLocals = 4 ∧ s.vm.findClass R_law = some m.cls ∧ (∀ w ∈ lw_tbl, w.before #[Value.ref b] s = true) ∧ va_X b L xs s s.heap ∧ b < s.heap.size ∧ meth.locks = false ∧ (Jvm.Cond.and given_1 narrow_1).before #[Value.ref b] s = true
/-! ===== the law, in the judgement's words ===== -/
abbrev ML (nm : String) : MI := (⟨RL, nm, "([I)Z"⟩, cL_law, 4, some .boolean)
def EL (G : GG) (b n : Nat) (xs : Nat → Int32) (args : Array Value) (s : State) : Prop := args = #[Value.ref b] ∧ va_X b n xs s s.heap ∧ b < s.heap.size ∧ G.2.2 = s.heap.size
abbrev thL (l : Launch) (G : GG) (nm : String) (b n : Nat) (xs : Nat → Int32) : TH := (l, G, ML nm, EL G b n xs, room_1, fun below args s => lw_Z below args s)
theorem J.widen {Θ : TH} {cc : ByteArray} {h : AH} {k k2 : Nat × Nat} {lv : List (Option Value)} {pc : Nat} {st : List Value} (h1 : k.1 ≤ k2.1) (h2 : k.2 ≤ k2.2) (kk : J Θ cc h k2 lv pc st) : J Θ cc h k lv pc st :=
  fun p e s m args below meth c C H locs ls hH hS hl => W.widen h1 h2 (kk p e s m args below meth c C H locs ls hH hS hl)
section LAW
variable {l : Launch} {G : GG} {nm : String} {b n : Nat} {xs : Nat → Int32} {h : AH} {k : Nat × Nat} {lv : List (Option Value)} {pc : Nat} {st : List Value}
theorem l_len (hd : decode cL_law pc = .ok (.arraylength, 1)) (kk : J (thL l G nm b n xs) cL_law h k lv (pc + 1) (.int (nI n) :: st)) : J (thL l G nm b n xs) cL_law h k lv pc (.ref b :: st) := by
  intro p e s m args below meth c C0 H locs ls hH hS hl
  obtain ⟨_, hX, hbl, hG⟩ := C0.2.2.2.2.2.2
  exact va_slen (A := AN G) C0.1.1 C0.1.2.1 hX hbl (fun q => by have q : G.2.2 ≤ b := q; omega) hS hd (kk p e s m args below meth c C0 H locs ls hH hS hl)
theorem l_ld {i : Int32} (j : Nat) (hi : i = nI j) (hj : j < n) (hn : n ≤ 2560) (hd : decode cL_law pc = .ok (.iaload, 1)) (kk : J (thL l G nm b n xs) cL_law h k lv (pc + 1) (.int (xs j) :: st)) : J (thL l G nm b n xs) cL_law h k lv pc (.int i :: .ref b :: st) := by
  intro p e s m args below meth c C0 H locs ls hH hS hl
  obtain ⟨_, hX, hbl, hG⟩ := C0.2.2.2.2.2.2
  obtain ⟨p1, p2⟩ := nI_pin hi hj (by omega)
  refine va_sld (A := AN G) C0.1.1 C0.1.2.1 hX hbl (fun q => by have q : G.2.2 ≤ b := q; omega) hS p1 hd ?_
  rw [p2]
  exact kk p e s m args below meth c C0 H locs ls hH hS hl
theorem l_ret (h1 : k.1 ≤ 600000) (h2 : k.2 ≤ 7302250) : J (thL l G nm b n xs) cL_law h k lv 725 [.int 1] := by
  intro p e s m args below meth c C0 H locs ls hH hS hl
  obtain ⟨rfl, hX, hbl, hG⟩ := C0.2.2.2.2.2.2
  refine va_forget (fun q hq => by have q : G.2.2 ≤ q.base := hS.2.2 q hq; omega) ?_
  refine W.widen (k := 600000) (n := 7302250) h1 h2 ?_
  exact lw_ret C0.1.1 C0.1.2.1 C0.2.1 C0.2.2.1 dL_law_725
end LAW
abbrev LVL (b : Nat) (ad : NM → Nat) (c : Nat) : List (Option Value) := [some (.ref b), some (.ref (ad (0, 0, 0))), some (.ref (ad (5, 0, 0))), some (.int (nI (5 * c)))]
def LawK (l : Launch) (G : GG) (nm : String) (b n : Nat) (xs : Nat → Int32) (c : Nat) : Prop := ∀ (ad : NM → Nat) (np nb nn sp : Nat) (Z : ZT) (M : LT) (h : AH), Rm ad np nb Z M h → SS np nb nn sp M Z Z → sp ≤ c → J (thL l G nm b n xs) cL_law h (100 + 9 * c, 5000 + 100 * c) (LVL b ad c) 18 []
theorem law_next {l : Launch} {G : GG} {nm : String} {b n : Nat} {xs : Nat → Int32} {c : Nat} (hK : LawK l G nm b n xs (c + 1)) {ad : NM → Nat} {np nb nn sp : Nat} {Z : ZT} {M : LT} {h : AH} (hR : Rm ad np nb Z M h) (hS : SS np nb nn sp M Z Z) (hsp : sp ≤ c + 1) {k : Nat × Nat} (h1 : k.1 ≤ 100 + 9 * (c + 1)) (h2 : k.2 ≤ 5000 + 100 * (c + 1)) : J (thL l G nm b n xs) cL_law h k (LVL b ad c) 718 [] := by
  refine j_iinc (v := nI (5 * (c + 1))) dL_law_718 rfl ?_ (Nat.le_of_ble_eq_true rfl) rfl ?_
  · show nI (5 * c) + nI 5 = _
    rw [nI_add]
    rfl
  · refine j_goto 18 dL_law_721 (by decide) ?_
    exact J.widen h1 h2 (hK _ _ _ _ _ _ _ _ hR hS hsp)
/-! what each call leaves of the other's memory -/
theorem SS.way {np nb nn sp : Nat} {L : LT} {A B : ZT} (h : SS np nb nn sp L A B) : ∀ b, b < nb → wayOk (B (5, 0, 18) b) := fun b hb => by
  rw [← e_bw h.2.2 hb]
  exact (h.1.2.2.1 b hb).2.1
theorem SS.mw {np nb nn sp : Nat} {L : LT} {A B : ZT} (h : SS np nb nn sp L A B) : ∀ b, b < nb → mW B b = nI (cl (mW B b)) ∧ cl (mW B b) ≤ 44600 := fun b hb => by
  rw [← wX_eq h.2.2 hb]
  exact (h.1.2.2.1 b hb).1.w
theorem f_xBuy (c t : Int32) (Z : ZT) : on5 Z (xBuy c t Z).2 := by
  unfold xBuy
  split
  · exact ((on5.rf).up (by simp) _ _).up (by simp) _ _
  · exact on5.rf
theorem f_mBuy (c t : Int32) (Z : ZT) : off5 Z (mBuy c t Z).2 := by
  unfold mBuy
  split
  · exact ((off5.rf).up (by simp) _ _).up (by simp) _ _
  · exact off5.rf
theorem f_xBase (np : Nat) (p q v : Int32) (Z : ZT) : on5 Z (xBase np p q v Z).2 := by
  unfold xBase
  split
  · exact (on5.rf).up (by simp) _ _
  · exact on5.rf
theorem f_mBase (p q v : Int32) (Z : ZT) : off5 Z (mBase p q v Z).2 := by
  unfold mBase
  split
  · exact (off5.rf).up (by simp) _ _
  · exact off5.rf
theorem f_xOldB (nb : Nat) (v : Int32) (Z : ZT) : on5 Z (xOldB nb v Z).2 := by
  unfold xOldB
  split
  · exact (on5.rf).up (by simp) _ _
  · exact on5.rf
theorem f_mOld (v : Int32) (Z : ZT) : off5 Z (mOld v Z).2 := by
  unfold mOld
  split
  · exact (off5.rf).up (by simp) _ _
  · exact off5.rf
theorem f_xSpan (p a b : Int32) (Z : ZT) : on5 Z (xSpan p a b Z).2 := by
  unfold xSpan
  split
  · exact (((on5.rf).up (by simp) _ _).up (by simp) _ _).up (by simp) _ _
  · exact on5.rf
theorem f_mSpan (p a b : Int32) (Z : ZT) : off5 Z (mSpan p a b Z).2 := by
  unfold mSpan
  split
  · exact ((off5.rf).up (by simp) _ _).up (by simp) _ _
  · exact off5.rf
theorem f_xRing (a : Int32) (Z : ZT) : on5 Z (xRing a Z).2 := by
  unfold xRing
  split
  · exact (((on5.rf).up (by simp) _ _).up (by simp) _ _).up (by simp) _ _
  · exact on5.rf
theorem f_mRing (a : Int32) (Z : ZT) : off5 Z (mRing a Z).2 := by
  unfold mRing
  split
  · exact ((off5.rf).up (by simp) _ _).up (by simp) _ _
  · exact off5.rf
theorem f_xNote (nn : Nat) (s : Int32) (Z : ZT) : on5 Z (xNote nn s Z).2 := by
  unfold xNote xAdd
  split
  · exact (((on5.rf).up (by simp) _ _).up (by simp) _ _).up (by simp) _ _
  · exact on5.rf
theorem f_mNote (s : Int32) (Z : ZT) : off5 Z (mNote s Z).2 := by
  unfold mNote
  split
  · exact ((off5.rf).up (by simp) _ _).up (by simp) _ _
  · exact off5.rf
theorem f_xHang (nb : Nat) (v w : Int32) (Z : ZT) : on5 Z (xHang nb v w Z).2 := by
  unfold xHang
  split
  · exact (on5.rf).up (by simp) _ _
  · exact on5.rf
theorem f_xCut (nb : Nat) (v k : Int32) (Z : ZT) : on5 Z (xCut nb v k Z).2 := by
  unfold xCut xTrim
  split
  · exact ((((on5.rf).up (by simp) _ _).up (by simp) _ _).up (by simp) _ _).up (by simp) _ _
  · exact on5.rf
theorem f_mCut (v k : Int32) (Z : ZT) : off5 Z (mCut v k Z).2 := by
  unfold mCut mCut2 mCut1
  split
  · exact ((off5.rf).up (by simp) _ _).up (by simp) _ _
  · exact off5.rf
theorem f_xCrack (nb : Nat) (v : Int32) (Z : ZT) : on5 Z (xCrack nb v Z).2 := by
  unfold xCrack xCrk2 xCrk1
  split
  · exact ((((on5.rf).up (by simp) _ _).up (by simp) _ _).up (by simp) _ _).up (by simp) _ _
  · exact on5.rf
theorem f_mCrack (v : Int32) (Z : ZT) : off5 Z (mCrack v Z).2 := by
  unfold mCrack mCrack2 mCrack1
  split
  · exact (((off5.rf).up (by simp) _ _).up (by simp) _ _).up (by simp) _ _
  · exact off5.rf
theorem f_mHang (mb : Nat) (v w : Int32) (Z : ZT) : off5 Z (mHang mb v w Z).2 := by
  unfold mHang
  split
  · split
    · exact off5.rf.up (by simp) _ _
    · exact (off5.rf.up (by simp) _ _).up (by simp) _ _
  · exact off5.rf
theorem f_mTow1 (w s : Int32) (Z : ZT) : off5 Z (mTow1 w s Z) := by
  unfold mTow1
  split
  · exact off5.rf.up (by simp) _ _
  · exact off5.rf
theorem f_mTower (mb : Nat) (w s b : Int32) (Z : ZT) : off5 Z (mTower mb w s b Z).2 := by
  unfold mTower
  split
  · split
    · exact (f_mTow1 w s Z).up (by simp) _ _
    · exact (f_mTow1 w s Z).tr (f_mTow1 _ _ _)
  · exact off5.rf
theorem f_xTower (nb : Nat) (w s b : Int32) (Z : ZT) : on5 Z (xTower nb w s b Z).2 := by
  unfold xTower
  split
  · dsimp only
    split
    · exact on5.rf.up (by simp) _ _
    · exact (on5.rf.up (by simp) _ _).up (by simp) _ _
  · exact on5.rf
theorem f_xShape (np : Nat) (p w k v : Int32) (Z : ZT) : on5 Z (xShape np p w k v Z).2 := by
  unfold xShape
  split
  · dsimp only
    split
    · exact on5.rf.up (by simp) _ _
    · split
      · exact on5.rf.up (by simp) _ _
      · split
        · exact on5.rf.up (by simp) _ _
        · exact on5.rf.up (by simp) _ _
  · exact on5.rf
theorem f_mShape (p w k v : Int32) (Z : ZT) : off5 Z (mShape p w k v Z).2 := by
  unfold mShape
  split
  · dsimp only
    split
    · exact off5.rf.up (by simp) _ _
    · split
      · exact off5.rf.up (by simp) _ _
      · split
        · exact off5.rf.up (by simp) _ _
        · exact off5.rf.up (by simp) _ _
  · exact off5.rf
theorem f_xProf (np : Nat) (w : Int32) (Z : ZT) : on5 Z (xProf np w Z) := fun m hm => by
  unfold xProf zP
  rw [upZ_ne (fun e => by rw [e] at hm; simp at hm), if_neg (fun q => by rw [hm] at q; simp at q)]
theorem f_mProfile (mp : Nat) (w : Int32) (Z : ZT) : off5 Z (mProfile mp w Z).2 := by
  unfold mProfile
  split
  · exact off5.up (off5.it (off5.rf.up (by simp) _ _) (fun k X => off5.rf.up (by simp) _ _) 8) (by simp) _ _
  · exact off5.rf
theorem f_xCastZ (nb p : Nat) (Z : ZT) : on5 Z (xCastZ nb p Z) := fun m hm => by
  unfold xCastZ zB
  rw [upZ_ne (fun e => by rw [e] at hm; simp at hm), upZ_ne (fun e => by rw [e] at hm; simp at hm), if_neg (fun q => by rw [hm] at q; simp at q), if_neg (fun q => by rw [hm] at q; simp at q), xCh3_ne (fun e => by rw [e] at hm; simp at hm)]
theorem f_cpZ {A B : ZT} (h : off5 A B) {d : NM} (hd : d.1 = 5) (i : Nat) (s : NM) (j : Nat) : off5 A (cpZ B d i s j) := h.up hd _ _
theorem f_mCast (mb : Nat) (p : Int32) (Z : ZT) : off5 Z (mCast mb p Z).2 := by
  unfold mCast
  split
  · have h4 : off5 Z (mC4 Z (cl p)) := by
      unfold mC4 mC3 mC2 mC1
      exact (((off5.rf.up (by simp) _ _).up (by simp) _ _).up (by simp) _ _).up (by simp) _ _
    have h5 : off5 Z (mC5 Z (cl p) mb) := f_cpZ (h4.up (by simp) _ _) (by simp) _ _ _
    have h6 : off5 Z (mC6 Z (cl p) mb) := h5.it (fun k X => f_cpZ (f_cpZ (f_cpZ off5.rf (by simp) _ _ _) (by simp) _ _ _) (by simp) _ _ _) 8
    have h7 : off5 Z (mC7 Z (cl p) mb) := h6.it (fun k X => f_cpZ off5.rf (by simp) _ _ _) 5
    have h8 : off5 Z (mC8 Z (cl p) mb) := h7.it (fun k X => f_cpZ off5.rf (by simp) _ _ _) 40
    exact h8.up (by simp) _ _
  · exact off5.rf
theorem f_planX {b : Nat} {x : Int32} {Z Y : ZT} (h : planX Z b x Y) : on5 Z Y := by
  rcases h with ⟨_, _, e⟩ | ⟨_, k, _⟩
  · rw [e]; exact on5.rf
  · exact fun m hm => k.1 m (fun e => by rw [e] at hm; simp at hm) (fun e => by rw [e] at hm; simp at hm) (fun e => by rw [e] at hm; simp at hm) (fun e => by rw [e] at hm; simp at hm) (fun e => by rw [e] at hm; simp at hm) (fun e => by rw [e] at hm; simp at hm)
theorem f_xTuning {nb : Nat} {v x : Int32} {Z Y : ZT} (h : xTuning nb v Z x Y) : on5 Z Y := by
  rcases h with ⟨_, _, e⟩ | ⟨_, k⟩
  · rw [e]; exact on5.rf
  · exact f_planX k
theorem f_xTune {nb : Nat} {v x : Int32} {Z Y : ZT} (h : xTune nb v Z x Y) : on5 Z Y := by
  rcases h with ⟨_, _, e⟩ | ⟨_, X, k, e⟩
  · rw [e]; exact on5.rf
  · rw [e]
    split
    · exact f_planX k
    · exact (f_planX k).it (fun j W => by
        unfold xTrim
        exact (((on5.rf.up (by simp) _ _).up (by simp) _ _).up (by simp) _ _).up (by simp) _ _) 8
theorem f_xTunAt {nb : Nat} {v k x : Int32} {Z Y : ZT} (h : xTunAt nb v k Z x Y) : on5 Z Y := by
  rcases h with ⟨_, _, e⟩ | ⟨_, _, z, k, _⟩
  · rw [e]; exact on5.rf
  · exact f_planX k
theorem f_k1 {f : Nat} {Z Y : ZT} (h : keep1 (5, 0, f) Z Y) : off5 Z Y := fun m hm => h m (fun e => hm (by rw [e]))
theorem f_mTune {v x : Int32} {Z Y : ZT} (h : mTune v Z x Y) : off5 Z Y := by
  obtain ⟨X, k, _, e⟩ := h
  rw [e]
  split
  · exact f_k1 k
  · exact (f_k1 k).it (fun j W => by
      unfold mT2 mT1
      exact (off5.rf.up (by simp) _ _).up (by simp) _ _) 8
theorem f_mTunAt {v k x : Int32} {Z Y : ZT} (h : mTunAt v k Z x Y) : off5 Z Y := by
  rcases h with ⟨_, _, e⟩ | ⟨_, z, k, _⟩
  · rw [e]; exact off5.rf
  · exact f_k1 k
theorem f_chX {nb nn : Nat} {cv : Int} {Z Y : ZT} {M : LT} (h : chX Z nb nn cv Y M) : on5 Z Y := fun m hm => h.1.1 m (fun e => by rw [e] at hm; simp at hm) (fun e => by rw [e] at hm; simp at hm) (fun e => by rw [e] at hm; simp at hm) (fun e => by rw [e] at hm; simp at hm) (fun e => by rw [e] at hm; simp at hm) (fun e => by rw [e] at hm; simp at hm)
theorem f_rgM {mb n : Nat} {x : Int32} {Z Y : ZT} (h : rgM Z mb n x Y) : off5 Z Y := fun m hm => h.1 m (fun q => by
  simp only [KR, List.mem_cons, List.not_mem_nil, or_false] at q
  rcases q with e | e | e | e <;> (rw [e] at hm; simp at hm))
/-- the bell of a note -/
theorem s_ringBell {np nb nn sp : Nat} {L M : LT} {A A2 B2 : ZT} {v x y : Int32} (h : SS np nb nn sp L A A)
    (hx : (iw v 0 (nI nn - 1) = false ∧ x = -1 ∧ A2 = A ∧ M = L) ∨ (iw v 0 (nI nn - 1) = true ∧ ∃ cv, x = rbX cv (cl v) ∧ chX A nb nn cv A2 M))
    (hy : (iw v 0 (nI nn - 1) = false ∧ y = -1 ∧ B2 = A2) ∨ (iw v 0 (nI nn - 1) = true ∧ ∃ z, rgM A2 nb nn z B2 ∧ y = if z < 0 then -1 else B2 (5, 0, 30) (cl v))) : x = y ∧ SS np nb nn sp M B2 B2 := by
  have h8 := h.1.1.1.2.2.1
  rcases hx with ⟨c1, e1, e2, e3⟩ | ⟨c1, cv, e1, k1⟩
  · rcases hy with ⟨d1, f1, f2⟩ | ⟨d1, _⟩
    · rw [f2, e2, e3]
      exact ⟨by rw [e1, f1], h⟩
    · rw [c1] at d1; cases d1
  · rcases hy with ⟨d1, f1, f2⟩ | ⟨d1, z, r1, f1⟩
    · rw [c1] at d1; cases d1
    · obtain ⟨v1, _⟩ := iw_cl (by omega) c1
      have hS1 := h.chB (f_chX k1)
      refine ⟨?_, (hS1.ch k1 r1.1).chA (f_rgM r1)⟩
      rw [e1, f1]
      exact (ring_eq hS1 k1.2.2.2 r1).2 _ v1
