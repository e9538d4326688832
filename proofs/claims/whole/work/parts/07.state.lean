/-! ===== names of cells: (kind, number, 0) an object, (kind, number, k + 1) the array of its field k; kinds: 0 foundry, 1 chooser, 2 profiles, 3 tuner, 4 bells, 5 reference, 6 moulds of bells ===== -/
abbrev NM : Type := Nat × Nat × Nat
abbrev ZT : Type := NM → Nat → Int32
abbrev LT : Type := NM → Nat → Int64
abbrev iA (n : Nat) (z : Nat → Int32) : AE := .inl (0, n, .inl z)
abbrev zA (n : Nat) (z : Nat → Int32) : AE := .inl (2, n, .inl z)
abbrev lA (n : Nat) (z : Nat → Int64) : AE := .inl (1, n, .inr (.inl z))
abbrev qA (t n : Nat) (f : Nat → Option Nat) : AE := .inl (t, n, .inr (.inr (.inr (.inr f))))
def sh0 (ad : NM → Nat) (np nb i k : Nat) (z : Nat → Int32) (l : Nat → Int64) : AE :=
  if k = 0 then .inr (4, [.ref (ad (0, 0, 1)), .int (z 1), .ref (ad (0, 0, 3)), .int (z 3), .int (z 4), .int (z 5), .int (z 6), .ref (ad (3, 0, 0)), .ref (ad (1, 0, 0)), .ref (ad (0, 0, 10)), .int (z 10)])
  else if k = 1 then qA 3 4 (fun p => if p < np then some (ad (2, p, 0)) else none)
  else if k = 3 then qA 4 24 (fun p => if p < nb then some (ad (4, p, 0)) else none)
  else if k = 10 then iA 5 z
  else iA 0 z
def sh1 (ad : NM → Nat) (np nb i k : Nat) (z : Nat → Int32) (l : Nat → Int64) : AE :=
  if k = 0 then .inr (1, [.ref (ad (1, 0, 1)), .int (z 1), .int (z 2), .int (z 3), .long (l 4), .ref (ad (1, 0, 6)), .int (z 6), .ref (ad (1, 0, 8)), .ref (ad (1, 0, 9)), .ref (ad (1, 0, 10)), .ref (ad (1, 0, 11)), .ref (ad (1, 0, 12))])
  else if k = 1 then iA 8 z
  else if k = 6 then iA 24 z
  else if k = 8 then iA 24 z
  else if k = 9 then iA 24 z
  else if k = 10 then iA 24 z
  else if k = 11 then lA 24 l
  else if k = 12 then iA 24 z
  else iA 0 z
def sh2 (ad : NM → Nat) (np nb i k : Nat) (z : Nat → Int32) (l : Nat → Int64) : AE :=
  if k = 0 then .inr (2, [.int (z 0), .ref (ad (2, i, 2)), .ref (ad (2, i, 3)), .ref (ad (2, i, 4)), .ref (ad (2, i, 5)), .ref (ad (2, i, 6))])
  else if k = 2 then iA 5 z
  else if k = 3 then iA 40 z
  else if k = 4 then iA 8 z
  else if k = 5 then iA 8 z
  else if k = 6 then iA 8 z
  else iA 0 z
def sh3 (ad : NM → Nat) (np nb i k : Nat) (z : Nat → Int32) (l : Nat → Int64) : AE :=
  if k = 0 then .inr (3, [.ref (ad (3, 0, 1)), .ref (ad (3, 0, 2)), .int (z 2), .ref (ad (3, 0, 4)), .ref (ad (3, 0, 5)), .ref (ad (3, 0, 6)), .ref (ad (3, 0, 7))])
  else if k = 1 then iA 5 z
  else if k = 2 then iA 5 z
  else if k = 4 then iA 5 z
  else if k = 5 then iA 9 z
  else if k = 6 then iA 45 z
  else if k = 7 then iA 45 z
  else iA 0 z
def sh4 (ad : NM → Nat) (np nb i k : Nat) (z : Nat → Int32) (l : Nat → Int64) : AE :=
  if k = 0 then .inr (0, [.int (z 0), .ref (ad (6, i, 0)), .ref (ad (4, i, 3)), .int (z 3), .int (z 4), .int (z 5), .ref (ad (4, i, 7)), .int (z 7), .int (z 8)])
  else if k = 3 then iA 8 z
  else if k = 7 then iA 8 z
  else iA 0 z
def sh5 (ad : NM → Nat) (np nb i k : Nat) (z : Nat → Int32) (l : Nat → Int64) : AE :=
  if k = 0 then .inr (5, [.int (z 0), .ref (ad (5, 0, 2)), .ref (ad (5, 0, 3)), .ref (ad (5, 0, 4)), .ref (ad (5, 0, 5)), .ref (ad (5, 0, 6)), .ref (ad (5, 0, 7)), .int (z 7), .ref (ad (5, 0, 9)), .ref (ad (5, 0, 10)), .ref (ad (5, 0, 11)), .ref (ad (5, 0, 12)), .ref (ad (5, 0, 13)), .ref (ad (5, 0, 14)), .ref (ad (5, 0, 15)), .ref (ad (5, 0, 16)), .ref (ad (5, 0, 17)), .ref (ad (5, 0, 18)), .int (z 18), .int (z 19), .int (z 20), .ref (ad (5, 0, 22)), .ref (ad (5, 0, 23)), .int (z 23), .ref (ad (5, 0, 25)), .int (z 25), .ref (ad (5, 0, 27)), .int (z 27), .ref (ad (5, 0, 29)), .ref (ad (5, 0, 30)), .ref (ad (5, 0, 31)), .ref (ad (5, 0, 32)), .ref (ad (5, 0, 33))])
  else if k = 2 then iA 4 z
  else if k = 3 then iA 32 z
  else if k = 4 then iA 32 z
  else if k = 5 then iA 32 z
  else if k = 6 then iA 20 z
  else if k = 7 then iA 160 z
  else if k = 9 then iA 24 z
  else if k = 10 then iA 24 z
  else if k = 11 then iA 192 z
  else if k = 12 then iA 192 z
  else if k = 13 then iA 192 z
  else if k = 14 then iA 120 z
  else if k = 15 then iA 960 z
  else if k = 16 then zA 24 z
  else if k = 17 then zA 24 z
  else if k = 18 then iA 24 z
  else if k = 22 then iA 5 z
  else if k = 23 then iA 5 z
  else if k = 25 then iA 8 z
  else if k = 27 then iA 5 z
  else if k = 29 then iA 8 z
  else if k = 30 then iA 8 z
  else if k = 31 then iA 24 z
  else if k = 32 then iA 24 z
  else if k = 33 then iA 256 z
  else iA 0 z
def sh6 (ad : NM → Nat) (np nb i k : Nat) (z : Nat → Int32) (l : Nat → Int64) : AE :=
  if k = 0 then .inr (2, [.int (z 0), .ref (ad (6, i, 2)), .ref (ad (6, i, 3)), .ref (ad (6, i, 4)), .ref (ad (6, i, 5)), .ref (ad (6, i, 6))])
  else if k = 2 then iA 5 z
  else if k = 3 then iA 40 z
  else if k = 4 then iA 8 z
  else if k = 5 then iA 8 z
  else if k = 6 then iA 8 z
  else iA 0 z
def shp (ad : NM → Nat) (np nb : Nat) (m : NM) (z : Nat → Int32) (l : Nat → Int64) : AE :=
  if m.1 = 0 then sh0 ad np nb m.2.1 m.2.2 z l
  else if m.1 = 1 then sh1 ad np nb m.2.1 m.2.2 z l
  else if m.1 = 2 then sh2 ad np nb m.2.1 m.2.2 z l
  else if m.1 = 3 then sh3 ad np nb m.2.1 m.2.2 z l
  else if m.1 = 4 then sh4 ad np nb m.2.1 m.2.2 z l
  else if m.1 = 5 then sh5 ad np nb m.2.1 m.2.2 z l
  else if m.1 = 6 then sh6 ad np nb m.2.1 m.2.2 z l
  else iA 0 z
def lvc (np nb k : Nat) : Nat := if k = 2 then np else if k = 4 then nb else if k = 6 then nb else if k ≤ 5 then 1 else 0
def lvk (k j : Nat) : Bool :=
  if k = 0 then [0, 1, 3, 10].contains j
  else if k = 1 then [0, 1, 6, 8, 9, 10, 11, 12].contains j
  else if k = 2 then [0, 2, 3, 4, 5, 6].contains j
  else if k = 3 then [0, 1, 2, 4, 5, 6, 7].contains j
  else if k = 4 then [0, 3, 7].contains j
  else if k = 5 then [0, 2, 3, 4, 5, 6, 7, 9, 10, 11, 12, 13, 14, 15, 16, 17, 18, 22, 23, 25, 27, 29, 30, 31, 32, 33].contains j
  else if k = 6 then [0, 2, 3, 4, 5, 6].contains j
  else false
def lvm (np nb : Nat) (m : NM) : Prop := m.2.1 < lvc np nb m.1 ∧ lvk m.1 m.2.2 = true
/-- the heap holds the memory: np profiles, nb bells, whole numbers Z, longs L, at the addresses ad -/
def Rm (ad : NM → Nat) (np nb : Nat) (Z : ZT) (L : LT) (h : AH) : Prop := (∀ m, lvm np nb m → h (ad m) = some (shp ad np nb m (Z m) (L m))) ∧ ∀ m n, lvm np nb m → lvm np nb n → ad m = ad n → m = n
def upZ (Z : ZT) (n : NM) (k : Nat) (v : Int32) : ZT := fun m => if m = n then upd (Z n) k v else Z m
def upL (L : LT) (n : NM) (k : Nat) (v : Int64) : LT := fun m => if m = n then vp_updL (L n) k v else L m
theorem upZ_self (Z : ZT) (n : NM) (k : Nat) (v : Int32) : upZ Z n k v n = upd (Z n) k v := if_pos rfl
theorem upZ_ne {Z : ZT} {n m : NM} {k : Nat} {v : Int32} (h : m ≠ n) : upZ Z n k v m = Z m := if_neg h
theorem upZ_at (Z : ZT) (n : NM) (k : Nat) (v : Int32) : upZ Z n k v n k = v := by rw [upZ_self]; simp [upd]
theorem upZ_nk {Z : ZT} {n m : NM} {k j : Nat} {v : Int32} (h : m ≠ n ∨ j ≠ k) : upZ Z n k v m j = Z m j := by
  by_cases hm : m = n
  · subst hm
    rw [upZ_self]
    rcases h with h | h
    · exact absurd rfl h
    · simp [upd, h]
  · rw [upZ_ne hm]
theorem upL_self (L : LT) (n : NM) (k : Nat) (v : Int64) : upL L n k v n = vp_updL (L n) k v := if_pos rfl
theorem upL_ne {L : LT} {n m : NM} {k : Nat} {v : Int64} (h : m ≠ n) : upL L n k v m = L m := if_neg h
theorem upL_at (L : LT) (n : NM) (k : Nat) (v : Int64) : upL L n k v n k = v := by rw [upL_self]; simp [vp_updL]
theorem upL_nk {L : LT} {n m : NM} {k j : Nat} {v : Int64} (h : m ≠ n ∨ j ≠ k) : upL L n k v m j = L m j := by
  by_cases hm : m = n
  · subst hm
    rw [upL_self]
    rcases h with h | h
    · exact absurd rfl h
    · simp [vp_updL, h]
  · rw [upL_ne hm]
theorem Rm.up {ad : NM → Nat} {np nb : Nat} {Z : ZT} {L : LT} {h : AH} (hR : Rm ad np nb Z L h) (n : NM) (k : Nat) (v : Int32) (hn : lvm np nb n) {e : AE} (he : e = shp ad np nb n (upd (Z n) k v) (L n)) : Rm ad np nb (upZ Z n k v) L (upA h (ad n) e) := by
  refine ⟨fun m hm => ?_, hR.2⟩
  by_cases hmn : m = n
  · subst hmn
    rw [upA_self, upZ_self, he]
  · rw [upA_ne (fun q => hmn (hR.2 m n hm hn q)), upZ_ne hmn]
    exact hR.1 m hm
theorem Rm.upl {ad : NM → Nat} {np nb : Nat} {Z : ZT} {L : LT} {h : AH} (hR : Rm ad np nb Z L h) (n : NM) (k : Nat) (v : Int64) (hn : lvm np nb n) {e : AE} (he : e = shp ad np nb n (Z n) (vp_updL (L n) k v)) : Rm ad np nb Z (upL L n k v) (upA h (ad n) e) := by
  refine ⟨fun m hm => ?_, hR.2⟩
  by_cases hmn : m = n
  · subst hmn
    rw [upA_self, upL_self, he]
  · rw [upA_ne (fun q => hmn (hR.2 m n hm hn q)), upL_ne hmn]
    exact hR.1 m hm
section RR
variable {Θ : TH} {cc : ByteArray} {h : AH} {k : Nat × Nat} {lv : List (Option Value)} {pc : Nat} {st : List Value} {ad : NM → Nat} {np nb : Nat} {Z : ZT} {L : LT}
theorem r_iast (hR : Rm ad np nb Z L h) {m : NM} {n : Nat} {i x : Int32} (hm : lvm np nb m) (hs : ∀ z, shp ad np nb m z (L m) = iA n z) (j : Nat) (hi : i = nI j) (hj : j < n) (hn : n < 2147483648) (hd : decode cc pc = .ok (.iastore, 1)) (kk : ∀ h', Rm ad np nb (upZ Z m j x) L h' → J Θ cc h' k lv (pc + 1) st) : J Θ cc h k lv pc (.int x :: .int i :: .ref (ad m) :: st) :=
  j_iast (by rw [hR.1 m hm, hs]) j hi hj hn hd (kk _ (hR.up m j x hm (hs _).symm))
theorem r_zast (hR : Rm ad np nb Z L h) {m : NM} {n : Nat} {i x : Int32} (hm : lvm np nb m) (hs : ∀ z, shp ad np nb m z (L m) = zA n z) (j : Nat) (hi : i = nI j) (hj : j < n) (hn : n < 2147483648) (hx : narrow .boolean (.int x) = .int x) (hd : decode cc pc = .ok (.bastore, 1)) (kk : ∀ h', Rm ad np nb (upZ Z m j x) L h' → J Θ cc h' k lv (pc + 1) st) : J Θ cc h k lv pc (.int x :: .int i :: .ref (ad m) :: st) :=
  j_zast (by rw [hR.1 m hm, hs]) j hi hj hn hx hd (kk _ (hR.up m j x hm (hs _).symm))
theorem r_last (hR : Rm ad np nb Z L h) {m : NM} {n : Nat} {i : Int32} {x : Int64} (hm : lvm np nb m) (hs : ∀ z, shp ad np nb m (Z m) z = lA n z) (j : Nat) (hi : i = nI j) (hj : j < n) (hn : n < 2147483648) (hd : decode cc pc = .ok (.lastore, 1)) (kk : ∀ h', Rm ad np nb Z (upL L m j x) h' → J Θ cc h' k lv (pc + 1) st) : J Θ cc h k lv pc (.long x :: .int i :: .ref (ad m) :: st) :=
  j_last (by rw [hR.1 m hm, hs]) j hi hj hn hd (kk _ (hR.upl m j x hm (hs _).symm))
theorem nar_int (x : Int32) : narrow .int (.int x) = .int x := rfl
theorem qX4_39 (hM : Θ.2.2.1.1.cls = RX4) (hR : Rm ad np nb Z L h) {x : Int32} (hd : decode cc pc = .ok (.putfield 39, 3)) (kk : ∀ h2, Rm ad np nb (upZ Z (0, 0, 0) 1 x) L h2 → J Θ cc h2 k lv (pc + 3) st) : J Θ cc h k lv pc (.int x :: .ref (ad (0, 0, 0)) :: st) :=
  pX4_39 hM (hR.1 _ ⟨Nat.zero_lt_one, rfl⟩) rfl rfl (Nat.le_of_ble_eq_true rfl) hd (kk _ (hR.up (0, 0, 0) 1 x ⟨Nat.zero_lt_one, rfl⟩ rfl))
theorem qX4_78 (hM : Θ.2.2.1.1.cls = RX4) (hR : Rm ad np nb Z L h) {x : Int32} (hd : decode cc pc = .ok (.putfield 78, 3)) (kk : ∀ h2, Rm ad np nb (upZ Z (0, 0, 0) 4 x) L h2 → J Θ cc h2 k lv (pc + 3) st) : J Θ cc h k lv pc (.int x :: .ref (ad (0, 0, 0)) :: st) :=
  pX4_78 hM (hR.1 _ ⟨Nat.zero_lt_one, rfl⟩) rfl rfl (Nat.le_of_ble_eq_true rfl) hd (kk _ (hR.up (0, 0, 0) 4 x ⟨Nat.zero_lt_one, rfl⟩ rfl))
theorem qX4_82 (hM : Θ.2.2.1.1.cls = RX4) (hR : Rm ad np nb Z L h) {x : Int32} (hd : decode cc pc = .ok (.putfield 82, 3)) (kk : ∀ h2, Rm ad np nb (upZ Z (0, 0, 0) 5 x) L h2 → J Θ cc h2 k lv (pc + 3) st) : J Θ cc h k lv pc (.int x :: .ref (ad (0, 0, 0)) :: st) :=
  pX4_82 hM (hR.1 _ ⟨Nat.zero_lt_one, rfl⟩) rfl rfl (Nat.le_of_ble_eq_true rfl) hd (kk _ (hR.up (0, 0, 0) 5 x ⟨Nat.zero_lt_one, rfl⟩ rfl))
theorem qX4_85 (hM : Θ.2.2.1.1.cls = RX4) (hR : Rm ad np nb Z L h) {x : Int32} (hd : decode cc pc = .ok (.putfield 85, 3)) (kk : ∀ h2, Rm ad np nb (upZ Z (0, 0, 0) 3 x) L h2 → J Θ cc h2 k lv (pc + 3) st) : J Θ cc h k lv pc (.int x :: .ref (ad (0, 0, 0)) :: st) :=
  pX4_85 hM (hR.1 _ ⟨Nat.zero_lt_one, rfl⟩) rfl rfl (Nat.le_of_ble_eq_true rfl) hd (kk _ (hR.up (0, 0, 0) 3 x ⟨Nat.zero_lt_one, rfl⟩ rfl))
theorem qX4_120 (hM : Θ.2.2.1.1.cls = RX4) (hR : Rm ad np nb Z L h) {b : Nat} (hb : b < nb) {x : Int32} (hx : narrow .boolean (.int x) = .int x) (hf : fits .boolean (.int x) = true) (hd : decode cc pc = .ok (.putfield 120, 3)) (kk : ∀ h2, Rm ad np nb (upZ Z (4, b, 0) 3 x) L h2 → J Θ cc h2 k lv (pc + 3) st) : J Θ cc h k lv pc (.int x :: .ref (ad (4, b, 0)) :: st) :=
  pX4_120 hM (hR.1 _ ⟨hb, rfl⟩) hx hf (Nat.le_of_ble_eq_true rfl) hd (kk _ (hR.up (4, b, 0) 3 x ⟨hb, rfl⟩ rfl))
theorem qX4_124 (hM : Θ.2.2.1.1.cls = RX4) (hR : Rm ad np nb Z L h) {b : Nat} (hb : b < nb) {x : Int32} (hx : narrow .boolean (.int x) = .int x) (hf : fits .boolean (.int x) = true) (hd : decode cc pc = .ok (.putfield 124, 3)) (kk : ∀ h2, Rm ad np nb (upZ Z (4, b, 0) 4 x) L h2 → J Θ cc h2 k lv (pc + 3) st) : J Θ cc h k lv pc (.int x :: .ref (ad (4, b, 0)) :: st) :=
  pX4_124 hM (hR.1 _ ⟨hb, rfl⟩) hx hf (Nat.le_of_ble_eq_true rfl) hd (kk _ (hR.up (4, b, 0) 4 x ⟨hb, rfl⟩ rfl))
theorem qX4_127 (hM : Θ.2.2.1.1.cls = RX4) (hR : Rm ad np nb Z L h) {b : Nat} (hb : b < nb) {x : Int32} (hd : decode cc pc = .ok (.putfield 127, 3)) (kk : ∀ h2, Rm ad np nb (upZ Z (4, b, 0) 5 x) L h2 → J Θ cc h2 k lv (pc + 3) st) : J Θ cc h k lv pc (.int x :: .ref (ad (4, b, 0)) :: st) :=
  pX4_127 hM (hR.1 _ ⟨hb, rfl⟩) rfl rfl (Nat.le_of_ble_eq_true rfl) hd (kk _ (hR.up (4, b, 0) 5 x ⟨hb, rfl⟩ rfl))
theorem qX4_130 (hM : Θ.2.2.1.1.cls = RX4) (hR : Rm ad np nb Z L h) {x : Int32} (hd : decode cc pc = .ok (.putfield 130, 3)) (kk : ∀ h2, Rm ad np nb (upZ Z (0, 0, 0) 6 x) L h2 → J Θ cc h2 k lv (pc + 3) st) : J Θ cc h k lv pc (.int x :: .ref (ad (0, 0, 0)) :: st) :=
  pX4_130 hM (hR.1 _ ⟨Nat.zero_lt_one, rfl⟩) rfl rfl (Nat.le_of_ble_eq_true rfl) hd (kk _ (hR.up (0, 0, 0) 6 x ⟨Nat.zero_lt_one, rfl⟩ rfl))
theorem qX4_161 (hM : Θ.2.2.1.1.cls = RX4) (hR : Rm ad np nb Z L h) {x : Int32} (hd : decode cc pc = .ok (.putfield 161, 3)) (kk : ∀ h2, Rm ad np nb (upZ Z (1, 0, 0) 1 x) L h2 → J Θ cc h2 k lv (pc + 3) st) : J Θ cc h k lv pc (.int x :: .ref (ad (1, 0, 0)) :: st) :=
  pX4_161 hM (hR.1 _ ⟨Nat.zero_lt_one, rfl⟩) rfl rfl (Nat.le_of_ble_eq_true rfl) hd (kk _ (hR.up (1, 0, 0) 1 x ⟨Nat.zero_lt_one, rfl⟩ rfl))
theorem qX4_187 (hM : Θ.2.2.1.1.cls = RX4) (hR : Rm ad np nb Z L h) {x : Int32} (hd : decode cc pc = .ok (.putfield 187, 3)) (kk : ∀ h2, Rm ad np nb (upZ Z (0, 0, 0) 10 x) L h2 → J Θ cc h2 k lv (pc + 3) st) : J Θ cc h k lv pc (.int x :: .ref (ad (0, 0, 0)) :: st) :=
  pX4_187 hM (hR.1 _ ⟨Nat.zero_lt_one, rfl⟩) rfl rfl (Nat.le_of_ble_eq_true rfl) hd (kk _ (hR.up (0, 0, 0) 10 x ⟨Nat.zero_lt_one, rfl⟩ rfl))
theorem qX4_196 (hM : Θ.2.2.1.1.cls = RX4) (hR : Rm ad np nb Z L h) {x : Int32} (hd : decode cc pc = .ok (.putfield 196, 3)) (kk : ∀ h2, Rm ad np nb (upZ Z (1, 0, 0) 2 x) L h2 → J Θ cc h2 k lv (pc + 3) st) : J Θ cc h k lv pc (.int x :: .ref (ad (1, 0, 0)) :: st) :=
  pX4_196 hM (hR.1 _ ⟨Nat.zero_lt_one, rfl⟩) rfl rfl (Nat.le_of_ble_eq_true rfl) hd (kk _ (hR.up (1, 0, 0) 2 x ⟨Nat.zero_lt_one, rfl⟩ rfl))
theorem qX4_210 (hM : Θ.2.2.1.1.cls = RX4) (hR : Rm ad np nb Z L h) {b : Nat} (hb : b < nb) {x : Int32} (hd : decode cc pc = .ok (.putfield 210, 3)) (kk : ∀ h2, Rm ad np nb (upZ Z (4, b, 0) 7 x) L h2 → J Θ cc h2 k lv (pc + 3) st) : J Θ cc h k lv pc (.int x :: .ref (ad (4, b, 0)) :: st) :=
  pX4_210 hM (hR.1 _ ⟨hb, rfl⟩) rfl rfl (Nat.le_of_ble_eq_true rfl) hd (kk _ (hR.up (4, b, 0) 7 x ⟨hb, rfl⟩ rfl))
theorem qX0_34 (hM : Θ.2.2.1.1.cls = RX0) (hR : Rm ad np nb Z L h) {b : Nat} (hb : b < nb) {x : Int32} (hd : decode cc pc = .ok (.putfield 34, 3)) (kk : ∀ h2, Rm ad np nb (upZ Z (4, b, 0) 5 x) L h2 → J Θ cc h2 k lv (pc + 3) st) : J Θ cc h k lv pc (.int x :: .ref (ad (4, b, 0)) :: st) :=
  pX0_34 hM (hR.1 _ ⟨hb, rfl⟩) rfl rfl (Nat.le_of_ble_eq_true rfl) hd (kk _ (hR.up (4, b, 0) 5 x ⟨hb, rfl⟩ rfl))
theorem qX0_40 (hM : Θ.2.2.1.1.cls = RX0) (hR : Rm ad np nb Z L h) {b : Nat} (hb : b < nb) {x : Int32} (hd : decode cc pc = .ok (.putfield 40, 3)) (kk : ∀ h2, Rm ad np nb (upZ Z (4, b, 0) 7 x) L h2 → J Θ cc h2 k lv (pc + 3) st) : J Θ cc h k lv pc (.int x :: .ref (ad (4, b, 0)) :: st) :=
  pX0_40 hM (hR.1 _ ⟨hb, rfl⟩) rfl rfl (Nat.le_of_ble_eq_true rfl) hd (kk _ (hR.up (4, b, 0) 7 x ⟨hb, rfl⟩ rfl))
theorem qX0_43 (hM : Θ.2.2.1.1.cls = RX0) (hR : Rm ad np nb Z L h) {b : Nat} (hb : b < nb) {x : Int32} (hd : decode cc pc = .ok (.putfield 43, 3)) (kk : ∀ h2, Rm ad np nb (upZ Z (4, b, 0) 8 x) L h2 → J Θ cc h2 k lv (pc + 3) st) : J Θ cc h k lv pc (.int x :: .ref (ad (4, b, 0)) :: st) :=
  pX0_43 hM (hR.1 _ ⟨hb, rfl⟩) rfl rfl (Nat.le_of_ble_eq_true rfl) hd (kk _ (hR.up (4, b, 0) 8 x ⟨hb, rfl⟩ rfl))
theorem qX0_54 (hM : Θ.2.2.1.1.cls = RX0) (hR : Rm ad np nb Z L h) {b : Nat} (hb : b < nb) {x : Int32} (hx : narrow .boolean (.int x) = .int x) (hf : fits .boolean (.int x) = true) (hd : decode cc pc = .ok (.putfield 54, 3)) (kk : ∀ h2, Rm ad np nb (upZ Z (4, b, 0) 3 x) L h2 → J Θ cc h2 k lv (pc + 3) st) : J Θ cc h k lv pc (.int x :: .ref (ad (4, b, 0)) :: st) :=
  pX0_54 hM (hR.1 _ ⟨hb, rfl⟩) hx hf (Nat.le_of_ble_eq_true rfl) hd (kk _ (hR.up (4, b, 0) 3 x ⟨hb, rfl⟩ rfl))
theorem qX0_58 (hM : Θ.2.2.1.1.cls = RX0) (hR : Rm ad np nb Z L h) {b : Nat} (hb : b < nb) {x : Int32} (hx : narrow .boolean (.int x) = .int x) (hf : fits .boolean (.int x) = true) (hd : decode cc pc = .ok (.putfield 58, 3)) (kk : ∀ h2, Rm ad np nb (upZ Z (4, b, 0) 4 x) L h2 → J Θ cc h2 k lv (pc + 3) st) : J Θ cc h k lv pc (.int x :: .ref (ad (4, b, 0)) :: st) :=
  pX0_58 hM (hR.1 _ ⟨hb, rfl⟩) hx hf (Nat.le_of_ble_eq_true rfl) hd (kk _ (hR.up (4, b, 0) 4 x ⟨hb, rfl⟩ rfl))
theorem qX1_17 (hM : Θ.2.2.1.1.cls = RX1) (hR : Rm ad np nb Z L h) {x : Int64} (hd : decode cc pc = .ok (.putfield 17, 3)) (kk : ∀ h2, Rm ad np nb Z (upL L (1, 0, 0) 4 x) h2 → J Θ cc h2 k lv (pc + 3) st) : J Θ cc h k lv pc (.long x :: .ref (ad (1, 0, 0)) :: st) :=
  pX1_17 hM (hR.1 _ ⟨Nat.zero_lt_one, rfl⟩) rfl rfl (Nat.le_of_ble_eq_true rfl) hd (kk _ (hR.upl (1, 0, 0) 4 x ⟨Nat.zero_lt_one, rfl⟩ rfl))
theorem qX1_40 (hM : Θ.2.2.1.1.cls = RX1) (hR : Rm ad np nb Z L h) {x : Int32} (hx : narrow .boolean (.int x) = .int x) (hf : fits .boolean (.int x) = true) (hd : decode cc pc = .ok (.putfield 40, 3)) (kk : ∀ h2, Rm ad np nb (upZ Z (1, 0, 0) 3 x) L h2 → J Θ cc h2 k lv (pc + 3) st) : J Θ cc h k lv pc (.int x :: .ref (ad (1, 0, 0)) :: st) :=
  pX1_40 hM (hR.1 _ ⟨Nat.zero_lt_one, rfl⟩) hx hf (Nat.le_of_ble_eq_true rfl) hd (kk _ (hR.up (1, 0, 0) 3 x ⟨Nat.zero_lt_one, rfl⟩ rfl))
theorem qX1_44 (hM : Θ.2.2.1.1.cls = RX1) (hR : Rm ad np nb Z L h) {x : Int32} (hd : decode cc pc = .ok (.putfield 44, 3)) (kk : ∀ h2, Rm ad np nb (upZ Z (1, 0, 0) 1 x) L h2 → J Θ cc h2 k lv (pc + 3) st) : J Θ cc h k lv pc (.int x :: .ref (ad (1, 0, 0)) :: st) :=
  pX1_44 hM (hR.1 _ ⟨Nat.zero_lt_one, rfl⟩) rfl rfl (Nat.le_of_ble_eq_true rfl) hd (kk _ (hR.up (1, 0, 0) 1 x ⟨Nat.zero_lt_one, rfl⟩ rfl))
theorem qX1_48 (hM : Θ.2.2.1.1.cls = RX1) (hR : Rm ad np nb Z L h) {x : Int32} (hd : decode cc pc = .ok (.putfield 48, 3)) (kk : ∀ h2, Rm ad np nb (upZ Z (1, 0, 0) 2 x) L h2 → J Θ cc h2 k lv (pc + 3) st) : J Θ cc h k lv pc (.int x :: .ref (ad (1, 0, 0)) :: st) :=
  pX1_48 hM (hR.1 _ ⟨Nat.zero_lt_one, rfl⟩) rfl rfl (Nat.le_of_ble_eq_true rfl) hd (kk _ (hR.up (1, 0, 0) 2 x ⟨Nat.zero_lt_one, rfl⟩ rfl))
theorem qX1_59 (hM : Θ.2.2.1.1.cls = RX1) (hR : Rm ad np nb Z L h) {x : Int32} (hd : decode cc pc = .ok (.putfield 59, 3)) (kk : ∀ h2, Rm ad np nb (upZ Z (1, 0, 0) 6 x) L h2 → J Θ cc h2 k lv (pc + 3) st) : J Θ cc h k lv pc (.int x :: .ref (ad (1, 0, 0)) :: st) :=
  pX1_59 hM (hR.1 _ ⟨Nat.zero_lt_one, rfl⟩) rfl rfl (Nat.le_of_ble_eq_true rfl) hd (kk _ (hR.up (1, 0, 0) 6 x ⟨Nat.zero_lt_one, rfl⟩ rfl))
theorem qX1_72 (hM : Θ.2.2.1.1.cls = RX1) (hR : Rm ad np nb Z L h) {b : Nat} (hb : b < nb) {x : Int32} (hx : narrow .boolean (.int x) = .int x) (hf : fits .boolean (.int x) = true) (hd : decode cc pc = .ok (.putfield 72, 3)) (kk : ∀ h2, Rm ad np nb (upZ Z (4, b, 0) 4 x) L h2 → J Θ cc h2 k lv (pc + 3) st) : J Θ cc h k lv pc (.int x :: .ref (ad (4, b, 0)) :: st) :=
  pX1_72 hM (hR.1 _ ⟨hb, rfl⟩) hx hf (Nat.le_of_ble_eq_true rfl) hd (kk _ (hR.up (4, b, 0) 4 x ⟨hb, rfl⟩ rfl))
theorem qX3_36 (hM : Θ.2.2.1.1.cls = RX3) (hR : Rm ad np nb Z L h) {x : Int32} (hd : decode cc pc = .ok (.putfield 36, 3)) (kk : ∀ h2, Rm ad np nb (upZ Z (3, 0, 0) 2 x) L h2 → J Θ cc h2 k lv (pc + 3) st) : J Θ cc h k lv pc (.int x :: .ref (ad (3, 0, 0)) :: st) :=
  pX3_36 hM (hR.1 _ ⟨Nat.zero_lt_one, rfl⟩) rfl rfl (Nat.le_of_ble_eq_true rfl) hd (kk _ (hR.up (3, 0, 0) 2 x ⟨Nat.zero_lt_one, rfl⟩ rfl))
theorem qX3_40 (hM : Θ.2.2.1.1.cls = RX3) (hR : Rm ad np nb Z L h) {b : Nat} (hb : b < nb) {x : Int32} (hd : decode cc pc = .ok (.putfield 40, 3)) (kk : ∀ h2, Rm ad np nb (upZ Z (4, b, 0) 8 x) L h2 → J Θ cc h2 k lv (pc + 3) st) : J Θ cc h k lv pc (.int x :: .ref (ad (4, b, 0)) :: st) :=
  pX3_40 hM (hR.1 _ ⟨hb, rfl⟩) rfl rfl (Nat.le_of_ble_eq_true rfl) hd (kk _ (hR.up (4, b, 0) 8 x ⟨hb, rfl⟩ rfl))
theorem qX3_45 (hM : Θ.2.2.1.1.cls = RX3) (hR : Rm ad np nb Z L h) {b : Nat} (hb : b < nb) {x : Int32} (hd : decode cc pc = .ok (.putfield 45, 3)) (kk : ∀ h2, Rm ad np nb (upZ Z (4, b, 0) 7 x) L h2 → J Θ cc h2 k lv (pc + 3) st) : J Θ cc h k lv pc (.int x :: .ref (ad (4, b, 0)) :: st) :=
  pX3_45 hM (hR.1 _ ⟨hb, rfl⟩) rfl rfl (Nat.le_of_ble_eq_true rfl) hd (kk _ (hR.up (4, b, 0) 7 x ⟨hb, rfl⟩ rfl))
theorem qX5_86 (hM : Θ.2.2.1.1.cls = RX5) (hR : Rm ad np nb Z L h) {x : Int32} (hd : decode cc pc = .ok (.putfield 86, 3)) (kk : ∀ h2, Rm ad np nb (upZ Z (5, 0, 0) 7 x) L h2 → J Θ cc h2 k lv (pc + 3) st) : J Θ cc h k lv pc (.int x :: .ref (ad (5, 0, 0)) :: st) :=
  pX5_86 hM (hR.1 _ ⟨Nat.zero_lt_one, rfl⟩) rfl rfl (Nat.le_of_ble_eq_true rfl) hd (kk _ (hR.up (5, 0, 0) 7 x ⟨Nat.zero_lt_one, rfl⟩ rfl))
theorem qX5_94 (hM : Θ.2.2.1.1.cls = RX5) (hR : Rm ad np nb Z L h) {x : Int32} (hd : decode cc pc = .ok (.putfield 94, 3)) (kk : ∀ h2, Rm ad np nb (upZ Z (5, 0, 0) 0 x) L h2 → J Θ cc h2 k lv (pc + 3) st) : J Θ cc h k lv pc (.int x :: .ref (ad (5, 0, 0)) :: st) :=
  pX5_94 hM (hR.1 _ ⟨Nat.zero_lt_one, rfl⟩) rfl rfl (Nat.le_of_ble_eq_true rfl) hd (kk _ (hR.up (5, 0, 0) 0 x ⟨Nat.zero_lt_one, rfl⟩ rfl))
theorem qX5_98 (hM : Θ.2.2.1.1.cls = RX5) (hR : Rm ad np nb Z L h) {x : Int32} (hd : decode cc pc = .ok (.putfield 98, 3)) (kk : ∀ h2, Rm ad np nb (upZ Z (5, 0, 0) 18 x) L h2 → J Θ cc h2 k lv (pc + 3) st) : J Θ cc h k lv pc (.int x :: .ref (ad (5, 0, 0)) :: st) :=
  pX5_98 hM (hR.1 _ ⟨Nat.zero_lt_one, rfl⟩) rfl rfl (Nat.le_of_ble_eq_true rfl) hd (kk _ (hR.up (5, 0, 0) 18 x ⟨Nat.zero_lt_one, rfl⟩ rfl))
theorem qX5_102 (hM : Θ.2.2.1.1.cls = RX5) (hR : Rm ad np nb Z L h) {x : Int32} (hd : decode cc pc = .ok (.putfield 102, 3)) (kk : ∀ h2, Rm ad np nb (upZ Z (5, 0, 0) 19 x) L h2 → J Θ cc h2 k lv (pc + 3) st) : J Θ cc h k lv pc (.int x :: .ref (ad (5, 0, 0)) :: st) :=
  pX5_102 hM (hR.1 _ ⟨Nat.zero_lt_one, rfl⟩) rfl rfl (Nat.le_of_ble_eq_true rfl) hd (kk _ (hR.up (5, 0, 0) 19 x ⟨Nat.zero_lt_one, rfl⟩ rfl))
theorem qX5_105 (hM : Θ.2.2.1.1.cls = RX5) (hR : Rm ad np nb Z L h) {x : Int32} (hd : decode cc pc = .ok (.putfield 105, 3)) (kk : ∀ h2, Rm ad np nb (upZ Z (5, 0, 0) 20 x) L h2 → J Θ cc h2 k lv (pc + 3) st) : J Θ cc h k lv pc (.int x :: .ref (ad (5, 0, 0)) :: st) :=
  pX5_105 hM (hR.1 _ ⟨Nat.zero_lt_one, rfl⟩) rfl rfl (Nat.le_of_ble_eq_true rfl) hd (kk _ (hR.up (5, 0, 0) 20 x ⟨Nat.zero_lt_one, rfl⟩ rfl))
theorem qX5_140 (hM : Θ.2.2.1.1.cls = RX5) (hR : Rm ad np nb Z L h) {x : Int32} (hd : decode cc pc = .ok (.putfield 140, 3)) (kk : ∀ h2, Rm ad np nb (upZ Z (5, 0, 0) 23 x) L h2 → J Θ cc h2 k lv (pc + 3) st) : J Θ cc h k lv pc (.int x :: .ref (ad (5, 0, 0)) :: st) :=
  pX5_140 hM (hR.1 _ ⟨Nat.zero_lt_one, rfl⟩) rfl rfl (Nat.le_of_ble_eq_true rfl) hd (kk _ (hR.up (5, 0, 0) 23 x ⟨Nat.zero_lt_one, rfl⟩ rfl))
theorem qX5_143 (hM : Θ.2.2.1.1.cls = RX5) (hR : Rm ad np nb Z L h) {x : Int32} (hd : decode cc pc = .ok (.putfield 143, 3)) (kk : ∀ h2, Rm ad np nb (upZ Z (5, 0, 0) 25 x) L h2 → J Θ cc h2 k lv (pc + 3) st) : J Θ cc h k lv pc (.int x :: .ref (ad (5, 0, 0)) :: st) :=
  pX5_143 hM (hR.1 _ ⟨Nat.zero_lt_one, rfl⟩) rfl rfl (Nat.le_of_ble_eq_true rfl) hd (kk _ (hR.up (5, 0, 0) 25 x ⟨Nat.zero_lt_one, rfl⟩ rfl))
theorem qX5_164 (hM : Θ.2.2.1.1.cls = RX5) (hR : Rm ad np nb Z L h) {x : Int32} (hd : decode cc pc = .ok (.putfield 164, 3)) (kk : ∀ h2, Rm ad np nb (upZ Z (5, 0, 0) 27 x) L h2 → J Θ cc h2 k lv (pc + 3) st) : J Θ cc h k lv pc (.int x :: .ref (ad (5, 0, 0)) :: st) :=
  pX5_164 hM (hR.1 _ ⟨Nat.zero_lt_one, rfl⟩) rfl rfl (Nat.le_of_ble_eq_true rfl) hd (kk _ (hR.up (5, 0, 0) 27 x ⟨Nat.zero_lt_one, rfl⟩ rfl))
end RR
