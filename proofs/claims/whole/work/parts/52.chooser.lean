/-! ===== the chooser ===== -/
theorem place5 {i : Nat} (hi : i < 8) : (5 : Int32) * (7 - nI i) = nI (5 * (7 - i)) := by
  match i, hi with
  | 0, _ => decide
  | 1, _ => decide
  | 2, _ => decide
  | 3, _ => decide
  | 4, _ => decide
  | 5, _ => decide
  | 6, _ => decide
  | 7, _ => decide
def enc : Option Nat → Int32
  | none => -1
  | some x => nI x
theorem enc_ne {x : Nat} (h : x < 2147483648) : nI x ≠ -1 := fun q => by
  have h1 := nI_toInt (n := x) h
  rw [q] at h1
  have h2 : (-1 : Int32).toInt = -1 := by decide
  omega
/-- the working rows of the chooser: sc sound bells S, their weights w -/
def Sd (Z : ZT) (w : Nat → Nat) (S : Nat → Nat) (sc : Nat) : Prop := Z (1, 0, 0) 6 = nI sc ∧ sc ≤ 24 ∧ (∀ j, j < sc → Z (1, 0, 6) j = nI (S j) ∧ S j < 24 ∧ Z (1, 0, 8) (S j) = nI (w (S j)) ∧ w (S j) ≤ 44600) ∧ ∀ j k, j < k → k < sc → S j ≠ S k
def snd (S : Nat → Nat) (sc : Nat) (b : Nat) : Bool := decide (∃ j, j < sc ∧ S j = b)
theorem snd_iff {S : Nat → Nat} {sc b : Nat} : snd S sc b = true ↔ ∃ j, j < sc ∧ S j = b := by unfold snd; rw [decide_eq_true_iff]
/-- whether a note may have a bell, the first being f -/
def agr (Z : ZT) (f i b : Nat) : Bool := iw (Z (1, 0, 9) b - Z (1, 0, 9) f - Z (1, 0, 1) i) (-(Z (1, 0, 0) 2)) (Z (1, 0, 0) 2)
def okC (Z : ZT) (S : Nat → Nat) (sc f i b : Nat) : Bool := if i = 0 then decide (b = f) else snd S sc b && !decide (b = f) && agr Z f i b
theorem okC0 {Z : ZT} {S : Nat → Nat} {sc f b : Nat} : okC Z S sc f 0 b = true ↔ b = f := by unfold okC; rw [if_pos rfl, decide_eq_true_iff]
theorem okCS {Z : ZT} {S : Nat → Nat} {sc f i b : Nat} (hi : 0 < i) : okC Z S sc f i b = true ↔ snd S sc b = true ∧ b ≠ f ∧ agr Z f i b = true := by
  unfold okC
  rw [if_neg (by omega)]
  simp only [Bool.and_eq_true, Bool.not_eq_true', decide_eq_false_iff_not, and_assoc]
/-- nothing but holders and cameFrom has changed -/
def keepC (Z Y : ZT) : Prop := ∀ m, m ≠ (1, 0, 10) → m ≠ (1, 0, 12) → Y m = Z m
def keepLC (L M : LT) : Prop := ∀ m, m ≠ (1, 0, 11) → M m = L m
theorem keepC.rf {Z : ZT} : keepC Z Z := fun _ _ _ => rfl
theorem keepLC.rf {L : LT} : keepLC L L := fun _ _ => rfl
theorem keepC.tr {Z Y X : ZT} (h : keepC Z Y) (h2 : keepC Y X) : keepC Z X := fun m a b => (h2 m a b).trans (h m a b)
theorem keepLC.tr {Z Y X : LT} (h : keepLC Z Y) (h2 : keepLC Y X) : keepLC Z X := fun m a => (h2 m a).trans (h m a)
theorem keepC.up12 {Z Y : ZT} (h : keepC Z Y) (k : Nat) (v : Int32) : keepC Z (upZ Y (1, 0, 12) k v) := fun m a b => by rw [upZ_ne b]; exact h m a b
theorem keepC.up10 {Z Y : ZT} (h : keepC Z Y) (k : Nat) (v : Int32) : keepC Z (upZ Y (1, 0, 10) k v) := fun m a b => by rw [upZ_ne a]; exact h m a b
theorem keepLC.up {L M : LT} (h : keepLC L M) (k : Nat) (v : Int64) : keepLC L (upL M (1, 0, 11) k v) := fun m a => by rw [upL_ne a]; exact h m a
theorem Sd.keep {Z Y : ZT} {w S : Nat → Nat} {sc : Nat} (h : Sd Z w S sc) (hk : keepC Z Y) : Sd Y w S sc := by
  unfold Sd
  rw [hk (1, 0, 0) (by simp) (by simp), hk (1, 0, 6) (by simp) (by simp), hk (1, 0, 8) (by simp) (by simp)]
  exact h
theorem agr_keep {Z Y : ZT} (hk : keepC Z Y) (f i b : Nat) : agr Y f i b = agr Z f i b := by
  unfold agr
  rw [hk (1, 0, 0) (by simp) (by simp), hk (1, 0, 1) (by simp) (by simp), hk (1, 0, 9) (by simp) (by simp)]
theorem okC_keep {Z Y : ZT} (hk : keepC Z Y) (S : Nat → Nat) (sc f : Nat) : okC Y S sc f = okC Z S sc f := by
  funext i b
  unfold okC
  rw [agr_keep hk]
/-- the reaches and where they came from -/
def RF (R : Nat → Int) (F : Nat → Option Nat) (Z : ZT) (L : LT) : Prop := ∀ b, b < 24 → L (1, 0, 11) b = lI (R b) ∧ (R b < NO → Z (1, 0, 12) b = enc (F b))
theorem cN_lt {w : Nat → Nat} {i b : Nat} (hb : b < 24) (hw : w b ≤ 44600) : cN w i b < 49039318110437376 := by
  unfold cN
  have h1 : 2 ^ (5 * (7 - i)) ≤ 2 ^ 35 := Nat.pow_le_pow_right (by omega) (by omega)
  have h2 : b * 2 ^ (5 * (7 - i)) ≤ 23 * 2 ^ 35 := Nat.mul_le_mul (by omega) h1
  have h3 : 23 * 2 ^ 35 = 790273982464 := by decide
  omega
set_option maxRecDepth 100000 in
set_option maxHeartbeats 4000000 in
theorem c_X1_placeOf (l : Launch) (G : GG) {h : AH} {i : Nat} (hi : i < 8) : Con l G mX1_placeOf 0 0 0 [.int (nI i)] h (fun r h2 => r = some (.int (nI (5 * (7 - i)))) ∧ h2 = h) := by
  refine Con.of 0 rfl (Nat.le_of_ble_eq_true rfl) ?_
  refine j_iconst (v := 5) dX1_placeOf_0 (by decide) ?_
  refine j_bipush (v := 7) dX1_placeOf_1 (by decide) ?_
  refine j_iload_n dX1_placeOf_3 rfl ?_
  refine j_isub dX1_placeOf_4 ?_
  refine j_imul dX1_placeOf_5 ?_
  refine j_iret rfl (Nat.le_of_ble_eq_true rfl) (Nat.le_of_ble_eq_true rfl) dX1_placeOf_6 ?_
  exact ⟨by rw [place5 hi], rfl⟩

set_option maxRecDepth 100000 in
set_option maxHeartbeats 4000000 in
theorem c_X1_numberOf (l : Launch) (G : GG) {ad : NM → Nat} {np nb : Nat} {Z : ZT} {L : LT} {h : AH} (hR : Rm ad np nb Z L h) {i b : Nat} (hi : i < 8) (hb : b < 24) {w : Nat → Nat} (hw : Z (1, 0, 8) b = nI (w b)) (hw2 : w b ≤ 44600) : Con l G mX1_numberOf 1 0 0 [.ref (ad (1, 0, 0)), .int (nI i), .int (nI b)] h (fun r h2 => r = some (.long (lI (cN w i b))) ∧ h2 = h) := by
  refine Con.of 0 rfl (Nat.le_of_ble_eq_true rfl) ?_
  refine j_aload_n dX1_numberOf_0 rfl ?_
  refine gX1_24 rfl (hR.1 _ ⟨by first | assumption | exact Nat.zero_lt_one, rfl⟩) rfl dX1_numberOf_1 ?_
  refine j_iload_n dX1_numberOf_4 rfl ?_
  refine j_iald (hR.1 _ ⟨by first | assumption | exact Nat.zero_lt_one, rfl⟩) b rfl (by omega) (by decide) dX1_numberOf_5 ?_
  rw [hw]
  refine j_i2l dX1_numberOf_6 ?_
  refine j_bipush (v := 40) dX1_numberOf_7 (by decide) ?_
  refine j_lshl dX1_numberOf_9 ?_
  refine j_iload_n dX1_numberOf_10 rfl ?_
  refine j_i2l dX1_numberOf_11 ?_
  refine j_iload_n dX1_numberOf_12 rfl ?_
  refine j_callS (rest := [.long ((nI b).toInt64), .long ((nI (w b)).toInt64 <<< ((40 : Int32).toInt64 &&& 63))]) (c_X1_placeOf l G hi) cw_X1_placeOf wl_X1_51 ws_X1_placeOf rfl rfl (Nat.le_of_ble_eq_true rfl) (Nat.le_of_ble_eq_true rfl) (Nat.le_of_ble_eq_true rfl) (Nat.le_of_ble_eq_true rfl) (Nat.le_of_ble_eq_true rfl) dX1_numberOf_13 (fun v_13 h_13 e_13 => ?_)
  obtain ⟨rfl, hh⟩ := e_13
  have hh := hh.symm
  subst hh
  refine j_lshl dX1_numberOf_16 ?_
  refine j_ladd dX1_numberOf_17 ?_
  refine j_lret rfl (Nat.le_of_ble_eq_true rfl) (Nat.le_of_ble_eq_true rfl) dX1_numberOf_18 ?_
  refine ⟨?_, rfl⟩
  rw [nI_long (n := w b) (by omega), nI_long (n := b) (by omega), lI_shl _ _ 40 sh40, lI_shl _ _ _ (shp5 hi), lI_add]
  congr 3
  

