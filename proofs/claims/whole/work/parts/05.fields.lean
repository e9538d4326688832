section FR
variable {Θ : TH} {cc : ByteArray} {h : AH} {k : Nat × Nat} {lv : List (Option Value)} {pc : Nat} {st : List Value}
theorem gX4_11 (hM : Θ.2.2.1.1.cls = RX4) {a : Nat} {fs : List Value} {v : Value} (he : h a = some (.inr (4, fs))) (hv : fs[0]? = some v) (hd : decode cc pc = .ok (.getfield 11, 3)) (kk : J Θ cc h k lv (pc + 3) (v :: st)) : J Θ cc h k lv pc (.ref a :: st) :=
  j_get (C := RX4) (T := TX4) (N := 11) (fk := 0) he rfl inX4 (by decide) (by rw [hM]; exact wf_X4_11) hv hd kk
theorem pX4_11 (hM : Θ.2.2.1.1.cls = RX4) (hi : Θ.2.2.1.1.name = "<init>") {a : Nat} {fs : List Value} {v : Value} (he : h a = some (.inr (4, fs))) (hn : narrow (tyX4 0) v = v) (hf : fits (tyX4 0) v = true) (hl : 0 < fs.length) (hd : decode cc pc = .ok (.putfield 11, 3)) (kk : J Θ cc (upA h a (.inr (4, fs.set 0 v))) k lv (pc + 3) st) : J Θ cc h k lv pc (v :: .ref a :: st) :=
  j_putF (C := RX4) (T := TX4) (N := 11) (fk := 0) he rfl inX4 tyX4 tyX4_ok nmX4 (by decide) (by rw [hM]; exact wf_X4_11) rfl hi (by rw [hM]; rfl) (tyX4_ok 0 (by decide)) hn hf hl hd kk
theorem gX4_17 (hM : Θ.2.2.1.1.cls = RX4) {a : Nat} {fs : List Value} {v : Value} (he : h a = some (.inr (4, fs))) (hv : fs[2]? = some v) (hd : decode cc pc = .ok (.getfield 17, 3)) (kk : J Θ cc h k lv (pc + 3) (v :: st)) : J Θ cc h k lv pc (.ref a :: st) :=
  j_get (C := RX4) (T := TX4) (N := 11) (fk := 2) he rfl inX4 (by decide) (by rw [hM]; exact wf_X4_17) hv hd kk
theorem pX4_17 (hM : Θ.2.2.1.1.cls = RX4) (hi : Θ.2.2.1.1.name = "<init>") {a : Nat} {fs : List Value} {v : Value} (he : h a = some (.inr (4, fs))) (hn : narrow (tyX4 2) v = v) (hf : fits (tyX4 2) v = true) (hl : 2 < fs.length) (hd : decode cc pc = .ok (.putfield 17, 3)) (kk : J Θ cc (upA h a (.inr (4, fs.set 2 v))) k lv (pc + 3) st) : J Θ cc h k lv pc (v :: .ref a :: st) :=
  j_putF (C := RX4) (T := TX4) (N := 11) (fk := 2) he rfl inX4 tyX4 tyX4_ok nmX4 (by decide) (by rw [hM]; exact wf_X4_17) rfl hi (by rw [hM]; rfl) (tyX4_ok 2 (by decide)) hn hf hl hd kk
theorem gX4_24 (hM : Θ.2.2.1.1.cls = RX4) {a : Nat} {fs : List Value} {v : Value} (he : h a = some (.inr (4, fs))) (hv : fs[7]? = some v) (hd : decode cc pc = .ok (.getfield 24, 3)) (kk : J Θ cc h k lv (pc + 3) (v :: st)) : J Θ cc h k lv pc (.ref a :: st) :=
  j_get (C := RX4) (T := TX4) (N := 11) (fk := 7) he rfl inX4 (by decide) (by rw [hM]; exact wf_X4_24) hv hd kk
theorem pX4_24 (hM : Θ.2.2.1.1.cls = RX4) (hi : Θ.2.2.1.1.name = "<init>") {a : Nat} {fs : List Value} {v : Value} (he : h a = some (.inr (4, fs))) (hn : narrow (tyX4 7) v = v) (hf : fits (tyX4 7) v = true) (hl : 7 < fs.length) (hd : decode cc pc = .ok (.putfield 24, 3)) (kk : J Θ cc (upA h a (.inr (4, fs.set 7 v))) k lv (pc + 3) st) : J Θ cc h k lv pc (v :: .ref a :: st) :=
  j_putF (C := RX4) (T := TX4) (N := 11) (fk := 7) he rfl inX4 tyX4 tyX4_ok nmX4 (by decide) (by rw [hM]; exact wf_X4_24) rfl hi (by rw [hM]; rfl) (tyX4_ok 7 (by decide)) hn hf hl hd kk
theorem gX4_31 (hM : Θ.2.2.1.1.cls = RX4) {a : Nat} {fs : List Value} {v : Value} (he : h a = some (.inr (4, fs))) (hv : fs[8]? = some v) (hd : decode cc pc = .ok (.getfield 31, 3)) (kk : J Θ cc h k lv (pc + 3) (v :: st)) : J Θ cc h k lv pc (.ref a :: st) :=
  j_get (C := RX4) (T := TX4) (N := 11) (fk := 8) he rfl inX4 (by decide) (by rw [hM]; exact wf_X4_31) hv hd kk
theorem pX4_31 (hM : Θ.2.2.1.1.cls = RX4) (hi : Θ.2.2.1.1.name = "<init>") {a : Nat} {fs : List Value} {v : Value} (he : h a = some (.inr (4, fs))) (hn : narrow (tyX4 8) v = v) (hf : fits (tyX4 8) v = true) (hl : 8 < fs.length) (hd : decode cc pc = .ok (.putfield 31, 3)) (kk : J Θ cc (upA h a (.inr (4, fs.set 8 v))) k lv (pc + 3) st) : J Θ cc h k lv pc (v :: .ref a :: st) :=
  j_putF (C := RX4) (T := TX4) (N := 11) (fk := 8) he rfl inX4 tyX4 tyX4_ok nmX4 (by decide) (by rw [hM]; exact wf_X4_31) rfl hi (by rw [hM]; rfl) (tyX4_ok 8 (by decide)) hn hf hl hd kk
theorem gX4_35 (hM : Θ.2.2.1.1.cls = RX4) {a : Nat} {fs : List Value} {v : Value} (he : h a = some (.inr (4, fs))) (hv : fs[9]? = some v) (hd : decode cc pc = .ok (.getfield 35, 3)) (kk : J Θ cc h k lv (pc + 3) (v :: st)) : J Θ cc h k lv pc (.ref a :: st) :=
  j_get (C := RX4) (T := TX4) (N := 11) (fk := 9) he rfl inX4 (by decide) (by rw [hM]; exact wf_X4_35) hv hd kk
theorem pX4_35 (hM : Θ.2.2.1.1.cls = RX4) (hi : Θ.2.2.1.1.name = "<init>") {a : Nat} {fs : List Value} {v : Value} (he : h a = some (.inr (4, fs))) (hn : narrow (tyX4 9) v = v) (hf : fits (tyX4 9) v = true) (hl : 9 < fs.length) (hd : decode cc pc = .ok (.putfield 35, 3)) (kk : J Θ cc (upA h a (.inr (4, fs.set 9 v))) k lv (pc + 3) st) : J Θ cc h k lv pc (v :: .ref a :: st) :=
  j_putF (C := RX4) (T := TX4) (N := 11) (fk := 9) he rfl inX4 tyX4 tyX4_ok nmX4 (by decide) (by rw [hM]; exact wf_X4_35) rfl hi (by rw [hM]; rfl) (tyX4_ok 9 (by decide)) hn hf hl hd kk
theorem gX4_39 (hM : Θ.2.2.1.1.cls = RX4) {a : Nat} {fs : List Value} {v : Value} (he : h a = some (.inr (4, fs))) (hv : fs[1]? = some v) (hd : decode cc pc = .ok (.getfield 39, 3)) (kk : J Θ cc h k lv (pc + 3) (v :: st)) : J Θ cc h k lv pc (.ref a :: st) :=
  j_get (C := RX4) (T := TX4) (N := 11) (fk := 1) he rfl inX4 (by decide) (by rw [hM]; exact wf_X4_39) hv hd kk
theorem pX4_39 (hM : Θ.2.2.1.1.cls = RX4) {a : Nat} {fs : List Value} {v : Value} (he : h a = some (.inr (4, fs))) (hn : narrow (tyX4 1) v = v) (hf : fits (tyX4 1) v = true) (hl : 1 < fs.length) (hd : decode cc pc = .ok (.putfield 39, 3)) (kk : J Θ cc (upA h a (.inr (4, fs.set 1 v))) k lv (pc + 3) st) : J Θ cc h k lv pc (v :: .ref a :: st) :=
  j_put (C := RX4) (T := TX4) (N := 11) (fk := 1) he rfl inX4 tyX4 tyX4_ok nmX4 (by decide) (by rw [hM]; exact wf_X4_39) rfl (tyX4_ok 1 (by decide)) hn hf hl hd kk
theorem gX4_74 (hM : Θ.2.2.1.1.cls = RX4) {a : Nat} {fs : List Value} {v : Value} (he : h a = some (.inr (2, fs))) (hv : fs[1]? = some v) (hd : decode cc pc = .ok (.getfield 74, 3)) (kk : J Θ cc h k lv (pc + 3) (v :: st)) : J Θ cc h k lv pc (.ref a :: st) :=
  j_get (C := RX2) (T := TX2) (N := 6) (fk := 1) he rfl inX2 (by decide) (by rw [hM]; exact wf_X4_74) hv hd kk
theorem gX4_78 (hM : Θ.2.2.1.1.cls = RX4) {a : Nat} {fs : List Value} {v : Value} (he : h a = some (.inr (4, fs))) (hv : fs[4]? = some v) (hd : decode cc pc = .ok (.getfield 78, 3)) (kk : J Θ cc h k lv (pc + 3) (v :: st)) : J Θ cc h k lv pc (.ref a :: st) :=
  j_get (C := RX4) (T := TX4) (N := 11) (fk := 4) he rfl inX4 (by decide) (by rw [hM]; exact wf_X4_78) hv hd kk
theorem pX4_78 (hM : Θ.2.2.1.1.cls = RX4) {a : Nat} {fs : List Value} {v : Value} (he : h a = some (.inr (4, fs))) (hn : narrow (tyX4 4) v = v) (hf : fits (tyX4 4) v = true) (hl : 4 < fs.length) (hd : decode cc pc = .ok (.putfield 78, 3)) (kk : J Θ cc (upA h a (.inr (4, fs.set 4 v))) k lv (pc + 3) st) : J Θ cc h k lv pc (v :: .ref a :: st) :=
  j_put (C := RX4) (T := TX4) (N := 11) (fk := 4) he rfl inX4 tyX4 tyX4_ok nmX4 (by decide) (by rw [hM]; exact wf_X4_78) rfl (tyX4_ok 4 (by decide)) hn hf hl hd kk
theorem gX4_82 (hM : Θ.2.2.1.1.cls = RX4) {a : Nat} {fs : List Value} {v : Value} (he : h a = some (.inr (4, fs))) (hv : fs[5]? = some v) (hd : decode cc pc = .ok (.getfield 82, 3)) (kk : J Θ cc h k lv (pc + 3) (v :: st)) : J Θ cc h k lv pc (.ref a :: st) :=
  j_get (C := RX4) (T := TX4) (N := 11) (fk := 5) he rfl inX4 (by decide) (by rw [hM]; exact wf_X4_82) hv hd kk
theorem pX4_82 (hM : Θ.2.2.1.1.cls = RX4) {a : Nat} {fs : List Value} {v : Value} (he : h a = some (.inr (4, fs))) (hn : narrow (tyX4 5) v = v) (hf : fits (tyX4 5) v = true) (hl : 5 < fs.length) (hd : decode cc pc = .ok (.putfield 82, 3)) (kk : J Θ cc (upA h a (.inr (4, fs.set 5 v))) k lv (pc + 3) st) : J Θ cc h k lv pc (v :: .ref a :: st) :=
  j_put (C := RX4) (T := TX4) (N := 11) (fk := 5) he rfl inX4 tyX4 tyX4_ok nmX4 (by decide) (by rw [hM]; exact wf_X4_82) rfl (tyX4_ok 5 (by decide)) hn hf hl hd kk
theorem gX4_85 (hM : Θ.2.2.1.1.cls = RX4) {a : Nat} {fs : List Value} {v : Value} (he : h a = some (.inr (4, fs))) (hv : fs[3]? = some v) (hd : decode cc pc = .ok (.getfield 85, 3)) (kk : J Θ cc h k lv (pc + 3) (v :: st)) : J Θ cc h k lv pc (.ref a :: st) :=
  j_get (C := RX4) (T := TX4) (N := 11) (fk := 3) he rfl inX4 (by decide) (by rw [hM]; exact wf_X4_85) hv hd kk
theorem pX4_85 (hM : Θ.2.2.1.1.cls = RX4) {a : Nat} {fs : List Value} {v : Value} (he : h a = some (.inr (4, fs))) (hn : narrow (tyX4 3) v = v) (hf : fits (tyX4 3) v = true) (hl : 3 < fs.length) (hd : decode cc pc = .ok (.putfield 85, 3)) (kk : J Θ cc (upA h a (.inr (4, fs.set 3 v))) k lv (pc + 3) st) : J Θ cc h k lv pc (v :: .ref a :: st) :=
  j_put (C := RX4) (T := TX4) (N := 11) (fk := 3) he rfl inX4 tyX4 tyX4_ok nmX4 (by decide) (by rw [hM]; exact wf_X4_85) rfl (tyX4_ok 3 (by decide)) hn hf hl hd kk
theorem gX4_117 (hM : Θ.2.2.1.1.cls = RX4) {a : Nat} {fs : List Value} {v : Value} (he : h a = some (.inr (0, fs))) (hv : fs[2]? = some v) (hd : decode cc pc = .ok (.getfield 117, 3)) (kk : J Θ cc h k lv (pc + 3) (v :: st)) : J Θ cc h k lv pc (.ref a :: st) :=
  j_get (C := RX0) (T := TX0) (N := 9) (fk := 2) he rfl inX0 (by decide) (by rw [hM]; exact wf_X4_117) hv hd kk
theorem gX4_120 (hM : Θ.2.2.1.1.cls = RX4) {a : Nat} {fs : List Value} {v : Value} (he : h a = some (.inr (0, fs))) (hv : fs[3]? = some v) (hd : decode cc pc = .ok (.getfield 120, 3)) (kk : J Θ cc h k lv (pc + 3) (v :: st)) : J Θ cc h k lv pc (.ref a :: st) :=
  j_get (C := RX0) (T := TX0) (N := 9) (fk := 3) he rfl inX0 (by decide) (by rw [hM]; exact wf_X4_120) hv hd kk
theorem pX4_120 (hM : Θ.2.2.1.1.cls = RX4) {a : Nat} {fs : List Value} {v : Value} (he : h a = some (.inr (0, fs))) (hn : narrow (tyX0 3) v = v) (hf : fits (tyX0 3) v = true) (hl : 3 < fs.length) (hd : decode cc pc = .ok (.putfield 120, 3)) (kk : J Θ cc (upA h a (.inr (0, fs.set 3 v))) k lv (pc + 3) st) : J Θ cc h k lv pc (v :: .ref a :: st) :=
  j_put (C := RX0) (T := TX0) (N := 9) (fk := 3) he rfl inX0 tyX0 tyX0_ok nmX0 (by decide) (by rw [hM]; exact wf_X4_120) rfl (tyX0_ok 3 (by decide)) hn hf hl hd kk
theorem gX4_124 (hM : Θ.2.2.1.1.cls = RX4) {a : Nat} {fs : List Value} {v : Value} (he : h a = some (.inr (0, fs))) (hv : fs[4]? = some v) (hd : decode cc pc = .ok (.getfield 124, 3)) (kk : J Θ cc h k lv (pc + 3) (v :: st)) : J Θ cc h k lv pc (.ref a :: st) :=
  j_get (C := RX0) (T := TX0) (N := 9) (fk := 4) he rfl inX0 (by decide) (by rw [hM]; exact wf_X4_124) hv hd kk
theorem pX4_124 (hM : Θ.2.2.1.1.cls = RX4) {a : Nat} {fs : List Value} {v : Value} (he : h a = some (.inr (0, fs))) (hn : narrow (tyX0 4) v = v) (hf : fits (tyX0 4) v = true) (hl : 4 < fs.length) (hd : decode cc pc = .ok (.putfield 124, 3)) (kk : J Θ cc (upA h a (.inr (0, fs.set 4 v))) k lv (pc + 3) st) : J Θ cc h k lv pc (v :: .ref a :: st) :=
  j_put (C := RX0) (T := TX0) (N := 9) (fk := 4) he rfl inX0 tyX0 tyX0_ok nmX0 (by decide) (by rw [hM]; exact wf_X4_124) rfl (tyX0_ok 4 (by decide)) hn hf hl hd kk
theorem gX4_127 (hM : Θ.2.2.1.1.cls = RX4) {a : Nat} {fs : List Value} {v : Value} (he : h a = some (.inr (0, fs))) (hv : fs[5]? = some v) (hd : decode cc pc = .ok (.getfield 127, 3)) (kk : J Θ cc h k lv (pc + 3) (v :: st)) : J Θ cc h k lv pc (.ref a :: st) :=
  j_get (C := RX0) (T := TX0) (N := 9) (fk := 5) he rfl inX0 (by decide) (by rw [hM]; exact wf_X4_127) hv hd kk
theorem pX4_127 (hM : Θ.2.2.1.1.cls = RX4) {a : Nat} {fs : List Value} {v : Value} (he : h a = some (.inr (0, fs))) (hn : narrow (tyX0 5) v = v) (hf : fits (tyX0 5) v = true) (hl : 5 < fs.length) (hd : decode cc pc = .ok (.putfield 127, 3)) (kk : J Θ cc (upA h a (.inr (0, fs.set 5 v))) k lv (pc + 3) st) : J Θ cc h k lv pc (v :: .ref a :: st) :=
  j_put (C := RX0) (T := TX0) (N := 9) (fk := 5) he rfl inX0 tyX0 tyX0_ok nmX0 (by decide) (by rw [hM]; exact wf_X4_127) rfl (tyX0_ok 5 (by decide)) hn hf hl hd kk
theorem gX4_130 (hM : Θ.2.2.1.1.cls = RX4) {a : Nat} {fs : List Value} {v : Value} (he : h a = some (.inr (4, fs))) (hv : fs[6]? = some v) (hd : decode cc pc = .ok (.getfield 130, 3)) (kk : J Θ cc h k lv (pc + 3) (v :: st)) : J Θ cc h k lv pc (.ref a :: st) :=
  j_get (C := RX4) (T := TX4) (N := 11) (fk := 6) he rfl inX4 (by decide) (by rw [hM]; exact wf_X4_130) hv hd kk
theorem pX4_130 (hM : Θ.2.2.1.1.cls = RX4) {a : Nat} {fs : List Value} {v : Value} (he : h a = some (.inr (4, fs))) (hn : narrow (tyX4 6) v = v) (hf : fits (tyX4 6) v = true) (hl : 6 < fs.length) (hd : decode cc pc = .ok (.putfield 130, 3)) (kk : J Θ cc (upA h a (.inr (4, fs.set 6 v))) k lv (pc + 3) st) : J Θ cc h k lv pc (v :: .ref a :: st) :=
  j_put (C := RX4) (T := TX4) (N := 11) (fk := 6) he rfl inX4 tyX4 tyX4_ok nmX4 (by decide) (by rw [hM]; exact wf_X4_130) rfl (tyX4_ok 6 (by decide)) hn hf hl hd kk
theorem gX4_147 (hM : Θ.2.2.1.1.cls = RX4) {a : Nat} {fs : List Value} {v : Value} (he : h a = some (.inr (0, fs))) (hv : fs[0]? = some v) (hd : decode cc pc = .ok (.getfield 147, 3)) (kk : J Θ cc h k lv (pc + 3) (v :: st)) : J Θ cc h k lv pc (.ref a :: st) :=
  j_get (C := RX0) (T := TX0) (N := 9) (fk := 0) he rfl inX0 (by decide) (by rw [hM]; exact wf_X4_147) hv hd kk
theorem gX4_158 (hM : Θ.2.2.1.1.cls = RX4) {a : Nat} {fs : List Value} {v : Value} (he : h a = some (.inr (0, fs))) (hv : fs[6]? = some v) (hd : decode cc pc = .ok (.getfield 158, 3)) (kk : J Θ cc h k lv (pc + 3) (v :: st)) : J Θ cc h k lv pc (.ref a :: st) :=
  j_get (C := RX0) (T := TX0) (N := 9) (fk := 6) he rfl inX0 (by decide) (by rw [hM]; exact wf_X4_158) hv hd kk
theorem gX4_161 (hM : Θ.2.2.1.1.cls = RX4) {a : Nat} {fs : List Value} {v : Value} (he : h a = some (.inr (1, fs))) (hv : fs[1]? = some v) (hd : decode cc pc = .ok (.getfield 161, 3)) (kk : J Θ cc h k lv (pc + 3) (v :: st)) : J Θ cc h k lv pc (.ref a :: st) :=
  j_get (C := RX1) (T := TX1) (N := 12) (fk := 1) he rfl inX1 (by decide) (by rw [hM]; exact wf_X4_161) hv hd kk
theorem pX4_161 (hM : Θ.2.2.1.1.cls = RX4) {a : Nat} {fs : List Value} {v : Value} (he : h a = some (.inr (1, fs))) (hn : narrow (tyX1 1) v = v) (hf : fits (tyX1 1) v = true) (hl : 1 < fs.length) (hd : decode cc pc = .ok (.putfield 161, 3)) (kk : J Θ cc (upA h a (.inr (1, fs.set 1 v))) k lv (pc + 3) st) : J Θ cc h k lv pc (v :: .ref a :: st) :=
  j_put (C := RX1) (T := TX1) (N := 12) (fk := 1) he rfl inX1 tyX1 tyX1_ok nmX1 (by decide) (by rw [hM]; exact wf_X4_161) rfl (tyX1_ok 1 (by decide)) hn hf hl hd kk
theorem gX4_187 (hM : Θ.2.2.1.1.cls = RX4) {a : Nat} {fs : List Value} {v : Value} (he : h a = some (.inr (4, fs))) (hv : fs[10]? = some v) (hd : decode cc pc = .ok (.getfield 187, 3)) (kk : J Θ cc h k lv (pc + 3) (v :: st)) : J Θ cc h k lv pc (.ref a :: st) :=
  j_get (C := RX4) (T := TX4) (N := 11) (fk := 10) he rfl inX4 (by decide) (by rw [hM]; exact wf_X4_187) hv hd kk
theorem pX4_187 (hM : Θ.2.2.1.1.cls = RX4) {a : Nat} {fs : List Value} {v : Value} (he : h a = some (.inr (4, fs))) (hn : narrow (tyX4 10) v = v) (hf : fits (tyX4 10) v = true) (hl : 10 < fs.length) (hd : decode cc pc = .ok (.putfield 187, 3)) (kk : J Θ cc (upA h a (.inr (4, fs.set 10 v))) k lv (pc + 3) st) : J Θ cc h k lv pc (v :: .ref a :: st) :=
  j_put (C := RX4) (T := TX4) (N := 11) (fk := 10) he rfl inX4 tyX4 tyX4_ok nmX4 (by decide) (by rw [hM]; exact wf_X4_187) rfl (tyX4_ok 10 (by decide)) hn hf hl hd kk
theorem gX4_196 (hM : Θ.2.2.1.1.cls = RX4) {a : Nat} {fs : List Value} {v : Value} (he : h a = some (.inr (1, fs))) (hv : fs[2]? = some v) (hd : decode cc pc = .ok (.getfield 196, 3)) (kk : J Θ cc h k lv (pc + 3) (v :: st)) : J Θ cc h k lv pc (.ref a :: st) :=
  j_get (C := RX1) (T := TX1) (N := 12) (fk := 2) he rfl inX1 (by decide) (by rw [hM]; exact wf_X4_196) hv hd kk
theorem pX4_196 (hM : Θ.2.2.1.1.cls = RX4) {a : Nat} {fs : List Value} {v : Value} (he : h a = some (.inr (1, fs))) (hn : narrow (tyX1 2) v = v) (hf : fits (tyX1 2) v = true) (hl : 2 < fs.length) (hd : decode cc pc = .ok (.putfield 196, 3)) (kk : J Θ cc (upA h a (.inr (1, fs.set 2 v))) k lv (pc + 3) st) : J Θ cc h k lv pc (v :: .ref a :: st) :=
  j_put (C := RX1) (T := TX1) (N := 12) (fk := 2) he rfl inX1 tyX1 tyX1_ok nmX1 (by decide) (by rw [hM]; exact wf_X4_196) rfl (tyX1_ok 2 (by decide)) hn hf hl hd kk
theorem gX4_210 (hM : Θ.2.2.1.1.cls = RX4) {a : Nat} {fs : List Value} {v : Value} (he : h a = some (.inr (0, fs))) (hv : fs[7]? = some v) (hd : decode cc pc = .ok (.getfield 210, 3)) (kk : J Θ cc h k lv (pc + 3) (v :: st)) : J Θ cc h k lv pc (.ref a :: st) :=
  j_get (C := RX0) (T := TX0) (N := 9) (fk := 7) he rfl inX0 (by decide) (by rw [hM]; exact wf_X4_210) hv hd kk
theorem pX4_210 (hM : Θ.2.2.1.1.cls = RX4) {a : Nat} {fs : List Value} {v : Value} (he : h a = some (.inr (0, fs))) (hn : narrow (tyX0 7) v = v) (hf : fits (tyX0 7) v = true) (hl : 7 < fs.length) (hd : decode cc pc = .ok (.putfield 210, 3)) (kk : J Θ cc (upA h a (.inr (0, fs.set 7 v))) k lv (pc + 3) st) : J Θ cc h k lv pc (v :: .ref a :: st) :=
  j_put (C := RX0) (T := TX0) (N := 9) (fk := 7) he rfl inX0 tyX0 tyX0_ok nmX0 (by decide) (by rw [hM]; exact wf_X4_210) rfl (tyX0_ok 7 (by decide)) hn hf hl hd kk
theorem gX0_9 (hM : Θ.2.2.1.1.cls = RX0) {a : Nat} {fs : List Value} {v : Value} (he : h a = some (.inr (0, fs))) (hv : fs[0]? = some v) (hd : decode cc pc = .ok (.getfield 9, 3)) (kk : J Θ cc h k lv (pc + 3) (v :: st)) : J Θ cc h k lv pc (.ref a :: st) :=
  j_get (C := RX0) (T := TX0) (N := 9) (fk := 0) he rfl inX0 (by decide) (by rw [hM]; exact wf_X0_9) hv hd kk
theorem pX0_9 (hM : Θ.2.2.1.1.cls = RX0) (hi : Θ.2.2.1.1.name = "<init>") {a : Nat} {fs : List Value} {v : Value} (he : h a = some (.inr (0, fs))) (hn : narrow (tyX0 0) v = v) (hf : fits (tyX0 0) v = true) (hl : 0 < fs.length) (hd : decode cc pc = .ok (.putfield 9, 3)) (kk : J Θ cc (upA h a (.inr (0, fs.set 0 v))) k lv (pc + 3) st) : J Θ cc h k lv pc (v :: .ref a :: st) :=
  j_putF (C := RX0) (T := TX0) (N := 9) (fk := 0) he rfl inX0 tyX0 tyX0_ok nmX0 (by decide) (by rw [hM]; exact wf_X0_9) rfl hi (by rw [hM]; rfl) (tyX0_ok 0 (by decide)) hn hf hl hd kk
theorem gX0_20 (hM : Θ.2.2.1.1.cls = RX0) {a : Nat} {fs : List Value} {v : Value} (he : h a = some (.inr (0, fs))) (hv : fs[1]? = some v) (hd : decode cc pc = .ok (.getfield 20, 3)) (kk : J Θ cc h k lv (pc + 3) (v :: st)) : J Θ cc h k lv pc (.ref a :: st) :=
  j_get (C := RX0) (T := TX0) (N := 9) (fk := 1) he rfl inX0 (by decide) (by rw [hM]; exact wf_X0_20) hv hd kk
theorem pX0_20 (hM : Θ.2.2.1.1.cls = RX0) (hi : Θ.2.2.1.1.name = "<init>") {a : Nat} {fs : List Value} {v : Value} (he : h a = some (.inr (0, fs))) (hn : narrow (tyX0 1) v = v) (hf : fits (tyX0 1) v = true) (hl : 1 < fs.length) (hd : decode cc pc = .ok (.putfield 20, 3)) (kk : J Θ cc (upA h a (.inr (0, fs.set 1 v))) k lv (pc + 3) st) : J Θ cc h k lv pc (v :: .ref a :: st) :=
  j_putF (C := RX0) (T := TX0) (N := 9) (fk := 1) he rfl inX0 tyX0 tyX0_ok nmX0 (by decide) (by rw [hM]; exact wf_X0_20) rfl hi (by rw [hM]; rfl) (tyX0_ok 1 (by decide)) hn hf hl hd kk
theorem gX0_24 (hM : Θ.2.2.1.1.cls = RX0) {a : Nat} {fs : List Value} {v : Value} (he : h a = some (.inr (2, fs))) (hv : fs[5]? = some v) (hd : decode cc pc = .ok (.getfield 24, 3)) (kk : J Θ cc h k lv (pc + 3) (v :: st)) : J Θ cc h k lv pc (.ref a :: st) :=
  j_get (C := RX2) (T := TX2) (N := 6) (fk := 5) he rfl inX2 (by decide) (by rw [hM]; exact wf_X0_24) hv hd kk
theorem gX0_33 (hM : Θ.2.2.1.1.cls = RX0) {a : Nat} {fs : List Value} {v : Value} (he : h a = some (.inr (0, fs))) (hv : fs[2]? = some v) (hd : decode cc pc = .ok (.getfield 33, 3)) (kk : J Θ cc h k lv (pc + 3) (v :: st)) : J Θ cc h k lv pc (.ref a :: st) :=
  j_get (C := RX0) (T := TX0) (N := 9) (fk := 2) he rfl inX0 (by decide) (by rw [hM]; exact wf_X0_33) hv hd kk
theorem pX0_33 (hM : Θ.2.2.1.1.cls = RX0) (hi : Θ.2.2.1.1.name = "<init>") {a : Nat} {fs : List Value} {v : Value} (he : h a = some (.inr (0, fs))) (hn : narrow (tyX0 2) v = v) (hf : fits (tyX0 2) v = true) (hl : 2 < fs.length) (hd : decode cc pc = .ok (.putfield 33, 3)) (kk : J Θ cc (upA h a (.inr (0, fs.set 2 v))) k lv (pc + 3) st) : J Θ cc h k lv pc (v :: .ref a :: st) :=
  j_putF (C := RX0) (T := TX0) (N := 9) (fk := 2) he rfl inX0 tyX0 tyX0_ok nmX0 (by decide) (by rw [hM]; exact wf_X0_33) rfl hi (by rw [hM]; rfl) (tyX0_ok 2 (by decide)) hn hf hl hd kk
theorem gX0_34 (hM : Θ.2.2.1.1.cls = RX0) {a : Nat} {fs : List Value} {v : Value} (he : h a = some (.inr (0, fs))) (hv : fs[5]? = some v) (hd : decode cc pc = .ok (.getfield 34, 3)) (kk : J Θ cc h k lv (pc + 3) (v :: st)) : J Θ cc h k lv pc (.ref a :: st) :=
  j_get (C := RX0) (T := TX0) (N := 9) (fk := 5) he rfl inX0 (by decide) (by rw [hM]; exact wf_X0_34) hv hd kk
theorem pX0_34 (hM : Θ.2.2.1.1.cls = RX0) {a : Nat} {fs : List Value} {v : Value} (he : h a = some (.inr (0, fs))) (hn : narrow (tyX0 5) v = v) (hf : fits (tyX0 5) v = true) (hl : 5 < fs.length) (hd : decode cc pc = .ok (.putfield 34, 3)) (kk : J Θ cc (upA h a (.inr (0, fs.set 5 v))) k lv (pc + 3) st) : J Θ cc h k lv pc (v :: .ref a :: st) :=
  j_put (C := RX0) (T := TX0) (N := 9) (fk := 5) he rfl inX0 tyX0 tyX0_ok nmX0 (by decide) (by rw [hM]; exact wf_X0_34) rfl (tyX0_ok 5 (by decide)) hn hf hl hd kk
theorem gX0_37 (hM : Θ.2.2.1.1.cls = RX0) {a : Nat} {fs : List Value} {v : Value} (he : h a = some (.inr (0, fs))) (hv : fs[6]? = some v) (hd : decode cc pc = .ok (.getfield 37, 3)) (kk : J Θ cc h k lv (pc + 3) (v :: st)) : J Θ cc h k lv pc (.ref a :: st) :=
  j_get (C := RX0) (T := TX0) (N := 9) (fk := 6) he rfl inX0 (by decide) (by rw [hM]; exact wf_X0_37) hv hd kk
theorem pX0_37 (hM : Θ.2.2.1.1.cls = RX0) (hi : Θ.2.2.1.1.name = "<init>") {a : Nat} {fs : List Value} {v : Value} (he : h a = some (.inr (0, fs))) (hn : narrow (tyX0 6) v = v) (hf : fits (tyX0 6) v = true) (hl : 6 < fs.length) (hd : decode cc pc = .ok (.putfield 37, 3)) (kk : J Θ cc (upA h a (.inr (0, fs.set 6 v))) k lv (pc + 3) st) : J Θ cc h k lv pc (v :: .ref a :: st) :=
  j_putF (C := RX0) (T := TX0) (N := 9) (fk := 6) he rfl inX0 tyX0 tyX0_ok nmX0 (by decide) (by rw [hM]; exact wf_X0_37) rfl hi (by rw [hM]; rfl) (tyX0_ok 6 (by decide)) hn hf hl hd kk
theorem gX0_40 (hM : Θ.2.2.1.1.cls = RX0) {a : Nat} {fs : List Value} {v : Value} (he : h a = some (.inr (0, fs))) (hv : fs[7]? = some v) (hd : decode cc pc = .ok (.getfield 40, 3)) (kk : J Θ cc h k lv (pc + 3) (v :: st)) : J Θ cc h k lv pc (.ref a :: st) :=
  j_get (C := RX0) (T := TX0) (N := 9) (fk := 7) he rfl inX0 (by decide) (by rw [hM]; exact wf_X0_40) hv hd kk
theorem pX0_40 (hM : Θ.2.2.1.1.cls = RX0) {a : Nat} {fs : List Value} {v : Value} (he : h a = some (.inr (0, fs))) (hn : narrow (tyX0 7) v = v) (hf : fits (tyX0 7) v = true) (hl : 7 < fs.length) (hd : decode cc pc = .ok (.putfield 40, 3)) (kk : J Θ cc (upA h a (.inr (0, fs.set 7 v))) k lv (pc + 3) st) : J Θ cc h k lv pc (v :: .ref a :: st) :=
  j_put (C := RX0) (T := TX0) (N := 9) (fk := 7) he rfl inX0 tyX0 tyX0_ok nmX0 (by decide) (by rw [hM]; exact wf_X0_40) rfl (tyX0_ok 7 (by decide)) hn hf hl hd kk
theorem gX0_43 (hM : Θ.2.2.1.1.cls = RX0) {a : Nat} {fs : List Value} {v : Value} (he : h a = some (.inr (0, fs))) (hv : fs[8]? = some v) (hd : decode cc pc = .ok (.getfield 43, 3)) (kk : J Θ cc h k lv (pc + 3) (v :: st)) : J Θ cc h k lv pc (.ref a :: st) :=
  j_get (C := RX0) (T := TX0) (N := 9) (fk := 8) he rfl inX0 (by decide) (by rw [hM]; exact wf_X0_43) hv hd kk
theorem pX0_43 (hM : Θ.2.2.1.1.cls = RX0) {a : Nat} {fs : List Value} {v : Value} (he : h a = some (.inr (0, fs))) (hn : narrow (tyX0 8) v = v) (hf : fits (tyX0 8) v = true) (hl : 8 < fs.length) (hd : decode cc pc = .ok (.putfield 43, 3)) (kk : J Θ cc (upA h a (.inr (0, fs.set 8 v))) k lv (pc + 3) st) : J Θ cc h k lv pc (v :: .ref a :: st) :=
  j_put (C := RX0) (T := TX0) (N := 9) (fk := 8) he rfl inX0 tyX0 tyX0_ok nmX0 (by decide) (by rw [hM]; exact wf_X0_43) rfl (tyX0_ok 8 (by decide)) hn hf hl hd kk
theorem gX0_54 (hM : Θ.2.2.1.1.cls = RX0) {a : Nat} {fs : List Value} {v : Value} (he : h a = some (.inr (0, fs))) (hv : fs[3]? = some v) (hd : decode cc pc = .ok (.getfield 54, 3)) (kk : J Θ cc h k lv (pc + 3) (v :: st)) : J Θ cc h k lv pc (.ref a :: st) :=
  j_get (C := RX0) (T := TX0) (N := 9) (fk := 3) he rfl inX0 (by decide) (by rw [hM]; exact wf_X0_54) hv hd kk
theorem pX0_54 (hM : Θ.2.2.1.1.cls = RX0) {a : Nat} {fs : List Value} {v : Value} (he : h a = some (.inr (0, fs))) (hn : narrow (tyX0 3) v = v) (hf : fits (tyX0 3) v = true) (hl : 3 < fs.length) (hd : decode cc pc = .ok (.putfield 54, 3)) (kk : J Θ cc (upA h a (.inr (0, fs.set 3 v))) k lv (pc + 3) st) : J Θ cc h k lv pc (v :: .ref a :: st) :=
  j_put (C := RX0) (T := TX0) (N := 9) (fk := 3) he rfl inX0 tyX0 tyX0_ok nmX0 (by decide) (by rw [hM]; exact wf_X0_54) rfl (tyX0_ok 3 (by decide)) hn hf hl hd kk
theorem gX0_58 (hM : Θ.2.2.1.1.cls = RX0) {a : Nat} {fs : List Value} {v : Value} (he : h a = some (.inr (0, fs))) (hv : fs[4]? = some v) (hd : decode cc pc = .ok (.getfield 58, 3)) (kk : J Θ cc h k lv (pc + 3) (v :: st)) : J Θ cc h k lv pc (.ref a :: st) :=
  j_get (C := RX0) (T := TX0) (N := 9) (fk := 4) he rfl inX0 (by decide) (by rw [hM]; exact wf_X0_58) hv hd kk
theorem pX0_58 (hM : Θ.2.2.1.1.cls = RX0) {a : Nat} {fs : List Value} {v : Value} (he : h a = some (.inr (0, fs))) (hn : narrow (tyX0 4) v = v) (hf : fits (tyX0 4) v = true) (hl : 4 < fs.length) (hd : decode cc pc = .ok (.putfield 58, 3)) (kk : J Θ cc (upA h a (.inr (0, fs.set 4 v))) k lv (pc + 3) st) : J Θ cc h k lv pc (v :: .ref a :: st) :=
  j_put (C := RX0) (T := TX0) (N := 9) (fk := 4) he rfl inX0 tyX0 tyX0_ok nmX0 (by decide) (by rw [hM]; exact wf_X0_58) rfl (tyX0_ok 4 (by decide)) hn hf hl hd kk
theorem gX0_61 (hM : Θ.2.2.1.1.cls = RX0) {a : Nat} {fs : List Value} {v : Value} (he : h a = some (.inr (2, fs))) (hv : fs[4]? = some v) (hd : decode cc pc = .ok (.getfield 61, 3)) (kk : J Θ cc h k lv (pc + 3) (v :: st)) : J Θ cc h k lv pc (.ref a :: st) :=
  j_get (C := RX2) (T := TX2) (N := 6) (fk := 4) he rfl inX2 (by decide) (by rw [hM]; exact wf_X0_61) hv hd kk
theorem gX0_64 (hM : Θ.2.2.1.1.cls = RX0) {a : Nat} {fs : List Value} {v : Value} (he : h a = some (.inr (2, fs))) (hv : fs[2]? = some v) (hd : decode cc pc = .ok (.getfield 64, 3)) (kk : J Θ cc h k lv (pc + 3) (v :: st)) : J Θ cc h k lv pc (.ref a :: st) :=
  j_get (C := RX2) (T := TX2) (N := 6) (fk := 2) he rfl inX2 (by decide) (by rw [hM]; exact wf_X0_64) hv hd kk
theorem gX0_67 (hM : Θ.2.2.1.1.cls = RX0) {a : Nat} {fs : List Value} {v : Value} (he : h a = some (.inr (2, fs))) (hv : fs[3]? = some v) (hd : decode cc pc = .ok (.getfield 67, 3)) (kk : J Θ cc h k lv (pc + 3) (v :: st)) : J Θ cc h k lv pc (.ref a :: st) :=
  j_get (C := RX2) (T := TX2) (N := 6) (fk := 3) he rfl inX2 (by decide) (by rw [hM]; exact wf_X0_67) hv hd kk
theorem gX1_11 (hM : Θ.2.2.1.1.cls = RX1) {a : Nat} {fs : List Value} {v : Value} (he : h a = some (.inr (1, fs))) (hv : fs[0]? = some v) (hd : decode cc pc = .ok (.getfield 11, 3)) (kk : J Θ cc h k lv (pc + 3) (v :: st)) : J Θ cc h k lv pc (.ref a :: st) :=
  j_get (C := RX1) (T := TX1) (N := 12) (fk := 0) he rfl inX1 (by decide) (by rw [hM]; exact wf_X1_11) hv hd kk
theorem pX1_11 (hM : Θ.2.2.1.1.cls = RX1) (hi : Θ.2.2.1.1.name = "<init>") {a : Nat} {fs : List Value} {v : Value} (he : h a = some (.inr (1, fs))) (hn : narrow (tyX1 0) v = v) (hf : fits (tyX1 0) v = true) (hl : 0 < fs.length) (hd : decode cc pc = .ok (.putfield 11, 3)) (kk : J Θ cc (upA h a (.inr (1, fs.set 0 v))) k lv (pc + 3) st) : J Θ cc h k lv pc (v :: .ref a :: st) :=
  j_putF (C := RX1) (T := TX1) (N := 12) (fk := 0) he rfl inX1 tyX1 tyX1_ok nmX1 (by decide) (by rw [hM]; exact wf_X1_11) rfl hi (by rw [hM]; rfl) (tyX1_ok 0 (by decide)) hn hf hl hd kk
theorem gX1_17 (hM : Θ.2.2.1.1.cls = RX1) {a : Nat} {fs : List Value} {v : Value} (he : h a = some (.inr (1, fs))) (hv : fs[4]? = some v) (hd : decode cc pc = .ok (.getfield 17, 3)) (kk : J Θ cc h k lv (pc + 3) (v :: st)) : J Θ cc h k lv pc (.ref a :: st) :=
  j_get (C := RX1) (T := TX1) (N := 12) (fk := 4) he rfl inX1 (by decide) (by rw [hM]; exact wf_X1_17) hv hd kk
theorem pX1_17 (hM : Θ.2.2.1.1.cls = RX1) {a : Nat} {fs : List Value} {v : Value} (he : h a = some (.inr (1, fs))) (hn : narrow (tyX1 4) v = v) (hf : fits (tyX1 4) v = true) (hl : 4 < fs.length) (hd : decode cc pc = .ok (.putfield 17, 3)) (kk : J Θ cc (upA h a (.inr (1, fs.set 4 v))) k lv (pc + 3) st) : J Θ cc h k lv pc (v :: .ref a :: st) :=
  j_put (C := RX1) (T := TX1) (N := 12) (fk := 4) he rfl inX1 tyX1 tyX1_ok nmX1 (by decide) (by rw [hM]; exact wf_X1_17) rfl (tyX1_ok 4 (by decide)) hn hf hl hd kk
theorem gX1_21 (hM : Θ.2.2.1.1.cls = RX1) {a : Nat} {fs : List Value} {v : Value} (he : h a = some (.inr (1, fs))) (hv : fs[5]? = some v) (hd : decode cc pc = .ok (.getfield 21, 3)) (kk : J Θ cc h k lv (pc + 3) (v :: st)) : J Θ cc h k lv pc (.ref a :: st) :=
  j_get (C := RX1) (T := TX1) (N := 12) (fk := 5) he rfl inX1 (by decide) (by rw [hM]; exact wf_X1_21) hv hd kk
theorem pX1_21 (hM : Θ.2.2.1.1.cls = RX1) (hi : Θ.2.2.1.1.name = "<init>") {a : Nat} {fs : List Value} {v : Value} (he : h a = some (.inr (1, fs))) (hn : narrow (tyX1 5) v = v) (hf : fits (tyX1 5) v = true) (hl : 5 < fs.length) (hd : decode cc pc = .ok (.putfield 21, 3)) (kk : J Θ cc (upA h a (.inr (1, fs.set 5 v))) k lv (pc + 3) st) : J Θ cc h k lv pc (v :: .ref a :: st) :=
  j_putF (C := RX1) (T := TX1) (N := 12) (fk := 5) he rfl inX1 tyX1 tyX1_ok nmX1 (by decide) (by rw [hM]; exact wf_X1_21) rfl hi (by rw [hM]; rfl) (tyX1_ok 5 (by decide)) hn hf hl hd kk
theorem gX1_24 (hM : Θ.2.2.1.1.cls = RX1) {a : Nat} {fs : List Value} {v : Value} (he : h a = some (.inr (1, fs))) (hv : fs[7]? = some v) (hd : decode cc pc = .ok (.getfield 24, 3)) (kk : J Θ cc h k lv (pc + 3) (v :: st)) : J Θ cc h k lv pc (.ref a :: st) :=
  j_get (C := RX1) (T := TX1) (N := 12) (fk := 7) he rfl inX1 (by decide) (by rw [hM]; exact wf_X1_24) hv hd kk
theorem pX1_24 (hM : Θ.2.2.1.1.cls = RX1) (hi : Θ.2.2.1.1.name = "<init>") {a : Nat} {fs : List Value} {v : Value} (he : h a = some (.inr (1, fs))) (hn : narrow (tyX1 7) v = v) (hf : fits (tyX1 7) v = true) (hl : 7 < fs.length) (hd : decode cc pc = .ok (.putfield 24, 3)) (kk : J Θ cc (upA h a (.inr (1, fs.set 7 v))) k lv (pc + 3) st) : J Θ cc h k lv pc (v :: .ref a :: st) :=
  j_putF (C := RX1) (T := TX1) (N := 12) (fk := 7) he rfl inX1 tyX1 tyX1_ok nmX1 (by decide) (by rw [hM]; exact wf_X1_24) rfl hi (by rw [hM]; rfl) (tyX1_ok 7 (by decide)) hn hf hl hd kk
theorem gX1_27 (hM : Θ.2.2.1.1.cls = RX1) {a : Nat} {fs : List Value} {v : Value} (he : h a = some (.inr (1, fs))) (hv : fs[8]? = some v) (hd : decode cc pc = .ok (.getfield 27, 3)) (kk : J Θ cc h k lv (pc + 3) (v :: st)) : J Θ cc h k lv pc (.ref a :: st) :=
  j_get (C := RX1) (T := TX1) (N := 12) (fk := 8) he rfl inX1 (by decide) (by rw [hM]; exact wf_X1_27) hv hd kk
theorem pX1_27 (hM : Θ.2.2.1.1.cls = RX1) (hi : Θ.2.2.1.1.name = "<init>") {a : Nat} {fs : List Value} {v : Value} (he : h a = some (.inr (1, fs))) (hn : narrow (tyX1 8) v = v) (hf : fits (tyX1 8) v = true) (hl : 8 < fs.length) (hd : decode cc pc = .ok (.putfield 27, 3)) (kk : J Θ cc (upA h a (.inr (1, fs.set 8 v))) k lv (pc + 3) st) : J Θ cc h k lv pc (v :: .ref a :: st) :=
  j_putF (C := RX1) (T := TX1) (N := 12) (fk := 8) he rfl inX1 tyX1 tyX1_ok nmX1 (by decide) (by rw [hM]; exact wf_X1_27) rfl hi (by rw [hM]; rfl) (tyX1_ok 8 (by decide)) hn hf hl hd kk
theorem gX1_30 (hM : Θ.2.2.1.1.cls = RX1) {a : Nat} {fs : List Value} {v : Value} (he : h a = some (.inr (1, fs))) (hv : fs[9]? = some v) (hd : decode cc pc = .ok (.getfield 30, 3)) (kk : J Θ cc h k lv (pc + 3) (v :: st)) : J Θ cc h k lv pc (.ref a :: st) :=
  j_get (C := RX1) (T := TX1) (N := 12) (fk := 9) he rfl inX1 (by decide) (by rw [hM]; exact wf_X1_30) hv hd kk
theorem pX1_30 (hM : Θ.2.2.1.1.cls = RX1) (hi : Θ.2.2.1.1.name = "<init>") {a : Nat} {fs : List Value} {v : Value} (he : h a = some (.inr (1, fs))) (hn : narrow (tyX1 9) v = v) (hf : fits (tyX1 9) v = true) (hl : 9 < fs.length) (hd : decode cc pc = .ok (.putfield 30, 3)) (kk : J Θ cc (upA h a (.inr (1, fs.set 9 v))) k lv (pc + 3) st) : J Θ cc h k lv pc (v :: .ref a :: st) :=
  j_putF (C := RX1) (T := TX1) (N := 12) (fk := 9) he rfl inX1 tyX1 tyX1_ok nmX1 (by decide) (by rw [hM]; exact wf_X1_30) rfl hi (by rw [hM]; rfl) (tyX1_ok 9 (by decide)) hn hf hl hd kk
theorem gX1_33 (hM : Θ.2.2.1.1.cls = RX1) {a : Nat} {fs : List Value} {v : Value} (he : h a = some (.inr (1, fs))) (hv : fs[10]? = some v) (hd : decode cc pc = .ok (.getfield 33, 3)) (kk : J Θ cc h k lv (pc + 3) (v :: st)) : J Θ cc h k lv pc (.ref a :: st) :=
  j_get (C := RX1) (T := TX1) (N := 12) (fk := 10) he rfl inX1 (by decide) (by rw [hM]; exact wf_X1_33) hv hd kk
theorem pX1_33 (hM : Θ.2.2.1.1.cls = RX1) (hi : Θ.2.2.1.1.name = "<init>") {a : Nat} {fs : List Value} {v : Value} (he : h a = some (.inr (1, fs))) (hn : narrow (tyX1 10) v = v) (hf : fits (tyX1 10) v = true) (hl : 10 < fs.length) (hd : decode cc pc = .ok (.putfield 33, 3)) (kk : J Θ cc (upA h a (.inr (1, fs.set 10 v))) k lv (pc + 3) st) : J Θ cc h k lv pc (v :: .ref a :: st) :=
  j_putF (C := RX1) (T := TX1) (N := 12) (fk := 10) he rfl inX1 tyX1 tyX1_ok nmX1 (by decide) (by rw [hM]; exact wf_X1_33) rfl hi (by rw [hM]; rfl) (tyX1_ok 10 (by decide)) hn hf hl hd kk
theorem gX1_37 (hM : Θ.2.2.1.1.cls = RX1) {a : Nat} {fs : List Value} {v : Value} (he : h a = some (.inr (1, fs))) (hv : fs[11]? = some v) (hd : decode cc pc = .ok (.getfield 37, 3)) (kk : J Θ cc h k lv (pc + 3) (v :: st)) : J Θ cc h k lv pc (.ref a :: st) :=
  j_get (C := RX1) (T := TX1) (N := 12) (fk := 11) he rfl inX1 (by decide) (by rw [hM]; exact wf_X1_37) hv hd kk
theorem pX1_37 (hM : Θ.2.2.1.1.cls = RX1) (hi : Θ.2.2.1.1.name = "<init>") {a : Nat} {fs : List Value} {v : Value} (he : h a = some (.inr (1, fs))) (hn : narrow (tyX1 11) v = v) (hf : fits (tyX1 11) v = true) (hl : 11 < fs.length) (hd : decode cc pc = .ok (.putfield 37, 3)) (kk : J Θ cc (upA h a (.inr (1, fs.set 11 v))) k lv (pc + 3) st) : J Θ cc h k lv pc (v :: .ref a :: st) :=
  j_putF (C := RX1) (T := TX1) (N := 12) (fk := 11) he rfl inX1 tyX1 tyX1_ok nmX1 (by decide) (by rw [hM]; exact wf_X1_37) rfl hi (by rw [hM]; rfl) (tyX1_ok 11 (by decide)) hn hf hl hd kk
theorem gX1_40 (hM : Θ.2.2.1.1.cls = RX1) {a : Nat} {fs : List Value} {v : Value} (he : h a = some (.inr (1, fs))) (hv : fs[3]? = some v) (hd : decode cc pc = .ok (.getfield 40, 3)) (kk : J Θ cc h k lv (pc + 3) (v :: st)) : J Θ cc h k lv pc (.ref a :: st) :=
  j_get (C := RX1) (T := TX1) (N := 12) (fk := 3) he rfl inX1 (by decide) (by rw [hM]; exact wf_X1_40) hv hd kk
theorem pX1_40 (hM : Θ.2.2.1.1.cls = RX1) {a : Nat} {fs : List Value} {v : Value} (he : h a = some (.inr (1, fs))) (hn : narrow (tyX1 3) v = v) (hf : fits (tyX1 3) v = true) (hl : 3 < fs.length) (hd : decode cc pc = .ok (.putfield 40, 3)) (kk : J Θ cc (upA h a (.inr (1, fs.set 3 v))) k lv (pc + 3) st) : J Θ cc h k lv pc (v :: .ref a :: st) :=
  j_put (C := RX1) (T := TX1) (N := 12) (fk := 3) he rfl inX1 tyX1 tyX1_ok nmX1 (by decide) (by rw [hM]; exact wf_X1_40) rfl (tyX1_ok 3 (by decide)) hn hf hl hd kk
theorem gX1_44 (hM : Θ.2.2.1.1.cls = RX1) {a : Nat} {fs : List Value} {v : Value} (he : h a = some (.inr (1, fs))) (hv : fs[1]? = some v) (hd : decode cc pc = .ok (.getfield 44, 3)) (kk : J Θ cc h k lv (pc + 3) (v :: st)) : J Θ cc h k lv pc (.ref a :: st) :=
  j_get (C := RX1) (T := TX1) (N := 12) (fk := 1) he rfl inX1 (by decide) (by rw [hM]; exact wf_X1_44) hv hd kk
theorem pX1_44 (hM : Θ.2.2.1.1.cls = RX1) {a : Nat} {fs : List Value} {v : Value} (he : h a = some (.inr (1, fs))) (hn : narrow (tyX1 1) v = v) (hf : fits (tyX1 1) v = true) (hl : 1 < fs.length) (hd : decode cc pc = .ok (.putfield 44, 3)) (kk : J Θ cc (upA h a (.inr (1, fs.set 1 v))) k lv (pc + 3) st) : J Θ cc h k lv pc (v :: .ref a :: st) :=
  j_put (C := RX1) (T := TX1) (N := 12) (fk := 1) he rfl inX1 tyX1 tyX1_ok nmX1 (by decide) (by rw [hM]; exact wf_X1_44) rfl (tyX1_ok 1 (by decide)) hn hf hl hd kk
theorem gX1_48 (hM : Θ.2.2.1.1.cls = RX1) {a : Nat} {fs : List Value} {v : Value} (he : h a = some (.inr (1, fs))) (hv : fs[2]? = some v) (hd : decode cc pc = .ok (.getfield 48, 3)) (kk : J Θ cc h k lv (pc + 3) (v :: st)) : J Θ cc h k lv pc (.ref a :: st) :=
  j_get (C := RX1) (T := TX1) (N := 12) (fk := 2) he rfl inX1 (by decide) (by rw [hM]; exact wf_X1_48) hv hd kk
theorem pX1_48 (hM : Θ.2.2.1.1.cls = RX1) {a : Nat} {fs : List Value} {v : Value} (he : h a = some (.inr (1, fs))) (hn : narrow (tyX1 2) v = v) (hf : fits (tyX1 2) v = true) (hl : 2 < fs.length) (hd : decode cc pc = .ok (.putfield 48, 3)) (kk : J Θ cc (upA h a (.inr (1, fs.set 2 v))) k lv (pc + 3) st) : J Θ cc h k lv pc (v :: .ref a :: st) :=
  j_put (C := RX1) (T := TX1) (N := 12) (fk := 2) he rfl inX1 tyX1 tyX1_ok nmX1 (by decide) (by rw [hM]; exact wf_X1_48) rfl (tyX1_ok 2 (by decide)) hn hf hl hd kk
theorem gX1_59 (hM : Θ.2.2.1.1.cls = RX1) {a : Nat} {fs : List Value} {v : Value} (he : h a = some (.inr (1, fs))) (hv : fs[6]? = some v) (hd : decode cc pc = .ok (.getfield 59, 3)) (kk : J Θ cc h k lv (pc + 3) (v :: st)) : J Θ cc h k lv pc (.ref a :: st) :=
  j_get (C := RX1) (T := TX1) (N := 12) (fk := 6) he rfl inX1 (by decide) (by rw [hM]; exact wf_X1_59) hv hd kk
theorem pX1_59 (hM : Θ.2.2.1.1.cls = RX1) {a : Nat} {fs : List Value} {v : Value} (he : h a = some (.inr (1, fs))) (hn : narrow (tyX1 6) v = v) (hf : fits (tyX1 6) v = true) (hl : 6 < fs.length) (hd : decode cc pc = .ok (.putfield 59, 3)) (kk : J Θ cc (upA h a (.inr (1, fs.set 6 v))) k lv (pc + 3) st) : J Θ cc h k lv pc (v :: .ref a :: st) :=
  j_put (C := RX1) (T := TX1) (N := 12) (fk := 6) he rfl inX1 tyX1 tyX1_ok nmX1 (by decide) (by rw [hM]; exact wf_X1_59) rfl (tyX1_ok 6 (by decide)) hn hf hl hd kk
theorem gX1_72 (hM : Θ.2.2.1.1.cls = RX1) {a : Nat} {fs : List Value} {v : Value} (he : h a = some (.inr (0, fs))) (hv : fs[4]? = some v) (hd : decode cc pc = .ok (.getfield 72, 3)) (kk : J Θ cc h k lv (pc + 3) (v :: st)) : J Θ cc h k lv pc (.ref a :: st) :=
  j_get (C := RX0) (T := TX0) (N := 9) (fk := 4) he rfl inX0 (by decide) (by rw [hM]; exact wf_X1_72) hv hd kk
theorem pX1_72 (hM : Θ.2.2.1.1.cls = RX1) {a : Nat} {fs : List Value} {v : Value} (he : h a = some (.inr (0, fs))) (hn : narrow (tyX0 4) v = v) (hf : fits (tyX0 4) v = true) (hl : 4 < fs.length) (hd : decode cc pc = .ok (.putfield 72, 3)) (kk : J Θ cc (upA h a (.inr (0, fs.set 4 v))) k lv (pc + 3) st) : J Θ cc h k lv pc (v :: .ref a :: st) :=
  j_put (C := RX0) (T := TX0) (N := 9) (fk := 4) he rfl inX0 tyX0 tyX0_ok nmX0 (by decide) (by rw [hM]; exact wf_X1_72) rfl (tyX0_ok 4 (by decide)) hn hf hl hd kk
theorem gX2_9 (hM : Θ.2.2.1.1.cls = RX2) {a : Nat} {fs : List Value} {v : Value} (he : h a = some (.inr (2, fs))) (hv : fs[0]? = some v) (hd : decode cc pc = .ok (.getfield 9, 3)) (kk : J Θ cc h k lv (pc + 3) (v :: st)) : J Θ cc h k lv pc (.ref a :: st) :=
  j_get (C := RX2) (T := TX2) (N := 6) (fk := 0) he rfl inX2 (by decide) (by rw [hM]; exact wf_X2_9) hv hd kk
theorem pX2_9 (hM : Θ.2.2.1.1.cls = RX2) (hi : Θ.2.2.1.1.name = "<init>") {a : Nat} {fs : List Value} {v : Value} (he : h a = some (.inr (2, fs))) (hn : narrow (tyX2 0) v = v) (hf : fits (tyX2 0) v = true) (hl : 0 < fs.length) (hd : decode cc pc = .ok (.putfield 9, 3)) (kk : J Θ cc (upA h a (.inr (2, fs.set 0 v))) k lv (pc + 3) st) : J Θ cc h k lv pc (v :: .ref a :: st) :=
  j_putF (C := RX2) (T := TX2) (N := 6) (fk := 0) he rfl inX2 tyX2 tyX2_ok nmX2 (by decide) (by rw [hM]; exact wf_X2_9) rfl hi (by rw [hM]; rfl) (tyX2_ok 0 (by decide)) hn hf hl hd kk
theorem gX2_15 (hM : Θ.2.2.1.1.cls = RX2) {a : Nat} {fs : List Value} {v : Value} (he : h a = some (.inr (2, fs))) (hv : fs[1]? = some v) (hd : decode cc pc = .ok (.getfield 15, 3)) (kk : J Θ cc h k lv (pc + 3) (v :: st)) : J Θ cc h k lv pc (.ref a :: st) :=
  j_get (C := RX2) (T := TX2) (N := 6) (fk := 1) he rfl inX2 (by decide) (by rw [hM]; exact wf_X2_15) hv hd kk
theorem pX2_15 (hM : Θ.2.2.1.1.cls = RX2) (hi : Θ.2.2.1.1.name = "<init>") {a : Nat} {fs : List Value} {v : Value} (he : h a = some (.inr (2, fs))) (hn : narrow (tyX2 1) v = v) (hf : fits (tyX2 1) v = true) (hl : 1 < fs.length) (hd : decode cc pc = .ok (.putfield 15, 3)) (kk : J Θ cc (upA h a (.inr (2, fs.set 1 v))) k lv (pc + 3) st) : J Θ cc h k lv pc (v :: .ref a :: st) :=
  j_putF (C := RX2) (T := TX2) (N := 6) (fk := 1) he rfl inX2 tyX2 tyX2_ok nmX2 (by decide) (by rw [hM]; exact wf_X2_15) rfl hi (by rw [hM]; rfl) (tyX2_ok 1 (by decide)) hn hf hl hd kk
theorem gX2_19 (hM : Θ.2.2.1.1.cls = RX2) {a : Nat} {fs : List Value} {v : Value} (he : h a = some (.inr (2, fs))) (hv : fs[2]? = some v) (hd : decode cc pc = .ok (.getfield 19, 3)) (kk : J Θ cc h k lv (pc + 3) (v :: st)) : J Θ cc h k lv pc (.ref a :: st) :=
  j_get (C := RX2) (T := TX2) (N := 6) (fk := 2) he rfl inX2 (by decide) (by rw [hM]; exact wf_X2_19) hv hd kk
theorem pX2_19 (hM : Θ.2.2.1.1.cls = RX2) (hi : Θ.2.2.1.1.name = "<init>") {a : Nat} {fs : List Value} {v : Value} (he : h a = some (.inr (2, fs))) (hn : narrow (tyX2 2) v = v) (hf : fits (tyX2 2) v = true) (hl : 2 < fs.length) (hd : decode cc pc = .ok (.putfield 19, 3)) (kk : J Θ cc (upA h a (.inr (2, fs.set 2 v))) k lv (pc + 3) st) : J Θ cc h k lv pc (v :: .ref a :: st) :=
  j_putF (C := RX2) (T := TX2) (N := 6) (fk := 2) he rfl inX2 tyX2 tyX2_ok nmX2 (by decide) (by rw [hM]; exact wf_X2_19) rfl hi (by rw [hM]; rfl) (tyX2_ok 2 (by decide)) hn hf hl hd kk
theorem gX2_22 (hM : Θ.2.2.1.1.cls = RX2) {a : Nat} {fs : List Value} {v : Value} (he : h a = some (.inr (2, fs))) (hv : fs[3]? = some v) (hd : decode cc pc = .ok (.getfield 22, 3)) (kk : J Θ cc h k lv (pc + 3) (v :: st)) : J Θ cc h k lv pc (.ref a :: st) :=
  j_get (C := RX2) (T := TX2) (N := 6) (fk := 3) he rfl inX2 (by decide) (by rw [hM]; exact wf_X2_22) hv hd kk
theorem pX2_22 (hM : Θ.2.2.1.1.cls = RX2) (hi : Θ.2.2.1.1.name = "<init>") {a : Nat} {fs : List Value} {v : Value} (he : h a = some (.inr (2, fs))) (hn : narrow (tyX2 3) v = v) (hf : fits (tyX2 3) v = true) (hl : 3 < fs.length) (hd : decode cc pc = .ok (.putfield 22, 3)) (kk : J Θ cc (upA h a (.inr (2, fs.set 3 v))) k lv (pc + 3) st) : J Θ cc h k lv pc (v :: .ref a :: st) :=
  j_putF (C := RX2) (T := TX2) (N := 6) (fk := 3) he rfl inX2 tyX2 tyX2_ok nmX2 (by decide) (by rw [hM]; exact wf_X2_22) rfl hi (by rw [hM]; rfl) (tyX2_ok 3 (by decide)) hn hf hl hd kk
theorem gX2_25 (hM : Θ.2.2.1.1.cls = RX2) {a : Nat} {fs : List Value} {v : Value} (he : h a = some (.inr (2, fs))) (hv : fs[4]? = some v) (hd : decode cc pc = .ok (.getfield 25, 3)) (kk : J Θ cc h k lv (pc + 3) (v :: st)) : J Θ cc h k lv pc (.ref a :: st) :=
  j_get (C := RX2) (T := TX2) (N := 6) (fk := 4) he rfl inX2 (by decide) (by rw [hM]; exact wf_X2_25) hv hd kk
theorem pX2_25 (hM : Θ.2.2.1.1.cls = RX2) (hi : Θ.2.2.1.1.name = "<init>") {a : Nat} {fs : List Value} {v : Value} (he : h a = some (.inr (2, fs))) (hn : narrow (tyX2 4) v = v) (hf : fits (tyX2 4) v = true) (hl : 4 < fs.length) (hd : decode cc pc = .ok (.putfield 25, 3)) (kk : J Θ cc (upA h a (.inr (2, fs.set 4 v))) k lv (pc + 3) st) : J Θ cc h k lv pc (v :: .ref a :: st) :=
  j_putF (C := RX2) (T := TX2) (N := 6) (fk := 4) he rfl inX2 tyX2 tyX2_ok nmX2 (by decide) (by rw [hM]; exact wf_X2_25) rfl hi (by rw [hM]; rfl) (tyX2_ok 4 (by decide)) hn hf hl hd kk
theorem gX2_28 (hM : Θ.2.2.1.1.cls = RX2) {a : Nat} {fs : List Value} {v : Value} (he : h a = some (.inr (2, fs))) (hv : fs[5]? = some v) (hd : decode cc pc = .ok (.getfield 28, 3)) (kk : J Θ cc h k lv (pc + 3) (v :: st)) : J Θ cc h k lv pc (.ref a :: st) :=
  j_get (C := RX2) (T := TX2) (N := 6) (fk := 5) he rfl inX2 (by decide) (by rw [hM]; exact wf_X2_28) hv hd kk
theorem pX2_28 (hM : Θ.2.2.1.1.cls = RX2) (hi : Θ.2.2.1.1.name = "<init>") {a : Nat} {fs : List Value} {v : Value} (he : h a = some (.inr (2, fs))) (hn : narrow (tyX2 5) v = v) (hf : fits (tyX2 5) v = true) (hl : 5 < fs.length) (hd : decode cc pc = .ok (.putfield 28, 3)) (kk : J Θ cc (upA h a (.inr (2, fs.set 5 v))) k lv (pc + 3) st) : J Θ cc h k lv pc (v :: .ref a :: st) :=
  j_putF (C := RX2) (T := TX2) (N := 6) (fk := 5) he rfl inX2 tyX2 tyX2_ok nmX2 (by decide) (by rw [hM]; exact wf_X2_28) rfl hi (by rw [hM]; rfl) (tyX2_ok 5 (by decide)) hn hf hl hd kk
theorem gX3_9 (hM : Θ.2.2.1.1.cls = RX3) {a : Nat} {fs : List Value} {v : Value} (he : h a = some (.inr (3, fs))) (hv : fs[0]? = some v) (hd : decode cc pc = .ok (.getfield 9, 3)) (kk : J Θ cc h k lv (pc + 3) (v :: st)) : J Θ cc h k lv pc (.ref a :: st) :=
  j_get (C := RX3) (T := TX3) (N := 7) (fk := 0) he rfl inX3 (by decide) (by rw [hM]; exact wf_X3_9) hv hd kk
theorem pX3_9 (hM : Θ.2.2.1.1.cls = RX3) (hi : Θ.2.2.1.1.name = "<init>") {a : Nat} {fs : List Value} {v : Value} (he : h a = some (.inr (3, fs))) (hn : narrow (tyX3 0) v = v) (hf : fits (tyX3 0) v = true) (hl : 0 < fs.length) (hd : decode cc pc = .ok (.putfield 9, 3)) (kk : J Θ cc (upA h a (.inr (3, fs.set 0 v))) k lv (pc + 3) st) : J Θ cc h k lv pc (v :: .ref a :: st) :=
  j_putF (C := RX3) (T := TX3) (N := 7) (fk := 0) he rfl inX3 tyX3 tyX3_ok nmX3 (by decide) (by rw [hM]; exact wf_X3_9) rfl hi (by rw [hM]; rfl) (tyX3_ok 0 (by decide)) hn hf hl hd kk
theorem gX3_15 (hM : Θ.2.2.1.1.cls = RX3) {a : Nat} {fs : List Value} {v : Value} (he : h a = some (.inr (3, fs))) (hv : fs[1]? = some v) (hd : decode cc pc = .ok (.getfield 15, 3)) (kk : J Θ cc h k lv (pc + 3) (v :: st)) : J Θ cc h k lv pc (.ref a :: st) :=
  j_get (C := RX3) (T := TX3) (N := 7) (fk := 1) he rfl inX3 (by decide) (by rw [hM]; exact wf_X3_15) hv hd kk
theorem pX3_15 (hM : Θ.2.2.1.1.cls = RX3) (hi : Θ.2.2.1.1.name = "<init>") {a : Nat} {fs : List Value} {v : Value} (he : h a = some (.inr (3, fs))) (hn : narrow (tyX3 1) v = v) (hf : fits (tyX3 1) v = true) (hl : 1 < fs.length) (hd : decode cc pc = .ok (.putfield 15, 3)) (kk : J Θ cc (upA h a (.inr (3, fs.set 1 v))) k lv (pc + 3) st) : J Θ cc h k lv pc (v :: .ref a :: st) :=
  j_putF (C := RX3) (T := TX3) (N := 7) (fk := 1) he rfl inX3 tyX3 tyX3_ok nmX3 (by decide) (by rw [hM]; exact wf_X3_15) rfl hi (by rw [hM]; rfl) (tyX3_ok 1 (by decide)) hn hf hl hd kk
theorem gX3_24 (hM : Θ.2.2.1.1.cls = RX3) {a : Nat} {fs : List Value} {v : Value} (he : h a = some (.inr (3, fs))) (hv : fs[3]? = some v) (hd : decode cc pc = .ok (.getfield 24, 3)) (kk : J Θ cc h k lv (pc + 3) (v :: st)) : J Θ cc h k lv pc (.ref a :: st) :=
  j_get (C := RX3) (T := TX3) (N := 7) (fk := 3) he rfl inX3 (by decide) (by rw [hM]; exact wf_X3_24) hv hd kk
theorem pX3_24 (hM : Θ.2.2.1.1.cls = RX3) (hi : Θ.2.2.1.1.name = "<init>") {a : Nat} {fs : List Value} {v : Value} (he : h a = some (.inr (3, fs))) (hn : narrow (tyX3 3) v = v) (hf : fits (tyX3 3) v = true) (hl : 3 < fs.length) (hd : decode cc pc = .ok (.putfield 24, 3)) (kk : J Θ cc (upA h a (.inr (3, fs.set 3 v))) k lv (pc + 3) st) : J Θ cc h k lv pc (v :: .ref a :: st) :=
  j_putF (C := RX3) (T := TX3) (N := 7) (fk := 3) he rfl inX3 tyX3 tyX3_ok nmX3 (by decide) (by rw [hM]; exact wf_X3_24) rfl hi (by rw [hM]; rfl) (tyX3_ok 3 (by decide)) hn hf hl hd kk
theorem gX3_27 (hM : Θ.2.2.1.1.cls = RX3) {a : Nat} {fs : List Value} {v : Value} (he : h a = some (.inr (3, fs))) (hv : fs[4]? = some v) (hd : decode cc pc = .ok (.getfield 27, 3)) (kk : J Θ cc h k lv (pc + 3) (v :: st)) : J Θ cc h k lv pc (.ref a :: st) :=
  j_get (C := RX3) (T := TX3) (N := 7) (fk := 4) he rfl inX3 (by decide) (by rw [hM]; exact wf_X3_27) hv hd kk
theorem pX3_27 (hM : Θ.2.2.1.1.cls = RX3) (hi : Θ.2.2.1.1.name = "<init>") {a : Nat} {fs : List Value} {v : Value} (he : h a = some (.inr (3, fs))) (hn : narrow (tyX3 4) v = v) (hf : fits (tyX3 4) v = true) (hl : 4 < fs.length) (hd : decode cc pc = .ok (.putfield 27, 3)) (kk : J Θ cc (upA h a (.inr (3, fs.set 4 v))) k lv (pc + 3) st) : J Θ cc h k lv pc (v :: .ref a :: st) :=
  j_putF (C := RX3) (T := TX3) (N := 7) (fk := 4) he rfl inX3 tyX3 tyX3_ok nmX3 (by decide) (by rw [hM]; exact wf_X3_27) rfl hi (by rw [hM]; rfl) (tyX3_ok 4 (by decide)) hn hf hl hd kk
theorem gX3_30 (hM : Θ.2.2.1.1.cls = RX3) {a : Nat} {fs : List Value} {v : Value} (he : h a = some (.inr (3, fs))) (hv : fs[5]? = some v) (hd : decode cc pc = .ok (.getfield 30, 3)) (kk : J Θ cc h k lv (pc + 3) (v :: st)) : J Θ cc h k lv pc (.ref a :: st) :=
  j_get (C := RX3) (T := TX3) (N := 7) (fk := 5) he rfl inX3 (by decide) (by rw [hM]; exact wf_X3_30) hv hd kk
theorem pX3_30 (hM : Θ.2.2.1.1.cls = RX3) (hi : Θ.2.2.1.1.name = "<init>") {a : Nat} {fs : List Value} {v : Value} (he : h a = some (.inr (3, fs))) (hn : narrow (tyX3 5) v = v) (hf : fits (tyX3 5) v = true) (hl : 5 < fs.length) (hd : decode cc pc = .ok (.putfield 30, 3)) (kk : J Θ cc (upA h a (.inr (3, fs.set 5 v))) k lv (pc + 3) st) : J Θ cc h k lv pc (v :: .ref a :: st) :=
  j_putF (C := RX3) (T := TX3) (N := 7) (fk := 5) he rfl inX3 tyX3 tyX3_ok nmX3 (by decide) (by rw [hM]; exact wf_X3_30) rfl hi (by rw [hM]; rfl) (tyX3_ok 5 (by decide)) hn hf hl hd kk
theorem gX3_33 (hM : Θ.2.2.1.1.cls = RX3) {a : Nat} {fs : List Value} {v : Value} (he : h a = some (.inr (3, fs))) (hv : fs[6]? = some v) (hd : decode cc pc = .ok (.getfield 33, 3)) (kk : J Θ cc h k lv (pc + 3) (v :: st)) : J Θ cc h k lv pc (.ref a :: st) :=
  j_get (C := RX3) (T := TX3) (N := 7) (fk := 6) he rfl inX3 (by decide) (by rw [hM]; exact wf_X3_33) hv hd kk
theorem pX3_33 (hM : Θ.2.2.1.1.cls = RX3) (hi : Θ.2.2.1.1.name = "<init>") {a : Nat} {fs : List Value} {v : Value} (he : h a = some (.inr (3, fs))) (hn : narrow (tyX3 6) v = v) (hf : fits (tyX3 6) v = true) (hl : 6 < fs.length) (hd : decode cc pc = .ok (.putfield 33, 3)) (kk : J Θ cc (upA h a (.inr (3, fs.set 6 v))) k lv (pc + 3) st) : J Θ cc h k lv pc (v :: .ref a :: st) :=
  j_putF (C := RX3) (T := TX3) (N := 7) (fk := 6) he rfl inX3 tyX3 tyX3_ok nmX3 (by decide) (by rw [hM]; exact wf_X3_33) rfl hi (by rw [hM]; rfl) (tyX3_ok 6 (by decide)) hn hf hl hd kk
theorem gX3_36 (hM : Θ.2.2.1.1.cls = RX3) {a : Nat} {fs : List Value} {v : Value} (he : h a = some (.inr (3, fs))) (hv : fs[2]? = some v) (hd : decode cc pc = .ok (.getfield 36, 3)) (kk : J Θ cc h k lv (pc + 3) (v :: st)) : J Θ cc h k lv pc (.ref a :: st) :=
  j_get (C := RX3) (T := TX3) (N := 7) (fk := 2) he rfl inX3 (by decide) (by rw [hM]; exact wf_X3_36) hv hd kk
theorem pX3_36 (hM : Θ.2.2.1.1.cls = RX3) {a : Nat} {fs : List Value} {v : Value} (he : h a = some (.inr (3, fs))) (hn : narrow (tyX3 2) v = v) (hf : fits (tyX3 2) v = true) (hl : 2 < fs.length) (hd : decode cc pc = .ok (.putfield 36, 3)) (kk : J Θ cc (upA h a (.inr (3, fs.set 2 v))) k lv (pc + 3) st) : J Θ cc h k lv pc (v :: .ref a :: st) :=
  j_put (C := RX3) (T := TX3) (N := 7) (fk := 2) he rfl inX3 tyX3 tyX3_ok nmX3 (by decide) (by rw [hM]; exact wf_X3_36) rfl (tyX3_ok 2 (by decide)) hn hf hl hd kk
theorem gX3_40 (hM : Θ.2.2.1.1.cls = RX3) {a : Nat} {fs : List Value} {v : Value} (he : h a = some (.inr (0, fs))) (hv : fs[8]? = some v) (hd : decode cc pc = .ok (.getfield 40, 3)) (kk : J Θ cc h k lv (pc + 3) (v :: st)) : J Θ cc h k lv pc (.ref a :: st) :=
  j_get (C := RX0) (T := TX0) (N := 9) (fk := 8) he rfl inX0 (by decide) (by rw [hM]; exact wf_X3_40) hv hd kk
theorem pX3_40 (hM : Θ.2.2.1.1.cls = RX3) {a : Nat} {fs : List Value} {v : Value} (he : h a = some (.inr (0, fs))) (hn : narrow (tyX0 8) v = v) (hf : fits (tyX0 8) v = true) (hl : 8 < fs.length) (hd : decode cc pc = .ok (.putfield 40, 3)) (kk : J Θ cc (upA h a (.inr (0, fs.set 8 v))) k lv (pc + 3) st) : J Θ cc h k lv pc (v :: .ref a :: st) :=
  j_put (C := RX0) (T := TX0) (N := 9) (fk := 8) he rfl inX0 tyX0 tyX0_ok nmX0 (by decide) (by rw [hM]; exact wf_X3_40) rfl (tyX0_ok 8 (by decide)) hn hf hl hd kk
theorem gX3_45 (hM : Θ.2.2.1.1.cls = RX3) {a : Nat} {fs : List Value} {v : Value} (he : h a = some (.inr (0, fs))) (hv : fs[7]? = some v) (hd : decode cc pc = .ok (.getfield 45, 3)) (kk : J Θ cc h k lv (pc + 3) (v :: st)) : J Θ cc h k lv pc (.ref a :: st) :=
  j_get (C := RX0) (T := TX0) (N := 9) (fk := 7) he rfl inX0 (by decide) (by rw [hM]; exact wf_X3_45) hv hd kk
theorem pX3_45 (hM : Θ.2.2.1.1.cls = RX3) {a : Nat} {fs : List Value} {v : Value} (he : h a = some (.inr (0, fs))) (hn : narrow (tyX0 7) v = v) (hf : fits (tyX0 7) v = true) (hl : 7 < fs.length) (hd : decode cc pc = .ok (.putfield 45, 3)) (kk : J Θ cc (upA h a (.inr (0, fs.set 7 v))) k lv (pc + 3) st) : J Θ cc h k lv pc (v :: .ref a :: st) :=
  j_put (C := RX0) (T := TX0) (N := 9) (fk := 7) he rfl inX0 tyX0 tyX0_ok nmX0 (by decide) (by rw [hM]; exact wf_X3_45) rfl (tyX0_ok 7 (by decide)) hn hf hl hd kk
theorem gX3_48 (hM : Θ.2.2.1.1.cls = RX3) {a : Nat} {fs : List Value} {v : Value} (he : h a = some (.inr (0, fs))) (hv : fs[6]? = some v) (hd : decode cc pc = .ok (.getfield 48, 3)) (kk : J Θ cc h k lv (pc + 3) (v :: st)) : J Θ cc h k lv pc (.ref a :: st) :=
  j_get (C := RX0) (T := TX0) (N := 9) (fk := 6) he rfl inX0 (by decide) (by rw [hM]; exact wf_X3_48) hv hd kk
theorem gX5_7 (hM : Θ.2.2.1.1.cls = RX5) {a : Nat} {fs : List Value} {v : Value} (he : h a = some (.inr (5, fs))) (hv : fs[1]? = some v) (hd : decode cc pc = .ok (.getfield 7, 3)) (kk : J Θ cc h k lv (pc + 3) (v :: st)) : J Θ cc h k lv pc (.ref a :: st) :=
  j_get (C := RX5) (T := TX5) (N := 33) (fk := 1) he rfl inX5 (by decide) (by rw [hM]; exact wf_X5_7) hv hd kk
theorem pX5_7 (hM : Θ.2.2.1.1.cls = RX5) (hi : Θ.2.2.1.1.name = "<init>") {a : Nat} {fs : List Value} {v : Value} (he : h a = some (.inr (5, fs))) (hn : narrow (tyX5 1) v = v) (hf : fits (tyX5 1) v = true) (hl : 1 < fs.length) (hd : decode cc pc = .ok (.putfield 7, 3)) (kk : J Θ cc (upA h a (.inr (5, fs.set 1 v))) k lv (pc + 3) st) : J Θ cc h k lv pc (v :: .ref a :: st) :=
  j_putF (C := RX5) (T := TX5) (N := 33) (fk := 1) he rfl inX5 tyX5 tyX5_ok nmX5 (by decide) (by rw [hM]; exact wf_X5_7) rfl hi (by rw [hM]; rfl) (tyX5_ok 1 (by decide)) hn hf hl hd kk
theorem gX5_13 (hM : Θ.2.2.1.1.cls = RX5) {a : Nat} {fs : List Value} {v : Value} (he : h a = some (.inr (5, fs))) (hv : fs[2]? = some v) (hd : decode cc pc = .ok (.getfield 13, 3)) (kk : J Θ cc h k lv (pc + 3) (v :: st)) : J Θ cc h k lv pc (.ref a :: st) :=
  j_get (C := RX5) (T := TX5) (N := 33) (fk := 2) he rfl inX5 (by decide) (by rw [hM]; exact wf_X5_13) hv hd kk
theorem pX5_13 (hM : Θ.2.2.1.1.cls = RX5) (hi : Θ.2.2.1.1.name = "<init>") {a : Nat} {fs : List Value} {v : Value} (he : h a = some (.inr (5, fs))) (hn : narrow (tyX5 2) v = v) (hf : fits (tyX5 2) v = true) (hl : 2 < fs.length) (hd : decode cc pc = .ok (.putfield 13, 3)) (kk : J Θ cc (upA h a (.inr (5, fs.set 2 v))) k lv (pc + 3) st) : J Θ cc h k lv pc (v :: .ref a :: st) :=
  j_putF (C := RX5) (T := TX5) (N := 33) (fk := 2) he rfl inX5 tyX5 tyX5_ok nmX5 (by decide) (by rw [hM]; exact wf_X5_13) rfl hi (by rw [hM]; rfl) (tyX5_ok 2 (by decide)) hn hf hl hd kk
theorem gX5_16 (hM : Θ.2.2.1.1.cls = RX5) {a : Nat} {fs : List Value} {v : Value} (he : h a = some (.inr (5, fs))) (hv : fs[3]? = some v) (hd : decode cc pc = .ok (.getfield 16, 3)) (kk : J Θ cc h k lv (pc + 3) (v :: st)) : J Θ cc h k lv pc (.ref a :: st) :=
  j_get (C := RX5) (T := TX5) (N := 33) (fk := 3) he rfl inX5 (by decide) (by rw [hM]; exact wf_X5_16) hv hd kk
theorem pX5_16 (hM : Θ.2.2.1.1.cls = RX5) (hi : Θ.2.2.1.1.name = "<init>") {a : Nat} {fs : List Value} {v : Value} (he : h a = some (.inr (5, fs))) (hn : narrow (tyX5 3) v = v) (hf : fits (tyX5 3) v = true) (hl : 3 < fs.length) (hd : decode cc pc = .ok (.putfield 16, 3)) (kk : J Θ cc (upA h a (.inr (5, fs.set 3 v))) k lv (pc + 3) st) : J Θ cc h k lv pc (v :: .ref a :: st) :=
  j_putF (C := RX5) (T := TX5) (N := 33) (fk := 3) he rfl inX5 tyX5 tyX5_ok nmX5 (by decide) (by rw [hM]; exact wf_X5_16) rfl hi (by rw [hM]; rfl) (tyX5_ok 3 (by decide)) hn hf hl hd kk
theorem gX5_19 (hM : Θ.2.2.1.1.cls = RX5) {a : Nat} {fs : List Value} {v : Value} (he : h a = some (.inr (5, fs))) (hv : fs[4]? = some v) (hd : decode cc pc = .ok (.getfield 19, 3)) (kk : J Θ cc h k lv (pc + 3) (v :: st)) : J Θ cc h k lv pc (.ref a :: st) :=
  j_get (C := RX5) (T := TX5) (N := 33) (fk := 4) he rfl inX5 (by decide) (by rw [hM]; exact wf_X5_19) hv hd kk
theorem pX5_19 (hM : Θ.2.2.1.1.cls = RX5) (hi : Θ.2.2.1.1.name = "<init>") {a : Nat} {fs : List Value} {v : Value} (he : h a = some (.inr (5, fs))) (hn : narrow (tyX5 4) v = v) (hf : fits (tyX5 4) v = true) (hl : 4 < fs.length) (hd : decode cc pc = .ok (.putfield 19, 3)) (kk : J Θ cc (upA h a (.inr (5, fs.set 4 v))) k lv (pc + 3) st) : J Θ cc h k lv pc (v :: .ref a :: st) :=
  j_putF (C := RX5) (T := TX5) (N := 33) (fk := 4) he rfl inX5 tyX5 tyX5_ok nmX5 (by decide) (by rw [hM]; exact wf_X5_19) rfl hi (by rw [hM]; rfl) (tyX5_ok 4 (by decide)) hn hf hl hd kk
theorem gX5_22 (hM : Θ.2.2.1.1.cls = RX5) {a : Nat} {fs : List Value} {v : Value} (he : h a = some (.inr (5, fs))) (hv : fs[5]? = some v) (hd : decode cc pc = .ok (.getfield 22, 3)) (kk : J Θ cc h k lv (pc + 3) (v :: st)) : J Θ cc h k lv pc (.ref a :: st) :=
  j_get (C := RX5) (T := TX5) (N := 33) (fk := 5) he rfl inX5 (by decide) (by rw [hM]; exact wf_X5_22) hv hd kk
theorem pX5_22 (hM : Θ.2.2.1.1.cls = RX5) (hi : Θ.2.2.1.1.name = "<init>") {a : Nat} {fs : List Value} {v : Value} (he : h a = some (.inr (5, fs))) (hn : narrow (tyX5 5) v = v) (hf : fits (tyX5 5) v = true) (hl : 5 < fs.length) (hd : decode cc pc = .ok (.putfield 22, 3)) (kk : J Θ cc (upA h a (.inr (5, fs.set 5 v))) k lv (pc + 3) st) : J Θ cc h k lv pc (v :: .ref a :: st) :=
  j_putF (C := RX5) (T := TX5) (N := 33) (fk := 5) he rfl inX5 tyX5 tyX5_ok nmX5 (by decide) (by rw [hM]; exact wf_X5_22) rfl hi (by rw [hM]; rfl) (tyX5_ok 5 (by decide)) hn hf hl hd kk
theorem gX5_25 (hM : Θ.2.2.1.1.cls = RX5) {a : Nat} {fs : List Value} {v : Value} (he : h a = some (.inr (5, fs))) (hv : fs[6]? = some v) (hd : decode cc pc = .ok (.getfield 25, 3)) (kk : J Θ cc h k lv (pc + 3) (v :: st)) : J Θ cc h k lv pc (.ref a :: st) :=
  j_get (C := RX5) (T := TX5) (N := 33) (fk := 6) he rfl inX5 (by decide) (by rw [hM]; exact wf_X5_25) hv hd kk
theorem pX5_25 (hM : Θ.2.2.1.1.cls = RX5) (hi : Θ.2.2.1.1.name = "<init>") {a : Nat} {fs : List Value} {v : Value} (he : h a = some (.inr (5, fs))) (hn : narrow (tyX5 6) v = v) (hf : fits (tyX5 6) v = true) (hl : 6 < fs.length) (hd : decode cc pc = .ok (.putfield 25, 3)) (kk : J Θ cc (upA h a (.inr (5, fs.set 6 v))) k lv (pc + 3) st) : J Θ cc h k lv pc (v :: .ref a :: st) :=
  j_putF (C := RX5) (T := TX5) (N := 33) (fk := 6) he rfl inX5 tyX5 tyX5_ok nmX5 (by decide) (by rw [hM]; exact wf_X5_25) rfl hi (by rw [hM]; rfl) (tyX5_ok 6 (by decide)) hn hf hl hd kk
theorem gX5_28 (hM : Θ.2.2.1.1.cls = RX5) {a : Nat} {fs : List Value} {v : Value} (he : h a = some (.inr (5, fs))) (hv : fs[8]? = some v) (hd : decode cc pc = .ok (.getfield 28, 3)) (kk : J Θ cc h k lv (pc + 3) (v :: st)) : J Θ cc h k lv pc (.ref a :: st) :=
  j_get (C := RX5) (T := TX5) (N := 33) (fk := 8) he rfl inX5 (by decide) (by rw [hM]; exact wf_X5_28) hv hd kk
theorem pX5_28 (hM : Θ.2.2.1.1.cls = RX5) (hi : Θ.2.2.1.1.name = "<init>") {a : Nat} {fs : List Value} {v : Value} (he : h a = some (.inr (5, fs))) (hn : narrow (tyX5 8) v = v) (hf : fits (tyX5 8) v = true) (hl : 8 < fs.length) (hd : decode cc pc = .ok (.putfield 28, 3)) (kk : J Θ cc (upA h a (.inr (5, fs.set 8 v))) k lv (pc + 3) st) : J Θ cc h k lv pc (v :: .ref a :: st) :=
  j_putF (C := RX5) (T := TX5) (N := 33) (fk := 8) he rfl inX5 tyX5 tyX5_ok nmX5 (by decide) (by rw [hM]; exact wf_X5_28) rfl hi (by rw [hM]; rfl) (tyX5_ok 8 (by decide)) hn hf hl hd kk
theorem gX5_31 (hM : Θ.2.2.1.1.cls = RX5) {a : Nat} {fs : List Value} {v : Value} (he : h a = some (.inr (5, fs))) (hv : fs[9]? = some v) (hd : decode cc pc = .ok (.getfield 31, 3)) (kk : J Θ cc h k lv (pc + 3) (v :: st)) : J Θ cc h k lv pc (.ref a :: st) :=
  j_get (C := RX5) (T := TX5) (N := 33) (fk := 9) he rfl inX5 (by decide) (by rw [hM]; exact wf_X5_31) hv hd kk
theorem pX5_31 (hM : Θ.2.2.1.1.cls = RX5) (hi : Θ.2.2.1.1.name = "<init>") {a : Nat} {fs : List Value} {v : Value} (he : h a = some (.inr (5, fs))) (hn : narrow (tyX5 9) v = v) (hf : fits (tyX5 9) v = true) (hl : 9 < fs.length) (hd : decode cc pc = .ok (.putfield 31, 3)) (kk : J Θ cc (upA h a (.inr (5, fs.set 9 v))) k lv (pc + 3) st) : J Θ cc h k lv pc (v :: .ref a :: st) :=
  j_putF (C := RX5) (T := TX5) (N := 33) (fk := 9) he rfl inX5 tyX5 tyX5_ok nmX5 (by decide) (by rw [hM]; exact wf_X5_31) rfl hi (by rw [hM]; rfl) (tyX5_ok 9 (by decide)) hn hf hl hd kk
theorem gX5_34 (hM : Θ.2.2.1.1.cls = RX5) {a : Nat} {fs : List Value} {v : Value} (he : h a = some (.inr (5, fs))) (hv : fs[10]? = some v) (hd : decode cc pc = .ok (.getfield 34, 3)) (kk : J Θ cc h k lv (pc + 3) (v :: st)) : J Θ cc h k lv pc (.ref a :: st) :=
  j_get (C := RX5) (T := TX5) (N := 33) (fk := 10) he rfl inX5 (by decide) (by rw [hM]; exact wf_X5_34) hv hd kk
theorem pX5_34 (hM : Θ.2.2.1.1.cls = RX5) (hi : Θ.2.2.1.1.name = "<init>") {a : Nat} {fs : List Value} {v : Value} (he : h a = some (.inr (5, fs))) (hn : narrow (tyX5 10) v = v) (hf : fits (tyX5 10) v = true) (hl : 10 < fs.length) (hd : decode cc pc = .ok (.putfield 34, 3)) (kk : J Θ cc (upA h a (.inr (5, fs.set 10 v))) k lv (pc + 3) st) : J Θ cc h k lv pc (v :: .ref a :: st) :=
  j_putF (C := RX5) (T := TX5) (N := 33) (fk := 10) he rfl inX5 tyX5 tyX5_ok nmX5 (by decide) (by rw [hM]; exact wf_X5_34) rfl hi (by rw [hM]; rfl) (tyX5_ok 10 (by decide)) hn hf hl hd kk
theorem gX5_37 (hM : Θ.2.2.1.1.cls = RX5) {a : Nat} {fs : List Value} {v : Value} (he : h a = some (.inr (5, fs))) (hv : fs[11]? = some v) (hd : decode cc pc = .ok (.getfield 37, 3)) (kk : J Θ cc h k lv (pc + 3) (v :: st)) : J Θ cc h k lv pc (.ref a :: st) :=
  j_get (C := RX5) (T := TX5) (N := 33) (fk := 11) he rfl inX5 (by decide) (by rw [hM]; exact wf_X5_37) hv hd kk
theorem pX5_37 (hM : Θ.2.2.1.1.cls = RX5) (hi : Θ.2.2.1.1.name = "<init>") {a : Nat} {fs : List Value} {v : Value} (he : h a = some (.inr (5, fs))) (hn : narrow (tyX5 11) v = v) (hf : fits (tyX5 11) v = true) (hl : 11 < fs.length) (hd : decode cc pc = .ok (.putfield 37, 3)) (kk : J Θ cc (upA h a (.inr (5, fs.set 11 v))) k lv (pc + 3) st) : J Θ cc h k lv pc (v :: .ref a :: st) :=
  j_putF (C := RX5) (T := TX5) (N := 33) (fk := 11) he rfl inX5 tyX5 tyX5_ok nmX5 (by decide) (by rw [hM]; exact wf_X5_37) rfl hi (by rw [hM]; rfl) (tyX5_ok 11 (by decide)) hn hf hl hd kk
theorem gX5_40 (hM : Θ.2.2.1.1.cls = RX5) {a : Nat} {fs : List Value} {v : Value} (he : h a = some (.inr (5, fs))) (hv : fs[12]? = some v) (hd : decode cc pc = .ok (.getfield 40, 3)) (kk : J Θ cc h k lv (pc + 3) (v :: st)) : J Θ cc h k lv pc (.ref a :: st) :=
  j_get (C := RX5) (T := TX5) (N := 33) (fk := 12) he rfl inX5 (by decide) (by rw [hM]; exact wf_X5_40) hv hd kk
theorem pX5_40 (hM : Θ.2.2.1.1.cls = RX5) (hi : Θ.2.2.1.1.name = "<init>") {a : Nat} {fs : List Value} {v : Value} (he : h a = some (.inr (5, fs))) (hn : narrow (tyX5 12) v = v) (hf : fits (tyX5 12) v = true) (hl : 12 < fs.length) (hd : decode cc pc = .ok (.putfield 40, 3)) (kk : J Θ cc (upA h a (.inr (5, fs.set 12 v))) k lv (pc + 3) st) : J Θ cc h k lv pc (v :: .ref a :: st) :=
  j_putF (C := RX5) (T := TX5) (N := 33) (fk := 12) he rfl inX5 tyX5 tyX5_ok nmX5 (by decide) (by rw [hM]; exact wf_X5_40) rfl hi (by rw [hM]; rfl) (tyX5_ok 12 (by decide)) hn hf hl hd kk
theorem gX5_43 (hM : Θ.2.2.1.1.cls = RX5) {a : Nat} {fs : List Value} {v : Value} (he : h a = some (.inr (5, fs))) (hv : fs[13]? = some v) (hd : decode cc pc = .ok (.getfield 43, 3)) (kk : J Θ cc h k lv (pc + 3) (v :: st)) : J Θ cc h k lv pc (.ref a :: st) :=
  j_get (C := RX5) (T := TX5) (N := 33) (fk := 13) he rfl inX5 (by decide) (by rw [hM]; exact wf_X5_43) hv hd kk
theorem pX5_43 (hM : Θ.2.2.1.1.cls = RX5) (hi : Θ.2.2.1.1.name = "<init>") {a : Nat} {fs : List Value} {v : Value} (he : h a = some (.inr (5, fs))) (hn : narrow (tyX5 13) v = v) (hf : fits (tyX5 13) v = true) (hl : 13 < fs.length) (hd : decode cc pc = .ok (.putfield 43, 3)) (kk : J Θ cc (upA h a (.inr (5, fs.set 13 v))) k lv (pc + 3) st) : J Θ cc h k lv pc (v :: .ref a :: st) :=
  j_putF (C := RX5) (T := TX5) (N := 33) (fk := 13) he rfl inX5 tyX5 tyX5_ok nmX5 (by decide) (by rw [hM]; exact wf_X5_43) rfl hi (by rw [hM]; rfl) (tyX5_ok 13 (by decide)) hn hf hl hd kk
theorem gX5_46 (hM : Θ.2.2.1.1.cls = RX5) {a : Nat} {fs : List Value} {v : Value} (he : h a = some (.inr (5, fs))) (hv : fs[14]? = some v) (hd : decode cc pc = .ok (.getfield 46, 3)) (kk : J Θ cc h k lv (pc + 3) (v :: st)) : J Θ cc h k lv pc (.ref a :: st) :=
  j_get (C := RX5) (T := TX5) (N := 33) (fk := 14) he rfl inX5 (by decide) (by rw [hM]; exact wf_X5_46) hv hd kk
theorem pX5_46 (hM : Θ.2.2.1.1.cls = RX5) (hi : Θ.2.2.1.1.name = "<init>") {a : Nat} {fs : List Value} {v : Value} (he : h a = some (.inr (5, fs))) (hn : narrow (tyX5 14) v = v) (hf : fits (tyX5 14) v = true) (hl : 14 < fs.length) (hd : decode cc pc = .ok (.putfield 46, 3)) (kk : J Θ cc (upA h a (.inr (5, fs.set 14 v))) k lv (pc + 3) st) : J Θ cc h k lv pc (v :: .ref a :: st) :=
  j_putF (C := RX5) (T := TX5) (N := 33) (fk := 14) he rfl inX5 tyX5 tyX5_ok nmX5 (by decide) (by rw [hM]; exact wf_X5_46) rfl hi (by rw [hM]; rfl) (tyX5_ok 14 (by decide)) hn hf hl hd kk
theorem gX5_49 (hM : Θ.2.2.1.1.cls = RX5) {a : Nat} {fs : List Value} {v : Value} (he : h a = some (.inr (5, fs))) (hv : fs[15]? = some v) (hd : decode cc pc = .ok (.getfield 49, 3)) (kk : J Θ cc h k lv (pc + 3) (v :: st)) : J Θ cc h k lv pc (.ref a :: st) :=
  j_get (C := RX5) (T := TX5) (N := 33) (fk := 15) he rfl inX5 (by decide) (by rw [hM]; exact wf_X5_49) hv hd kk
theorem pX5_49 (hM : Θ.2.2.1.1.cls = RX5) (hi : Θ.2.2.1.1.name = "<init>") {a : Nat} {fs : List Value} {v : Value} (he : h a = some (.inr (5, fs))) (hn : narrow (tyX5 15) v = v) (hf : fits (tyX5 15) v = true) (hl : 15 < fs.length) (hd : decode cc pc = .ok (.putfield 49, 3)) (kk : J Θ cc (upA h a (.inr (5, fs.set 15 v))) k lv (pc + 3) st) : J Θ cc h k lv pc (v :: .ref a :: st) :=
  j_putF (C := RX5) (T := TX5) (N := 33) (fk := 15) he rfl inX5 tyX5 tyX5_ok nmX5 (by decide) (by rw [hM]; exact wf_X5_49) rfl hi (by rw [hM]; rfl) (tyX5_ok 15 (by decide)) hn hf hl hd kk
theorem gX5_53 (hM : Θ.2.2.1.1.cls = RX5) {a : Nat} {fs : List Value} {v : Value} (he : h a = some (.inr (5, fs))) (hv : fs[16]? = some v) (hd : decode cc pc = .ok (.getfield 53, 3)) (kk : J Θ cc h k lv (pc + 3) (v :: st)) : J Θ cc h k lv pc (.ref a :: st) :=
  j_get (C := RX5) (T := TX5) (N := 33) (fk := 16) he rfl inX5 (by decide) (by rw [hM]; exact wf_X5_53) hv hd kk
theorem pX5_53 (hM : Θ.2.2.1.1.cls = RX5) (hi : Θ.2.2.1.1.name = "<init>") {a : Nat} {fs : List Value} {v : Value} (he : h a = some (.inr (5, fs))) (hn : narrow (tyX5 16) v = v) (hf : fits (tyX5 16) v = true) (hl : 16 < fs.length) (hd : decode cc pc = .ok (.putfield 53, 3)) (kk : J Θ cc (upA h a (.inr (5, fs.set 16 v))) k lv (pc + 3) st) : J Θ cc h k lv pc (v :: .ref a :: st) :=
  j_putF (C := RX5) (T := TX5) (N := 33) (fk := 16) he rfl inX5 tyX5 tyX5_ok nmX5 (by decide) (by rw [hM]; exact wf_X5_53) rfl hi (by rw [hM]; rfl) (tyX5_ok 16 (by decide)) hn hf hl hd kk
theorem gX5_56 (hM : Θ.2.2.1.1.cls = RX5) {a : Nat} {fs : List Value} {v : Value} (he : h a = some (.inr (5, fs))) (hv : fs[17]? = some v) (hd : decode cc pc = .ok (.getfield 56, 3)) (kk : J Θ cc h k lv (pc + 3) (v :: st)) : J Θ cc h k lv pc (.ref a :: st) :=
  j_get (C := RX5) (T := TX5) (N := 33) (fk := 17) he rfl inX5 (by decide) (by rw [hM]; exact wf_X5_56) hv hd kk
theorem pX5_56 (hM : Θ.2.2.1.1.cls = RX5) (hi : Θ.2.2.1.1.name = "<init>") {a : Nat} {fs : List Value} {v : Value} (he : h a = some (.inr (5, fs))) (hn : narrow (tyX5 17) v = v) (hf : fits (tyX5 17) v = true) (hl : 17 < fs.length) (hd : decode cc pc = .ok (.putfield 56, 3)) (kk : J Θ cc (upA h a (.inr (5, fs.set 17 v))) k lv (pc + 3) st) : J Θ cc h k lv pc (v :: .ref a :: st) :=
  j_putF (C := RX5) (T := TX5) (N := 33) (fk := 17) he rfl inX5 tyX5 tyX5_ok nmX5 (by decide) (by rw [hM]; exact wf_X5_56) rfl hi (by rw [hM]; rfl) (tyX5_ok 17 (by decide)) hn hf hl hd kk
theorem gX5_59 (hM : Θ.2.2.1.1.cls = RX5) {a : Nat} {fs : List Value} {v : Value} (he : h a = some (.inr (5, fs))) (hv : fs[21]? = some v) (hd : decode cc pc = .ok (.getfield 59, 3)) (kk : J Θ cc h k lv (pc + 3) (v :: st)) : J Θ cc h k lv pc (.ref a :: st) :=
  j_get (C := RX5) (T := TX5) (N := 33) (fk := 21) he rfl inX5 (by decide) (by rw [hM]; exact wf_X5_59) hv hd kk
theorem pX5_59 (hM : Θ.2.2.1.1.cls = RX5) (hi : Θ.2.2.1.1.name = "<init>") {a : Nat} {fs : List Value} {v : Value} (he : h a = some (.inr (5, fs))) (hn : narrow (tyX5 21) v = v) (hf : fits (tyX5 21) v = true) (hl : 21 < fs.length) (hd : decode cc pc = .ok (.putfield 59, 3)) (kk : J Θ cc (upA h a (.inr (5, fs.set 21 v))) k lv (pc + 3) st) : J Θ cc h k lv pc (v :: .ref a :: st) :=
  j_putF (C := RX5) (T := TX5) (N := 33) (fk := 21) he rfl inX5 tyX5 tyX5_ok nmX5 (by decide) (by rw [hM]; exact wf_X5_59) rfl hi (by rw [hM]; rfl) (tyX5_ok 21 (by decide)) hn hf hl hd kk
theorem gX5_62 (hM : Θ.2.2.1.1.cls = RX5) {a : Nat} {fs : List Value} {v : Value} (he : h a = some (.inr (5, fs))) (hv : fs[22]? = some v) (hd : decode cc pc = .ok (.getfield 62, 3)) (kk : J Θ cc h k lv (pc + 3) (v :: st)) : J Θ cc h k lv pc (.ref a :: st) :=
  j_get (C := RX5) (T := TX5) (N := 33) (fk := 22) he rfl inX5 (by decide) (by rw [hM]; exact wf_X5_62) hv hd kk
theorem pX5_62 (hM : Θ.2.2.1.1.cls = RX5) (hi : Θ.2.2.1.1.name = "<init>") {a : Nat} {fs : List Value} {v : Value} (he : h a = some (.inr (5, fs))) (hn : narrow (tyX5 22) v = v) (hf : fits (tyX5 22) v = true) (hl : 22 < fs.length) (hd : decode cc pc = .ok (.putfield 62, 3)) (kk : J Θ cc (upA h a (.inr (5, fs.set 22 v))) k lv (pc + 3) st) : J Θ cc h k lv pc (v :: .ref a :: st) :=
  j_putF (C := RX5) (T := TX5) (N := 33) (fk := 22) he rfl inX5 tyX5 tyX5_ok nmX5 (by decide) (by rw [hM]; exact wf_X5_62) rfl hi (by rw [hM]; rfl) (tyX5_ok 22 (by decide)) hn hf hl hd kk
theorem gX5_65 (hM : Θ.2.2.1.1.cls = RX5) {a : Nat} {fs : List Value} {v : Value} (he : h a = some (.inr (5, fs))) (hv : fs[24]? = some v) (hd : decode cc pc = .ok (.getfield 65, 3)) (kk : J Θ cc h k lv (pc + 3) (v :: st)) : J Θ cc h k lv pc (.ref a :: st) :=
  j_get (C := RX5) (T := TX5) (N := 33) (fk := 24) he rfl inX5 (by decide) (by rw [hM]; exact wf_X5_65) hv hd kk
theorem pX5_65 (hM : Θ.2.2.1.1.cls = RX5) (hi : Θ.2.2.1.1.name = "<init>") {a : Nat} {fs : List Value} {v : Value} (he : h a = some (.inr (5, fs))) (hn : narrow (tyX5 24) v = v) (hf : fits (tyX5 24) v = true) (hl : 24 < fs.length) (hd : decode cc pc = .ok (.putfield 65, 3)) (kk : J Θ cc (upA h a (.inr (5, fs.set 24 v))) k lv (pc + 3) st) : J Θ cc h k lv pc (v :: .ref a :: st) :=
  j_putF (C := RX5) (T := TX5) (N := 33) (fk := 24) he rfl inX5 tyX5 tyX5_ok nmX5 (by decide) (by rw [hM]; exact wf_X5_65) rfl hi (by rw [hM]; rfl) (tyX5_ok 24 (by decide)) hn hf hl hd kk
theorem gX5_68 (hM : Θ.2.2.1.1.cls = RX5) {a : Nat} {fs : List Value} {v : Value} (he : h a = some (.inr (5, fs))) (hv : fs[26]? = some v) (hd : decode cc pc = .ok (.getfield 68, 3)) (kk : J Θ cc h k lv (pc + 3) (v :: st)) : J Θ cc h k lv pc (.ref a :: st) :=
  j_get (C := RX5) (T := TX5) (N := 33) (fk := 26) he rfl inX5 (by decide) (by rw [hM]; exact wf_X5_68) hv hd kk
theorem pX5_68 (hM : Θ.2.2.1.1.cls = RX5) (hi : Θ.2.2.1.1.name = "<init>") {a : Nat} {fs : List Value} {v : Value} (he : h a = some (.inr (5, fs))) (hn : narrow (tyX5 26) v = v) (hf : fits (tyX5 26) v = true) (hl : 26 < fs.length) (hd : decode cc pc = .ok (.putfield 68, 3)) (kk : J Θ cc (upA h a (.inr (5, fs.set 26 v))) k lv (pc + 3) st) : J Θ cc h k lv pc (v :: .ref a :: st) :=
  j_putF (C := RX5) (T := TX5) (N := 33) (fk := 26) he rfl inX5 tyX5 tyX5_ok nmX5 (by decide) (by rw [hM]; exact wf_X5_68) rfl hi (by rw [hM]; rfl) (tyX5_ok 26 (by decide)) hn hf hl hd kk
theorem gX5_71 (hM : Θ.2.2.1.1.cls = RX5) {a : Nat} {fs : List Value} {v : Value} (he : h a = some (.inr (5, fs))) (hv : fs[28]? = some v) (hd : decode cc pc = .ok (.getfield 71, 3)) (kk : J Θ cc h k lv (pc + 3) (v :: st)) : J Θ cc h k lv pc (.ref a :: st) :=
  j_get (C := RX5) (T := TX5) (N := 33) (fk := 28) he rfl inX5 (by decide) (by rw [hM]; exact wf_X5_71) hv hd kk
theorem pX5_71 (hM : Θ.2.2.1.1.cls = RX5) (hi : Θ.2.2.1.1.name = "<init>") {a : Nat} {fs : List Value} {v : Value} (he : h a = some (.inr (5, fs))) (hn : narrow (tyX5 28) v = v) (hf : fits (tyX5 28) v = true) (hl : 28 < fs.length) (hd : decode cc pc = .ok (.putfield 71, 3)) (kk : J Θ cc (upA h a (.inr (5, fs.set 28 v))) k lv (pc + 3) st) : J Θ cc h k lv pc (v :: .ref a :: st) :=
  j_putF (C := RX5) (T := TX5) (N := 33) (fk := 28) he rfl inX5 tyX5 tyX5_ok nmX5 (by decide) (by rw [hM]; exact wf_X5_71) rfl hi (by rw [hM]; rfl) (tyX5_ok 28 (by decide)) hn hf hl hd kk
theorem gX5_74 (hM : Θ.2.2.1.1.cls = RX5) {a : Nat} {fs : List Value} {v : Value} (he : h a = some (.inr (5, fs))) (hv : fs[29]? = some v) (hd : decode cc pc = .ok (.getfield 74, 3)) (kk : J Θ cc h k lv (pc + 3) (v :: st)) : J Θ cc h k lv pc (.ref a :: st) :=
  j_get (C := RX5) (T := TX5) (N := 33) (fk := 29) he rfl inX5 (by decide) (by rw [hM]; exact wf_X5_74) hv hd kk
theorem pX5_74 (hM : Θ.2.2.1.1.cls = RX5) (hi : Θ.2.2.1.1.name = "<init>") {a : Nat} {fs : List Value} {v : Value} (he : h a = some (.inr (5, fs))) (hn : narrow (tyX5 29) v = v) (hf : fits (tyX5 29) v = true) (hl : 29 < fs.length) (hd : decode cc pc = .ok (.putfield 74, 3)) (kk : J Θ cc (upA h a (.inr (5, fs.set 29 v))) k lv (pc + 3) st) : J Θ cc h k lv pc (v :: .ref a :: st) :=
  j_putF (C := RX5) (T := TX5) (N := 33) (fk := 29) he rfl inX5 tyX5 tyX5_ok nmX5 (by decide) (by rw [hM]; exact wf_X5_74) rfl hi (by rw [hM]; rfl) (tyX5_ok 29 (by decide)) hn hf hl hd kk
theorem gX5_77 (hM : Θ.2.2.1.1.cls = RX5) {a : Nat} {fs : List Value} {v : Value} (he : h a = some (.inr (5, fs))) (hv : fs[30]? = some v) (hd : decode cc pc = .ok (.getfield 77, 3)) (kk : J Θ cc h k lv (pc + 3) (v :: st)) : J Θ cc h k lv pc (.ref a :: st) :=
  j_get (C := RX5) (T := TX5) (N := 33) (fk := 30) he rfl inX5 (by decide) (by rw [hM]; exact wf_X5_77) hv hd kk
theorem pX5_77 (hM : Θ.2.2.1.1.cls = RX5) (hi : Θ.2.2.1.1.name = "<init>") {a : Nat} {fs : List Value} {v : Value} (he : h a = some (.inr (5, fs))) (hn : narrow (tyX5 30) v = v) (hf : fits (tyX5 30) v = true) (hl : 30 < fs.length) (hd : decode cc pc = .ok (.putfield 77, 3)) (kk : J Θ cc (upA h a (.inr (5, fs.set 30 v))) k lv (pc + 3) st) : J Θ cc h k lv pc (v :: .ref a :: st) :=
  j_putF (C := RX5) (T := TX5) (N := 33) (fk := 30) he rfl inX5 tyX5 tyX5_ok nmX5 (by decide) (by rw [hM]; exact wf_X5_77) rfl hi (by rw [hM]; rfl) (tyX5_ok 30 (by decide)) hn hf hl hd kk
theorem gX5_80 (hM : Θ.2.2.1.1.cls = RX5) {a : Nat} {fs : List Value} {v : Value} (he : h a = some (.inr (5, fs))) (hv : fs[31]? = some v) (hd : decode cc pc = .ok (.getfield 80, 3)) (kk : J Θ cc h k lv (pc + 3) (v :: st)) : J Θ cc h k lv pc (.ref a :: st) :=
  j_get (C := RX5) (T := TX5) (N := 33) (fk := 31) he rfl inX5 (by decide) (by rw [hM]; exact wf_X5_80) hv hd kk
theorem pX5_80 (hM : Θ.2.2.1.1.cls = RX5) (hi : Θ.2.2.1.1.name = "<init>") {a : Nat} {fs : List Value} {v : Value} (he : h a = some (.inr (5, fs))) (hn : narrow (tyX5 31) v = v) (hf : fits (tyX5 31) v = true) (hl : 31 < fs.length) (hd : decode cc pc = .ok (.putfield 80, 3)) (kk : J Θ cc (upA h a (.inr (5, fs.set 31 v))) k lv (pc + 3) st) : J Θ cc h k lv pc (v :: .ref a :: st) :=
  j_putF (C := RX5) (T := TX5) (N := 33) (fk := 31) he rfl inX5 tyX5 tyX5_ok nmX5 (by decide) (by rw [hM]; exact wf_X5_80) rfl hi (by rw [hM]; rfl) (tyX5_ok 31 (by decide)) hn hf hl hd kk
theorem gX5_83 (hM : Θ.2.2.1.1.cls = RX5) {a : Nat} {fs : List Value} {v : Value} (he : h a = some (.inr (5, fs))) (hv : fs[32]? = some v) (hd : decode cc pc = .ok (.getfield 83, 3)) (kk : J Θ cc h k lv (pc + 3) (v :: st)) : J Θ cc h k lv pc (.ref a :: st) :=
  j_get (C := RX5) (T := TX5) (N := 33) (fk := 32) he rfl inX5 (by decide) (by rw [hM]; exact wf_X5_83) hv hd kk
theorem pX5_83 (hM : Θ.2.2.1.1.cls = RX5) (hi : Θ.2.2.1.1.name = "<init>") {a : Nat} {fs : List Value} {v : Value} (he : h a = some (.inr (5, fs))) (hn : narrow (tyX5 32) v = v) (hf : fits (tyX5 32) v = true) (hl : 32 < fs.length) (hd : decode cc pc = .ok (.putfield 83, 3)) (kk : J Θ cc (upA h a (.inr (5, fs.set 32 v))) k lv (pc + 3) st) : J Θ cc h k lv pc (v :: .ref a :: st) :=
  j_putF (C := RX5) (T := TX5) (N := 33) (fk := 32) he rfl inX5 tyX5 tyX5_ok nmX5 (by decide) (by rw [hM]; exact wf_X5_83) rfl hi (by rw [hM]; rfl) (tyX5_ok 32 (by decide)) hn hf hl hd kk
theorem gX5_86 (hM : Θ.2.2.1.1.cls = RX5) {a : Nat} {fs : List Value} {v : Value} (he : h a = some (.inr (5, fs))) (hv : fs[7]? = some v) (hd : decode cc pc = .ok (.getfield 86, 3)) (kk : J Θ cc h k lv (pc + 3) (v :: st)) : J Θ cc h k lv pc (.ref a :: st) :=
  j_get (C := RX5) (T := TX5) (N := 33) (fk := 7) he rfl inX5 (by decide) (by rw [hM]; exact wf_X5_86) hv hd kk
theorem pX5_86 (hM : Θ.2.2.1.1.cls = RX5) {a : Nat} {fs : List Value} {v : Value} (he : h a = some (.inr (5, fs))) (hn : narrow (tyX5 7) v = v) (hf : fits (tyX5 7) v = true) (hl : 7 < fs.length) (hd : decode cc pc = .ok (.putfield 86, 3)) (kk : J Θ cc (upA h a (.inr (5, fs.set 7 v))) k lv (pc + 3) st) : J Θ cc h k lv pc (v :: .ref a :: st) :=
  j_put (C := RX5) (T := TX5) (N := 33) (fk := 7) he rfl inX5 tyX5 tyX5_ok nmX5 (by decide) (by rw [hM]; exact wf_X5_86) rfl (tyX5_ok 7 (by decide)) hn hf hl hd kk
theorem gX5_94 (hM : Θ.2.2.1.1.cls = RX5) {a : Nat} {fs : List Value} {v : Value} (he : h a = some (.inr (5, fs))) (hv : fs[0]? = some v) (hd : decode cc pc = .ok (.getfield 94, 3)) (kk : J Θ cc h k lv (pc + 3) (v :: st)) : J Θ cc h k lv pc (.ref a :: st) :=
  j_get (C := RX5) (T := TX5) (N := 33) (fk := 0) he rfl inX5 (by decide) (by rw [hM]; exact wf_X5_94) hv hd kk
theorem pX5_94 (hM : Θ.2.2.1.1.cls = RX5) {a : Nat} {fs : List Value} {v : Value} (he : h a = some (.inr (5, fs))) (hn : narrow (tyX5 0) v = v) (hf : fits (tyX5 0) v = true) (hl : 0 < fs.length) (hd : decode cc pc = .ok (.putfield 94, 3)) (kk : J Θ cc (upA h a (.inr (5, fs.set 0 v))) k lv (pc + 3) st) : J Θ cc h k lv pc (v :: .ref a :: st) :=
  j_put (C := RX5) (T := TX5) (N := 33) (fk := 0) he rfl inX5 tyX5 tyX5_ok nmX5 (by decide) (by rw [hM]; exact wf_X5_94) rfl (tyX5_ok 0 (by decide)) hn hf hl hd kk
theorem gX5_98 (hM : Θ.2.2.1.1.cls = RX5) {a : Nat} {fs : List Value} {v : Value} (he : h a = some (.inr (5, fs))) (hv : fs[18]? = some v) (hd : decode cc pc = .ok (.getfield 98, 3)) (kk : J Θ cc h k lv (pc + 3) (v :: st)) : J Θ cc h k lv pc (.ref a :: st) :=
  j_get (C := RX5) (T := TX5) (N := 33) (fk := 18) he rfl inX5 (by decide) (by rw [hM]; exact wf_X5_98) hv hd kk
theorem pX5_98 (hM : Θ.2.2.1.1.cls = RX5) {a : Nat} {fs : List Value} {v : Value} (he : h a = some (.inr (5, fs))) (hn : narrow (tyX5 18) v = v) (hf : fits (tyX5 18) v = true) (hl : 18 < fs.length) (hd : decode cc pc = .ok (.putfield 98, 3)) (kk : J Θ cc (upA h a (.inr (5, fs.set 18 v))) k lv (pc + 3) st) : J Θ cc h k lv pc (v :: .ref a :: st) :=
  j_put (C := RX5) (T := TX5) (N := 33) (fk := 18) he rfl inX5 tyX5 tyX5_ok nmX5 (by decide) (by rw [hM]; exact wf_X5_98) rfl (tyX5_ok 18 (by decide)) hn hf hl hd kk
theorem gX5_102 (hM : Θ.2.2.1.1.cls = RX5) {a : Nat} {fs : List Value} {v : Value} (he : h a = some (.inr (5, fs))) (hv : fs[19]? = some v) (hd : decode cc pc = .ok (.getfield 102, 3)) (kk : J Θ cc h k lv (pc + 3) (v :: st)) : J Θ cc h k lv pc (.ref a :: st) :=
  j_get (C := RX5) (T := TX5) (N := 33) (fk := 19) he rfl inX5 (by decide) (by rw [hM]; exact wf_X5_102) hv hd kk
theorem pX5_102 (hM : Θ.2.2.1.1.cls = RX5) {a : Nat} {fs : List Value} {v : Value} (he : h a = some (.inr (5, fs))) (hn : narrow (tyX5 19) v = v) (hf : fits (tyX5 19) v = true) (hl : 19 < fs.length) (hd : decode cc pc = .ok (.putfield 102, 3)) (kk : J Θ cc (upA h a (.inr (5, fs.set 19 v))) k lv (pc + 3) st) : J Θ cc h k lv pc (v :: .ref a :: st) :=
  j_put (C := RX5) (T := TX5) (N := 33) (fk := 19) he rfl inX5 tyX5 tyX5_ok nmX5 (by decide) (by rw [hM]; exact wf_X5_102) rfl (tyX5_ok 19 (by decide)) hn hf hl hd kk
theorem gX5_105 (hM : Θ.2.2.1.1.cls = RX5) {a : Nat} {fs : List Value} {v : Value} (he : h a = some (.inr (5, fs))) (hv : fs[20]? = some v) (hd : decode cc pc = .ok (.getfield 105, 3)) (kk : J Θ cc h k lv (pc + 3) (v :: st)) : J Θ cc h k lv pc (.ref a :: st) :=
  j_get (C := RX5) (T := TX5) (N := 33) (fk := 20) he rfl inX5 (by decide) (by rw [hM]; exact wf_X5_105) hv hd kk
theorem pX5_105 (hM : Θ.2.2.1.1.cls = RX5) {a : Nat} {fs : List Value} {v : Value} (he : h a = some (.inr (5, fs))) (hn : narrow (tyX5 20) v = v) (hf : fits (tyX5 20) v = true) (hl : 20 < fs.length) (hd : decode cc pc = .ok (.putfield 105, 3)) (kk : J Θ cc (upA h a (.inr (5, fs.set 20 v))) k lv (pc + 3) st) : J Θ cc h k lv pc (v :: .ref a :: st) :=
  j_put (C := RX5) (T := TX5) (N := 33) (fk := 20) he rfl inX5 tyX5 tyX5_ok nmX5 (by decide) (by rw [hM]; exact wf_X5_105) rfl (tyX5_ok 20 (by decide)) hn hf hl hd kk
theorem gX5_140 (hM : Θ.2.2.1.1.cls = RX5) {a : Nat} {fs : List Value} {v : Value} (he : h a = some (.inr (5, fs))) (hv : fs[23]? = some v) (hd : decode cc pc = .ok (.getfield 140, 3)) (kk : J Θ cc h k lv (pc + 3) (v :: st)) : J Θ cc h k lv pc (.ref a :: st) :=
  j_get (C := RX5) (T := TX5) (N := 33) (fk := 23) he rfl inX5 (by decide) (by rw [hM]; exact wf_X5_140) hv hd kk
theorem pX5_140 (hM : Θ.2.2.1.1.cls = RX5) {a : Nat} {fs : List Value} {v : Value} (he : h a = some (.inr (5, fs))) (hn : narrow (tyX5 23) v = v) (hf : fits (tyX5 23) v = true) (hl : 23 < fs.length) (hd : decode cc pc = .ok (.putfield 140, 3)) (kk : J Θ cc (upA h a (.inr (5, fs.set 23 v))) k lv (pc + 3) st) : J Θ cc h k lv pc (v :: .ref a :: st) :=
  j_put (C := RX5) (T := TX5) (N := 33) (fk := 23) he rfl inX5 tyX5 tyX5_ok nmX5 (by decide) (by rw [hM]; exact wf_X5_140) rfl (tyX5_ok 23 (by decide)) hn hf hl hd kk
theorem gX5_143 (hM : Θ.2.2.1.1.cls = RX5) {a : Nat} {fs : List Value} {v : Value} (he : h a = some (.inr (5, fs))) (hv : fs[25]? = some v) (hd : decode cc pc = .ok (.getfield 143, 3)) (kk : J Θ cc h k lv (pc + 3) (v :: st)) : J Θ cc h k lv pc (.ref a :: st) :=
  j_get (C := RX5) (T := TX5) (N := 33) (fk := 25) he rfl inX5 (by decide) (by rw [hM]; exact wf_X5_143) hv hd kk
theorem pX5_143 (hM : Θ.2.2.1.1.cls = RX5) {a : Nat} {fs : List Value} {v : Value} (he : h a = some (.inr (5, fs))) (hn : narrow (tyX5 25) v = v) (hf : fits (tyX5 25) v = true) (hl : 25 < fs.length) (hd : decode cc pc = .ok (.putfield 143, 3)) (kk : J Θ cc (upA h a (.inr (5, fs.set 25 v))) k lv (pc + 3) st) : J Θ cc h k lv pc (v :: .ref a :: st) :=
  j_put (C := RX5) (T := TX5) (N := 33) (fk := 25) he rfl inX5 tyX5 tyX5_ok nmX5 (by decide) (by rw [hM]; exact wf_X5_143) rfl (tyX5_ok 25 (by decide)) hn hf hl hd kk
theorem gX5_164 (hM : Θ.2.2.1.1.cls = RX5) {a : Nat} {fs : List Value} {v : Value} (he : h a = some (.inr (5, fs))) (hv : fs[27]? = some v) (hd : decode cc pc = .ok (.getfield 164, 3)) (kk : J Θ cc h k lv (pc + 3) (v :: st)) : J Θ cc h k lv pc (.ref a :: st) :=
  j_get (C := RX5) (T := TX5) (N := 33) (fk := 27) he rfl inX5 (by decide) (by rw [hM]; exact wf_X5_164) hv hd kk
theorem pX5_164 (hM : Θ.2.2.1.1.cls = RX5) {a : Nat} {fs : List Value} {v : Value} (he : h a = some (.inr (5, fs))) (hn : narrow (tyX5 27) v = v) (hf : fits (tyX5 27) v = true) (hl : 27 < fs.length) (hd : decode cc pc = .ok (.putfield 164, 3)) (kk : J Θ cc (upA h a (.inr (5, fs.set 27 v))) k lv (pc + 3) st) : J Θ cc h k lv pc (v :: .ref a :: st) :=
  j_put (C := RX5) (T := TX5) (N := 33) (fk := 27) he rfl inX5 tyX5 tyX5_ok nmX5 (by decide) (by rw [hM]; exact wf_X5_164) rfl (tyX5_ok 27 (by decide)) hn hf hl hd kk
end FR
abbrev mX0_init : MI := (yX0_init, cX0_init, 3, none)
abbrev mX0_weightNow : MI := (yX0_weightNow, cX0_weightNow, 1, (some .int))
abbrev mX0_partNow : MI := (yX0_partNow, cX0_partNow, 2, (some .int))
abbrev mX0_canBeTuned : MI := (yX0_canBeTuned, cX0_canBeTuned, 1, (some .boolean))
abbrev mX0_roomAt : MI := (yX0_roomAt, cX0_roomAt, 2, (some .int))
abbrev mX0_tableAt : MI := (yX0_tableAt, cX0_tableAt, 3, (some .int))
abbrev mX0_takeOff : MI := (yX0_takeOff, cX0_takeOff, 3, (some .int))
abbrev mX1_init : MI := (yX1_init, cX1_init, 1, none)
abbrev mX1_forget : MI := (yX1_forget, cX1_forget, 1, none)
abbrev mX1_addNote : MI := (yX1_addNote, cX1_addNote, 2, none)
abbrev mX1_startAnew : MI := (yX1_startAnew, cX1_startAnew, 2, none)
abbrev mX1_chosenWeight : MI := (yX1_chosenWeight, cX1_chosenWeight, 1, (some .int))
abbrev mX1_chosenBell : MI := (yX1_chosenBell, cX1_chosenBell, 2, (some .int))
abbrev mX1_choose : MI := (yX1_choose, cX1_choose, 4, none)
abbrev mX1_placeOf : MI := (yX1_placeOf, cX1_placeOf, 1, (some .int))
abbrev mX1_numberOf : MI := (yX1_numberOf, cX1_numberOf, 3, (some .long))
abbrev mX1_weigh : MI := (yX1_weigh, cX1_weigh, 5, none)
abbrev mX1_leastWithFirst : MI := (yX1_leastWithFirst, cX1_leastWithFirst, 7, (some .long))
abbrev mX1_seat : MI := (yX1_seat, cX1_seat, 5, (some .long))
abbrev mX1_moveHolders : MI := (yX1_moveHolders, cX1_moveHolders, 6, (some .boolean))
abbrev mX1_reachFrom : MI := (yX1_reachFrom, cX1_reachFrom, 12, (some .boolean))
abbrev mX1_nearestFree : MI := (yX1_nearestFree, cX1_nearestFree, 4, (some .int))
abbrev mX1_passAlong : MI := (yX1_passAlong, cX1_passAlong, 6, none)
abbrev mX2_init : MI := (yX2_init, cX2_init, 2, none)
abbrev mX2_init_ : MI := (yX2_init_, cX2_init_, 2, none)
abbrev mX2_setTable : MI := (yX2_setTable, cX2_setTable, 4, (some .boolean))
abbrev mX2_setMetal : MI := (yX2_setMetal, cX2_setMetal, 3, (some .boolean))
abbrev mX2_setLeast : MI := (yX2_setLeast, cX2_setLeast, 3, (some .boolean))
abbrev mX2_setThickness : MI := (yX2_setThickness, cX2_setThickness, 3, (some .boolean))
abbrev mX2_castWeight : MI := (yX2_castWeight, cX2_castWeight, 1, (some .int))
abbrev mX2_weightWith : MI := (yX2_weightWith, cX2_weightWith, 4, (some .int))
abbrev mX2_partWith : MI := (yX2_partWith, cX2_partWith, 5, (some .int))
abbrev mX3_init : MI := (yX3_init, cX3_init, 1, none)
abbrev mX3_setSpan : MI := (yX3_setSpan, cX3_setSpan, 4, none)
abbrev mX3_plan : MI := (yX3_plan, cX3_plan, 4, none)
abbrev mX3_prepare : MI := (yX3_prepare, cX3_prepare, 4, none)
abbrev mX3_boundTables : MI := (yX3_boundTables, cX3_boundTables, 9, none)
abbrev mX3_search : MI := (yX3_search, cX3_search, 6, (some .boolean))
abbrev mX3_mayReach : MI := (yX3_mayReach, cX3_mayReach, 5, (some .boolean))
abbrev mX3_lower : MI := (yX3_lower, cX3_lower, 5, none)
abbrev mX4_init : MI := (yX4_init, cX4_init, 1, none)
abbrev mX4_profile : MI := (yX4_profile, cX4_profile, 2, (some .int))
abbrev mX4_shape : MI := (yX4_shape, cX4_shape, 6, (some .boolean))
abbrev mX4_base : MI := (yX4_base, cX4_base, 5, (some .boolean))
abbrev mX4_buy : MI := (yX4_buy, cX4_buy, 3, (some .boolean))
abbrev mX4_cast : MI := (yX4_cast, cX4_cast, 3, (some .int))
abbrev mX4_cut : MI := (yX4_cut, cX4_cut, 4, (some .int))
abbrev mX4_old : MI := (yX4_old, cX4_old, 3, (some .boolean))
abbrev mX4_crack : MI := (yX4_crack, cX4_crack, 3, (some .boolean))
abbrev mX4_bellOf : MI := (yX4_bellOf, cX4_bellOf, 4, (some .int))
abbrev mX4_span : MI := (yX4_span, cX4_span, 4, (some .boolean))
abbrev mX4_tuning : MI := (yX4_tuning, cX4_tuning, 2, (some .int))
abbrev mX4_tune : MI := (yX4_tune, cX4_tune, 5, (some .int))
abbrev mX4_tuningAt : MI := (yX4_tuningAt, cX4_tuningAt, 4, (some .int))
abbrev mX4_note : MI := (yX4_note, cX4_note, 2, (some .int))
abbrev mX4_ring : MI := (yX4_ring, cX4_ring, 2, (some .boolean))
abbrev mX4_ringWeight : MI := (yX4_ringWeight, cX4_ringWeight, 1, (some .int))
abbrev mX4_ringBell : MI := (yX4_ringBell, cX4_ringBell, 2, (some .int))
abbrev mX4_tower : MI := (yX4_tower, cX4_tower, 4, (some .boolean))
abbrev mX4_hang : MI := (yX4_hang, cX4_hang, 5, (some .boolean))
abbrev mX4_about : MI := (yX4_about, cX4_about, 2, (some .int))
abbrev mX4_within : MI := (yX4_within, cX4_within, 3, (some .boolean))
abbrev mX4_isHeight : MI := (yX4_isHeight, cX4_isHeight, 1, (some .boolean))
abbrev mX4_isPart : MI := (yX4_isPart, cX4_isPart, 1, (some .boolean))
abbrev mX4_isWay : MI := (yX4_isWay, cX4_isWay, 1, (some .boolean))
abbrev mX4_profileAt : MI := (yX4_profileAt, cX4_profileAt, 2, (some (.object "BellFoundry$Profile")))
abbrev mX4_bellAt : MI := (yX4_bellAt, cX4_bellAt, 2, (some (.object "BellFoundry$Bell")))
abbrev mX4_charge : MI := (yX4_charge, cX4_charge, 6, (some .boolean))
abbrev mX4_trim : MI := (yX4_trim, cX4_trim, 4, none)
abbrev mX4_plannedCuts : MI := (yX4_plannedCuts, cX4_plannedCuts, 2, (some .int))
abbrev mX4_soundMetal : MI := (yX4_soundMetal, cX4_soundMetal, 4, (some .int))
abbrev mX4_shareOf : MI := (yX4_shareOf, cX4_shareOf, 2, (some .int))
abbrev mX4_pullBy : MI := (yX4_pullBy, cX4_pullBy, 3, (some .int))
abbrev mX4_pullsTogether : MI := (yX4_pullsTogether, cX4_pullsTogether, 1, (some .int))
abbrev mX4_pullsIf : MI := (yX4_pullsIf, cX4_pullsIf, 6, (some .int))
abbrev mX5_init : MI := (yX5_init, cX5_init, 1, none)
abbrev mX5_in : MI := (yX5_in, cX5_in, 3, (some .boolean))
abbrev mX5_isBell : MI := (yX5_isBell, cX5_isBell, 2, (some .boolean))
abbrev mX5_profile : MI := (yX5_profile, cX5_profile, 3, (some .int))
abbrev mX5_shape : MI := (yX5_shape, cX5_shape, 7, (some .boolean))
abbrev mX5_base : MI := (yX5_base, cX5_base, 4, (some .boolean))
abbrev mX5_buy : MI := (yX5_buy, cX5_buy, 3, (some .boolean))
abbrev mX5_weightOf : MI := (yX5_weightOf, cX5_weightOf, 4, (some .int))
abbrev mX5_partOf : MI := (yX5_partOf, cX5_partOf, 5, (some .int))
abbrev mX5_cast : MI := (yX5_cast, cX5_cast, 8, (some .int))
abbrev mX5_canCut : MI := (yX5_canCut, cX5_canCut, 2, (some .boolean))
abbrev mX5_cut : MI := (yX5_cut, cX5_cut, 3, (some .int))
abbrev mX5_old : MI := (yX5_old, cX5_old, 2, (some .boolean))
abbrev mX5_crack : MI := (yX5_crack, cX5_crack, 2, (some .boolean))
abbrev mX5_pull : MI := (yX5_pull, cX5_pull, 3, (some .int))
abbrev mX5_bellOf : MI := (yX5_bellOf, cX5_bellOf, 3, (some .int))
abbrev mX5_span : MI := (yX5_span, cX5_span, 4, (some .boolean))
abbrev mX5_isTuned : MI := (yX5_isTuned, cX5_isTuned, 5, (some .boolean))
abbrev mX5_nextCuts : MI := (yX5_nextCuts, cX5_nextCuts, 4, (some .boolean))
abbrev mX5_seeks : MI := (yX5_seeks, cX5_seeks, 4, (some .int))
abbrev mX5_tuning : MI := (yX5_tuning, cX5_tuning, 2, (some .int))
abbrev mX5_tune : MI := (yX5_tune, cX5_tune, 4, (some .int))
abbrev mX5_tuningAt : MI := (yX5_tuningAt, cX5_tuningAt, 3, (some .int))
abbrev mX5_note : MI := (yX5_note, cX5_note, 2, (some .int))
abbrev mX5_ring : MI := (yX5_ring, cX5_ring, 2, (some .boolean))
abbrev mX5_agrees : MI := (yX5_agrees, cX5_agrees, 5, (some .boolean))
abbrev mX5_lightest : MI := (yX5_lightest, cX5_lightest, 10, (some .int))
abbrev mX5_rings : MI := (yX5_rings, cX5_rings, 7, (some .int))
abbrev mX5_fits : MI := (yX5_fits, cX5_fits, 7, (some .boolean))
abbrev mX5_ringWeight : MI := (yX5_ringWeight, cX5_ringWeight, 1, (some .int))
abbrev mX5_ringBell : MI := (yX5_ringBell, cX5_ringBell, 2, (some .int))
abbrev mX5_pulls : MI := (yX5_pulls, cX5_pulls, 3, (some .int))
abbrev mX5_tower : MI := (yX5_tower, cX5_tower, 5, (some .boolean))
abbrev mX5_hang : MI := (yX5_hang, cX5_hang, 4, (some .boolean))
abbrev mX5_about : MI := (yX5_about, cX5_about, 4, (some .int))
abbrev mJ7_fill_d0a16 : MI := (yJ7_fill_d0a16, cJ7_fill_d0a16, 5, none)
abbrev mJ7_fill_53178 : MI := (yJ7_fill_53178, cJ7_fill_53178, 4, none)
abbrev mL_law : MI := (yL_law, cL_law, 4, (some .boolean))
