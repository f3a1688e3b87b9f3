def v_DefectDrive_isSector (p0 : Int32) (post : Int32 → Prop) : Prop := ((p0 < 0 → post 0) ∧ (¬ p0 < 0 → ((192 ≤ p0 → post 0) ∧ (¬ 192 ≤ p0 → post 1))))
set_option maxHeartbeats 4000000 in
set_option maxRecDepth 100000 in
theorem m_DefectDrive_isSector (l : Launch) (dC : Nat → ClassId) (dI : Nat → Nat → Nat) (cI cZ : ClassId) (zz : Nat) (p0 : Int32) (post : Int32 → Prop) (hv : v_DefectDrive_isSector p0 post) : Met l y_DefectDrive_isSector w_DefectDrive_isSector ({ frames := 0, cells := 0, slots := 0, locals := 0 }) (va_Pc [.int p0] (fun U => U.heap.size = zz ∧ va_P (dC, dI) classes [] U.heap ∧ va_K (dC, dI) classes [(cI, .int), (cZ, .boolean)] U ∧ nz_N U)) (va_Qi (fun (r : Int32) (_ : Unit) => post r ) (fun _ _ => True) (fun q : Nat => zz ≤ q)) 0 0 (fun q : Nat => zz ≤ q) := by
  refine Met.ofW (cc := b_DefectDrive_isSector) (maxL := 1) (ret := (some .boolean)) (by decide) rfl ?_
  intro p e s m args below meth c s₁ B hml hv0
  obtain ⟨rfl, hsz, hP, hK, hN⟩ := hv0
  have hx := B.exec
  have hb := B.bytes
  have hr := B.returns
  have htb := w_tbl (atoms_spec (ws := w_DefectDrive_isSector) B.pre)
  have hown : s.vm.findClass R_DefectDrive = some m.cls := findClass_of_methodNamed B.named
  have hlocks := B.notSynchronized
  subst hsz
  have hA : ∀ q : Nat, s.heap.size ≤ q → (fun q : Nat => s.heap.size ≤ q) q := fun _ h => h
  have hS : va_S (fun q : Nat => s.heap.size ≤ q) s.heap s.heap [] := va_S.rf
  have hl := lv_entry ([.int p0]) (n := 1) (Nat.le_of_ble_eq_true rfl)
  rw [lg_entry_eq]
  generalize (lg_sl ([.int p0]) ++ List.replicate (1 - (lg_sl ([.int p0])).length) Slot.unset).toArray = ls at hl ⊢
  have hl : lv_has ls 1 [(0, .int p0)] := hl
  refine lv_iload_n hx hb d_DefectDrive_isSector_0 rfl (lv_at hl 0 rfl) ?_
  refine lv_if_lt (tgt := 15) hx hb d_DefectDrive_isSector_1 (by decide) (fun c_1 => ?_) (fun c_1 => ?_)
  · have hv := hv.1 c_1
    refine lv_iconst (v := 0) hx hb d_DefectDrive_isSector_15 (by decide) ?_
    exact W.zret (v := 0) hx hb hr rfl (fun t ht hW => ⟨⟨0, (), rfl, hv, trivial⟩, hS.F ht⟩) hS.2.2 d_DefectDrive_isSector_16
  · have hv := hv.2 c_1
    refine lv_iload_n hx hb d_DefectDrive_isSector_4 rfl (lv_at hl 0 rfl) ?_
    refine lv_sipush (v := 192) hx hb d_DefectDrive_isSector_5 (by decide) ?_
    refine lv_icmp_ge (tgt := 15) hx hb d_DefectDrive_isSector_8 (by decide) (fun c_2 => ?_) (fun c_2 => ?_)
    · have hv := hv.1 c_2
      refine lv_iconst (v := 0) hx hb d_DefectDrive_isSector_15 (by decide) ?_
      exact W.zret (v := 0) hx hb hr rfl (fun t ht hW => ⟨⟨0, (), rfl, hv, trivial⟩, hS.F ht⟩) hS.2.2 d_DefectDrive_isSector_16
    · have hv := hv.2 c_2
      refine lv_iconst (v := 1) hx hb d_DefectDrive_isSector_11 (by decide) ?_
      refine lv_goto (tgt := 16) hx hb d_DefectDrive_isSector_12 (by decide) ?_
      exact W.zret (v := 1) hx hb hr rfl (fun t ht hW => ⟨⟨1, (), rfl, hv, trivial⟩, hS.F ht⟩) hS.2.2 d_DefectDrive_isSector_16
def v_DefectDrive_isWord (p0 : Int32) (post : Int32 → Prop) : Prop := ((p0 < 0 → post 0) ∧ (¬ p0 < 0 → ((2 ≤ p0 → post 0) ∧ (¬ 2 ≤ p0 → post 1))))
set_option maxHeartbeats 4000000 in
set_option maxRecDepth 100000 in
theorem m_DefectDrive_isWord (l : Launch) (dC : Nat → ClassId) (dI : Nat → Nat → Nat) (cI cZ : ClassId) (zz : Nat) (p0 : Int32) (post : Int32 → Prop) (hv : v_DefectDrive_isWord p0 post) : Met l y_DefectDrive_isWord w_DefectDrive_isWord ({ frames := 0, cells := 0, slots := 0, locals := 0 }) (va_Pc [.int p0] (fun U => U.heap.size = zz ∧ va_P (dC, dI) classes [] U.heap ∧ va_K (dC, dI) classes [(cI, .int), (cZ, .boolean)] U ∧ nz_N U)) (va_Qi (fun (r : Int32) (_ : Unit) => post r ) (fun _ _ => True) (fun q : Nat => zz ≤ q)) 0 0 (fun q : Nat => zz ≤ q) := by
  refine Met.ofW (cc := b_DefectDrive_isWord) (maxL := 1) (ret := (some .boolean)) (by decide) rfl ?_
  intro p e s m args below meth c s₁ B hml hv0
  obtain ⟨rfl, hsz, hP, hK, hN⟩ := hv0
  have hx := B.exec
  have hb := B.bytes
  have hr := B.returns
  have htb := w_tbl (atoms_spec (ws := w_DefectDrive_isWord) B.pre)
  have hown : s.vm.findClass R_DefectDrive = some m.cls := findClass_of_methodNamed B.named
  have hlocks := B.notSynchronized
  subst hsz
  have hA : ∀ q : Nat, s.heap.size ≤ q → (fun q : Nat => s.heap.size ≤ q) q := fun _ h => h
  have hS : va_S (fun q : Nat => s.heap.size ≤ q) s.heap s.heap [] := va_S.rf
  have hl := lv_entry ([.int p0]) (n := 1) (Nat.le_of_ble_eq_true rfl)
  rw [lg_entry_eq]
  generalize (lg_sl ([.int p0]) ++ List.replicate (1 - (lg_sl ([.int p0])).length) Slot.unset).toArray = ls at hl ⊢
  have hl : lv_has ls 1 [(0, .int p0)] := hl
  refine lv_iload_n hx hb d_DefectDrive_isWord_0 rfl (lv_at hl 0 rfl) ?_
  refine lv_if_lt (tgt := 13) hx hb d_DefectDrive_isWord_1 (by decide) (fun c_1 => ?_) (fun c_1 => ?_)
  · have hv := hv.1 c_1
    refine lv_iconst (v := 0) hx hb d_DefectDrive_isWord_13 (by decide) ?_
    exact W.zret (v := 0) hx hb hr rfl (fun t ht hW => ⟨⟨0, (), rfl, hv, trivial⟩, hS.F ht⟩) hS.2.2 d_DefectDrive_isWord_14
  · have hv := hv.2 c_1
    refine lv_iload_n hx hb d_DefectDrive_isWord_4 rfl (lv_at hl 0 rfl) ?_
    refine lv_iconst (v := 2) hx hb d_DefectDrive_isWord_5 (by decide) ?_
    refine lv_icmp_ge (tgt := 13) hx hb d_DefectDrive_isWord_6 (by decide) (fun c_2 => ?_) (fun c_2 => ?_)
    · have hv := hv.1 c_2
      refine lv_iconst (v := 0) hx hb d_DefectDrive_isWord_13 (by decide) ?_
      exact W.zret (v := 0) hx hb hr rfl (fun t ht hW => ⟨⟨0, (), rfl, hv, trivial⟩, hS.F ht⟩) hS.2.2 d_DefectDrive_isWord_14
    · have hv := hv.2 c_2
      refine lv_iconst (v := 1) hx hb d_DefectDrive_isWord_9 (by decide) ?_
      refine lv_goto (tgt := 14) hx hb d_DefectDrive_isWord_10 (by decide) ?_
      exact W.zret (v := 1) hx hb hr rfl (fun t ht hW => ⟨⟨1, (), rfl, hv, trivial⟩, hS.F ht⟩) hS.2.2 d_DefectDrive_isWord_14
def v_DefectDrive_cylinderOf (p0 : Int32) (post : Int32 → Prop) : Prop := post (p0 / 16)
set_option maxHeartbeats 4000000 in
set_option maxRecDepth 100000 in
theorem m_DefectDrive_cylinderOf (l : Launch) (dC : Nat → ClassId) (dI : Nat → Nat → Nat) (cI cZ : ClassId) (zz : Nat) (p0 : Int32) (post : Int32 → Prop) (hv : v_DefectDrive_cylinderOf p0 post) : Met l y_DefectDrive_cylinderOf w_DefectDrive_cylinderOf ({ frames := 0, cells := 0, slots := 0, locals := 0 }) (va_Pc [.int p0] (fun U => U.heap.size = zz ∧ va_P (dC, dI) classes [] U.heap ∧ va_K (dC, dI) classes [(cI, .int), (cZ, .boolean)] U ∧ nz_N U)) (va_Qi (fun (r : Int32) (_ : Unit) => post r ) (fun _ _ => True) (fun q : Nat => zz ≤ q)) 0 0 (fun q : Nat => zz ≤ q) := by
  refine Met.ofW (cc := b_DefectDrive_cylinderOf) (maxL := 1) (ret := (some .int)) (by decide) rfl ?_
  intro p e s m args below meth c s₁ B hml hv0
  obtain ⟨rfl, hsz, hP, hK, hN⟩ := hv0
  have hx := B.exec
  have hb := B.bytes
  have hr := B.returns
  have htb := w_tbl (atoms_spec (ws := w_DefectDrive_cylinderOf) B.pre)
  have hown : s.vm.findClass R_DefectDrive = some m.cls := findClass_of_methodNamed B.named
  have hlocks := B.notSynchronized
  subst hsz
  have hA : ∀ q : Nat, s.heap.size ≤ q → (fun q : Nat => s.heap.size ≤ q) q := fun _ h => h
  have hS : va_S (fun q : Nat => s.heap.size ≤ q) s.heap s.heap [] := va_S.rf
  have hl := lv_entry ([.int p0]) (n := 1) (Nat.le_of_ble_eq_true rfl)
  rw [lg_entry_eq]
  generalize (lg_sl ([.int p0]) ++ List.replicate (1 - (lg_sl ([.int p0])).length) Slot.unset).toArray = ls at hl ⊢
  have hl : lv_has ls 1 [(0, .int p0)] := hl
  refine lv_iload_n hx hb d_DefectDrive_cylinderOf_0 rfl (lv_at hl 0 rfl) ?_
  refine lv_bipush (v := 16) hx hb d_DefectDrive_cylinderOf_1 (by decide) ?_
  refine lv_idiv hx hb d_DefectDrive_cylinderOf_3 (by decide) ?_
  exact W.iret (v := p0 / 16) hx hb hr (fun t ht hW => ⟨⟨p0 / 16, (), rfl, hv, trivial⟩, hS.F ht⟩) hS.2.2 d_DefectDrive_cylinderOf_4
def v_DefectDrive_isSpare (p0 : Int32) (post : Int32 → Prop) : Prop := ((p0 < 16 → post 0) ∧ (¬ p0 < 16 → (((p0 - p0 / 16 * 16) < 13 → post 0) ∧ (¬ (p0 - p0 / 16 * 16) < 13 → post 1))))
set_option maxHeartbeats 4000000 in
set_option maxRecDepth 100000 in
theorem m_DefectDrive_isSpare (l : Launch) (dC : Nat → ClassId) (dI : Nat → Nat → Nat) (cI cZ : ClassId) (zz : Nat) (p0 : Int32) (post : Int32 → Prop) (hv : v_DefectDrive_isSpare p0 post) : Met l y_DefectDrive_isSpare w_DefectDrive_isSpare ({ frames := 0, cells := 0, slots := 0, locals := 0 }) (va_Pc [.int p0] (fun U => U.heap.size = zz ∧ va_P (dC, dI) classes [] U.heap ∧ va_K (dC, dI) classes [(cI, .int), (cZ, .boolean)] U ∧ nz_N U)) (va_Qi (fun (r : Int32) (_ : Unit) => post r ) (fun _ _ => True) (fun q : Nat => zz ≤ q)) 0 0 (fun q : Nat => zz ≤ q) := by
  refine Met.ofW (cc := b_DefectDrive_isSpare) (maxL := 1) (ret := (some .boolean)) (by decide) rfl ?_
  intro p e s m args below meth c s₁ B hml hv0
  obtain ⟨rfl, hsz, hP, hK, hN⟩ := hv0
  have hx := B.exec
  have hb := B.bytes
  have hr := B.returns
  have htb := w_tbl (atoms_spec (ws := w_DefectDrive_isSpare) B.pre)
  have hown : s.vm.findClass R_DefectDrive = some m.cls := findClass_of_methodNamed B.named
  have hlocks := B.notSynchronized
  subst hsz
  have hA : ∀ q : Nat, s.heap.size ≤ q → (fun q : Nat => s.heap.size ≤ q) q := fun _ h => h
  have hS : va_S (fun q : Nat => s.heap.size ≤ q) s.heap s.heap [] := va_S.rf
  have hl := lv_entry ([.int p0]) (n := 1) (Nat.le_of_ble_eq_true rfl)
  rw [lg_entry_eq]
  generalize (lg_sl ([.int p0]) ++ List.replicate (1 - (lg_sl ([.int p0])).length) Slot.unset).toArray = ls at hl ⊢
  have hl : lv_has ls 1 [(0, .int p0)] := hl
  refine lv_iload_n hx hb d_DefectDrive_isSpare_0 rfl (lv_at hl 0 rfl) ?_
  refine lv_bipush (v := 16) hx hb d_DefectDrive_isSpare_1 (by decide) ?_
  refine lv_icmp_lt (tgt := 19) hx hb d_DefectDrive_isSpare_3 (by decide) (fun c_1 => ?_) (fun c_1 => ?_)
  · have hv := hv.1 c_1
    refine lv_iconst (v := 0) hx hb d_DefectDrive_isSpare_19 (by decide) ?_
    exact W.zret (v := 0) hx hb hr rfl (fun t ht hW => ⟨⟨0, (), rfl, hv, trivial⟩, hS.F ht⟩) hS.2.2 d_DefectDrive_isSpare_20
  · have hv := hv.2 c_1
    refine lv_iload_n hx hb d_DefectDrive_isSpare_6 rfl (lv_at hl 0 rfl) ?_
    refine lv_bipush (v := 16) hx hb d_DefectDrive_isSpare_7 (by decide) ?_
    refine lv_irem hx hb d_DefectDrive_isSpare_9 (by decide) ?_
    refine lv_bipush (v := 13) hx hb d_DefectDrive_isSpare_10 (by decide) ?_
    refine lv_icmp_lt (tgt := 19) hx hb d_DefectDrive_isSpare_12 (by decide) (fun c_2 => ?_) (fun c_2 => ?_)
    · have hv := hv.1 c_2
      refine lv_iconst (v := 0) hx hb d_DefectDrive_isSpare_19 (by decide) ?_
      exact W.zret (v := 0) hx hb hr rfl (fun t ht hW => ⟨⟨0, (), rfl, hv, trivial⟩, hS.F ht⟩) hS.2.2 d_DefectDrive_isSpare_20
    · have hv := hv.2 c_2
      refine lv_iconst (v := 1) hx hb d_DefectDrive_isSpare_15 (by decide) ?_
      refine lv_goto (tgt := 20) hx hb d_DefectDrive_isSpare_16 (by decide) ?_
      exact W.zret (v := 1) hx hb hr rfl (fun t ht hW => ⟨⟨1, (), rfl, hv, trivial⟩, hS.F ht⟩) hS.2.2 d_DefectDrive_isSpare_20
def v_Power_lastsForOneWrite_32 (ofM : Int32) (olM : Int32) (odM : Int32) (post : Int32 → Int32 → Int32 → Int32 → Prop) : Prop := post 1 ofM olM (odM + 1)
def v_Power_lastsForOneWrite (of : Int32) (ol : Int32) (od : Int32) (post : Int32 → Int32 → Int32 → Int32 → Prop) : Prop := ((¬ ol = 0 → ((ol = (-1) → v_Power_lastsForOneWrite_32 of ol od post) ∧ (¬ ol = (-1) → v_Power_lastsForOneWrite_32 of (ol - 1) od post))) ∧ (ol = 0 → post 0 1 ol od))
abbrev q_Power_lastsForOneWrite (dC : Nat → ClassId) (dI : Nat → Nat → Nat) (cI cZ : ClassId) (oh : Nat) (of : Int32) (ol : Int32) (od : Int32) (A : Nat → Prop) (post : Int32 → Int32 → Int32 → Int32 → Prop) : Array Value → State → Outcome → State → Prop := va_Qi (fun (r : Int32) (u : Int32 × Int32 × Int32) => post r u.1 u.2.1 u.2.2) (fun (u : Int32 × Int32 × Int32) t => va_P (dC, dI) classes [(oh, .inr (1, [.int u.1, .int u.2.1, .int u.2.2]))] t.heap ∧ va_D A [(oh, .inr (1, [.int u.1, .int u.2.1, .int u.2.2]))]) A
set_option maxHeartbeats 4000000 in
set_option maxRecDepth 100000 in
theorem m_Power_lastsForOneWrite (l : Launch) (dC : Nat → ClassId) (dI : Nat → Nat → Nat) (cI cZ : ClassId) (oh : Nat) (zz : Nat) (of : Int32) (ol : Int32) (od : Int32) (post : Int32 → Int32 → Int32 → Int32 → Prop) (hv : v_Power_lastsForOneWrite of ol od post) : Met l y_Power_lastsForOneWrite w_Power_lastsForOneWrite ({ frames := 0, cells := 0, slots := 0, locals := 0 }) (va_Pc [.ref oh] (fun U => U.heap.size = zz ∧ va_P (dC, dI) classes [(oh, .inr (1, [.int of, .int ol, .int od]))] U.heap ∧ va_K (dC, dI) classes [(cI, .int), (cZ, .boolean)] U ∧ nz_N U ∧ va_D (fun _ => True) [(oh, .inr (1, [.int of, .int ol, .int od]))])) (q_Power_lastsForOneWrite dC dI cI cZ oh of ol od (va_A [(oh, .inr (1, [.int of, .int ol, .int od]))] zz) post) 0 0 (va_A [(oh, .inr (1, [.int of, .int ol, .int od]))] zz) := by
  refine Met.ofW (cc := b_Power_lastsForOneWrite) (maxL := 1) (ret := (some .boolean)) (by decide) rfl ?_
  intro p e s m args below meth c s₁ B hml hv0
  obtain ⟨rfl, hsz, hP, hK, hN, hD0⟩ := hv0
  have hx := B.exec
  have hb := B.bytes
  have hr := B.returns
  have htb := w_tbl (atoms_spec (ws := w_Power_lastsForOneWrite) B.pre)
  have hown : s.vm.findClass R_Power = some m.cls := findClass_of_methodNamed B.named
  have hlocks := B.notSynchronized
  subst hsz
  have hD := hD0.self (sz := s.heap.size)
  generalize hAe : va_A [(oh, .inr (1, [.int of, .int ol, .int od]))] s.heap.size = A at hD ⊢
  have hA : ∀ q : Nat, s.heap.size ≤ q → A q := fun q h => by rw [← hAe]; exact Or.inr h
  have hS : va_S A s.heap s.heap [] := va_S.rf
  have hl := lv_entry ([.ref oh]) (n := 1) (Nat.le_of_ble_eq_true rfl)
  rw [lg_entry_eq]
  generalize (lg_sl ([.ref oh]) ++ List.replicate (1 - (lg_sl ([.ref oh])).length) Slot.unset).toArray = ls at hl ⊢
  have hl : lv_has ls 1 [(0, .ref oh)] := hl
  have J32 : ∀ (ofM : Int32) (olM : Int32) (odM : Int32) (H : Heap) (locs : List Loc), v_Power_lastsForOneWrite_32 ofM olM odM post → va_P (dC, dI) classes [(oh, .inr (1, [.int ofM, .int olM, .int odM]))] H → va_D A [(oh, .inr (1, [.int ofM, .int olM, .int odM]))] → va_S A s.heap H locs → ∀ ls : Array Slot, lv_has ls 1 [(0, .ref oh)] → W p l e (headSpec w_Power_lastsForOneWrite ({ frames := 0, cells := 0, slots := 0, locals := 0 })).room s m ([.ref oh] : List Value).toArray below meth c H locs 0 0 (MQ below (q_Power_lastsForOneWrite dC dI cI cZ oh of ol od A post) ([.ref oh] : List Value).toArray s 0 0 A) (F0 m 32 ls []) := by
    intro ofM olM odM H locs hv hP hD hS ls hl
    refine lv_aload_n hx hb d_Power_lastsForOneWrite_32 rfl (lv_at hl 0 rfl) ?_
    refine lv_dup hx hb d_Power_lastsForOneWrite_33 rfl ?_
    refine va_get (D := (dC, dI)) (ci := 1) (v := .int odM) (C := R_Power) (T := F_Power) (N := 3) hx hb htb i_Power hown hK hP 0 rfl rfl 2 (by decide) (htb _ k_fl_Power_19) (fun _ h9 => h9) rfl d_Power_lastsForOneWrite_34 ?_
    refine lv_iconst (v := 1) hx hb d_Power_lastsForOneWrite_37 (by decide) ?_
    refine lv_iadd hx hb d_Power_lastsForOneWrite_38 ?_
    refine va_put (D := (dC, dI)) (ci := 1) (v := .int (odM + 1)) (ty := .int) (C := R_Power) (T := F_Power) (N := 3) hx hb htb i_Power t_Power t_Power_ok n_Power hown hK hP hD hS 0 rfl rfl 2 (by decide) (htb _ k_fl_Power_19) (fun _ h9 => h9) rfl (by decide +kernel) rfl rfl (Nat.le_of_ble_eq_true rfl) d_Power_lastsForOneWrite_39 (fun H locs hP hD hS => ?_)
    have hP : va_P (dC, dI) classes [(oh, .inr (1, [.int ofM, .int olM, .int (odM + 1)]))] H := hP
    have hD : va_D A [(oh, .inr (1, [.int ofM, .int olM, .int (odM + 1)]))] := hD
    refine lv_iconst (v := 1) hx hb d_Power_lastsForOneWrite_42 (by decide) ?_
    exact W.zret (v := 1) hx hb hr rfl (fun t ht hW => ⟨⟨1, (ofM, olM, odM + 1), rfl, hv, by rw [ht]; exact hP, hD⟩, hS.F ht⟩) hS.2.2 d_Power_lastsForOneWrite_43
  refine lv_aload_n hx hb d_Power_lastsForOneWrite_0 rfl (lv_at hl 0 rfl) ?_
  refine va_get (D := (dC, dI)) (ci := 1) (v := .int ol) (C := R_Power) (T := F_Power) (N := 3) hx hb htb i_Power hown hK hP 0 rfl rfl 1 (by decide) (htb _ k_fl_Power_9) (fun _ h9 => h9) rfl d_Power_lastsForOneWrite_1 ?_
  refine lv_if_ne (tgt := 14) hx hb d_Power_lastsForOneWrite_4 (by decide) (fun c_1 => ?_) (fun c_1 => ?_)
  · have hv := hv.1 c_1
    refine lv_aload_n hx hb d_Power_lastsForOneWrite_14 rfl (lv_at hl 0 rfl) ?_
    refine va_get (D := (dC, dI)) (ci := 1) (v := .int ol) (C := R_Power) (T := F_Power) (N := 3) hx hb htb i_Power hown hK hP 0 rfl rfl 1 (by decide) (htb _ k_fl_Power_9) (fun _ h9 => h9) rfl d_Power_lastsForOneWrite_15 ?_
    refine lv_iconst (v := (-1)) hx hb d_Power_lastsForOneWrite_18 (by decide) ?_
    refine lv_icmp_eq (tgt := 32) hx hb d_Power_lastsForOneWrite_19 (by decide) (fun c_2 => ?_) (fun c_2 => ?_)
    · have hv := hv.1 c_2
      exact J32 of ol od _ _ hv hP hD hS ls (lv_sub hl [0] rfl)
    · have hv := hv.2 c_2
      refine lv_aload_n hx hb d_Power_lastsForOneWrite_22 rfl (lv_at hl 0 rfl) ?_
      refine lv_dup hx hb d_Power_lastsForOneWrite_23 rfl ?_
      refine va_get (D := (dC, dI)) (ci := 1) (v := .int ol) (C := R_Power) (T := F_Power) (N := 3) hx hb htb i_Power hown hK hP 0 rfl rfl 1 (by decide) (htb _ k_fl_Power_9) (fun _ h9 => h9) rfl d_Power_lastsForOneWrite_24 ?_
      refine lv_iconst (v := 1) hx hb d_Power_lastsForOneWrite_27 (by decide) ?_
      refine lv_isub hx hb d_Power_lastsForOneWrite_28 ?_
      refine va_put (D := (dC, dI)) (ci := 1) (v := .int (ol - 1)) (ty := .int) (C := R_Power) (T := F_Power) (N := 3) hx hb htb i_Power t_Power t_Power_ok n_Power hown hK hP hD hS 0 rfl rfl 1 (by decide) (htb _ k_fl_Power_9) (fun _ h9 => h9) rfl (by decide +kernel) rfl rfl (Nat.le_of_ble_eq_true rfl) d_Power_lastsForOneWrite_29 (fun H locs hP hD hS => ?_)
      have hP : va_P (dC, dI) classes [(oh, .inr (1, [.int of, .int (ol - 1), .int od]))] H := hP
      have hD : va_D A [(oh, .inr (1, [.int of, .int (ol - 1), .int od]))] := hD
      exact J32 of (ol - 1) od _ _ hv hP hD hS ls (lv_sub hl [0] rfl)
  · have hv := hv.2 c_1
    refine lv_aload_n hx hb d_Power_lastsForOneWrite_7 rfl (lv_at hl 0 rfl) ?_
    refine lv_iconst (v := 1) hx hb d_Power_lastsForOneWrite_8 (by decide) ?_
    refine va_put (D := (dC, dI)) (ci := 1) (v := .int 1) (ty := .boolean) (C := R_Power) (T := F_Power) (N := 3) hx hb htb i_Power t_Power t_Power_ok n_Power hown hK hP hD hS 0 rfl rfl 0 (by decide) (htb _ k_fl_Power_15) (fun _ h9 => h9) rfl (by decide +kernel) rfl rfl (Nat.le_of_ble_eq_true rfl) d_Power_lastsForOneWrite_9 (fun H locs hP hD hS => ?_)
    have hP : va_P (dC, dI) classes [(oh, .inr (1, [.int 1, .int ol, .int od]))] H := hP
    have hD : va_D A [(oh, .inr (1, [.int 1, .int ol, .int od]))] := hD
    refine lv_iconst (v := 0) hx hb d_Power_lastsForOneWrite_12 (by decide) ?_
    exact W.zret (v := 0) hx hb hr rfl (fun t ht hW => ⟨⟨0, (1, ol, od), rfl, hv, by rw [ht]; exact hP, hD⟩, hS.F ht⟩) hS.2.2 d_Power_lastsForOneWrite_13
def v_Surface_wordOf (sc : Nat → Int32) (sw : Nat → Int32) (sl : Nat → Int32) (p0 : Int32) (p1 : Int32) (post : Int32 → Prop) : Prop := (vp_in ((p0 * 2) + p1) 384 ∧ post (sw ((p0 * 2) + p1).toNatClampNeg))
set_option maxHeartbeats 4000000 in
set_option maxRecDepth 100000 in
theorem m_Surface_wordOf (l : Launch) (dC : Nat → ClassId) (dI : Nat → Nat → Nat) (cI cZ : ClassId) (sh sx sy sz : Nat) (zz : Nat) (sc : Nat → Int32) (sw : Nat → Int32) (sl : Nat → Int32) (p0 : Int32) (p1 : Int32) (post : Int32 → Prop) (hv : v_Surface_wordOf sc sw sl p0 p1 post) : Met l y_Surface_wordOf w_Surface_wordOf ({ frames := 0, cells := 0, slots := 0, locals := 0 }) (va_Pc [.ref sh, .int p0, .int p1] (fun U => U.heap.size = zz ∧ va_P (dC, dI) classes [(sh, .inr (3, [.ref sx, .ref sy, .ref sz])), (sx, .inl (cI, 192, .inl sc)), (sy, .inl (cI, 384, .inl sw)), (sz, .inl (cZ, 384, .inl sl))] U.heap ∧ va_K (dC, dI) classes [(cI, .int), (cZ, .boolean)] U ∧ nz_N U)) (va_Qi (fun (r : Int32) (_ : Unit) => post r ) (fun _ _ => True) (fun q : Nat => zz ≤ q)) 0 0 (fun q : Nat => zz ≤ q) := by
  refine Met.ofW (cc := b_Surface_wordOf) (maxL := 3) (ret := (some .int)) (by decide) rfl ?_
  intro p e s m args below meth c s₁ B hml hv0
  obtain ⟨rfl, hsz, hP, hK, hN⟩ := hv0
  have hx := B.exec
  have hb := B.bytes
  have hr := B.returns
  have htb := w_tbl (atoms_spec (ws := w_Surface_wordOf) B.pre)
  have hown : s.vm.findClass R_Surface = some m.cls := findClass_of_methodNamed B.named
  have hlocks := B.notSynchronized
  subst hsz
  have hA : ∀ q : Nat, s.heap.size ≤ q → (fun q : Nat => s.heap.size ≤ q) q := fun _ h => h
  have hS : va_S (fun q : Nat => s.heap.size ≤ q) s.heap s.heap [] := va_S.rf
  have hl := lv_entry ([.ref sh, .int p0, .int p1]) (n := 3) (Nat.le_of_ble_eq_true rfl)
  rw [lg_entry_eq]
  generalize (lg_sl ([.ref sh, .int p0, .int p1]) ++ List.replicate (3 - (lg_sl ([.ref sh, .int p0, .int p1])).length) Slot.unset).toArray = ls at hl ⊢
  have hl : lv_has ls 3 [(0, .ref sh), (1, .int p0), (2, .int p1)] := hl
  refine lv_aload_n hx hb d_Surface_wordOf_0 rfl (lv_at hl 0 rfl) ?_
  refine va_get (D := (dC, dI)) (ci := 3) (v := .ref sy) (C := R_Surface) (T := F_Surface) (N := 3) hx hb htb i_Surface hown hK hP 0 rfl rfl 1 (by decide) (htb _ k_fl_Surface_15) (fun _ h9 => h9) rfl d_Surface_wordOf_1 ?_
  refine lv_iload_n hx hb d_Surface_wordOf_4 rfl (lv_at hl 1 rfl) ?_
  refine lv_iconst (v := 2) hx hb d_Surface_wordOf_5 (by decide) ?_
  refine lv_imul hx hb d_Surface_wordOf_6 ?_
  refine lv_iload_n hx hb d_Surface_wordOf_7 rfl (lv_at hl 2 rfl) ?_
  refine lv_iadd hx hb d_Surface_wordOf_8 ?_
  obtain ⟨h_1, hv⟩ := hv
  refine va_iald hx hb hK hP 2 0 rfl rfl h_1 d_Surface_wordOf_9 ?_
  exact W.iret (v := sw ((p0 * 2) + p1).toNatClampNeg) hx hb hr (fun t ht hW => ⟨⟨sw ((p0 * 2) + p1).toNatClampNeg, (), rfl, hv, trivial⟩, hS.F ht⟩) hS.2.2 d_Surface_wordOf_10
def v_Surface_isLost (sc : Nat → Int32) (sw : Nat → Int32) (sl : Nat → Int32) (p0 : Int32) (p1 : Int32) (post : Int32 → Prop) : Prop := (vp_in ((p0 * 2) + p1) 384 ∧ (narrow .boolean (.int (sl ((p0 * 2) + p1).toNatClampNeg)) = .int (sl ((p0 * 2) + p1).toNatClampNeg) ∧ post (sl ((p0 * 2) + p1).toNatClampNeg)))
set_option maxHeartbeats 4000000 in
set_option maxRecDepth 100000 in
theorem m_Surface_isLost (l : Launch) (dC : Nat → ClassId) (dI : Nat → Nat → Nat) (cI cZ : ClassId) (sh sx sy sz : Nat) (zz : Nat) (sc : Nat → Int32) (sw : Nat → Int32) (sl : Nat → Int32) (p0 : Int32) (p1 : Int32) (post : Int32 → Prop) (hv : v_Surface_isLost sc sw sl p0 p1 post) : Met l y_Surface_isLost w_Surface_isLost ({ frames := 0, cells := 0, slots := 0, locals := 0 }) (va_Pc [.ref sh, .int p0, .int p1] (fun U => U.heap.size = zz ∧ va_P (dC, dI) classes [(sh, .inr (3, [.ref sx, .ref sy, .ref sz])), (sx, .inl (cI, 192, .inl sc)), (sy, .inl (cI, 384, .inl sw)), (sz, .inl (cZ, 384, .inl sl))] U.heap ∧ va_K (dC, dI) classes [(cI, .int), (cZ, .boolean)] U ∧ nz_N U)) (va_Qi (fun (r : Int32) (_ : Unit) => post r ) (fun _ _ => True) (fun q : Nat => zz ≤ q)) 0 0 (fun q : Nat => zz ≤ q) := by
  refine Met.ofW (cc := b_Surface_isLost) (maxL := 3) (ret := (some .boolean)) (by decide) rfl ?_
  intro p e s m args below meth c s₁ B hml hv0
  obtain ⟨rfl, hsz, hP, hK, hN⟩ := hv0
  have hx := B.exec
  have hb := B.bytes
  have hr := B.returns
  have htb := w_tbl (atoms_spec (ws := w_Surface_isLost) B.pre)
  have hown : s.vm.findClass R_Surface = some m.cls := findClass_of_methodNamed B.named
  have hlocks := B.notSynchronized
  subst hsz
  have hA : ∀ q : Nat, s.heap.size ≤ q → (fun q : Nat => s.heap.size ≤ q) q := fun _ h => h
  have hS : va_S (fun q : Nat => s.heap.size ≤ q) s.heap s.heap [] := va_S.rf
  have hl := lv_entry ([.ref sh, .int p0, .int p1]) (n := 3) (Nat.le_of_ble_eq_true rfl)
  rw [lg_entry_eq]
  generalize (lg_sl ([.ref sh, .int p0, .int p1]) ++ List.replicate (3 - (lg_sl ([.ref sh, .int p0, .int p1])).length) Slot.unset).toArray = ls at hl ⊢
  have hl : lv_has ls 3 [(0, .ref sh), (1, .int p0), (2, .int p1)] := hl
  refine lv_aload_n hx hb d_Surface_isLost_0 rfl (lv_at hl 0 rfl) ?_
  refine va_get (D := (dC, dI)) (ci := 3) (v := .ref sz) (C := R_Surface) (T := F_Surface) (N := 3) hx hb htb i_Surface hown hK hP 0 rfl rfl 2 (by decide) (htb _ k_fl_Surface_18) (fun _ h9 => h9) rfl d_Surface_isLost_1 ?_
  refine lv_iload_n hx hb d_Surface_isLost_4 rfl (lv_at hl 1 rfl) ?_
  refine lv_iconst (v := 2) hx hb d_Surface_isLost_5 (by decide) ?_
  refine lv_imul hx hb d_Surface_isLost_6 ?_
  refine lv_iload_n hx hb d_Surface_isLost_7 rfl (lv_at hl 2 rfl) ?_
  refine lv_iadd hx hb d_Surface_isLost_8 ?_
  obtain ⟨h_1, hv⟩ := hv
  refine va_zald hx hb hK hP 3 1 rfl rfl h_1 d_Surface_isLost_9 ?_
  exact W.zret (v := sl ((p0 * 2) + p1).toNatClampNeg) hx hb hr hv.1 (fun t ht hW => ⟨⟨sl ((p0 * 2) + p1).toNatClampNeg, (), rfl, hv.2, trivial⟩, hS.F ht⟩) hS.2.2 d_Surface_isLost_10
def v_Surface_put (sc : Nat → Int32) (sw : Nat → Int32) (sl : Nat → Int32) (p0 : Int32) (p1 : Int32) (p2 : Int32) (post : (Nat → Int32) → (Nat → Int32) → Prop) : Prop := (vp_in ((p0 * 2) + p1) 384 ∧ (vp_in ((p0 * 2) + p1) 384 ∧ post (upd sw ((p0 * 2) + p1).toNatClampNeg p2) (upd sl ((p0 * 2) + p1).toNatClampNeg (vp_nar .boolean 0))))
abbrev q_Surface_put (dC : Nat → ClassId) (dI : Nat → Nat → Nat) (cI cZ : ClassId) (sh sx sy sz : Nat) (sc : Nat → Int32) (sw : Nat → Int32) (sl : Nat → Int32) (A : Nat → Prop) (post : (Nat → Int32) → (Nat → Int32) → Prop) : Array Value → State → Outcome → State → Prop := va_Qv (fun (u : (Nat → Int32) × (Nat → Int32)) => post u.1 u.2) (fun (u : (Nat → Int32) × (Nat → Int32)) t => va_P (dC, dI) classes [(sh, .inr (3, [.ref sx, .ref sy, .ref sz])), (sx, .inl (cI, 192, .inl sc)), (sy, .inl (cI, 384, .inl u.1)), (sz, .inl (cZ, 384, .inl u.2))] t.heap ∧ va_D A [(sh, .inr (3, [.ref sx, .ref sy, .ref sz])), (sx, .inl (cI, 192, .inl sc)), (sy, .inl (cI, 384, .inl u.1)), (sz, .inl (cZ, 384, .inl u.2))]) A
set_option maxHeartbeats 4000000 in
set_option maxRecDepth 100000 in
theorem m_Surface_put (l : Launch) (dC : Nat → ClassId) (dI : Nat → Nat → Nat) (cI cZ : ClassId) (sh sx sy sz : Nat) (zz : Nat) (sc : Nat → Int32) (sw : Nat → Int32) (sl : Nat → Int32) (p0 : Int32) (p1 : Int32) (p2 : Int32) (post : (Nat → Int32) → (Nat → Int32) → Prop) (hv : v_Surface_put sc sw sl p0 p1 p2 post) : Met l y_Surface_put w_Surface_put ({ frames := 0, cells := 0, slots := 0, locals := 0 }) (va_Pc [.ref sh, .int p0, .int p1, .int p2] (fun U => U.heap.size = zz ∧ va_P (dC, dI) classes [(sh, .inr (3, [.ref sx, .ref sy, .ref sz])), (sx, .inl (cI, 192, .inl sc)), (sy, .inl (cI, 384, .inl sw)), (sz, .inl (cZ, 384, .inl sl))] U.heap ∧ va_K (dC, dI) classes [(cI, .int), (cZ, .boolean)] U ∧ nz_N U ∧ va_D (fun _ => True) [(sh, .inr (3, [.ref sx, .ref sy, .ref sz])), (sx, .inl (cI, 192, .inl sc)), (sy, .inl (cI, 384, .inl sw)), (sz, .inl (cZ, 384, .inl sl))])) (q_Surface_put dC dI cI cZ sh sx sy sz sc sw sl (va_A [(sh, .inr (3, [.ref sx, .ref sy, .ref sz])), (sx, .inl (cI, 192, .inl sc)), (sy, .inl (cI, 384, .inl sw)), (sz, .inl (cZ, 384, .inl sl))] zz) post) 0 0 (va_A [(sh, .inr (3, [.ref sx, .ref sy, .ref sz])), (sx, .inl (cI, 192, .inl sc)), (sy, .inl (cI, 384, .inl sw)), (sz, .inl (cZ, 384, .inl sl))] zz) := by
  refine Met.ofW (cc := b_Surface_put) (maxL := 4) (ret := none) (by decide) rfl ?_
  intro p e s m args below meth c s₁ B hml hv0
  obtain ⟨rfl, hsz, hP, hK, hN, hD0⟩ := hv0
  have hx := B.exec
  have hb := B.bytes
  have hr := B.returns
  have htb := w_tbl (atoms_spec (ws := w_Surface_put) B.pre)
  have hown : s.vm.findClass R_Surface = some m.cls := findClass_of_methodNamed B.named
  have hlocks := B.notSynchronized
  subst hsz
  have hD := hD0.self (sz := s.heap.size)
  generalize hAe : va_A [(sh, .inr (3, [.ref sx, .ref sy, .ref sz])), (sx, .inl (cI, 192, .inl sc)), (sy, .inl (cI, 384, .inl sw)), (sz, .inl (cZ, 384, .inl sl))] s.heap.size = A at hD ⊢
  have hA : ∀ q : Nat, s.heap.size ≤ q → A q := fun q h => by rw [← hAe]; exact Or.inr h
  have hS : va_S A s.heap s.heap [] := va_S.rf
  have hl := lv_entry ([.ref sh, .int p0, .int p1, .int p2]) (n := 4) (Nat.le_of_ble_eq_true rfl)
  rw [lg_entry_eq]
  generalize (lg_sl ([.ref sh, .int p0, .int p1, .int p2]) ++ List.replicate (4 - (lg_sl ([.ref sh, .int p0, .int p1, .int p2])).length) Slot.unset).toArray = ls at hl ⊢
  have hl : lv_has ls 4 [(0, .ref sh), (1, .int p0), (2, .int p1), (3, .int p2)] := hl
  refine lv_aload_n hx hb d_Surface_put_0 rfl (lv_at hl 0 rfl) ?_
  refine va_get (D := (dC, dI)) (ci := 3) (v := .ref sy) (C := R_Surface) (T := F_Surface) (N := 3) hx hb htb i_Surface hown hK hP 0 rfl rfl 1 (by decide) (htb _ k_fl_Surface_15) (fun _ h9 => h9) rfl d_Surface_put_1 ?_
  refine lv_iload_n hx hb d_Surface_put_4 rfl (lv_at hl 1 rfl) ?_
  refine lv_iconst (v := 2) hx hb d_Surface_put_5 (by decide) ?_
  refine lv_imul hx hb d_Surface_put_6 ?_
  refine lv_iload_n hx hb d_Surface_put_7 rfl (lv_at hl 2 rfl) ?_
  refine lv_iadd hx hb d_Surface_put_8 ?_
  refine lv_iload_n hx hb d_Surface_put_9 rfl (lv_at hl 3 rfl) ?_
  obtain ⟨h_1, hv⟩ := hv
  refine va_iast hx hb hK hP hD hS 2 0 rfl rfl h_1 d_Surface_put_10 (fun H locs hP hD hS => ?_)
  have hP : va_P (dC, dI) classes [(sh, .inr (3, [.ref sx, .ref sy, .ref sz])), (sx, .inl (cI, 192, .inl sc)), (sy, .inl (cI, 384, .inl (upd sw ((p0 * 2) + p1).toNatClampNeg p2))), (sz, .inl (cZ, 384, .inl sl))] H := hP
  have hD : va_D A [(sh, .inr (3, [.ref sx, .ref sy, .ref sz])), (sx, .inl (cI, 192, .inl sc)), (sy, .inl (cI, 384, .inl (upd sw ((p0 * 2) + p1).toNatClampNeg p2))), (sz, .inl (cZ, 384, .inl sl))] := hD
  refine lv_aload_n hx hb d_Surface_put_11 rfl (lv_at hl 0 rfl) ?_
  refine va_get (D := (dC, dI)) (ci := 3) (v := .ref sz) (C := R_Surface) (T := F_Surface) (N := 3) hx hb htb i_Surface hown hK hP 0 rfl rfl 2 (by decide) (htb _ k_fl_Surface_18) (fun _ h9 => h9) rfl d_Surface_put_12 ?_
  refine lv_iload_n hx hb d_Surface_put_15 rfl (lv_at hl 1 rfl) ?_
  refine lv_iconst (v := 2) hx hb d_Surface_put_16 (by decide) ?_
  refine lv_imul hx hb d_Surface_put_17 ?_
  refine lv_iload_n hx hb d_Surface_put_18 rfl (lv_at hl 2 rfl) ?_
  refine lv_iadd hx hb d_Surface_put_19 ?_
  refine lv_iconst (v := 0) hx hb d_Surface_put_20 (by decide) ?_
  obtain ⟨h_2, hv⟩ := hv
  refine va_zast hx hb hK hP hD hS 3 1 rfl rfl h_2 d_Surface_put_21 (fun H locs hP hD hS => ?_)
  have hP : va_P (dC, dI) classes [(sh, .inr (3, [.ref sx, .ref sy, .ref sz])), (sx, .inl (cI, 192, .inl sc)), (sy, .inl (cI, 384, .inl (upd sw ((p0 * 2) + p1).toNatClampNeg p2))), (sz, .inl (cZ, 384, .inl (upd sl ((p0 * 2) + p1).toNatClampNeg (vp_nar .boolean 0))))] H := hP
  have hD : va_D A [(sh, .inr (3, [.ref sx, .ref sy, .ref sz])), (sx, .inl (cI, 192, .inl sc)), (sy, .inl (cI, 384, .inl (upd sw ((p0 * 2) + p1).toNatClampNeg p2))), (sz, .inl (cZ, 384, .inl (upd sl ((p0 * 2) + p1).toNatClampNeg (vp_nar .boolean 0))))] := hD
  exact W.vret hx hb hr (fun t ht hW => ⟨⟨(upd sw ((p0 * 2) + p1).toNatClampNeg p2, upd sl ((p0 * 2) + p1).toNatClampNeg (vp_nar .boolean 0)), rfl, hv, by rw [ht]; exact hP, hD⟩, hS.F ht⟩) hS.2.2 d_Surface_put_22
def vb_Surface_wipe_2 (sc : Nat → Int32) (p0 : Int32) (post : (Nat → Int32) → (Nat → Int32) → Prop) (K2 : Int32 → (Nat → Int32) → (Nat → Int32) → Prop) (x2 : Int32) (swM : Nat → Int32) (slM : Nat → Int32) : Prop := ((2 ≤ x2 → post swM slM) ∧ (¬ 2 ≤ x2 → v_Surface_put sc swM slM p0 x2 0 (fun sw_3 sl_4 => K2 (x2 + 1) sw_3 sl_4)))
def v_Surface_wipe_2 (sc : Nat → Int32) (p0 : Int32) (post : (Nat → Int32) → (Nat → Int32) → Prop) : Nat → Int32 → (Nat → Int32) → (Nat → Int32) → Prop
  | 0 => fun _ _ _ => False
  | n + 1 => vb_Surface_wipe_2 sc p0 post (v_Surface_wipe_2 sc p0 post n)
def v_Surface_wipe (sc : Nat → Int32) (sw : Nat → Int32) (sl : Nat → Int32) (p0 : Int32) (post : (Nat → Int32) → (Nat → Int32) → Prop) : Prop := ∃ n, v_Surface_wipe_2 sc p0 post n 0 sw sl
abbrev q_Surface_wipe (dC : Nat → ClassId) (dI : Nat → Nat → Nat) (cI cZ : ClassId) (sh sx sy sz : Nat) (sc : Nat → Int32) (sw : Nat → Int32) (sl : Nat → Int32) (A : Nat → Prop) (post : (Nat → Int32) → (Nat → Int32) → Prop) : Array Value → State → Outcome → State → Prop := va_Qv (fun (u : (Nat → Int32) × (Nat → Int32)) => post u.1 u.2) (fun (u : (Nat → Int32) × (Nat → Int32)) t => va_P (dC, dI) classes [(sh, .inr (3, [.ref sx, .ref sy, .ref sz])), (sx, .inl (cI, 192, .inl sc)), (sy, .inl (cI, 384, .inl u.1)), (sz, .inl (cZ, 384, .inl u.2))] t.heap ∧ va_D A [(sh, .inr (3, [.ref sx, .ref sy, .ref sz])), (sx, .inl (cI, 192, .inl sc)), (sy, .inl (cI, 384, .inl u.1)), (sz, .inl (cZ, 384, .inl u.2))]) A
set_option maxHeartbeats 4000000 in
set_option maxRecDepth 100000 in
theorem m_Surface_wipe (l : Launch) (dC : Nat → ClassId) (dI : Nat → Nat → Nat) (cI cZ : ClassId) (sh sx sy sz : Nat) (zz : Nat) (sc : Nat → Int32) (sw : Nat → Int32) (sl : Nat → Int32) (p0 : Int32) (post : (Nat → Int32) → (Nat → Int32) → Prop) (hv : v_Surface_wipe sc sw sl p0 post) : Met l y_Surface_wipe w_Surface_wipe ({ frames := 1, cells := 0, slots := 0, locals := 23 }) (va_Pc [.ref sh, .int p0] (fun U => U.heap.size = zz ∧ va_P (dC, dI) classes [(sh, .inr (3, [.ref sx, .ref sy, .ref sz])), (sx, .inl (cI, 192, .inl sc)), (sy, .inl (cI, 384, .inl sw)), (sz, .inl (cZ, 384, .inl sl))] U.heap ∧ va_K (dC, dI) classes [(cI, .int), (cZ, .boolean)] U ∧ nz_N U ∧ va_D (fun _ => True) [(sh, .inr (3, [.ref sx, .ref sy, .ref sz])), (sx, .inl (cI, 192, .inl sc)), (sy, .inl (cI, 384, .inl sw)), (sz, .inl (cZ, 384, .inl sl))])) (q_Surface_wipe dC dI cI cZ sh sx sy sz sc sw sl (va_A [(sh, .inr (3, [.ref sx, .ref sy, .ref sz])), (sx, .inl (cI, 192, .inl sc)), (sy, .inl (cI, 384, .inl sw)), (sz, .inl (cZ, 384, .inl sl))] zz) post) 0 0 (va_A [(sh, .inr (3, [.ref sx, .ref sy, .ref sz])), (sx, .inl (cI, 192, .inl sc)), (sy, .inl (cI, 384, .inl sw)), (sz, .inl (cZ, 384, .inl sl))] zz) := by
  refine Met.ofW (cc := b_Surface_wipe) (maxL := 3) (ret := none) (by decide) rfl ?_
  intro p e s m args below meth c s₁ B hml hv0
  obtain ⟨rfl, hsz, hP, hK, hN, hD0⟩ := hv0
  have hx := B.exec
  have hb := B.bytes
  have hr := B.returns
  have htb := w_tbl (atoms_spec (ws := w_Surface_wipe) B.pre)
  have hown : s.vm.findClass R_Surface = some m.cls := findClass_of_methodNamed B.named
  have hlocks := B.notSynchronized
  subst hsz
  have hD := hD0.self (sz := s.heap.size)
  generalize hAe : va_A [(sh, .inr (3, [.ref sx, .ref sy, .ref sz])), (sx, .inl (cI, 192, .inl sc)), (sy, .inl (cI, 384, .inl sw)), (sz, .inl (cZ, 384, .inl sl))] s.heap.size = A at hD ⊢
  have hA : ∀ q : Nat, s.heap.size ≤ q → A q := fun q h => by rw [← hAe]; exact Or.inr h
  have hS : va_S A s.heap s.heap [] := va_S.rf
  have hl := lv_entry ([.ref sh, .int p0]) (n := 3) (Nat.le_of_ble_eq_true rfl)
  rw [lg_entry_eq]
  generalize (lg_sl ([.ref sh, .int p0]) ++ List.replicate (3 - (lg_sl ([.ref sh, .int p0])).length) Slot.unset).toArray = ls at hl ⊢
  have hl : lv_has ls 3 [(0, .ref sh), (1, .int p0)] := hl
  have J2 : ∀ (n : Nat) (x2 : Int32) (swM : Nat → Int32) (slM : Nat → Int32) (H : Heap) (locs : List Loc), v_Surface_wipe_2 sc p0 post n x2 swM slM → va_P (dC, dI) classes [(sh, .inr (3, [.ref sx, .ref sy, .ref sz])), (sx, .inl (cI, 192, .inl sc)), (sy, .inl (cI, 384, .inl swM)), (sz, .inl (cZ, 384, .inl slM))] H → va_D A [(sh, .inr (3, [.ref sx, .ref sy, .ref sz])), (sx, .inl (cI, 192, .inl sc)), (sy, .inl (cI, 384, .inl swM)), (sz, .inl (cZ, 384, .inl slM))] → va_S A s.heap H locs → ∀ ls : Array Slot, lv_has ls 3 [(0, .ref sh), (1, .int p0), (2, .int x2)] → W p l e (headSpec w_Surface_wipe ({ frames := 1, cells := 0, slots := 0, locals := 23 })).room s m ([.ref sh, .int p0] : List Value).toArray below meth c H locs 0 0 (MQ below (q_Surface_wipe dC dI cI cZ sh sx sy sz sc sw sl A post) ([.ref sh, .int p0] : List Value).toArray s 0 0 A) (F0 m 2 ls []) := by
    intro  n2
    induction n2 with
    | zero =>
      intro x2 swM slM H locs hv
      exact absurd hv id
    | succ n2 ih2 =>
      intro x2 swM slM H locs hv hP hD hS ls hl
      have hv : vb_Surface_wipe_2 sc p0 post (v_Surface_wipe_2 sc p0 post n2) x2 swM slM := hv
      refine lv_iload_n hx hb d_Surface_wipe_2 rfl (lv_at hl 2 rfl) ?_
      refine lv_iconst (v := 2) hx hb d_Surface_wipe_3 (by decide) ?_
      refine lv_icmp_ge (tgt := 20) hx hb d_Surface_wipe_4 (by decide) (fun c_1 => ?_) (fun c_1 => ?_)
      · have hv := hv.1 c_1
        exact W.vret hx hb hr (fun t ht hW => ⟨⟨(swM, slM), rfl, hv, by rw [ht]; exact hP, hD⟩, hS.F ht⟩) hS.2.2 d_Surface_wipe_20
      · have hv := hv.2 c_1
        refine lv_aload_n hx hb d_Surface_wipe_7 rfl (lv_at hl 0 rfl) ?_
        refine lv_iload_n hx hb d_Surface_wipe_8 rfl (lv_at hl 1 rfl) ?_
        refine lv_iload_n hx hb d_Surface_wipe_9 rfl (lv_at hl 2 rfl) ?_
        refine lv_iconst (v := 0) hx hb d_Surface_wipe_10 (by decide) ?_
        have hPc := hP.sub (ws' := [(sh, .inr (3, [.ref sx, .ref sy, .ref sz])), (sx, .inl (cI, 192, .inl sc)), (sy, .inl (cI, 384, .inl swM)), (sz, .inl (cZ, 384, .inl slM))]) [0, 1, 2, 3] rfl
        have hDc := hD.sub (ws' := [(sh, .inr (3, [.ref sx, .ref sy, .ref sz])), (sx, .inl (cI, 192, .inl sc)), (sy, .inl (cI, 384, .inl swM)), (sz, .inl (cZ, 384, .inl slM))]) [0, 1, 2, 3] (by decide) rfl
        refine cz_v (wr := []) (va_runV (As := [.int p0, .int x2, .int 0]) (rest := []) ⟨hx, hb, hml, hown, htb⟩ (m_Surface_put l dC dI cI cZ sh sx sy sz _ sc swM slM p0 x2 0 _ hv) (cwV 3 htb (gz_V k_ml_Surface_22 k_inst_Surface_put k_sel_Surface_put k_init_Surface k_code_Surface_put) rfl rfl rfl (by decide +kernel) ⟨Nat.le_of_ble_eq_true rfl, Nat.le_of_ble_eq_true rfl⟩) (pz_V (ci := 3) (q0 := 0) hPc hK hN hDc rfl rfl) rfl rfl hl.1 rfl (lv_room (Nat.le_of_ble_eq_true rfl)) d_Surface_wipe_11 ⟨Nat.le_of_ble_eq_true rfl, Nat.le_of_ble_eq_true rfl⟩) hP hD hS hA [0, 1, 2, 3] [] rfl rfl (by decide) (by decide) (fun u H locs hv hP hD hS => ?_)
        obtain ⟨sw_3, sl_4⟩ := u
        have hP : va_P (dC, dI) classes [(sh, .inr (3, [.ref sx, .ref sy, .ref sz])), (sx, .inl (cI, 192, .inl sc)), (sy, .inl (cI, 384, .inl sw_3)), (sz, .inl (cZ, 384, .inl sl_4))] H := hP.sub [0, 1, 2, 3] rfl
        have hD : va_D A [(sh, .inr (3, [.ref sx, .ref sy, .ref sz])), (sx, .inl (cI, 192, .inl sc)), (sy, .inl (cI, 384, .inl sw_3)), (sz, .inl (cZ, 384, .inl sl_4))] := hD.sub [0, 1, 2, 3] (by decide) rfl
        refine lv_iinc (v := x2 + 1) (lv' := [(2, .int (x2 + 1)), (0, .ref sh), (1, .int p0)]) hx hb d_Surface_wipe_14 hl (k := 2) rfl rfl (by decide) rfl (fun ls hl => ?_)
        refine lv_goto (tgt := 2) hx hb d_Surface_wipe_17 (by decide) ?_
        exact ih2 (x2 + 1) sw_3 sl_4 _ _ hv hP hD hS ls (lv_sub hl [1, 2, 0] rfl)
  refine lv_iconst (v := 0) hx hb d_Surface_wipe_0 (by decide) ?_
  refine lv_istore_n (lv' := [(2, .int 0), (0, .ref sh), (1, .int p0)]) hx hb d_Surface_wipe_1 rfl hl (by decide) rfl (fun ls hl => ?_)
  obtain ⟨n_2, hv⟩ := hv
  exact J2  n_2 0 sw sl _ _ hv hP hD hS ls (lv_sub hl [1, 2, 0] rfl)
def v_Surface_move_64 (K2 : (Int32 → (Nat → Int32) → (Nat → Int32) → Prop)) (x3 : Int32) (y0 : Int32) (y1 : Int32) (swM : Nat → Int32) (slM : Nat → Int32) : Prop := (vp_in y1 384 ∧ K2 (x3 + 1) swM (upd slM y1.toNatClampNeg (vp_nar .boolean y0)))
def v_Surface_move_59 (K2 : (Int32 → (Nat → Int32) → (Nat → Int32) → Prop)) (x3 : Int32) (y0 : Int32) (swM : Nat → Int32) (slM : Nat → Int32) : Prop := v_Surface_move_64 K2 x3 1 y0 swM slM
def vb_Surface_move_2 (sc : Nat → Int32) (p0 : Int32) (p1 : Int32) (post : (Nat → Int32) → (Nat → Int32) → Prop) (K2 : Int32 → (Nat → Int32) → (Nat → Int32) → Prop) (x3 : Int32) (swM : Nat → Int32) (slM : Nat → Int32) : Prop := ((2 ≤ x3 → post swM slM) ∧ (¬ 2 ≤ x3 → (vp_in ((p0 * 2) + x3) 384 ∧ (vp_in ((p1 * 2) + x3) 384 ∧ (vp_in p0 192 ∧ (((sc p0.toNatClampNeg) = 2 → v_Surface_move_59 K2 x3 ((p1 * 2) + x3) (upd swM ((p1 * 2) + x3).toNatClampNeg (swM ((p0 * 2) + x3).toNatClampNeg)) slM) ∧ (¬ (sc p0.toNatClampNeg) = 2 → (vp_in ((p0 * 2) + x3) 384 ∧ (((slM ((p0 * 2) + x3).toNatClampNeg) = 0 → v_Surface_move_64 K2 x3 0 ((p1 * 2) + x3) (upd swM ((p1 * 2) + x3).toNatClampNeg (swM ((p0 * 2) + x3).toNatClampNeg)) slM) ∧ (¬ (slM ((p0 * 2) + x3).toNatClampNeg) = 0 → v_Surface_move_59 K2 x3 ((p1 * 2) + x3) (upd swM ((p1 * 2) + x3).toNatClampNeg (swM ((p0 * 2) + x3).toNatClampNeg)) slM))))))))))
def v_Surface_move_2 (sc : Nat → Int32) (p0 : Int32) (p1 : Int32) (post : (Nat → Int32) → (Nat → Int32) → Prop) : Nat → Int32 → (Nat → Int32) → (Nat → Int32) → Prop
  | 0 => fun _ _ _ => False
  | n + 1 => vb_Surface_move_2 sc p0 p1 post (v_Surface_move_2 sc p0 p1 post n)
def v_Surface_move (sc : Nat → Int32) (sw : Nat → Int32) (sl : Nat → Int32) (p0 : Int32) (p1 : Int32) (post : (Nat → Int32) → (Nat → Int32) → Prop) : Prop := ∃ n, v_Surface_move_2 sc p0 p1 post n 0 sw sl
abbrev q_Surface_move (dC : Nat → ClassId) (dI : Nat → Nat → Nat) (cI cZ : ClassId) (sh sx sy sz : Nat) (sc : Nat → Int32) (sw : Nat → Int32) (sl : Nat → Int32) (A : Nat → Prop) (post : (Nat → Int32) → (Nat → Int32) → Prop) : Array Value → State → Outcome → State → Prop := va_Qv (fun (u : (Nat → Int32) × (Nat → Int32)) => post u.1 u.2) (fun (u : (Nat → Int32) × (Nat → Int32)) t => va_P (dC, dI) classes [(sh, .inr (3, [.ref sx, .ref sy, .ref sz])), (sx, .inl (cI, 192, .inl sc)), (sy, .inl (cI, 384, .inl u.1)), (sz, .inl (cZ, 384, .inl u.2))] t.heap ∧ va_D A [(sh, .inr (3, [.ref sx, .ref sy, .ref sz])), (sx, .inl (cI, 192, .inl sc)), (sy, .inl (cI, 384, .inl u.1)), (sz, .inl (cZ, 384, .inl u.2))]) A
set_option maxHeartbeats 4000000 in
set_option maxRecDepth 100000 in
theorem m_Surface_move (l : Launch) (dC : Nat → ClassId) (dI : Nat → Nat → Nat) (cI cZ : ClassId) (sh sx sy sz : Nat) (zz : Nat) (sc : Nat → Int32) (sw : Nat → Int32) (sl : Nat → Int32) (p0 : Int32) (p1 : Int32) (post : (Nat → Int32) → (Nat → Int32) → Prop) (hv : v_Surface_move sc sw sl p0 p1 post) : Met l y_Surface_move w_Surface_move ({ frames := 0, cells := 0, slots := 0, locals := 0 }) (va_Pc [.ref sh, .int p0, .int p1] (fun U => U.heap.size = zz ∧ va_P (dC, dI) classes [(sh, .inr (3, [.ref sx, .ref sy, .ref sz])), (sx, .inl (cI, 192, .inl sc)), (sy, .inl (cI, 384, .inl sw)), (sz, .inl (cZ, 384, .inl sl))] U.heap ∧ va_K (dC, dI) classes [(cI, .int), (cZ, .boolean)] U ∧ nz_N U ∧ va_D (fun _ => True) [(sh, .inr (3, [.ref sx, .ref sy, .ref sz])), (sx, .inl (cI, 192, .inl sc)), (sy, .inl (cI, 384, .inl sw)), (sz, .inl (cZ, 384, .inl sl))])) (q_Surface_move dC dI cI cZ sh sx sy sz sc sw sl (va_A [(sh, .inr (3, [.ref sx, .ref sy, .ref sz])), (sx, .inl (cI, 192, .inl sc)), (sy, .inl (cI, 384, .inl sw)), (sz, .inl (cZ, 384, .inl sl))] zz) post) 0 0 (va_A [(sh, .inr (3, [.ref sx, .ref sy, .ref sz])), (sx, .inl (cI, 192, .inl sc)), (sy, .inl (cI, 384, .inl sw)), (sz, .inl (cZ, 384, .inl sl))] zz) := by
  refine Met.ofW (cc := b_Surface_move) (maxL := 4) (ret := none) (by decide) rfl ?_
  intro p e s m args below meth c s₁ B hml hv0
  obtain ⟨rfl, hsz, hP, hK, hN, hD0⟩ := hv0
  have hx := B.exec
  have hb := B.bytes
  have hr := B.returns
  have htb := w_tbl (atoms_spec (ws := w_Surface_move) B.pre)
  have hown : s.vm.findClass R_Surface = some m.cls := findClass_of_methodNamed B.named
  have hlocks := B.notSynchronized
  subst hsz
  have hD := hD0.self (sz := s.heap.size)
  generalize hAe : va_A [(sh, .inr (3, [.ref sx, .ref sy, .ref sz])), (sx, .inl (cI, 192, .inl sc)), (sy, .inl (cI, 384, .inl sw)), (sz, .inl (cZ, 384, .inl sl))] s.heap.size = A at hD ⊢
  have hA : ∀ q : Nat, s.heap.size ≤ q → A q := fun q h => by rw [← hAe]; exact Or.inr h
  have hS : va_S A s.heap s.heap [] := va_S.rf
  have hl := lv_entry ([.ref sh, .int p0, .int p1]) (n := 4) (Nat.le_of_ble_eq_true rfl)
  rw [lg_entry_eq]
  generalize (lg_sl ([.ref sh, .int p0, .int p1]) ++ List.replicate (4 - (lg_sl ([.ref sh, .int p0, .int p1])).length) Slot.unset).toArray = ls at hl ⊢
  have hl : lv_has ls 4 [(0, .ref sh), (1, .int p0), (2, .int p1)] := hl
  have J2 : ∀ (n : Nat) (x3 : Int32) (swM : Nat → Int32) (slM : Nat → Int32) (H : Heap) (locs : List Loc), v_Surface_move_2 sc p0 p1 post n x3 swM slM → va_P (dC, dI) classes [(sh, .inr (3, [.ref sx, .ref sy, .ref sz])), (sx, .inl (cI, 192, .inl sc)), (sy, .inl (cI, 384, .inl swM)), (sz, .inl (cZ, 384, .inl slM))] H → va_D A [(sh, .inr (3, [.ref sx, .ref sy, .ref sz])), (sx, .inl (cI, 192, .inl sc)), (sy, .inl (cI, 384, .inl swM)), (sz, .inl (cZ, 384, .inl slM))] → va_S A s.heap H locs → ∀ ls : Array Slot, lv_has ls 4 [(0, .ref sh), (1, .int p0), (2, .int p1), (3, .int x3)] → W p l e (headSpec w_Surface_move ({ frames := 0, cells := 0, slots := 0, locals := 0 })).room s m ([.ref sh, .int p0, .int p1] : List Value).toArray below meth c H locs 0 0 (MQ below (q_Surface_move dC dI cI cZ sh sx sy sz sc sw sl A post) ([.ref sh, .int p0, .int p1] : List Value).toArray s 0 0 A) (F0 m 2 ls []) := by
    intro  n2
    induction n2 with
    | zero =>
      intro x3 swM slM H locs hv
      exact absurd hv id
    | succ n2 ih2 =>
      intro x3 swM slM H locs hv hP hD hS ls hl
      have hv : vb_Surface_move_2 sc p0 p1 post (v_Surface_move_2 sc p0 p1 post n2) x3 swM slM := hv
      have J64 : ∀ (x3 : Int32) (y0 : Int32) (y1 : Int32) (swM : Nat → Int32) (slM : Nat → Int32) (H : Heap) (locs : List Loc), v_Surface_move_64 (v_Surface_move_2 sc p0 p1 post n2) x3 y0 y1 swM slM → va_P (dC, dI) classes [(sh, .inr (3, [.ref sx, .ref sy, .ref sz])), (sx, .inl (cI, 192, .inl sc)), (sy, .inl (cI, 384, .inl swM)), (sz, .inl (cZ, 384, .inl slM))] H → va_D A [(sh, .inr (3, [.ref sx, .ref sy, .ref sz])), (sx, .inl (cI, 192, .inl sc)), (sy, .inl (cI, 384, .inl swM)), (sz, .inl (cZ, 384, .inl slM))] → va_S A s.heap H locs → ∀ ls : Array Slot, lv_has ls 4 [(0, .ref sh), (1, .int p0), (2, .int p1), (3, .int x3)] → W p l e (headSpec w_Surface_move ({ frames := 0, cells := 0, slots := 0, locals := 0 })).room s m ([.ref sh, .int p0, .int p1] : List Value).toArray below meth c H locs 0 0 (MQ below (q_Surface_move dC dI cI cZ sh sx sy sz sc sw sl A post) ([.ref sh, .int p0, .int p1] : List Value).toArray s 0 0 A) (F0 m 64 ls [.int y0, .int y1, .ref sz]) := by
        intro x3 y0 y1 swM slM H locs hv hP hD hS ls hl
        obtain ⟨h_6, hv⟩ := hv
        refine va_zast hx hb hK hP hD hS 3 1 rfl rfl h_6 d_Surface_move_64 (fun H locs hP hD hS => ?_)
        have hP : va_P (dC, dI) classes [(sh, .inr (3, [.ref sx, .ref sy, .ref sz])), (sx, .inl (cI, 192, .inl sc)), (sy, .inl (cI, 384, .inl swM)), (sz, .inl (cZ, 384, .inl (upd slM y1.toNatClampNeg (vp_nar .boolean y0))))] H := hP
        have hD : va_D A [(sh, .inr (3, [.ref sx, .ref sy, .ref sz])), (sx, .inl (cI, 192, .inl sc)), (sy, .inl (cI, 384, .inl swM)), (sz, .inl (cZ, 384, .inl (upd slM y1.toNatClampNeg (vp_nar .boolean y0))))] := hD
        refine lv_iinc (v := x3 + 1) (lv' := [(3, .int (x3 + 1)), (0, .ref sh), (1, .int p0), (2, .int p1)]) hx hb d_Surface_move_65 hl (k := 3) rfl rfl (by decide) rfl (fun ls hl => ?_)
        refine lv_goto (tgt := 2) hx hb d_Surface_move_68 (by decide) ?_
        exact ih2 (x3 + 1) swM (upd slM y1.toNatClampNeg (vp_nar .boolean y0)) _ _ hv hP hD hS ls (lv_sub hl [1, 2, 3, 0] rfl)
      have J59 : ∀ (x3 : Int32) (y0 : Int32) (swM : Nat → Int32) (slM : Nat → Int32) (H : Heap) (locs : List Loc), v_Surface_move_59 (v_Surface_move_2 sc p0 p1 post n2) x3 y0 swM slM → va_P (dC, dI) classes [(sh, .inr (3, [.ref sx, .ref sy, .ref sz])), (sx, .inl (cI, 192, .inl sc)), (sy, .inl (cI, 384, .inl swM)), (sz, .inl (cZ, 384, .inl slM))] H → va_D A [(sh, .inr (3, [.ref sx, .ref sy, .ref sz])), (sx, .inl (cI, 192, .inl sc)), (sy, .inl (cI, 384, .inl swM)), (sz, .inl (cZ, 384, .inl slM))] → va_S A s.heap H locs → ∀ ls : Array Slot, lv_has ls 4 [(0, .ref sh), (1, .int p0), (2, .int p1), (3, .int x3)] → W p l e (headSpec w_Surface_move ({ frames := 0, cells := 0, slots := 0, locals := 0 })).room s m ([.ref sh, .int p0, .int p1] : List Value).toArray below meth c H locs 0 0 (MQ below (q_Surface_move dC dI cI cZ sh sx sy sz sc sw sl A post) ([.ref sh, .int p0, .int p1] : List Value).toArray s 0 0 A) (F0 m 59 ls [.int y0, .ref sz]) := by
        intro x3 y0 swM slM H locs hv hP hD hS ls hl
        refine lv_iconst (v := 1) hx hb d_Surface_move_59 (by decide) ?_
        refine lv_goto (tgt := 64) hx hb d_Surface_move_60 (by decide) ?_
        exact J64 x3 1 y0 swM slM _ _ hv hP hD hS ls (lv_sub hl [0, 1, 2, 3] rfl)
      refine lv_iload_n hx hb d_Surface_move_2 rfl (lv_at hl 3 rfl) ?_
      refine lv_iconst (v := 2) hx hb d_Surface_move_3 (by decide) ?_
      refine lv_icmp_ge (tgt := 71) hx hb d_Surface_move_4 (by decide) (fun c_1 => ?_) (fun c_1 => ?_)
      · have hv := hv.1 c_1
        exact W.vret hx hb hr (fun t ht hW => ⟨⟨(swM, slM), rfl, hv, by rw [ht]; exact hP, hD⟩, hS.F ht⟩) hS.2.2 d_Surface_move_71
      · have hv := hv.2 c_1
        refine lv_aload_n hx hb d_Surface_move_7 rfl (lv_at hl 0 rfl) ?_
        refine va_get (D := (dC, dI)) (ci := 3) (v := .ref sy) (C := R_Surface) (T := F_Surface) (N := 3) hx hb htb i_Surface hown hK hP 0 rfl rfl 1 (by decide) (htb _ k_fl_Surface_15) (fun _ h9 => h9) rfl d_Surface_move_8 ?_
        refine lv_iload_n hx hb d_Surface_move_11 rfl (lv_at hl 2 rfl) ?_
        refine lv_iconst (v := 2) hx hb d_Surface_move_12 (by decide) ?_
        refine lv_imul hx hb d_Surface_move_13 ?_
        refine lv_iload_n hx hb d_Surface_move_14 rfl (lv_at hl 3 rfl) ?_
        refine lv_iadd hx hb d_Surface_move_15 ?_
        refine lv_aload_n hx hb d_Surface_move_16 rfl (lv_at hl 0 rfl) ?_
        refine va_get (D := (dC, dI)) (ci := 3) (v := .ref sy) (C := R_Surface) (T := F_Surface) (N := 3) hx hb htb i_Surface hown hK hP 0 rfl rfl 1 (by decide) (htb _ k_fl_Surface_15) (fun _ h9 => h9) rfl d_Surface_move_17 ?_
        refine lv_iload_n hx hb d_Surface_move_20 rfl (lv_at hl 1 rfl) ?_
        refine lv_iconst (v := 2) hx hb d_Surface_move_21 (by decide) ?_
        refine lv_imul hx hb d_Surface_move_22 ?_
        refine lv_iload_n hx hb d_Surface_move_23 rfl (lv_at hl 3 rfl) ?_
        refine lv_iadd hx hb d_Surface_move_24 ?_
        obtain ⟨h_2, hv⟩ := hv
        refine va_iald hx hb hK hP 2 0 rfl rfl h_2 d_Surface_move_25 ?_
        obtain ⟨h_3, hv⟩ := hv
        refine va_iast hx hb hK hP hD hS 2 0 rfl rfl h_3 d_Surface_move_26 (fun H locs hP hD hS => ?_)
        have hP : va_P (dC, dI) classes [(sh, .inr (3, [.ref sx, .ref sy, .ref sz])), (sx, .inl (cI, 192, .inl sc)), (sy, .inl (cI, 384, .inl (upd swM ((p1 * 2) + x3).toNatClampNeg (swM ((p0 * 2) + x3).toNatClampNeg)))), (sz, .inl (cZ, 384, .inl slM))] H := hP
        have hD : va_D A [(sh, .inr (3, [.ref sx, .ref sy, .ref sz])), (sx, .inl (cI, 192, .inl sc)), (sy, .inl (cI, 384, .inl (upd swM ((p1 * 2) + x3).toNatClampNeg (swM ((p0 * 2) + x3).toNatClampNeg)))), (sz, .inl (cZ, 384, .inl slM))] := hD
        refine lv_aload_n hx hb d_Surface_move_27 rfl (lv_at hl 0 rfl) ?_
        refine va_get (D := (dC, dI)) (ci := 3) (v := .ref sz) (C := R_Surface) (T := F_Surface) (N := 3) hx hb htb i_Surface hown hK hP 0 rfl rfl 2 (by decide) (htb _ k_fl_Surface_18) (fun _ h9 => h9) rfl d_Surface_move_28 ?_
        refine lv_iload_n hx hb d_Surface_move_31 rfl (lv_at hl 2 rfl) ?_
        refine lv_iconst (v := 2) hx hb d_Surface_move_32 (by decide) ?_
        refine lv_imul hx hb d_Surface_move_33 ?_
        refine lv_iload_n hx hb d_Surface_move_34 rfl (lv_at hl 3 rfl) ?_
        refine lv_iadd hx hb d_Surface_move_35 ?_
        refine lv_aload_n hx hb d_Surface_move_36 rfl (lv_at hl 0 rfl) ?_
        refine va_get (D := (dC, dI)) (ci := 3) (v := .ref sx) (C := R_Surface) (T := F_Surface) (N := 3) hx hb htb i_Surface hown hK hP 0 rfl rfl 0 (by decide) (htb _ k_fl_Surface_9) (fun _ h9 => h9) rfl d_Surface_move_37 ?_
        refine lv_iload_n hx hb d_Surface_move_40 rfl (lv_at hl 1 rfl) ?_
        obtain ⟨h_4, hv⟩ := hv
        refine va_iald hx hb hK hP 1 0 rfl rfl h_4 d_Surface_move_41 ?_
        refine lv_iconst (v := 2) hx hb d_Surface_move_42 (by decide) ?_
        refine lv_icmp_eq (tgt := 59) hx hb d_Surface_move_43 (by decide) (fun c_5 => ?_) (fun c_5 => ?_)
        · have hv := hv.1 c_5
          exact J59 x3 ((p1 * 2) + x3) (upd swM ((p1 * 2) + x3).toNatClampNeg (swM ((p0 * 2) + x3).toNatClampNeg)) slM _ _ hv hP hD hS ls (lv_sub hl [0, 1, 2, 3] rfl)
        · have hv := hv.2 c_5
          refine lv_aload_n hx hb d_Surface_move_46 rfl (lv_at hl 0 rfl) ?_
          refine va_get (D := (dC, dI)) (ci := 3) (v := .ref sz) (C := R_Surface) (T := F_Surface) (N := 3) hx hb htb i_Surface hown hK hP 0 rfl rfl 2 (by decide) (htb _ k_fl_Surface_18) (fun _ h9 => h9) rfl d_Surface_move_47 ?_
          refine lv_iload_n hx hb d_Surface_move_50 rfl (lv_at hl 1 rfl) ?_
          refine lv_iconst (v := 2) hx hb d_Surface_move_51 (by decide) ?_
          refine lv_imul hx hb d_Surface_move_52 ?_
          refine lv_iload_n hx hb d_Surface_move_53 rfl (lv_at hl 3 rfl) ?_
          refine lv_iadd hx hb d_Surface_move_54 ?_
          obtain ⟨h_7, hv⟩ := hv
          refine va_zald hx hb hK hP 3 1 rfl rfl h_7 d_Surface_move_55 ?_
          refine lv_if_eq (tgt := 63) hx hb d_Surface_move_56 (by decide) (fun c_8 => ?_) (fun c_8 => ?_)
          · have hv := hv.1 c_8
            refine lv_iconst (v := 0) hx hb d_Surface_move_63 (by decide) ?_
            exact J64 x3 0 ((p1 * 2) + x3) (upd swM ((p1 * 2) + x3).toNatClampNeg (swM ((p0 * 2) + x3).toNatClampNeg)) slM _ _ hv hP hD hS ls (lv_sub hl [0, 1, 2, 3] rfl)
          · have hv := hv.2 c_8
            exact J59 x3 ((p1 * 2) + x3) (upd swM ((p1 * 2) + x3).toNatClampNeg (swM ((p0 * 2) + x3).toNatClampNeg)) slM _ _ hv hP hD hS ls (lv_sub hl [0, 1, 2, 3] rfl)
  refine lv_iconst (v := 0) hx hb d_Surface_move_0 (by decide) ?_
  refine lv_istore_n (lv' := [(3, .int 0), (0, .ref sh), (1, .int p0), (2, .int p1)]) hx hb d_Surface_move_1 rfl hl (by decide) rfl (fun ls hl => ?_)
  obtain ⟨n_2, hv⟩ := hv
  exact J2  n_2 0 sw sl _ _ hv hP hD hS ls (lv_sub hl [1, 2, 3, 0] rfl)
