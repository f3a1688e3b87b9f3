def v_Model_in (p0 : Int32) (p1 : Int32) (p2 : Int32) (post : Int32 → Prop) : Prop := ((p0 < p1 → post 0) ∧ (¬ p0 < p1 → ((p2 < p0 → post 0) ∧ (¬ p2 < p0 → post 1))))
set_option maxHeartbeats 4000000 in
set_option maxRecDepth 100000 in
theorem m_Model_in (l : Launch) (dC : Nat → ClassId) (dI : Nat → Nat → Nat) (cI cZ : ClassId) (zz : Nat) (p0 : Int32) (p1 : Int32) (p2 : Int32) (post : Int32 → Prop) (hv : v_Model_in p0 p1 p2 post) : Met l y_Model_in w_Model_in ({ frames := 0, cells := 0, slots := 0, locals := 0 }) (va_Pc [.int p0, .int p1, .int p2] (fun U => U.heap.size = zz ∧ va_P (dC, dI) classes [] U.heap ∧ va_K (dC, dI) classes [(cI, .int), (cZ, .boolean)] U ∧ nz_N U)) (va_Qi (fun (r : Int32) (_ : Unit) => post r ) (fun _ _ => True) (fun q : Nat => zz ≤ q)) 0 0 (fun q : Nat => zz ≤ q) := by
  refine Met.ofW (cc := b_Model_in) (maxL := 3) (ret := (some .boolean)) (by decide) rfl ?_
  intro p e s m args below meth c s₁ B hml hv0
  obtain ⟨rfl, hsz, hP, hK, hN⟩ := hv0
  have hx := B.exec
  have hb := B.bytes
  have hr := B.returns
  have htb := w_tbl (atoms_spec (ws := w_Model_in) B.pre)
  have hown : s.vm.findClass R_Model = some m.cls := findClass_of_methodNamed B.named
  have hlocks := B.notSynchronized
  subst hsz
  have hA : ∀ q : Nat, s.heap.size ≤ q → (fun q : Nat => s.heap.size ≤ q) q := fun _ h => h
  have hS : va_S (fun q : Nat => s.heap.size ≤ q) s.heap s.heap [] := va_S.rf
  have hl := lv_entry ([.int p0, .int p1, .int p2]) (n := 3) (Nat.le_of_ble_eq_true rfl)
  rw [lg_entry_eq]
  generalize (lg_sl ([.int p0, .int p1, .int p2]) ++ List.replicate (3 - (lg_sl ([.int p0, .int p1, .int p2])).length) Slot.unset).toArray = ls at hl ⊢
  have hl : lv_has ls 3 [(0, .int p0), (1, .int p1), (2, .int p2)] := hl
  refine lv_iload_n hx hb d_Model_in_0 rfl (lv_at hl 0 rfl) ?_
  refine lv_iload_n hx hb d_Model_in_1 rfl (lv_at hl 1 rfl) ?_
  refine lv_icmp_lt (tgt := 14) hx hb d_Model_in_2 (by decide) (fun c_1 => ?_) (fun c_1 => ?_)
  · have hv := hv.1 c_1
    refine lv_iconst (v := 0) hx hb d_Model_in_14 (by decide) ?_
    exact W.zret (v := 0) hx hb hr rfl (fun t ht hW => ⟨⟨0, (), rfl, hv, trivial⟩, hS.F ht⟩) hS.2.2 d_Model_in_15
  · have hv := hv.2 c_1
    refine lv_iload_n hx hb d_Model_in_5 rfl (lv_at hl 0 rfl) ?_
    refine lv_iload_n hx hb d_Model_in_6 rfl (lv_at hl 2 rfl) ?_
    refine lv_icmp_gt (tgt := 14) hx hb d_Model_in_7 (by decide) (fun c_2 => ?_) (fun c_2 => ?_)
    · have hv := hv.1 c_2
      refine lv_iconst (v := 0) hx hb d_Model_in_14 (by decide) ?_
      exact W.zret (v := 0) hx hb hr rfl (fun t ht hW => ⟨⟨0, (), rfl, hv, trivial⟩, hS.F ht⟩) hS.2.2 d_Model_in_15
    · have hv := hv.2 c_2
      refine lv_iconst (v := 1) hx hb d_Model_in_10 (by decide) ?_
      refine lv_goto (tgt := 15) hx hb d_Model_in_11 (by decide) ?_
      exact W.zret (v := 1) hx hb hr rfl (fun t ht hW => ⟨⟨1, (), rfl, hv, trivial⟩, hS.F ht⟩) hS.2.2 d_Model_in_15
def v_Model_isSector (p0 : Int32) (post : Int32 → Prop) : Prop := v_Model_in p0 0 191 (fun r_1 => (narrow .boolean (.int r_1) = .int r_1 ∧ post r_1))
set_option maxHeartbeats 4000000 in
set_option maxRecDepth 100000 in
theorem m_Model_isSector (l : Launch) (dC : Nat → ClassId) (dI : Nat → Nat → Nat) (cI cZ : ClassId) (zz : Nat) (p0 : Int32) (post : Int32 → Prop) (hv : v_Model_isSector p0 post) : Met l y_Model_isSector w_Model_isSector ({ frames := 1, cells := 0, slots := 0, locals := 22 }) (va_Pc [.int p0] (fun U => U.heap.size = zz ∧ va_P (dC, dI) classes [] U.heap ∧ va_K (dC, dI) classes [(cI, .int), (cZ, .boolean)] U ∧ nz_N U)) (va_Qi (fun (r : Int32) (_ : Unit) => post r ) (fun _ _ => True) (fun q : Nat => zz ≤ q)) 0 0 (fun q : Nat => zz ≤ q) := by
  refine Met.ofW (cc := b_Model_isSector) (maxL := 1) (ret := (some .boolean)) (by decide) rfl ?_
  intro p e s m args below meth c s₁ B hml hv0
  obtain ⟨rfl, hsz, hP, hK, hN⟩ := hv0
  have hx := B.exec
  have hb := B.bytes
  have hr := B.returns
  have htb := w_tbl (atoms_spec (ws := w_Model_isSector) B.pre)
  have hown : s.vm.findClass R_Model = some m.cls := findClass_of_methodNamed B.named
  have hlocks := B.notSynchronized
  subst hsz
  have hA : ∀ q : Nat, s.heap.size ≤ q → (fun q : Nat => s.heap.size ≤ q) q := fun _ h => h
  have hS : va_S (fun q : Nat => s.heap.size ≤ q) s.heap s.heap [] := va_S.rf
  have hl := lv_entry ([.int p0]) (n := 1) (Nat.le_of_ble_eq_true rfl)
  rw [lg_entry_eq]
  generalize (lg_sl ([.int p0]) ++ List.replicate (1 - (lg_sl ([.int p0])).length) Slot.unset).toArray = ls at hl ⊢
  have hl : lv_has ls 1 [(0, .int p0)] := hl
  refine lv_iload_n hx hb d_Model_isSector_0 rfl (lv_at hl 0 rfl) ?_
  refine lv_iconst (v := 0) hx hb d_Model_isSector_1 (by decide) ?_
  refine lv_sipush (v := 191) hx hb d_Model_isSector_2 (by decide) ?_
  have hPc := hP.sub (ws' := []) [] rfl
  refine cz_r (va_runS (As := [.int p0, .int 0, .int 191]) (rest := []) ⟨hx, hb, hml, hown, htb⟩ (m_Model_in l dC dI cI cZ  _ p0 0 191 _ hv) (cwS 3 htb (gz_S k_ml_Model_54 k_stat_Model_in k_init_Model k_code_Model_in) rfl rfl rfl (by decide +kernel) ⟨Nat.le_of_ble_eq_true rfl, Nat.le_of_ble_eq_true rfl⟩) (pz_SR hPc hK hN) rfl rfl hl.1 rfl (lv_room (Nat.le_of_ble_eq_true rfl)) d_Model_isSector_5 ⟨Nat.le_of_ble_eq_true rfl, Nat.le_of_ble_eq_true rfl⟩) hP hS hA (fun r_1 H hv hP hS => ?_)
  exact W.zret (v := r_1) hx hb hr hv.1 (fun t ht hW => ⟨⟨r_1, (), rfl, hv.2, trivial⟩, hS.F ht⟩) hS.2.2 d_Model_isSector_8
def v_Model_isSpare (p0 : Int32) (post : Int32 → Prop) : Prop := ((p0 < 16 → post 0) ∧ (¬ p0 < 16 → (((p0 - p0 / 16 * 16) ≤ 12 → post 0) ∧ (¬ (p0 - p0 / 16 * 16) ≤ 12 → post 1))))
set_option maxHeartbeats 4000000 in
set_option maxRecDepth 100000 in
theorem m_Model_isSpare (l : Launch) (dC : Nat → ClassId) (dI : Nat → Nat → Nat) (cI cZ : ClassId) (zz : Nat) (p0 : Int32) (post : Int32 → Prop) (hv : v_Model_isSpare p0 post) : Met l y_Model_isSpare w_Model_isSpare ({ frames := 0, cells := 0, slots := 0, locals := 0 }) (va_Pc [.int p0] (fun U => U.heap.size = zz ∧ va_P (dC, dI) classes [] U.heap ∧ va_K (dC, dI) classes [(cI, .int), (cZ, .boolean)] U ∧ nz_N U)) (va_Qi (fun (r : Int32) (_ : Unit) => post r ) (fun _ _ => True) (fun q : Nat => zz ≤ q)) 0 0 (fun q : Nat => zz ≤ q) := by
  refine Met.ofW (cc := b_Model_isSpare) (maxL := 1) (ret := (some .boolean)) (by decide) rfl ?_
  intro p e s m args below meth c s₁ B hml hv0
  obtain ⟨rfl, hsz, hP, hK, hN⟩ := hv0
  have hx := B.exec
  have hb := B.bytes
  have hr := B.returns
  have htb := w_tbl (atoms_spec (ws := w_Model_isSpare) B.pre)
  have hown : s.vm.findClass R_Model = some m.cls := findClass_of_methodNamed B.named
  have hlocks := B.notSynchronized
  subst hsz
  have hA : ∀ q : Nat, s.heap.size ≤ q → (fun q : Nat => s.heap.size ≤ q) q := fun _ h => h
  have hS : va_S (fun q : Nat => s.heap.size ≤ q) s.heap s.heap [] := va_S.rf
  have hl := lv_entry ([.int p0]) (n := 1) (Nat.le_of_ble_eq_true rfl)
  rw [lg_entry_eq]
  generalize (lg_sl ([.int p0]) ++ List.replicate (1 - (lg_sl ([.int p0])).length) Slot.unset).toArray = ls at hl ⊢
  have hl : lv_has ls 1 [(0, .int p0)] := hl
  refine lv_iload_n hx hb d_Model_isSpare_0 rfl (lv_at hl 0 rfl) ?_
  refine lv_bipush (v := 16) hx hb d_Model_isSpare_1 (by decide) ?_
  refine lv_icmp_lt (tgt := 19) hx hb d_Model_isSpare_3 (by decide) (fun c_1 => ?_) (fun c_1 => ?_)
  · have hv := hv.1 c_1
    refine lv_iconst (v := 0) hx hb d_Model_isSpare_19 (by decide) ?_
    exact W.zret (v := 0) hx hb hr rfl (fun t ht hW => ⟨⟨0, (), rfl, hv, trivial⟩, hS.F ht⟩) hS.2.2 d_Model_isSpare_20
  · have hv := hv.2 c_1
    refine lv_iload_n hx hb d_Model_isSpare_6 rfl (lv_at hl 0 rfl) ?_
    refine lv_bipush (v := 16) hx hb d_Model_isSpare_7 (by decide) ?_
    refine lv_irem hx hb d_Model_isSpare_9 (by decide) ?_
    refine lv_bipush (v := 12) hx hb d_Model_isSpare_10 (by decide) ?_
    refine lv_icmp_le (tgt := 19) hx hb d_Model_isSpare_12 (by decide) (fun c_2 => ?_) (fun c_2 => ?_)
    · have hv := hv.1 c_2
      refine lv_iconst (v := 0) hx hb d_Model_isSpare_19 (by decide) ?_
      exact W.zret (v := 0) hx hb hr rfl (fun t ht hW => ⟨⟨0, (), rfl, hv, trivial⟩, hS.F ht⟩) hS.2.2 d_Model_isSpare_20
    · have hv := hv.2 c_2
      refine lv_iconst (v := 1) hx hb d_Model_isSpare_15 (by decide) ?_
      refine lv_goto (tgt := 20) hx hb d_Model_isSpare_16 (by decide) ?_
      exact W.zret (v := 1) hx hb hr rfl (fun t ht hW => ⟨⟨1, (), rfl, hv, trivial⟩, hS.F ht⟩) hS.2.2 d_Model_isSpare_20
def v_Model_thrown (kc : Int32) (kn : Int32) (kz : Int32) (ko : Int32) (kt : Int32) (kr : Int32) (fw : Nat → Int32) (fl : Nat → Int32) (fs : Nat → Int32) (ff : Nat → Int32) (fv : Nat → Int32) (fk : Nat → Int32) (fp : Nat → Int32) (fy : Nat → Int32) (fq : Nat → Int32) (fi : Nat → Int32) (fj : Nat → Int32) (fm : Nat → Int32) (post : Int32 → Prop) : Prop := post kc
set_option maxHeartbeats 4000000 in
set_option maxRecDepth 100000 in
theorem m_Model_thrown (l : Launch) (dC : Nat → ClassId) (dI : Nat → Nat → Nat) (cI cZ : ClassId) (h xw xl xs xf xv xk xp xy xq xi xj xm : Nat) (zz : Nat) (kc : Int32) (kn : Int32) (kz : Int32) (ko : Int32) (kt : Int32) (kr : Int32) (fw : Nat → Int32) (fl : Nat → Int32) (fs : Nat → Int32) (ff : Nat → Int32) (fv : Nat → Int32) (fk : Nat → Int32) (fp : Nat → Int32) (fy : Nat → Int32) (fq : Nat → Int32) (fi : Nat → Int32) (fj : Nat → Int32) (fm : Nat → Int32) (post : Int32 → Prop) (hv : v_Model_thrown kc kn kz ko kt kr fw fl fs ff fv fk fp fy fq fi fj fm post) : Met l y_Model_thrown w_Model_thrown ({ frames := 0, cells := 0, slots := 0, locals := 0 }) (va_Pc [.ref h] (fun U => U.heap.size = zz ∧ va_P (dC, dI) classes [(h, .inr (5, [.int kc, .ref xw, .ref xl, .ref xs, .ref xf, .int kn, .int kz, .int ko, .int kt, .int kr, .ref xv, .ref xk, .ref xp, .ref xy, .ref xq, .ref xi, .ref xj, .ref xm])), (xw, .inl (cI, 384, .inl fw)), (xl, .inl (cZ, 384, .inl fl)), (xs, .inl (cI, 192, .inl fs)), (xf, .inl (cZ, 192, .inl ff)), (xv, .inl (cI, 4, .inl fv)), (xk, .inl (cZ, 4, .inl fk)), (xp, .inl (cI, 4, .inl fp)), (xy, .inl (cI, 192, .inl fy)), (xq, .inl (cI, 4, .inl fq)), (xi, .inl (cI, 80, .inl fi)), (xj, .inl (cI, 80, .inl fj)), (xm, .inl (cZ, 192, .inl fm))] U.heap ∧ va_K (dC, dI) classes [(cI, .int), (cZ, .boolean)] U ∧ nz_N U)) (va_Qi (fun (r : Int32) (_ : Unit) => post r ) (fun _ _ => True) (fun q : Nat => zz ≤ q)) 0 0 (fun q : Nat => zz ≤ q) := by
  refine Met.ofW (cc := b_Model_thrown) (maxL := 1) (ret := (some .int)) (by decide) rfl ?_
  intro p e s m args below meth c s₁ B hml hv0
  obtain ⟨rfl, hsz, hP, hK, hN⟩ := hv0
  have hx := B.exec
  have hb := B.bytes
  have hr := B.returns
  have htb := w_tbl (atoms_spec (ws := w_Model_thrown) B.pre)
  have hown : s.vm.findClass R_Model = some m.cls := findClass_of_methodNamed B.named
  have hlocks := B.notSynchronized
  subst hsz
  have hA : ∀ q : Nat, s.heap.size ≤ q → (fun q : Nat => s.heap.size ≤ q) q := fun _ h => h
  have hS : va_S (fun q : Nat => s.heap.size ≤ q) s.heap s.heap [] := va_S.rf
  have hl := lv_entry ([.ref h]) (n := 1) (Nat.le_of_ble_eq_true rfl)
  rw [lg_entry_eq]
  generalize (lg_sl ([.ref h]) ++ List.replicate (1 - (lg_sl ([.ref h])).length) Slot.unset).toArray = ls at hl ⊢
  have hl : lv_has ls 1 [(0, .ref h)] := hl
  refine lv_aload_n hx hb d_Model_thrown_0 rfl (lv_at hl 0 rfl) ?_
  refine va_get (D := (dC, dI)) (ci := 5) (v := .int kc) (C := R_Model) (T := F_Model) (N := 18) hx hb htb i_Model hown hK hP 0 rfl rfl 0 (by decide) (htb _ k_fl_Model_51) (fun _ h9 => h9) rfl d_Model_thrown_1 ?_
  exact W.iret (v := kc) hx hb hr (fun t ht hW => ⟨⟨kc, (), rfl, hv, trivial⟩, hS.F ht⟩) hS.2.2 d_Model_thrown_4
def v_Model_isPrimary_33 (K4 : (Int32 → Int32 → Prop)) (x3 : Int32) (y0 : Int32) : Prop := K4 y0 (x3 + 1)
def v_Model_isPrimary_28 (K4 : (Int32 → Int32 → Prop)) (x3 : Int32) : Prop := v_Model_isPrimary_33 K4 x3 1
def vb_Model_isPrimary_4 (fp : Nat → Int32) (fy : Nat → Int32) (p0 : Int32) (post : Int32 → Prop) (K4 : Int32 → Int32 → Prop) (x2 : Int32) (x3 : Int32) : Prop := (vp_in 0 4 ∧ (((fp (0 : Int32).toNatClampNeg) ≤ x3 → (narrow .boolean (.int x2) = .int x2 ∧ post x2)) ∧ (¬ (fp (0 : Int32).toNatClampNeg) ≤ x3 → ((¬ x2 = 0 → v_Model_isPrimary_28 K4 x3) ∧ (x2 = 0 → (vp_in x3 192 ∧ ((¬ (fy x3.toNatClampNeg) = p0 → v_Model_isPrimary_33 K4 x3 0) ∧ ((fy x3.toNatClampNeg) = p0 → v_Model_isPrimary_28 K4 x3))))))))
def v_Model_isPrimary_4 (fp : Nat → Int32) (fy : Nat → Int32) (p0 : Int32) (post : Int32 → Prop) : Nat → Int32 → Int32 → Prop
  | 0 => fun _ _ => False
  | n + 1 => vb_Model_isPrimary_4 fp fy p0 post (v_Model_isPrimary_4 fp fy p0 post n)
def v_Model_isPrimary (kc : Int32) (kn : Int32) (kz : Int32) (ko : Int32) (kt : Int32) (kr : Int32) (fw : Nat → Int32) (fl : Nat → Int32) (fs : Nat → Int32) (ff : Nat → Int32) (fv : Nat → Int32) (fk : Nat → Int32) (fp : Nat → Int32) (fy : Nat → Int32) (fq : Nat → Int32) (fi : Nat → Int32) (fj : Nat → Int32) (fm : Nat → Int32) (p0 : Int32) (post : Int32 → Prop) : Prop := ∃ n, v_Model_isPrimary_4 fp fy p0 post n 0 0
set_option maxHeartbeats 4000000 in
set_option maxRecDepth 100000 in
theorem m_Model_isPrimary (l : Launch) (dC : Nat → ClassId) (dI : Nat → Nat → Nat) (cI cZ : ClassId) (h xw xl xs xf xv xk xp xy xq xi xj xm : Nat) (zz : Nat) (kc : Int32) (kn : Int32) (kz : Int32) (ko : Int32) (kt : Int32) (kr : Int32) (fw : Nat → Int32) (fl : Nat → Int32) (fs : Nat → Int32) (ff : Nat → Int32) (fv : Nat → Int32) (fk : Nat → Int32) (fp : Nat → Int32) (fy : Nat → Int32) (fq : Nat → Int32) (fi : Nat → Int32) (fj : Nat → Int32) (fm : Nat → Int32) (p0 : Int32) (post : Int32 → Prop) (hv : v_Model_isPrimary kc kn kz ko kt kr fw fl fs ff fv fk fp fy fq fi fj fm p0 post) : Met l y_Model_isPrimary w_Model_isPrimary ({ frames := 0, cells := 0, slots := 0, locals := 0 }) (va_Pc [.ref h, .int p0] (fun U => U.heap.size = zz ∧ va_P (dC, dI) classes [(h, .inr (5, [.int kc, .ref xw, .ref xl, .ref xs, .ref xf, .int kn, .int kz, .int ko, .int kt, .int kr, .ref xv, .ref xk, .ref xp, .ref xy, .ref xq, .ref xi, .ref xj, .ref xm])), (xw, .inl (cI, 384, .inl fw)), (xl, .inl (cZ, 384, .inl fl)), (xs, .inl (cI, 192, .inl fs)), (xf, .inl (cZ, 192, .inl ff)), (xv, .inl (cI, 4, .inl fv)), (xk, .inl (cZ, 4, .inl fk)), (xp, .inl (cI, 4, .inl fp)), (xy, .inl (cI, 192, .inl fy)), (xq, .inl (cI, 4, .inl fq)), (xi, .inl (cI, 80, .inl fi)), (xj, .inl (cI, 80, .inl fj)), (xm, .inl (cZ, 192, .inl fm))] U.heap ∧ va_K (dC, dI) classes [(cI, .int), (cZ, .boolean)] U ∧ nz_N U)) (va_Qi (fun (r : Int32) (_ : Unit) => post r ) (fun _ _ => True) (fun q : Nat => zz ≤ q)) 0 0 (fun q : Nat => zz ≤ q) := by
  refine Met.ofW (cc := b_Model_isPrimary) (maxL := 4) (ret := (some .boolean)) (by decide) rfl ?_
  intro p e s m args below meth c s₁ B hml hv0
  obtain ⟨rfl, hsz, hP, hK, hN⟩ := hv0
  have hx := B.exec
  have hb := B.bytes
  have hr := B.returns
  have htb := w_tbl (atoms_spec (ws := w_Model_isPrimary) B.pre)
  have hown : s.vm.findClass R_Model = some m.cls := findClass_of_methodNamed B.named
  have hlocks := B.notSynchronized
  subst hsz
  have hA : ∀ q : Nat, s.heap.size ≤ q → (fun q : Nat => s.heap.size ≤ q) q := fun _ h => h
  have hS : va_S (fun q : Nat => s.heap.size ≤ q) s.heap s.heap [] := va_S.rf
  have hl := lv_entry ([.ref h, .int p0]) (n := 4) (Nat.le_of_ble_eq_true rfl)
  rw [lg_entry_eq]
  generalize (lg_sl ([.ref h, .int p0]) ++ List.replicate (4 - (lg_sl ([.ref h, .int p0])).length) Slot.unset).toArray = ls at hl ⊢
  have hl : lv_has ls 4 [(0, .ref h), (1, .int p0)] := hl
  have J4 : ∀ (n : Nat) (x2 : Int32) (x3 : Int32) (H : Heap), v_Model_isPrimary_4 fp fy p0 post n x2 x3 → va_P (dC, dI) classes [(h, .inr (5, [.int kc, .ref xw, .ref xl, .ref xs, .ref xf, .int kn, .int kz, .int ko, .int kt, .int kr, .ref xv, .ref xk, .ref xp, .ref xy, .ref xq, .ref xi, .ref xj, .ref xm])), (xw, .inl (cI, 384, .inl fw)), (xl, .inl (cZ, 384, .inl fl)), (xs, .inl (cI, 192, .inl fs)), (xf, .inl (cZ, 192, .inl ff)), (xv, .inl (cI, 4, .inl fv)), (xk, .inl (cZ, 4, .inl fk)), (xp, .inl (cI, 4, .inl fp)), (xy, .inl (cI, 192, .inl fy)), (xq, .inl (cI, 4, .inl fq)), (xi, .inl (cI, 80, .inl fi)), (xj, .inl (cI, 80, .inl fj)), (xm, .inl (cZ, 192, .inl fm))] H → va_S (fun q : Nat => s.heap.size ≤ q) s.heap H [] → ∀ ls : Array Slot, lv_has ls 4 [(0, .ref h), (1, .int p0), (2, .int x2), (3, .int x3)] → W p l e (headSpec w_Model_isPrimary ({ frames := 0, cells := 0, slots := 0, locals := 0 })).room s m ([.ref h, .int p0] : List Value).toArray below meth c H [] 0 0 (MQ below (va_Qi (fun (r : Int32) (_ : Unit) => post r ) (fun _ _ => True) (fun q : Nat => s.heap.size ≤ q)) ([.ref h, .int p0] : List Value).toArray s 0 0 (fun q : Nat => s.heap.size ≤ q)) (F0 m 4 ls []) := by
    intro  n4
    induction n4 with
    | zero =>
      intro x2 x3 H hv
      exact absurd hv id
    | succ n4 ih4 =>
      intro x2 x3 H hv hP hS ls hl
      have hv : vb_Model_isPrimary_4 fp fy p0 post (v_Model_isPrimary_4 fp fy p0 post n4) x2 x3 := hv
      have J33 : ∀ (x3 : Int32) (y0 : Int32) (H : Heap), v_Model_isPrimary_33 (v_Model_isPrimary_4 fp fy p0 post n4) x3 y0 → va_P (dC, dI) classes [(h, .inr (5, [.int kc, .ref xw, .ref xl, .ref xs, .ref xf, .int kn, .int kz, .int ko, .int kt, .int kr, .ref xv, .ref xk, .ref xp, .ref xy, .ref xq, .ref xi, .ref xj, .ref xm])), (xw, .inl (cI, 384, .inl fw)), (xl, .inl (cZ, 384, .inl fl)), (xs, .inl (cI, 192, .inl fs)), (xf, .inl (cZ, 192, .inl ff)), (xv, .inl (cI, 4, .inl fv)), (xk, .inl (cZ, 4, .inl fk)), (xp, .inl (cI, 4, .inl fp)), (xy, .inl (cI, 192, .inl fy)), (xq, .inl (cI, 4, .inl fq)), (xi, .inl (cI, 80, .inl fi)), (xj, .inl (cI, 80, .inl fj)), (xm, .inl (cZ, 192, .inl fm))] H → va_S (fun q : Nat => s.heap.size ≤ q) s.heap H [] → ∀ ls : Array Slot, lv_has ls 4 [(0, .ref h), (1, .int p0), (3, .int x3)] → W p l e (headSpec w_Model_isPrimary ({ frames := 0, cells := 0, slots := 0, locals := 0 })).room s m ([.ref h, .int p0] : List Value).toArray below meth c H [] 0 0 (MQ below (va_Qi (fun (r : Int32) (_ : Unit) => post r ) (fun _ _ => True) (fun q : Nat => s.heap.size ≤ q)) ([.ref h, .int p0] : List Value).toArray s 0 0 (fun q : Nat => s.heap.size ≤ q)) (F0 m 33 ls [.int y0]) := by
        intro x3 y0 H hv hP hS ls hl
        refine lv_istore_n (lv' := [(2, .int y0), (0, .ref h), (1, .int p0), (3, .int x3)]) hx hb d_Model_isPrimary_33 rfl hl (by decide) rfl (fun ls hl => ?_)
        refine lv_iinc (v := x3 + 1) (lv' := [(3, .int (x3 + 1)), (2, .int y0), (0, .ref h), (1, .int p0)]) hx hb d_Model_isPrimary_34 hl (k := 3) rfl rfl (by decide) rfl (fun ls hl => ?_)
        refine lv_goto (tgt := 4) hx hb d_Model_isPrimary_37 (by decide) ?_
        exact ih4 y0 (x3 + 1) _ hv hP hS ls (lv_sub hl [2, 3, 1, 0] rfl)
      have J28 : ∀ (x3 : Int32) (H : Heap), v_Model_isPrimary_28 (v_Model_isPrimary_4 fp fy p0 post n4) x3 → va_P (dC, dI) classes [(h, .inr (5, [.int kc, .ref xw, .ref xl, .ref xs, .ref xf, .int kn, .int kz, .int ko, .int kt, .int kr, .ref xv, .ref xk, .ref xp, .ref xy, .ref xq, .ref xi, .ref xj, .ref xm])), (xw, .inl (cI, 384, .inl fw)), (xl, .inl (cZ, 384, .inl fl)), (xs, .inl (cI, 192, .inl fs)), (xf, .inl (cZ, 192, .inl ff)), (xv, .inl (cI, 4, .inl fv)), (xk, .inl (cZ, 4, .inl fk)), (xp, .inl (cI, 4, .inl fp)), (xy, .inl (cI, 192, .inl fy)), (xq, .inl (cI, 4, .inl fq)), (xi, .inl (cI, 80, .inl fi)), (xj, .inl (cI, 80, .inl fj)), (xm, .inl (cZ, 192, .inl fm))] H → va_S (fun q : Nat => s.heap.size ≤ q) s.heap H [] → ∀ ls : Array Slot, lv_has ls 4 [(0, .ref h), (1, .int p0), (3, .int x3)] → W p l e (headSpec w_Model_isPrimary ({ frames := 0, cells := 0, slots := 0, locals := 0 })).room s m ([.ref h, .int p0] : List Value).toArray below meth c H [] 0 0 (MQ below (va_Qi (fun (r : Int32) (_ : Unit) => post r ) (fun _ _ => True) (fun q : Nat => s.heap.size ≤ q)) ([.ref h, .int p0] : List Value).toArray s 0 0 (fun q : Nat => s.heap.size ≤ q)) (F0 m 28 ls []) := by
        intro x3 H hv hP hS ls hl
        refine lv_iconst (v := 1) hx hb d_Model_isPrimary_28 (by decide) ?_
        refine lv_goto (tgt := 33) hx hb d_Model_isPrimary_29 (by decide) ?_
        exact J33 x3 1 _ hv hP hS ls (lv_sub hl [0, 1, 2] rfl)
      refine lv_iload_n hx hb d_Model_isPrimary_4 rfl (lv_at hl 3 rfl) ?_
      refine lv_aload_n hx hb d_Model_isPrimary_5 rfl (lv_at hl 0 rfl) ?_
      refine va_get (D := (dC, dI)) (ci := 5) (v := .ref xp) (C := R_Model) (T := F_Model) (N := 18) hx hb htb i_Model hown hK hP 0 rfl rfl 12 (by decide) (htb _ k_fl_Model_33) (fun _ h9 => h9) rfl d_Model_isPrimary_6 ?_
      refine lv_iconst (v := 0) hx hb d_Model_isPrimary_9 (by decide) ?_
      obtain ⟨h_1, hv⟩ := hv
      refine va_iald hx hb hK hP 7 0 rfl rfl h_1 d_Model_isPrimary_10 ?_
      refine lv_icmp_ge (tgt := 40) hx hb d_Model_isPrimary_11 (by decide) (fun c_2 => ?_) (fun c_2 => ?_)
      · have hv := hv.1 c_2
        refine lv_iload_n hx hb d_Model_isPrimary_40 rfl (lv_at hl 2 rfl) ?_
        exact W.zret (v := x2) hx hb hr hv.1 (fun t ht hW => ⟨⟨x2, (), rfl, hv.2, trivial⟩, hS.F ht⟩) hS.2.2 d_Model_isPrimary_41
      · have hv := hv.2 c_2
        refine lv_iload_n hx hb d_Model_isPrimary_14 rfl (lv_at hl 2 rfl) ?_
        refine lv_if_ne (tgt := 28) hx hb d_Model_isPrimary_15 (by decide) (fun c_3 => ?_) (fun c_3 => ?_)
        · have hv := hv.1 c_3
          exact J28 x3 _ hv hP hS ls (lv_sub hl [0, 1, 3] rfl)
        · have hv := hv.2 c_3
          refine lv_aload_n hx hb d_Model_isPrimary_18 rfl (lv_at hl 0 rfl) ?_
          refine va_get (D := (dC, dI)) (ci := 5) (v := .ref xy) (C := R_Model) (T := F_Model) (N := 18) hx hb htb i_Model hown hK hP 0 rfl rfl 13 (by decide) (htb _ k_fl_Model_36) (fun _ h9 => h9) rfl d_Model_isPrimary_19 ?_
          refine lv_iload_n hx hb d_Model_isPrimary_22 rfl (lv_at hl 3 rfl) ?_
          obtain ⟨h_4, hv⟩ := hv
          refine va_iald hx hb hK hP 8 0 rfl rfl h_4 d_Model_isPrimary_23 ?_
          refine lv_iload_n hx hb d_Model_isPrimary_24 rfl (lv_at hl 1 rfl) ?_
          refine lv_icmp_ne (tgt := 32) hx hb d_Model_isPrimary_25 (by decide) (fun c_5 => ?_) (fun c_5 => ?_)
          · have hv := hv.1 c_5
            refine lv_iconst (v := 0) hx hb d_Model_isPrimary_32 (by decide) ?_
            exact J33 x3 0 _ hv hP hS ls (lv_sub hl [0, 1, 3] rfl)
          · have hv := hv.2 c_5
            exact J28 x3 _ hv hP hS ls (lv_sub hl [0, 1, 3] rfl)
  refine lv_iconst (v := 0) hx hb d_Model_isPrimary_0 (by decide) ?_
  refine lv_istore_n (lv' := [(2, .int 0), (0, .ref h), (1, .int p0)]) hx hb d_Model_isPrimary_1 rfl hl (by decide) rfl (fun ls hl => ?_)
  refine lv_iconst (v := 0) hx hb d_Model_isPrimary_2 (by decide) ?_
  refine lv_istore_n (lv' := [(3, .int 0), (2, .int 0), (0, .ref h), (1, .int p0)]) hx hb d_Model_isPrimary_3 rfl hl (by decide) rfl (fun ls hl => ?_)
  obtain ⟨n_4, hv⟩ := hv
  exact J4  n_4 0 0 _ hv hP hS ls (lv_sub hl [2, 3, 1, 0] rfl)
def v_Model_pairOfSpare_29 (K4 : (Int32 → Int32 → Prop)) (x3 : Int32) (y0 : Int32) : Prop := K4 y0 (x3 + 1)
def vb_Model_pairOfSpare_4 (fq : Nat → Int32) (fj : Nat → Int32) (p0 : Int32) (post : Int32 → Prop) (K4 : Int32 → Int32 → Prop) (x2 : Int32) (x3 : Int32) : Prop := (vp_in 0 4 ∧ (((fq (0 : Int32).toNatClampNeg) ≤ x3 → post x2) ∧ (¬ (fq (0 : Int32).toNatClampNeg) ≤ x3 → (vp_in x3 80 ∧ ((¬ (fj x3.toNatClampNeg) = p0 → v_Model_pairOfSpare_29 K4 x3 x2) ∧ ((fj x3.toNatClampNeg) = p0 → v_Model_pairOfSpare_29 K4 x3 x3))))))
def v_Model_pairOfSpare_4 (fq : Nat → Int32) (fj : Nat → Int32) (p0 : Int32) (post : Int32 → Prop) : Nat → Int32 → Int32 → Prop
  | 0 => fun _ _ => False
  | n + 1 => vb_Model_pairOfSpare_4 fq fj p0 post (v_Model_pairOfSpare_4 fq fj p0 post n)
def v_Model_pairOfSpare (kc : Int32) (kn : Int32) (kz : Int32) (ko : Int32) (kt : Int32) (kr : Int32) (fw : Nat → Int32) (fl : Nat → Int32) (fs : Nat → Int32) (ff : Nat → Int32) (fv : Nat → Int32) (fk : Nat → Int32) (fp : Nat → Int32) (fy : Nat → Int32) (fq : Nat → Int32) (fi : Nat → Int32) (fj : Nat → Int32) (fm : Nat → Int32) (p0 : Int32) (post : Int32 → Prop) : Prop := ∃ n, v_Model_pairOfSpare_4 fq fj p0 post n (-1) 0
set_option maxHeartbeats 4000000 in
set_option maxRecDepth 100000 in
theorem m_Model_pairOfSpare (l : Launch) (dC : Nat → ClassId) (dI : Nat → Nat → Nat) (cI cZ : ClassId) (h xw xl xs xf xv xk xp xy xq xi xj xm : Nat) (zz : Nat) (kc : Int32) (kn : Int32) (kz : Int32) (ko : Int32) (kt : Int32) (kr : Int32) (fw : Nat → Int32) (fl : Nat → Int32) (fs : Nat → Int32) (ff : Nat → Int32) (fv : Nat → Int32) (fk : Nat → Int32) (fp : Nat → Int32) (fy : Nat → Int32) (fq : Nat → Int32) (fi : Nat → Int32) (fj : Nat → Int32) (fm : Nat → Int32) (p0 : Int32) (post : Int32 → Prop) (hv : v_Model_pairOfSpare kc kn kz ko kt kr fw fl fs ff fv fk fp fy fq fi fj fm p0 post) : Met l y_Model_pairOfSpare w_Model_pairOfSpare ({ frames := 0, cells := 0, slots := 0, locals := 0 }) (va_Pc [.ref h, .int p0] (fun U => U.heap.size = zz ∧ va_P (dC, dI) classes [(h, .inr (5, [.int kc, .ref xw, .ref xl, .ref xs, .ref xf, .int kn, .int kz, .int ko, .int kt, .int kr, .ref xv, .ref xk, .ref xp, .ref xy, .ref xq, .ref xi, .ref xj, .ref xm])), (xw, .inl (cI, 384, .inl fw)), (xl, .inl (cZ, 384, .inl fl)), (xs, .inl (cI, 192, .inl fs)), (xf, .inl (cZ, 192, .inl ff)), (xv, .inl (cI, 4, .inl fv)), (xk, .inl (cZ, 4, .inl fk)), (xp, .inl (cI, 4, .inl fp)), (xy, .inl (cI, 192, .inl fy)), (xq, .inl (cI, 4, .inl fq)), (xi, .inl (cI, 80, .inl fi)), (xj, .inl (cI, 80, .inl fj)), (xm, .inl (cZ, 192, .inl fm))] U.heap ∧ va_K (dC, dI) classes [(cI, .int), (cZ, .boolean)] U ∧ nz_N U)) (va_Qi (fun (r : Int32) (_ : Unit) => post r ) (fun _ _ => True) (fun q : Nat => zz ≤ q)) 0 0 (fun q : Nat => zz ≤ q) := by
  refine Met.ofW (cc := b_Model_pairOfSpare) (maxL := 4) (ret := (some .int)) (by decide) rfl ?_
  intro p e s m args below meth c s₁ B hml hv0
  obtain ⟨rfl, hsz, hP, hK, hN⟩ := hv0
  have hx := B.exec
  have hb := B.bytes
  have hr := B.returns
  have htb := w_tbl (atoms_spec (ws := w_Model_pairOfSpare) B.pre)
  have hown : s.vm.findClass R_Model = some m.cls := findClass_of_methodNamed B.named
  have hlocks := B.notSynchronized
  subst hsz
  have hA : ∀ q : Nat, s.heap.size ≤ q → (fun q : Nat => s.heap.size ≤ q) q := fun _ h => h
  have hS : va_S (fun q : Nat => s.heap.size ≤ q) s.heap s.heap [] := va_S.rf
  have hl := lv_entry ([.ref h, .int p0]) (n := 4) (Nat.le_of_ble_eq_true rfl)
  rw [lg_entry_eq]
  generalize (lg_sl ([.ref h, .int p0]) ++ List.replicate (4 - (lg_sl ([.ref h, .int p0])).length) Slot.unset).toArray = ls at hl ⊢
  have hl : lv_has ls 4 [(0, .ref h), (1, .int p0)] := hl
  have J4 : ∀ (n : Nat) (x2 : Int32) (x3 : Int32) (H : Heap), v_Model_pairOfSpare_4 fq fj p0 post n x2 x3 → va_P (dC, dI) classes [(h, .inr (5, [.int kc, .ref xw, .ref xl, .ref xs, .ref xf, .int kn, .int kz, .int ko, .int kt, .int kr, .ref xv, .ref xk, .ref xp, .ref xy, .ref xq, .ref xi, .ref xj, .ref xm])), (xw, .inl (cI, 384, .inl fw)), (xl, .inl (cZ, 384, .inl fl)), (xs, .inl (cI, 192, .inl fs)), (xf, .inl (cZ, 192, .inl ff)), (xv, .inl (cI, 4, .inl fv)), (xk, .inl (cZ, 4, .inl fk)), (xp, .inl (cI, 4, .inl fp)), (xy, .inl (cI, 192, .inl fy)), (xq, .inl (cI, 4, .inl fq)), (xi, .inl (cI, 80, .inl fi)), (xj, .inl (cI, 80, .inl fj)), (xm, .inl (cZ, 192, .inl fm))] H → va_S (fun q : Nat => s.heap.size ≤ q) s.heap H [] → ∀ ls : Array Slot, lv_has ls 4 [(0, .ref h), (1, .int p0), (2, .int x2), (3, .int x3)] → W p l e (headSpec w_Model_pairOfSpare ({ frames := 0, cells := 0, slots := 0, locals := 0 })).room s m ([.ref h, .int p0] : List Value).toArray below meth c H [] 0 0 (MQ below (va_Qi (fun (r : Int32) (_ : Unit) => post r ) (fun _ _ => True) (fun q : Nat => s.heap.size ≤ q)) ([.ref h, .int p0] : List Value).toArray s 0 0 (fun q : Nat => s.heap.size ≤ q)) (F0 m 4 ls []) := by
    intro  n4
    induction n4 with
    | zero =>
      intro x2 x3 H hv
      exact absurd hv id
    | succ n4 ih4 =>
      intro x2 x3 H hv hP hS ls hl
      have hv : vb_Model_pairOfSpare_4 fq fj p0 post (v_Model_pairOfSpare_4 fq fj p0 post n4) x2 x3 := hv
      have J29 : ∀ (x3 : Int32) (y0 : Int32) (H : Heap), v_Model_pairOfSpare_29 (v_Model_pairOfSpare_4 fq fj p0 post n4) x3 y0 → va_P (dC, dI) classes [(h, .inr (5, [.int kc, .ref xw, .ref xl, .ref xs, .ref xf, .int kn, .int kz, .int ko, .int kt, .int kr, .ref xv, .ref xk, .ref xp, .ref xy, .ref xq, .ref xi, .ref xj, .ref xm])), (xw, .inl (cI, 384, .inl fw)), (xl, .inl (cZ, 384, .inl fl)), (xs, .inl (cI, 192, .inl fs)), (xf, .inl (cZ, 192, .inl ff)), (xv, .inl (cI, 4, .inl fv)), (xk, .inl (cZ, 4, .inl fk)), (xp, .inl (cI, 4, .inl fp)), (xy, .inl (cI, 192, .inl fy)), (xq, .inl (cI, 4, .inl fq)), (xi, .inl (cI, 80, .inl fi)), (xj, .inl (cI, 80, .inl fj)), (xm, .inl (cZ, 192, .inl fm))] H → va_S (fun q : Nat => s.heap.size ≤ q) s.heap H [] → ∀ ls : Array Slot, lv_has ls 4 [(0, .ref h), (1, .int p0), (3, .int x3)] → W p l e (headSpec w_Model_pairOfSpare ({ frames := 0, cells := 0, slots := 0, locals := 0 })).room s m ([.ref h, .int p0] : List Value).toArray below meth c H [] 0 0 (MQ below (va_Qi (fun (r : Int32) (_ : Unit) => post r ) (fun _ _ => True) (fun q : Nat => s.heap.size ≤ q)) ([.ref h, .int p0] : List Value).toArray s 0 0 (fun q : Nat => s.heap.size ≤ q)) (F0 m 29 ls [.int y0]) := by
        intro x3 y0 H hv hP hS ls hl
        refine lv_istore_n (lv' := [(2, .int y0), (0, .ref h), (1, .int p0), (3, .int x3)]) hx hb d_Model_pairOfSpare_29 rfl hl (by decide) rfl (fun ls hl => ?_)
        refine lv_iinc (v := x3 + 1) (lv' := [(3, .int (x3 + 1)), (2, .int y0), (0, .ref h), (1, .int p0)]) hx hb d_Model_pairOfSpare_30 hl (k := 3) rfl rfl (by decide) rfl (fun ls hl => ?_)
        refine lv_goto (tgt := 4) hx hb d_Model_pairOfSpare_33 (by decide) ?_
        exact ih4 y0 (x3 + 1) _ hv hP hS ls (lv_sub hl [2, 3, 1, 0] rfl)
      refine lv_iload_n hx hb d_Model_pairOfSpare_4 rfl (lv_at hl 3 rfl) ?_
      refine lv_aload_n hx hb d_Model_pairOfSpare_5 rfl (lv_at hl 0 rfl) ?_
      refine va_get (D := (dC, dI)) (ci := 5) (v := .ref xq) (C := R_Model) (T := F_Model) (N := 18) hx hb htb i_Model hown hK hP 0 rfl rfl 14 (by decide) (htb _ k_fl_Model_39) (fun _ h9 => h9) rfl d_Model_pairOfSpare_6 ?_
      refine lv_iconst (v := 0) hx hb d_Model_pairOfSpare_9 (by decide) ?_
      obtain ⟨h_1, hv⟩ := hv
      refine va_iald hx hb hK hP 9 0 rfl rfl h_1 d_Model_pairOfSpare_10 ?_
      refine lv_icmp_ge (tgt := 36) hx hb d_Model_pairOfSpare_11 (by decide) (fun c_2 => ?_) (fun c_2 => ?_)
      · have hv := hv.1 c_2
        refine lv_iload_n hx hb d_Model_pairOfSpare_36 rfl (lv_at hl 2 rfl) ?_
        exact W.iret (v := x2) hx hb hr (fun t ht hW => ⟨⟨x2, (), rfl, hv, trivial⟩, hS.F ht⟩) hS.2.2 d_Model_pairOfSpare_37
      · have hv := hv.2 c_2
        refine lv_aload_n hx hb d_Model_pairOfSpare_14 rfl (lv_at hl 0 rfl) ?_
        refine va_get (D := (dC, dI)) (ci := 5) (v := .ref xj) (C := R_Model) (T := F_Model) (N := 18) hx hb htb i_Model hown hK hP 0 rfl rfl 16 (by decide) (htb _ k_fl_Model_45) (fun _ h9 => h9) rfl d_Model_pairOfSpare_15 ?_
        refine lv_iload_n hx hb d_Model_pairOfSpare_18 rfl (lv_at hl 3 rfl) ?_
        obtain ⟨h_3, hv⟩ := hv
        refine va_iald hx hb hK hP 11 0 rfl rfl h_3 d_Model_pairOfSpare_19 ?_
        refine lv_iload_n hx hb d_Model_pairOfSpare_20 rfl (lv_at hl 1 rfl) ?_
        refine lv_icmp_ne (tgt := 28) hx hb d_Model_pairOfSpare_21 (by decide) (fun c_4 => ?_) (fun c_4 => ?_)
        · have hv := hv.1 c_4
          refine lv_iload_n hx hb d_Model_pairOfSpare_28 rfl (lv_at hl 2 rfl) ?_
          exact J29 x3 x2 _ hv hP hS ls (lv_sub hl [0, 1, 3] rfl)
        · have hv := hv.2 c_4
          refine lv_iload_n hx hb d_Model_pairOfSpare_24 rfl (lv_at hl 3 rfl) ?_
          refine lv_goto (tgt := 29) hx hb d_Model_pairOfSpare_25 (by decide) ?_
          exact J29 x3 x3 _ hv hP hS ls (lv_sub hl [0, 1, 3] rfl)
  refine lv_iconst (v := (-1)) hx hb d_Model_pairOfSpare_0 (by decide) ?_
  refine lv_istore_n (lv' := [(2, .int (-1)), (0, .ref h), (1, .int p0)]) hx hb d_Model_pairOfSpare_1 rfl hl (by decide) rfl (fun ls hl => ?_)
  refine lv_iconst (v := 0) hx hb d_Model_pairOfSpare_2 (by decide) ?_
  refine lv_istore_n (lv' := [(3, .int 0), (2, .int (-1)), (0, .ref h), (1, .int p0)]) hx hb d_Model_pairOfSpare_3 rfl hl (by decide) rfl (fun ls hl => ?_)
  obtain ⟨n_4, hv⟩ := hv
  exact J4  n_4 (-1) 0 _ hv hP hS ls (lv_sub hl [2, 3, 1, 0] rfl)
def v_Model_pairOfFirst_29 (K4 : (Int32 → Int32 → Prop)) (x3 : Int32) (y0 : Int32) : Prop := K4 y0 (x3 + 1)
def vb_Model_pairOfFirst_4 (fq : Nat → Int32) (fi : Nat → Int32) (p0 : Int32) (post : Int32 → Prop) (K4 : Int32 → Int32 → Prop) (x2 : Int32) (x3 : Int32) : Prop := (vp_in 0 4 ∧ (((fq (0 : Int32).toNatClampNeg) ≤ x3 → post x2) ∧ (¬ (fq (0 : Int32).toNatClampNeg) ≤ x3 → (vp_in x3 80 ∧ ((¬ (fi x3.toNatClampNeg) = p0 → v_Model_pairOfFirst_29 K4 x3 x2) ∧ ((fi x3.toNatClampNeg) = p0 → v_Model_pairOfFirst_29 K4 x3 x3))))))
def v_Model_pairOfFirst_4 (fq : Nat → Int32) (fi : Nat → Int32) (p0 : Int32) (post : Int32 → Prop) : Nat → Int32 → Int32 → Prop
  | 0 => fun _ _ => False
  | n + 1 => vb_Model_pairOfFirst_4 fq fi p0 post (v_Model_pairOfFirst_4 fq fi p0 post n)
def v_Model_pairOfFirst (kc : Int32) (kn : Int32) (kz : Int32) (ko : Int32) (kt : Int32) (kr : Int32) (fw : Nat → Int32) (fl : Nat → Int32) (fs : Nat → Int32) (ff : Nat → Int32) (fv : Nat → Int32) (fk : Nat → Int32) (fp : Nat → Int32) (fy : Nat → Int32) (fq : Nat → Int32) (fi : Nat → Int32) (fj : Nat → Int32) (fm : Nat → Int32) (p0 : Int32) (post : Int32 → Prop) : Prop := ∃ n, v_Model_pairOfFirst_4 fq fi p0 post n (-1) 0
set_option maxHeartbeats 4000000 in
set_option maxRecDepth 100000 in
theorem m_Model_pairOfFirst (l : Launch) (dC : Nat → ClassId) (dI : Nat → Nat → Nat) (cI cZ : ClassId) (h xw xl xs xf xv xk xp xy xq xi xj xm : Nat) (zz : Nat) (kc : Int32) (kn : Int32) (kz : Int32) (ko : Int32) (kt : Int32) (kr : Int32) (fw : Nat → Int32) (fl : Nat → Int32) (fs : Nat → Int32) (ff : Nat → Int32) (fv : Nat → Int32) (fk : Nat → Int32) (fp : Nat → Int32) (fy : Nat → Int32) (fq : Nat → Int32) (fi : Nat → Int32) (fj : Nat → Int32) (fm : Nat → Int32) (p0 : Int32) (post : Int32 → Prop) (hv : v_Model_pairOfFirst kc kn kz ko kt kr fw fl fs ff fv fk fp fy fq fi fj fm p0 post) : Met l y_Model_pairOfFirst w_Model_pairOfFirst ({ frames := 0, cells := 0, slots := 0, locals := 0 }) (va_Pc [.ref h, .int p0] (fun U => U.heap.size = zz ∧ va_P (dC, dI) classes [(h, .inr (5, [.int kc, .ref xw, .ref xl, .ref xs, .ref xf, .int kn, .int kz, .int ko, .int kt, .int kr, .ref xv, .ref xk, .ref xp, .ref xy, .ref xq, .ref xi, .ref xj, .ref xm])), (xw, .inl (cI, 384, .inl fw)), (xl, .inl (cZ, 384, .inl fl)), (xs, .inl (cI, 192, .inl fs)), (xf, .inl (cZ, 192, .inl ff)), (xv, .inl (cI, 4, .inl fv)), (xk, .inl (cZ, 4, .inl fk)), (xp, .inl (cI, 4, .inl fp)), (xy, .inl (cI, 192, .inl fy)), (xq, .inl (cI, 4, .inl fq)), (xi, .inl (cI, 80, .inl fi)), (xj, .inl (cI, 80, .inl fj)), (xm, .inl (cZ, 192, .inl fm))] U.heap ∧ va_K (dC, dI) classes [(cI, .int), (cZ, .boolean)] U ∧ nz_N U)) (va_Qi (fun (r : Int32) (_ : Unit) => post r ) (fun _ _ => True) (fun q : Nat => zz ≤ q)) 0 0 (fun q : Nat => zz ≤ q) := by
  refine Met.ofW (cc := b_Model_pairOfFirst) (maxL := 4) (ret := (some .int)) (by decide) rfl ?_
  intro p e s m args below meth c s₁ B hml hv0
  obtain ⟨rfl, hsz, hP, hK, hN⟩ := hv0
  have hx := B.exec
  have hb := B.bytes
  have hr := B.returns
  have htb := w_tbl (atoms_spec (ws := w_Model_pairOfFirst) B.pre)
  have hown : s.vm.findClass R_Model = some m.cls := findClass_of_methodNamed B.named
  have hlocks := B.notSynchronized
  subst hsz
  have hA : ∀ q : Nat, s.heap.size ≤ q → (fun q : Nat => s.heap.size ≤ q) q := fun _ h => h
  have hS : va_S (fun q : Nat => s.heap.size ≤ q) s.heap s.heap [] := va_S.rf
  have hl := lv_entry ([.ref h, .int p0]) (n := 4) (Nat.le_of_ble_eq_true rfl)
  rw [lg_entry_eq]
  generalize (lg_sl ([.ref h, .int p0]) ++ List.replicate (4 - (lg_sl ([.ref h, .int p0])).length) Slot.unset).toArray = ls at hl ⊢
  have hl : lv_has ls 4 [(0, .ref h), (1, .int p0)] := hl
  have J4 : ∀ (n : Nat) (x2 : Int32) (x3 : Int32) (H : Heap), v_Model_pairOfFirst_4 fq fi p0 post n x2 x3 → va_P (dC, dI) classes [(h, .inr (5, [.int kc, .ref xw, .ref xl, .ref xs, .ref xf, .int kn, .int kz, .int ko, .int kt, .int kr, .ref xv, .ref xk, .ref xp, .ref xy, .ref xq, .ref xi, .ref xj, .ref xm])), (xw, .inl (cI, 384, .inl fw)), (xl, .inl (cZ, 384, .inl fl)), (xs, .inl (cI, 192, .inl fs)), (xf, .inl (cZ, 192, .inl ff)), (xv, .inl (cI, 4, .inl fv)), (xk, .inl (cZ, 4, .inl fk)), (xp, .inl (cI, 4, .inl fp)), (xy, .inl (cI, 192, .inl fy)), (xq, .inl (cI, 4, .inl fq)), (xi, .inl (cI, 80, .inl fi)), (xj, .inl (cI, 80, .inl fj)), (xm, .inl (cZ, 192, .inl fm))] H → va_S (fun q : Nat => s.heap.size ≤ q) s.heap H [] → ∀ ls : Array Slot, lv_has ls 4 [(0, .ref h), (1, .int p0), (2, .int x2), (3, .int x3)] → W p l e (headSpec w_Model_pairOfFirst ({ frames := 0, cells := 0, slots := 0, locals := 0 })).room s m ([.ref h, .int p0] : List Value).toArray below meth c H [] 0 0 (MQ below (va_Qi (fun (r : Int32) (_ : Unit) => post r ) (fun _ _ => True) (fun q : Nat => s.heap.size ≤ q)) ([.ref h, .int p0] : List Value).toArray s 0 0 (fun q : Nat => s.heap.size ≤ q)) (F0 m 4 ls []) := by
    intro  n4
    induction n4 with
    | zero =>
      intro x2 x3 H hv
      exact absurd hv id
    | succ n4 ih4 =>
      intro x2 x3 H hv hP hS ls hl
      have hv : vb_Model_pairOfFirst_4 fq fi p0 post (v_Model_pairOfFirst_4 fq fi p0 post n4) x2 x3 := hv
      have J29 : ∀ (x3 : Int32) (y0 : Int32) (H : Heap), v_Model_pairOfFirst_29 (v_Model_pairOfFirst_4 fq fi p0 post n4) x3 y0 → va_P (dC, dI) classes [(h, .inr (5, [.int kc, .ref xw, .ref xl, .ref xs, .ref xf, .int kn, .int kz, .int ko, .int kt, .int kr, .ref xv, .ref xk, .ref xp, .ref xy, .ref xq, .ref xi, .ref xj, .ref xm])), (xw, .inl (cI, 384, .inl fw)), (xl, .inl (cZ, 384, .inl fl)), (xs, .inl (cI, 192, .inl fs)), (xf, .inl (cZ, 192, .inl ff)), (xv, .inl (cI, 4, .inl fv)), (xk, .inl (cZ, 4, .inl fk)), (xp, .inl (cI, 4, .inl fp)), (xy, .inl (cI, 192, .inl fy)), (xq, .inl (cI, 4, .inl fq)), (xi, .inl (cI, 80, .inl fi)), (xj, .inl (cI, 80, .inl fj)), (xm, .inl (cZ, 192, .inl fm))] H → va_S (fun q : Nat => s.heap.size ≤ q) s.heap H [] → ∀ ls : Array Slot, lv_has ls 4 [(0, .ref h), (1, .int p0), (3, .int x3)] → W p l e (headSpec w_Model_pairOfFirst ({ frames := 0, cells := 0, slots := 0, locals := 0 })).room s m ([.ref h, .int p0] : List Value).toArray below meth c H [] 0 0 (MQ below (va_Qi (fun (r : Int32) (_ : Unit) => post r ) (fun _ _ => True) (fun q : Nat => s.heap.size ≤ q)) ([.ref h, .int p0] : List Value).toArray s 0 0 (fun q : Nat => s.heap.size ≤ q)) (F0 m 29 ls [.int y0]) := by
        intro x3 y0 H hv hP hS ls hl
        refine lv_istore_n (lv' := [(2, .int y0), (0, .ref h), (1, .int p0), (3, .int x3)]) hx hb d_Model_pairOfFirst_29 rfl hl (by decide) rfl (fun ls hl => ?_)
        refine lv_iinc (v := x3 + 1) (lv' := [(3, .int (x3 + 1)), (2, .int y0), (0, .ref h), (1, .int p0)]) hx hb d_Model_pairOfFirst_30 hl (k := 3) rfl rfl (by decide) rfl (fun ls hl => ?_)
        refine lv_goto (tgt := 4) hx hb d_Model_pairOfFirst_33 (by decide) ?_
        exact ih4 y0 (x3 + 1) _ hv hP hS ls (lv_sub hl [2, 3, 1, 0] rfl)
      refine lv_iload_n hx hb d_Model_pairOfFirst_4 rfl (lv_at hl 3 rfl) ?_
      refine lv_aload_n hx hb d_Model_pairOfFirst_5 rfl (lv_at hl 0 rfl) ?_
      refine va_get (D := (dC, dI)) (ci := 5) (v := .ref xq) (C := R_Model) (T := F_Model) (N := 18) hx hb htb i_Model hown hK hP 0 rfl rfl 14 (by decide) (htb _ k_fl_Model_39) (fun _ h9 => h9) rfl d_Model_pairOfFirst_6 ?_
      refine lv_iconst (v := 0) hx hb d_Model_pairOfFirst_9 (by decide) ?_
      obtain ⟨h_1, hv⟩ := hv
      refine va_iald hx hb hK hP 9 0 rfl rfl h_1 d_Model_pairOfFirst_10 ?_
      refine lv_icmp_ge (tgt := 36) hx hb d_Model_pairOfFirst_11 (by decide) (fun c_2 => ?_) (fun c_2 => ?_)
      · have hv := hv.1 c_2
        refine lv_iload_n hx hb d_Model_pairOfFirst_36 rfl (lv_at hl 2 rfl) ?_
        exact W.iret (v := x2) hx hb hr (fun t ht hW => ⟨⟨x2, (), rfl, hv, trivial⟩, hS.F ht⟩) hS.2.2 d_Model_pairOfFirst_37
      · have hv := hv.2 c_2
        refine lv_aload_n hx hb d_Model_pairOfFirst_14 rfl (lv_at hl 0 rfl) ?_
        refine va_get (D := (dC, dI)) (ci := 5) (v := .ref xi) (C := R_Model) (T := F_Model) (N := 18) hx hb htb i_Model hown hK hP 0 rfl rfl 15 (by decide) (htb _ k_fl_Model_42) (fun _ h9 => h9) rfl d_Model_pairOfFirst_15 ?_
        refine lv_iload_n hx hb d_Model_pairOfFirst_18 rfl (lv_at hl 3 rfl) ?_
        obtain ⟨h_3, hv⟩ := hv
        refine va_iald hx hb hK hP 10 0 rfl rfl h_3 d_Model_pairOfFirst_19 ?_
        refine lv_iload_n hx hb d_Model_pairOfFirst_20 rfl (lv_at hl 1 rfl) ?_
        refine lv_icmp_ne (tgt := 28) hx hb d_Model_pairOfFirst_21 (by decide) (fun c_4 => ?_) (fun c_4 => ?_)
        · have hv := hv.1 c_4
          refine lv_iload_n hx hb d_Model_pairOfFirst_28 rfl (lv_at hl 2 rfl) ?_
          exact J29 x3 x2 _ hv hP hS ls (lv_sub hl [0, 1, 3] rfl)
        · have hv := hv.2 c_4
          refine lv_iload_n hx hb d_Model_pairOfFirst_24 rfl (lv_at hl 3 rfl) ?_
          refine lv_goto (tgt := 29) hx hb d_Model_pairOfFirst_25 (by decide) ?_
          exact J29 x3 x3 _ hv hP hS ls (lv_sub hl [0, 1, 3] rfl)
  refine lv_iconst (v := (-1)) hx hb d_Model_pairOfFirst_0 (by decide) ?_
  refine lv_istore_n (lv' := [(2, .int (-1)), (0, .ref h), (1, .int p0)]) hx hb d_Model_pairOfFirst_1 rfl hl (by decide) rfl (fun ls hl => ?_)
  refine lv_iconst (v := 0) hx hb d_Model_pairOfFirst_2 (by decide) ?_
  refine lv_istore_n (lv' := [(3, .int 0), (2, .int (-1)), (0, .ref h), (1, .int p0)]) hx hb d_Model_pairOfFirst_3 rfl hl (by decide) rfl (fun ls hl => ?_)
  obtain ⟨n_4, hv⟩ := hv
  exact J4  n_4 (-1) 0 _ hv hP hS ls (lv_sub hl [2, 3, 1, 0] rfl)
def v_Model_isLogical (kc : Int32) (kn : Int32) (kz : Int32) (ko : Int32) (kt : Int32) (kr : Int32) (fw : Nat → Int32) (fl : Nat → Int32) (fs : Nat → Int32) (ff : Nat → Int32) (fv : Nat → Int32) (fk : Nat → Int32) (fp : Nat → Int32) (fy : Nat → Int32) (fq : Nat → Int32) (fi : Nat → Int32) (fj : Nat → Int32) (fm : Nat → Int32) (p0 : Int32) (post : Int32 → Prop) : Prop := ((p0 < 16 → post 0) ∧ (¬ p0 < 16 → v_Model_isSpare p0 (fun r_2 => ((¬ r_2 = 0 → post 0) ∧ (r_2 = 0 → v_Model_isPrimary kc kn kz ko kt kr fw fl fs ff fv fk fp fy fq fi fj fm p0 (fun r_4 => ((¬ r_4 = 0 → post 0) ∧ (r_4 = 0 → post 1))))))))
set_option maxHeartbeats 4000000 in
set_option maxRecDepth 100000 in
theorem m_Model_isLogical (l : Launch) (dC : Nat → ClassId) (dI : Nat → Nat → Nat) (cI cZ : ClassId) (h xw xl xs xf xv xk xp xy xq xi xj xm : Nat) (zz : Nat) (kc : Int32) (kn : Int32) (kz : Int32) (ko : Int32) (kt : Int32) (kr : Int32) (fw : Nat → Int32) (fl : Nat → Int32) (fs : Nat → Int32) (ff : Nat → Int32) (fv : Nat → Int32) (fk : Nat → Int32) (fp : Nat → Int32) (fy : Nat → Int32) (fq : Nat → Int32) (fi : Nat → Int32) (fj : Nat → Int32) (fm : Nat → Int32) (p0 : Int32) (post : Int32 → Prop) (hv : v_Model_isLogical kc kn kz ko kt kr fw fl fs ff fv fk fp fy fq fi fj fm p0 post) : Met l y_Model_isLogical w_Model_isLogical ({ frames := 1, cells := 0, slots := 0, locals := 23 }) (va_Pc [.ref h, .int p0] (fun U => U.heap.size = zz ∧ va_P (dC, dI) classes [(h, .inr (5, [.int kc, .ref xw, .ref xl, .ref xs, .ref xf, .int kn, .int kz, .int ko, .int kt, .int kr, .ref xv, .ref xk, .ref xp, .ref xy, .ref xq, .ref xi, .ref xj, .ref xm])), (xw, .inl (cI, 384, .inl fw)), (xl, .inl (cZ, 384, .inl fl)), (xs, .inl (cI, 192, .inl fs)), (xf, .inl (cZ, 192, .inl ff)), (xv, .inl (cI, 4, .inl fv)), (xk, .inl (cZ, 4, .inl fk)), (xp, .inl (cI, 4, .inl fp)), (xy, .inl (cI, 192, .inl fy)), (xq, .inl (cI, 4, .inl fq)), (xi, .inl (cI, 80, .inl fi)), (xj, .inl (cI, 80, .inl fj)), (xm, .inl (cZ, 192, .inl fm))] U.heap ∧ va_K (dC, dI) classes [(cI, .int), (cZ, .boolean)] U ∧ nz_N U)) (va_Qi (fun (r : Int32) (_ : Unit) => post r ) (fun _ _ => True) (fun q : Nat => zz ≤ q)) 0 0 (fun q : Nat => zz ≤ q) := by
  refine Met.ofW (cc := b_Model_isLogical) (maxL := 2) (ret := (some .boolean)) (by decide) rfl ?_
  intro p e s m args below meth c s₁ B hml hv0
  obtain ⟨rfl, hsz, hP, hK, hN⟩ := hv0
  have hx := B.exec
  have hb := B.bytes
  have hr := B.returns
  have htb := w_tbl (atoms_spec (ws := w_Model_isLogical) B.pre)
  have hown : s.vm.findClass R_Model = some m.cls := findClass_of_methodNamed B.named
  have hlocks := B.notSynchronized
  subst hsz
  have hA : ∀ q : Nat, s.heap.size ≤ q → (fun q : Nat => s.heap.size ≤ q) q := fun _ h => h
  have hS : va_S (fun q : Nat => s.heap.size ≤ q) s.heap s.heap [] := va_S.rf
  have hl := lv_entry ([.ref h, .int p0]) (n := 2) (Nat.le_of_ble_eq_true rfl)
  rw [lg_entry_eq]
  generalize (lg_sl ([.ref h, .int p0]) ++ List.replicate (2 - (lg_sl ([.ref h, .int p0])).length) Slot.unset).toArray = ls at hl ⊢
  have hl : lv_has ls 2 [(0, .ref h), (1, .int p0)] := hl
  refine lv_iload_n hx hb d_Model_isLogical_0 rfl (lv_at hl 1 rfl) ?_
  refine lv_bipush (v := 16) hx hb d_Model_isLogical_1 (by decide) ?_
  refine lv_icmp_lt (tgt := 25) hx hb d_Model_isLogical_3 (by decide) (fun c_1 => ?_) (fun c_1 => ?_)
  · have hv := hv.1 c_1
    refine lv_iconst (v := 0) hx hb d_Model_isLogical_25 (by decide) ?_
    exact W.zret (v := 0) hx hb hr rfl (fun t ht hW => ⟨⟨0, (), rfl, hv, trivial⟩, hS.F ht⟩) hS.2.2 d_Model_isLogical_26
  · have hv := hv.2 c_1
    refine lv_iload_n hx hb d_Model_isLogical_6 rfl (lv_at hl 1 rfl) ?_
    have hPc := hP.sub (ws' := []) [] rfl
    refine cz_r (va_runS (As := [.int p0]) (rest := []) ⟨hx, hb, hml, hown, htb⟩ (m_Model_isSpare l dC dI cI cZ  _ p0 _ hv) (cwS 1 htb (gz_S k_ml_Model_58 k_stat_Model_isSpare k_init_Model k_code_Model_isSpare) rfl rfl rfl (by decide +kernel) ⟨Nat.le_of_ble_eq_true rfl, Nat.le_of_ble_eq_true rfl⟩) (pz_SR hPc hK hN) rfl rfl hl.1 rfl (lv_room (Nat.le_of_ble_eq_true rfl)) d_Model_isLogical_7 ⟨Nat.le_of_ble_eq_true rfl, Nat.le_of_ble_eq_true rfl⟩) hP hS hA (fun r_2 H hv hP hS => ?_)
    refine lv_if_ne (tgt := 25) hx hb d_Model_isLogical_10 (by decide) (fun c_3 => ?_) (fun c_3 => ?_)
    · have hv := hv.1 c_3
      refine lv_iconst (v := 0) hx hb d_Model_isLogical_25 (by decide) ?_
      exact W.zret (v := 0) hx hb hr rfl (fun t ht hW => ⟨⟨0, (), rfl, hv, trivial⟩, hS.F ht⟩) hS.2.2 d_Model_isLogical_26
    · have hv := hv.2 c_3
      refine lv_aload_n hx hb d_Model_isLogical_13 rfl (lv_at hl 0 rfl) ?_
      refine lv_iload_n hx hb d_Model_isLogical_14 rfl (lv_at hl 1 rfl) ?_
      have hPc := hP.sub (ws' := [(h, .inr (5, [.int kc, .ref xw, .ref xl, .ref xs, .ref xf, .int kn, .int kz, .int ko, .int kt, .int kr, .ref xv, .ref xk, .ref xp, .ref xy, .ref xq, .ref xi, .ref xj, .ref xm])), (xw, .inl (cI, 384, .inl fw)), (xl, .inl (cZ, 384, .inl fl)), (xs, .inl (cI, 192, .inl fs)), (xf, .inl (cZ, 192, .inl ff)), (xv, .inl (cI, 4, .inl fv)), (xk, .inl (cZ, 4, .inl fk)), (xp, .inl (cI, 4, .inl fp)), (xy, .inl (cI, 192, .inl fy)), (xq, .inl (cI, 4, .inl fq)), (xi, .inl (cI, 80, .inl fi)), (xj, .inl (cI, 80, .inl fj)), (xm, .inl (cZ, 192, .inl fm))]) [0, 1, 2, 3, 4, 5, 6, 7, 8, 9, 10, 11, 12] rfl
      refine cz_r (va_runV (As := [.int p0]) (rest := []) ⟨hx, hb, hml, hown, htb⟩ (m_Model_isPrimary l dC dI cI cZ h xw xl xs xf xv xk xp xy xq xi xj xm _ kc kn kz ko kt kr fw fl fs ff fv fk fp fy fq fi fj fm p0 _ hv) (cwV 1 htb (gz_V k_ml_Model_62 k_inst_Model_isPrimary k_sel_Model_isPrimary k_init_Model k_code_Model_isPrimary) rfl rfl rfl (by decide +kernel) ⟨Nat.le_of_ble_eq_true rfl, Nat.le_of_ble_eq_true rfl⟩) (pz_VR (ci := 5) (q0 := 0) hPc hK hN rfl rfl) rfl rfl hl.1 rfl (lv_room (Nat.le_of_ble_eq_true rfl)) d_Model_isLogical_15 ⟨Nat.le_of_ble_eq_true rfl, Nat.le_of_ble_eq_true rfl⟩) hP hS hA (fun r_4 H hv hP hS => ?_)
      refine lv_if_ne (tgt := 25) hx hb d_Model_isLogical_18 (by decide) (fun c_5 => ?_) (fun c_5 => ?_)
      · have hv := hv.1 c_5
        refine lv_iconst (v := 0) hx hb d_Model_isLogical_25 (by decide) ?_
        exact W.zret (v := 0) hx hb hr rfl (fun t ht hW => ⟨⟨0, (), rfl, hv, trivial⟩, hS.F ht⟩) hS.2.2 d_Model_isLogical_26
      · have hv := hv.2 c_5
        refine lv_iconst (v := 1) hx hb d_Model_isLogical_21 (by decide) ?_
        refine lv_goto (tgt := 26) hx hb d_Model_isLogical_22 (by decide) ?_
        exact W.zret (v := 1) hx hb hr rfl (fun t ht hW => ⟨⟨1, (), rfl, hv, trivial⟩, hS.F ht⟩) hS.2.2 d_Model_isLogical_26
def v_Model_capacity_34 (K4 : (Int32 → Int32 → Prop)) (x2 : Int32) (y0 : Int32) (y1 : Int32) : Prop := K4 (y1 + y0) (x2 + 1)
def vb_Model_capacity_4 (kc : Int32) (kn : Int32) (kz : Int32) (ko : Int32) (kt : Int32) (kr : Int32) (fw : Nat → Int32) (fl : Nat → Int32) (fs : Nat → Int32) (ff : Nat → Int32) (fv : Nat → Int32) (fk : Nat → Int32) (fp : Nat → Int32) (fy : Nat → Int32) (fq : Nat → Int32) (fi : Nat → Int32) (fj : Nat → Int32) (fm : Nat → Int32) (post : Int32 → Prop) (K4 : Int32 → Int32 → Prop) (x1 : Int32) (x2 : Int32) : Prop := ((192 ≤ x2 → post x1) ∧ (¬ 192 ≤ x2 → (vp_in 0 4 ∧ (((fv (0 : Int32).toNatClampNeg) ≤ 0 → post x1) ∧ (¬ (fv (0 : Int32).toNatClampNeg) ≤ 0 → v_Model_isLogical kc kn kz ko kt kr fw fl fs ff fv fk fp fy fq fi fj fm x2 (fun r_4 => ((r_4 = 0 → v_Model_capacity_34 K4 x2 0 x1) ∧ (¬ r_4 = 0 → v_Model_capacity_34 K4 x2 1 x1))))))))
def v_Model_capacity_4 (kc : Int32) (kn : Int32) (kz : Int32) (ko : Int32) (kt : Int32) (kr : Int32) (fw : Nat → Int32) (fl : Nat → Int32) (fs : Nat → Int32) (ff : Nat → Int32) (fv : Nat → Int32) (fk : Nat → Int32) (fp : Nat → Int32) (fy : Nat → Int32) (fq : Nat → Int32) (fi : Nat → Int32) (fj : Nat → Int32) (fm : Nat → Int32) (post : Int32 → Prop) : Nat → Int32 → Int32 → Prop
  | 0 => fun _ _ => False
  | n + 1 => vb_Model_capacity_4 kc kn kz ko kt kr fw fl fs ff fv fk fp fy fq fi fj fm post (v_Model_capacity_4 kc kn kz ko kt kr fw fl fs ff fv fk fp fy fq fi fj fm post n)
def v_Model_capacity (kc : Int32) (kn : Int32) (kz : Int32) (ko : Int32) (kt : Int32) (kr : Int32) (fw : Nat → Int32) (fl : Nat → Int32) (fs : Nat → Int32) (ff : Nat → Int32) (fv : Nat → Int32) (fk : Nat → Int32) (fp : Nat → Int32) (fy : Nat → Int32) (fq : Nat → Int32) (fi : Nat → Int32) (fj : Nat → Int32) (fm : Nat → Int32) (post : Int32 → Prop) : Prop := ∃ n, v_Model_capacity_4 kc kn kz ko kt kr fw fl fs ff fv fk fp fy fq fi fj fm post n 0 0
set_option maxHeartbeats 4000000 in
set_option maxRecDepth 100000 in
theorem m_Model_capacity (l : Launch) (dC : Nat → ClassId) (dI : Nat → Nat → Nat) (cI cZ : ClassId) (h xw xl xs xf xv xk xp xy xq xi xj xm : Nat) (zz : Nat) (kc : Int32) (kn : Int32) (kz : Int32) (ko : Int32) (kt : Int32) (kr : Int32) (fw : Nat → Int32) (fl : Nat → Int32) (fs : Nat → Int32) (ff : Nat → Int32) (fv : Nat → Int32) (fk : Nat → Int32) (fp : Nat → Int32) (fy : Nat → Int32) (fq : Nat → Int32) (fi : Nat → Int32) (fj : Nat → Int32) (fm : Nat → Int32) (post : Int32 → Prop) (hv : v_Model_capacity kc kn kz ko kt kr fw fl fs ff fv fk fp fy fq fi fj fm post) : Met l y_Model_capacity w_Model_capacity ({ frames := 2, cells := 0, slots := 0, locals := 44 }) (va_Pc [.ref h] (fun U => U.heap.size = zz ∧ va_P (dC, dI) classes [(h, .inr (5, [.int kc, .ref xw, .ref xl, .ref xs, .ref xf, .int kn, .int kz, .int ko, .int kt, .int kr, .ref xv, .ref xk, .ref xp, .ref xy, .ref xq, .ref xi, .ref xj, .ref xm])), (xw, .inl (cI, 384, .inl fw)), (xl, .inl (cZ, 384, .inl fl)), (xs, .inl (cI, 192, .inl fs)), (xf, .inl (cZ, 192, .inl ff)), (xv, .inl (cI, 4, .inl fv)), (xk, .inl (cZ, 4, .inl fk)), (xp, .inl (cI, 4, .inl fp)), (xy, .inl (cI, 192, .inl fy)), (xq, .inl (cI, 4, .inl fq)), (xi, .inl (cI, 80, .inl fi)), (xj, .inl (cI, 80, .inl fj)), (xm, .inl (cZ, 192, .inl fm))] U.heap ∧ va_K (dC, dI) classes [(cI, .int), (cZ, .boolean)] U ∧ nz_N U)) (va_Qi (fun (r : Int32) (_ : Unit) => post r ) (fun _ _ => True) (fun q : Nat => zz ≤ q)) 0 0 (fun q : Nat => zz ≤ q) := by
  refine Met.ofW (cc := b_Model_capacity) (maxL := 3) (ret := (some .int)) (by decide) rfl ?_
  intro p e s m args below meth c s₁ B hml hv0
  obtain ⟨rfl, hsz, hP, hK, hN⟩ := hv0
  have hx := B.exec
  have hb := B.bytes
  have hr := B.returns
  have htb := w_tbl (atoms_spec (ws := w_Model_capacity) B.pre)
  have hown : s.vm.findClass R_Model = some m.cls := findClass_of_methodNamed B.named
  have hlocks := B.notSynchronized
  subst hsz
  have hA : ∀ q : Nat, s.heap.size ≤ q → (fun q : Nat => s.heap.size ≤ q) q := fun _ h => h
  have hS : va_S (fun q : Nat => s.heap.size ≤ q) s.heap s.heap [] := va_S.rf
  have hl := lv_entry ([.ref h]) (n := 3) (Nat.le_of_ble_eq_true rfl)
  rw [lg_entry_eq]
  generalize (lg_sl ([.ref h]) ++ List.replicate (3 - (lg_sl ([.ref h])).length) Slot.unset).toArray = ls at hl ⊢
  have hl : lv_has ls 3 [(0, .ref h)] := hl
  have J4 : ∀ (n : Nat) (x1 : Int32) (x2 : Int32) (H : Heap), v_Model_capacity_4 kc kn kz ko kt kr fw fl fs ff fv fk fp fy fq fi fj fm post n x1 x2 → va_P (dC, dI) classes [(h, .inr (5, [.int kc, .ref xw, .ref xl, .ref xs, .ref xf, .int kn, .int kz, .int ko, .int kt, .int kr, .ref xv, .ref xk, .ref xp, .ref xy, .ref xq, .ref xi, .ref xj, .ref xm])), (xw, .inl (cI, 384, .inl fw)), (xl, .inl (cZ, 384, .inl fl)), (xs, .inl (cI, 192, .inl fs)), (xf, .inl (cZ, 192, .inl ff)), (xv, .inl (cI, 4, .inl fv)), (xk, .inl (cZ, 4, .inl fk)), (xp, .inl (cI, 4, .inl fp)), (xy, .inl (cI, 192, .inl fy)), (xq, .inl (cI, 4, .inl fq)), (xi, .inl (cI, 80, .inl fi)), (xj, .inl (cI, 80, .inl fj)), (xm, .inl (cZ, 192, .inl fm))] H → va_S (fun q : Nat => s.heap.size ≤ q) s.heap H [] → ∀ ls : Array Slot, lv_has ls 3 [(0, .ref h), (1, .int x1), (2, .int x2)] → W p l e (headSpec w_Model_capacity ({ frames := 2, cells := 0, slots := 0, locals := 44 })).room s m ([.ref h] : List Value).toArray below meth c H [] 0 0 (MQ below (va_Qi (fun (r : Int32) (_ : Unit) => post r ) (fun _ _ => True) (fun q : Nat => s.heap.size ≤ q)) ([.ref h] : List Value).toArray s 0 0 (fun q : Nat => s.heap.size ≤ q)) (F0 m 4 ls []) := by
    intro  n4
    induction n4 with
    | zero =>
      intro x1 x2 H hv
      exact absurd hv id
    | succ n4 ih4 =>
      intro x1 x2 H hv hP hS ls hl
      have hv : vb_Model_capacity_4 kc kn kz ko kt kr fw fl fs ff fv fk fp fy fq fi fj fm post (v_Model_capacity_4 kc kn kz ko kt kr fw fl fs ff fv fk fp fy fq fi fj fm post n4) x1 x2 := hv
      have J34 : ∀ (x2 : Int32) (y0 : Int32) (y1 : Int32) (H : Heap), v_Model_capacity_34 (v_Model_capacity_4 kc kn kz ko kt kr fw fl fs ff fv fk fp fy fq fi fj fm post n4) x2 y0 y1 → va_P (dC, dI) classes [(h, .inr (5, [.int kc, .ref xw, .ref xl, .ref xs, .ref xf, .int kn, .int kz, .int ko, .int kt, .int kr, .ref xv, .ref xk, .ref xp, .ref xy, .ref xq, .ref xi, .ref xj, .ref xm])), (xw, .inl (cI, 384, .inl fw)), (xl, .inl (cZ, 384, .inl fl)), (xs, .inl (cI, 192, .inl fs)), (xf, .inl (cZ, 192, .inl ff)), (xv, .inl (cI, 4, .inl fv)), (xk, .inl (cZ, 4, .inl fk)), (xp, .inl (cI, 4, .inl fp)), (xy, .inl (cI, 192, .inl fy)), (xq, .inl (cI, 4, .inl fq)), (xi, .inl (cI, 80, .inl fi)), (xj, .inl (cI, 80, .inl fj)), (xm, .inl (cZ, 192, .inl fm))] H → va_S (fun q : Nat => s.heap.size ≤ q) s.heap H [] → ∀ ls : Array Slot, lv_has ls 3 [(0, .ref h), (2, .int x2)] → W p l e (headSpec w_Model_capacity ({ frames := 2, cells := 0, slots := 0, locals := 44 })).room s m ([.ref h] : List Value).toArray below meth c H [] 0 0 (MQ below (va_Qi (fun (r : Int32) (_ : Unit) => post r ) (fun _ _ => True) (fun q : Nat => s.heap.size ≤ q)) ([.ref h] : List Value).toArray s 0 0 (fun q : Nat => s.heap.size ≤ q)) (F0 m 34 ls [.int y0, .int y1]) := by
        intro x2 y0 y1 H hv hP hS ls hl
        refine lv_iadd hx hb d_Model_capacity_34 ?_
        refine lv_istore_n (lv' := [(1, .int (y1 + y0)), (0, .ref h), (2, .int x2)]) hx hb d_Model_capacity_35 rfl hl (by decide) rfl (fun ls hl => ?_)
        refine lv_iinc (v := x2 + 1) (lv' := [(2, .int (x2 + 1)), (1, .int (y1 + y0)), (0, .ref h)]) hx hb d_Model_capacity_36 hl (k := 2) rfl rfl (by decide) rfl (fun ls hl => ?_)
        refine lv_goto (tgt := 4) hx hb d_Model_capacity_39 (by decide) ?_
        exact ih4 (y1 + y0) (x2 + 1) _ hv hP hS ls (lv_sub hl [2, 1, 0] rfl)
      refine lv_iload_n hx hb d_Model_capacity_4 rfl (lv_at hl 2 rfl) ?_
      refine lv_sipush (v := 192) hx hb d_Model_capacity_5 (by decide) ?_
      refine lv_icmp_ge (tgt := 42) hx hb d_Model_capacity_8 (by decide) (fun c_1 => ?_) (fun c_1 => ?_)
      · have hv := hv.1 c_1
        refine lv_iload_n hx hb d_Model_capacity_42 rfl (lv_at hl 1 rfl) ?_
        exact W.iret (v := x1) hx hb hr (fun t ht hW => ⟨⟨x1, (), rfl, hv, trivial⟩, hS.F ht⟩) hS.2.2 d_Model_capacity_43
      · have hv := hv.2 c_1
        refine lv_aload_n hx hb d_Model_capacity_11 rfl (lv_at hl 0 rfl) ?_
        refine va_get (D := (dC, dI)) (ci := 5) (v := .ref xv) (C := R_Model) (T := F_Model) (N := 18) hx hb htb i_Model hown hK hP 0 rfl rfl 10 (by decide) (htb _ k_fl_Model_27) (fun _ h9 => h9) rfl d_Model_capacity_12 ?_
        refine lv_iconst (v := 0) hx hb d_Model_capacity_15 (by decide) ?_
        obtain ⟨h_2, hv⟩ := hv
        refine va_iald hx hb hK hP 5 0 rfl rfl h_2 d_Model_capacity_16 ?_
        refine lv_if_le (tgt := 42) hx hb d_Model_capacity_17 (by decide) (fun c_3 => ?_) (fun c_3 => ?_)
        · have hv := hv.1 c_3
          refine lv_iload_n hx hb d_Model_capacity_42 rfl (lv_at hl 1 rfl) ?_
          exact W.iret (v := x1) hx hb hr (fun t ht hW => ⟨⟨x1, (), rfl, hv, trivial⟩, hS.F ht⟩) hS.2.2 d_Model_capacity_43
        · have hv := hv.2 c_3
          refine lv_iload_n hx hb d_Model_capacity_20 rfl (lv_at hl 1 rfl) ?_
          refine lv_aload_n hx hb d_Model_capacity_21 rfl (lv_at hl 0 rfl) ?_
          refine lv_iload_n hx hb d_Model_capacity_22 rfl (lv_at hl 2 rfl) ?_
          have hPc := hP.sub (ws' := [(h, .inr (5, [.int kc, .ref xw, .ref xl, .ref xs, .ref xf, .int kn, .int kz, .int ko, .int kt, .int kr, .ref xv, .ref xk, .ref xp, .ref xy, .ref xq, .ref xi, .ref xj, .ref xm])), (xw, .inl (cI, 384, .inl fw)), (xl, .inl (cZ, 384, .inl fl)), (xs, .inl (cI, 192, .inl fs)), (xf, .inl (cZ, 192, .inl ff)), (xv, .inl (cI, 4, .inl fv)), (xk, .inl (cZ, 4, .inl fk)), (xp, .inl (cI, 4, .inl fp)), (xy, .inl (cI, 192, .inl fy)), (xq, .inl (cI, 4, .inl fq)), (xi, .inl (cI, 80, .inl fi)), (xj, .inl (cI, 80, .inl fj)), (xm, .inl (cZ, 192, .inl fm))]) [0, 1, 2, 3, 4, 5, 6, 7, 8, 9, 10, 11, 12] rfl
          refine cz_r (va_runV (As := [.int x2]) (rest := [.int x1]) ⟨hx, hb, hml, hown, htb⟩ (m_Model_isLogical l dC dI cI cZ h xw xl xs xf xv xk xp xy xq xi xj xm _ kc kn kz ko kt kr fw fl fs ff fv fk fp fy fq fi fj fm x2 _ hv) (cwV 1 htb (gz_V k_ml_Model_65 k_inst_Model_isLogical k_sel_Model_isLogical k_init_Model k_code_Model_isLogical) rfl rfl rfl (by decide +kernel) ⟨Nat.le_of_ble_eq_true rfl, Nat.le_of_ble_eq_true rfl⟩) (pz_VR (ci := 5) (q0 := 0) hPc hK hN rfl rfl) rfl rfl hl.1 rfl (lv_room (Nat.le_of_ble_eq_true rfl)) d_Model_capacity_23 ⟨Nat.le_of_ble_eq_true rfl, Nat.le_of_ble_eq_true rfl⟩) hP hS hA (fun r_4 H hv hP hS => ?_)
          refine lv_if_eq (tgt := 33) hx hb d_Model_capacity_26 (by decide) (fun c_5 => ?_) (fun c_5 => ?_)
          · have hv := hv.1 c_5
            refine lv_iconst (v := 0) hx hb d_Model_capacity_33 (by decide) ?_
            exact J34 x2 0 x1 _ hv hP hS ls (lv_sub hl [0, 2] rfl)
          · have hv := hv.2 c_5
            refine lv_iconst (v := 1) hx hb d_Model_capacity_29 (by decide) ?_
            refine lv_goto (tgt := 34) hx hb d_Model_capacity_30 (by decide) ?_
            exact J34 x2 1 x1 _ hv hP hS ls (lv_sub hl [0, 2] rfl)
  refine lv_iconst (v := 0) hx hb d_Model_capacity_0 (by decide) ?_
  refine lv_istore_n (lv' := [(1, .int 0), (0, .ref h)]) hx hb d_Model_capacity_1 rfl hl (by decide) rfl (fun ls hl => ?_)
  refine lv_iconst (v := 0) hx hb d_Model_capacity_2 (by decide) ?_
  refine lv_istore_n (lv' := [(2, .int 0), (1, .int 0), (0, .ref h)]) hx hb d_Model_capacity_3 rfl hl (by decide) rfl (fun ls hl => ?_)
  obtain ⟨n_4, hv⟩ := hv
  exact J4  n_4 0 0 _ hv hP hS ls (lv_sub hl [2, 1, 0] rfl)
def v_Model_hasLogical (kc : Int32) (kn : Int32) (kz : Int32) (ko : Int32) (kt : Int32) (kr : Int32) (fw : Nat → Int32) (fl : Nat → Int32) (fs : Nat → Int32) (ff : Nat → Int32) (fv : Nat → Int32) (fk : Nat → Int32) (fp : Nat → Int32) (fy : Nat → Int32) (fq : Nat → Int32) (fi : Nat → Int32) (fj : Nat → Int32) (fm : Nat → Int32) (p0 : Int32) (post : Int32 → Prop) : Prop := v_Model_capacity kc kn kz ko kt kr fw fl fs ff fv fk fp fy fq fi fj fm (fun r_1 => v_Model_in p0 0 (r_1 - 1) (fun r_2 => (narrow .boolean (.int r_2) = .int r_2 ∧ post r_2)))
set_option maxHeartbeats 4000000 in
set_option maxRecDepth 100000 in
theorem m_Model_hasLogical (l : Launch) (dC : Nat → ClassId) (dI : Nat → Nat → Nat) (cI cZ : ClassId) (h xw xl xs xf xv xk xp xy xq xi xj xm : Nat) (zz : Nat) (kc : Int32) (kn : Int32) (kz : Int32) (ko : Int32) (kt : Int32) (kr : Int32) (fw : Nat → Int32) (fl : Nat → Int32) (fs : Nat → Int32) (ff : Nat → Int32) (fv : Nat → Int32) (fk : Nat → Int32) (fp : Nat → Int32) (fy : Nat → Int32) (fq : Nat → Int32) (fi : Nat → Int32) (fj : Nat → Int32) (fm : Nat → Int32) (p0 : Int32) (post : Int32 → Prop) (hv : v_Model_hasLogical kc kn kz ko kt kr fw fl fs ff fv fk fp fy fq fi fj fm p0 post) : Met l y_Model_hasLogical w_Model_hasLogical ({ frames := 3, cells := 0, slots := 0, locals := 66 }) (va_Pc [.ref h, .int p0] (fun U => U.heap.size = zz ∧ va_P (dC, dI) classes [(h, .inr (5, [.int kc, .ref xw, .ref xl, .ref xs, .ref xf, .int kn, .int kz, .int ko, .int kt, .int kr, .ref xv, .ref xk, .ref xp, .ref xy, .ref xq, .ref xi, .ref xj, .ref xm])), (xw, .inl (cI, 384, .inl fw)), (xl, .inl (cZ, 384, .inl fl)), (xs, .inl (cI, 192, .inl fs)), (xf, .inl (cZ, 192, .inl ff)), (xv, .inl (cI, 4, .inl fv)), (xk, .inl (cZ, 4, .inl fk)), (xp, .inl (cI, 4, .inl fp)), (xy, .inl (cI, 192, .inl fy)), (xq, .inl (cI, 4, .inl fq)), (xi, .inl (cI, 80, .inl fi)), (xj, .inl (cI, 80, .inl fj)), (xm, .inl (cZ, 192, .inl fm))] U.heap ∧ va_K (dC, dI) classes [(cI, .int), (cZ, .boolean)] U ∧ nz_N U)) (va_Qi (fun (r : Int32) (_ : Unit) => post r ) (fun _ _ => True) (fun q : Nat => zz ≤ q)) 0 0 (fun q : Nat => zz ≤ q) := by
  refine Met.ofW (cc := b_Model_hasLogical) (maxL := 2) (ret := (some .boolean)) (by decide) rfl ?_
  intro p e s m args below meth c s₁ B hml hv0
  obtain ⟨rfl, hsz, hP, hK, hN⟩ := hv0
  have hx := B.exec
  have hb := B.bytes
  have hr := B.returns
  have htb := w_tbl (atoms_spec (ws := w_Model_hasLogical) B.pre)
  have hown : s.vm.findClass R_Model = some m.cls := findClass_of_methodNamed B.named
  have hlocks := B.notSynchronized
  subst hsz
  have hA : ∀ q : Nat, s.heap.size ≤ q → (fun q : Nat => s.heap.size ≤ q) q := fun _ h => h
  have hS : va_S (fun q : Nat => s.heap.size ≤ q) s.heap s.heap [] := va_S.rf
  have hl := lv_entry ([.ref h, .int p0]) (n := 2) (Nat.le_of_ble_eq_true rfl)
  rw [lg_entry_eq]
  generalize (lg_sl ([.ref h, .int p0]) ++ List.replicate (2 - (lg_sl ([.ref h, .int p0])).length) Slot.unset).toArray = ls at hl ⊢
  have hl : lv_has ls 2 [(0, .ref h), (1, .int p0)] := hl
  refine lv_iload_n hx hb d_Model_hasLogical_0 rfl (lv_at hl 1 rfl) ?_
  refine lv_iconst (v := 0) hx hb d_Model_hasLogical_1 (by decide) ?_
  refine lv_aload_n hx hb d_Model_hasLogical_2 rfl (lv_at hl 0 rfl) ?_
  have hPc := hP.sub (ws' := [(h, .inr (5, [.int kc, .ref xw, .ref xl, .ref xs, .ref xf, .int kn, .int kz, .int ko, .int kt, .int kr, .ref xv, .ref xk, .ref xp, .ref xy, .ref xq, .ref xi, .ref xj, .ref xm])), (xw, .inl (cI, 384, .inl fw)), (xl, .inl (cZ, 384, .inl fl)), (xs, .inl (cI, 192, .inl fs)), (xf, .inl (cZ, 192, .inl ff)), (xv, .inl (cI, 4, .inl fv)), (xk, .inl (cZ, 4, .inl fk)), (xp, .inl (cI, 4, .inl fp)), (xy, .inl (cI, 192, .inl fy)), (xq, .inl (cI, 4, .inl fq)), (xi, .inl (cI, 80, .inl fi)), (xj, .inl (cI, 80, .inl fj)), (xm, .inl (cZ, 192, .inl fm))]) [0, 1, 2, 3, 4, 5, 6, 7, 8, 9, 10, 11, 12] rfl
  refine cz_r (va_runV (As := []) (rest := [.int 0, .int p0]) ⟨hx, hb, hml, hown, htb⟩ (m_Model_capacity l dC dI cI cZ h xw xl xs xf xv xk xp xy xq xi xj xm _ kc kn kz ko kt kr fw fl fs ff fv fk fp fy fq fi fj fm _ hv) (cwV 0 htb (gz_V k_ml_Model_68 k_inst_Model_capacity k_sel_Model_capacity k_init_Model k_code_Model_capacity) rfl rfl rfl (by decide +kernel) ⟨Nat.le_of_ble_eq_true rfl, Nat.le_of_ble_eq_true rfl⟩) (pz_VR (ci := 5) (q0 := 0) hPc hK hN rfl rfl) rfl rfl hl.1 rfl (lv_room (Nat.le_of_ble_eq_true rfl)) d_Model_hasLogical_3 ⟨Nat.le_of_ble_eq_true rfl, Nat.le_of_ble_eq_true rfl⟩) hP hS hA (fun r_1 H hv hP hS => ?_)
  refine lv_iconst (v := 1) hx hb d_Model_hasLogical_6 (by decide) ?_
  refine lv_isub hx hb d_Model_hasLogical_7 ?_
  have hPc := hP.sub (ws' := []) [] rfl
  refine cz_r (va_runS (As := [.int p0, .int 0, .int (r_1 - 1)]) (rest := []) ⟨hx, hb, hml, hown, htb⟩ (m_Model_in l dC dI cI cZ  _ p0 0 (r_1 - 1) _ hv) (cwS 3 htb (gz_S k_ml_Model_54 k_stat_Model_in k_init_Model k_code_Model_in) rfl rfl rfl (by decide +kernel) ⟨Nat.le_of_ble_eq_true rfl, Nat.le_of_ble_eq_true rfl⟩) (pz_SR hPc hK hN) rfl rfl hl.1 rfl (lv_room (Nat.le_of_ble_eq_true rfl)) d_Model_hasLogical_8 ⟨Nat.le_of_ble_eq_true rfl, Nat.le_of_ble_eq_true rfl⟩) hP hS hA (fun r_2 H hv hP hS => ?_)
  exact W.zret (v := r_2) hx hb hr hv.1 (fun t ht hW => ⟨⟨r_2, (), rfl, hv.2, trivial⟩, hS.F ht⟩) hS.2.2 d_Model_hasLogical_11
def v_Model_ownOf_26 (K5 : (Int32 → Int32 → Prop)) (x3 : Int32) (y0 : Int32) (y1 : Int32) : Prop := K5 (y1 - y0) x3
def vb_Model_ownOf_5 (kc : Int32) (kn : Int32) (kz : Int32) (ko : Int32) (kt : Int32) (kr : Int32) (fw : Nat → Int32) (fl : Nat → Int32) (fs : Nat → Int32) (ff : Nat → Int32) (fv : Nat → Int32) (fk : Nat → Int32) (fp : Nat → Int32) (fy : Nat → Int32) (fq : Nat → Int32) (fi : Nat → Int32) (fj : Nat → Int32) (fm : Nat → Int32) (post : Int32 → Prop) (K5 : Int32 → Int32 → Prop) (x2 : Int32) (x3 : Int32) : Prop := ((x2 < 0 → post x3) ∧ (¬ x2 < 0 → v_Model_isLogical kc kn kz ko kt kr fw fl fs ff fv fk fp fy fq fi fj fm (x3 + 1) (fun r_2 => ((r_2 = 0 → v_Model_ownOf_26 K5 (x3 + 1) 0 x2) ∧ (¬ r_2 = 0 → v_Model_ownOf_26 K5 (x3 + 1) 1 x2)))))
def v_Model_ownOf_5 (kc : Int32) (kn : Int32) (kz : Int32) (ko : Int32) (kt : Int32) (kr : Int32) (fw : Nat → Int32) (fl : Nat → Int32) (fs : Nat → Int32) (ff : Nat → Int32) (fv : Nat → Int32) (fk : Nat → Int32) (fp : Nat → Int32) (fy : Nat → Int32) (fq : Nat → Int32) (fi : Nat → Int32) (fj : Nat → Int32) (fm : Nat → Int32) (post : Int32 → Prop) : Nat → Int32 → Int32 → Prop
  | 0 => fun _ _ => False
  | n + 1 => vb_Model_ownOf_5 kc kn kz ko kt kr fw fl fs ff fv fk fp fy fq fi fj fm post (v_Model_ownOf_5 kc kn kz ko kt kr fw fl fs ff fv fk fp fy fq fi fj fm post n)
def v_Model_ownOf (kc : Int32) (kn : Int32) (kz : Int32) (ko : Int32) (kt : Int32) (kr : Int32) (fw : Nat → Int32) (fl : Nat → Int32) (fs : Nat → Int32) (ff : Nat → Int32) (fv : Nat → Int32) (fk : Nat → Int32) (fp : Nat → Int32) (fy : Nat → Int32) (fq : Nat → Int32) (fi : Nat → Int32) (fj : Nat → Int32) (fm : Nat → Int32) (p0 : Int32) (post : Int32 → Prop) : Prop := ∃ n, v_Model_ownOf_5 kc kn kz ko kt kr fw fl fs ff fv fk fp fy fq fi fj fm post n p0 15
set_option maxHeartbeats 4000000 in
set_option maxRecDepth 100000 in
theorem m_Model_ownOf (l : Launch) (dC : Nat → ClassId) (dI : Nat → Nat → Nat) (cI cZ : ClassId) (h xw xl xs xf xv xk xp xy xq xi xj xm : Nat) (zz : Nat) (kc : Int32) (kn : Int32) (kz : Int32) (ko : Int32) (kt : Int32) (kr : Int32) (fw : Nat → Int32) (fl : Nat → Int32) (fs : Nat → Int32) (ff : Nat → Int32) (fv : Nat → Int32) (fk : Nat → Int32) (fp : Nat → Int32) (fy : Nat → Int32) (fq : Nat → Int32) (fi : Nat → Int32) (fj : Nat → Int32) (fm : Nat → Int32) (p0 : Int32) (post : Int32 → Prop) (hv : v_Model_ownOf kc kn kz ko kt kr fw fl fs ff fv fk fp fy fq fi fj fm p0 post) : Met l y_Model_ownOf w_Model_ownOf ({ frames := 2, cells := 0, slots := 0, locals := 44 }) (va_Pc [.ref h, .int p0] (fun U => U.heap.size = zz ∧ va_P (dC, dI) classes [(h, .inr (5, [.int kc, .ref xw, .ref xl, .ref xs, .ref xf, .int kn, .int kz, .int ko, .int kt, .int kr, .ref xv, .ref xk, .ref xp, .ref xy, .ref xq, .ref xi, .ref xj, .ref xm])), (xw, .inl (cI, 384, .inl fw)), (xl, .inl (cZ, 384, .inl fl)), (xs, .inl (cI, 192, .inl fs)), (xf, .inl (cZ, 192, .inl ff)), (xv, .inl (cI, 4, .inl fv)), (xk, .inl (cZ, 4, .inl fk)), (xp, .inl (cI, 4, .inl fp)), (xy, .inl (cI, 192, .inl fy)), (xq, .inl (cI, 4, .inl fq)), (xi, .inl (cI, 80, .inl fi)), (xj, .inl (cI, 80, .inl fj)), (xm, .inl (cZ, 192, .inl fm))] U.heap ∧ va_K (dC, dI) classes [(cI, .int), (cZ, .boolean)] U ∧ nz_N U)) (va_Qi (fun (r : Int32) (_ : Unit) => post r ) (fun _ _ => True) (fun q : Nat => zz ≤ q)) 0 0 (fun q : Nat => zz ≤ q) := by
  refine Met.ofW (cc := b_Model_ownOf) (maxL := 4) (ret := (some .int)) (by decide) rfl ?_
  intro p e s m args below meth c s₁ B hml hv0
  obtain ⟨rfl, hsz, hP, hK, hN⟩ := hv0
  have hx := B.exec
  have hb := B.bytes
  have hr := B.returns
  have htb := w_tbl (atoms_spec (ws := w_Model_ownOf) B.pre)
  have hown : s.vm.findClass R_Model = some m.cls := findClass_of_methodNamed B.named
  have hlocks := B.notSynchronized
  subst hsz
  have hA : ∀ q : Nat, s.heap.size ≤ q → (fun q : Nat => s.heap.size ≤ q) q := fun _ h => h
  have hS : va_S (fun q : Nat => s.heap.size ≤ q) s.heap s.heap [] := va_S.rf
  have hl := lv_entry ([.ref h, .int p0]) (n := 4) (Nat.le_of_ble_eq_true rfl)
  rw [lg_entry_eq]
  generalize (lg_sl ([.ref h, .int p0]) ++ List.replicate (4 - (lg_sl ([.ref h, .int p0])).length) Slot.unset).toArray = ls at hl ⊢
  have hl : lv_has ls 4 [(0, .ref h), (1, .int p0)] := hl
  have J5 : ∀ (n : Nat) (x2 : Int32) (x3 : Int32) (H : Heap), v_Model_ownOf_5 kc kn kz ko kt kr fw fl fs ff fv fk fp fy fq fi fj fm post n x2 x3 → va_P (dC, dI) classes [(h, .inr (5, [.int kc, .ref xw, .ref xl, .ref xs, .ref xf, .int kn, .int kz, .int ko, .int kt, .int kr, .ref xv, .ref xk, .ref xp, .ref xy, .ref xq, .ref xi, .ref xj, .ref xm])), (xw, .inl (cI, 384, .inl fw)), (xl, .inl (cZ, 384, .inl fl)), (xs, .inl (cI, 192, .inl fs)), (xf, .inl (cZ, 192, .inl ff)), (xv, .inl (cI, 4, .inl fv)), (xk, .inl (cZ, 4, .inl fk)), (xp, .inl (cI, 4, .inl fp)), (xy, .inl (cI, 192, .inl fy)), (xq, .inl (cI, 4, .inl fq)), (xi, .inl (cI, 80, .inl fi)), (xj, .inl (cI, 80, .inl fj)), (xm, .inl (cZ, 192, .inl fm))] H → va_S (fun q : Nat => s.heap.size ≤ q) s.heap H [] → ∀ ls : Array Slot, lv_has ls 4 [(0, .ref h), (2, .int x2), (3, .int x3)] → W p l e (headSpec w_Model_ownOf ({ frames := 2, cells := 0, slots := 0, locals := 44 })).room s m ([.ref h, .int p0] : List Value).toArray below meth c H [] 0 0 (MQ below (va_Qi (fun (r : Int32) (_ : Unit) => post r ) (fun _ _ => True) (fun q : Nat => s.heap.size ≤ q)) ([.ref h, .int p0] : List Value).toArray s 0 0 (fun q : Nat => s.heap.size ≤ q)) (F0 m 5 ls []) := by
    intro  n5
    induction n5 with
    | zero =>
      intro x2 x3 H hv
      exact absurd hv id
    | succ n5 ih5 =>
      intro x2 x3 H hv hP hS ls hl
      have hv : vb_Model_ownOf_5 kc kn kz ko kt kr fw fl fs ff fv fk fp fy fq fi fj fm post (v_Model_ownOf_5 kc kn kz ko kt kr fw fl fs ff fv fk fp fy fq fi fj fm post n5) x2 x3 := hv
      have J26 : ∀ (x3 : Int32) (y0 : Int32) (y1 : Int32) (H : Heap), v_Model_ownOf_26 (v_Model_ownOf_5 kc kn kz ko kt kr fw fl fs ff fv fk fp fy fq fi fj fm post n5) x3 y0 y1 → va_P (dC, dI) classes [(h, .inr (5, [.int kc, .ref xw, .ref xl, .ref xs, .ref xf, .int kn, .int kz, .int ko, .int kt, .int kr, .ref xv, .ref xk, .ref xp, .ref xy, .ref xq, .ref xi, .ref xj, .ref xm])), (xw, .inl (cI, 384, .inl fw)), (xl, .inl (cZ, 384, .inl fl)), (xs, .inl (cI, 192, .inl fs)), (xf, .inl (cZ, 192, .inl ff)), (xv, .inl (cI, 4, .inl fv)), (xk, .inl (cZ, 4, .inl fk)), (xp, .inl (cI, 4, .inl fp)), (xy, .inl (cI, 192, .inl fy)), (xq, .inl (cI, 4, .inl fq)), (xi, .inl (cI, 80, .inl fi)), (xj, .inl (cI, 80, .inl fj)), (xm, .inl (cZ, 192, .inl fm))] H → va_S (fun q : Nat => s.heap.size ≤ q) s.heap H [] → ∀ ls : Array Slot, lv_has ls 4 [(0, .ref h), (3, .int x3)] → W p l e (headSpec w_Model_ownOf ({ frames := 2, cells := 0, slots := 0, locals := 44 })).room s m ([.ref h, .int p0] : List Value).toArray below meth c H [] 0 0 (MQ below (va_Qi (fun (r : Int32) (_ : Unit) => post r ) (fun _ _ => True) (fun q : Nat => s.heap.size ≤ q)) ([.ref h, .int p0] : List Value).toArray s 0 0 (fun q : Nat => s.heap.size ≤ q)) (F0 m 26 ls [.int y0, .int y1]) := by
        intro x3 y0 y1 H hv hP hS ls hl
        refine lv_isub hx hb d_Model_ownOf_26 ?_
        refine lv_istore_n (lv' := [(2, .int (y1 - y0)), (0, .ref h), (3, .int x3)]) hx hb d_Model_ownOf_27 rfl hl (by decide) rfl (fun ls hl => ?_)
        refine lv_goto (tgt := 5) hx hb d_Model_ownOf_28 (by decide) ?_
        exact ih5 (y1 - y0) x3 _ hv hP hS ls (lv_sub hl [1, 0, 2] rfl)
      refine lv_iload_n hx hb d_Model_ownOf_5 rfl (lv_at hl 1 rfl) ?_
      refine lv_if_lt (tgt := 31) hx hb d_Model_ownOf_6 (by decide) (fun c_1 => ?_) (fun c_1 => ?_)
      · have hv := hv.1 c_1
        refine lv_iload_n hx hb d_Model_ownOf_31 rfl (lv_at hl 2 rfl) ?_
        exact W.iret (v := x3) hx hb hr (fun t ht hW => ⟨⟨x3, (), rfl, hv, trivial⟩, hS.F ht⟩) hS.2.2 d_Model_ownOf_32
      · have hv := hv.2 c_1
        refine lv_iinc (v := x3 + 1) (lv' := [(3, .int (x3 + 1)), (0, .ref h), (2, .int x2)]) hx hb d_Model_ownOf_9 hl (k := 2) rfl rfl (by decide) rfl (fun ls hl => ?_)
        refine lv_iload_n hx hb d_Model_ownOf_12 rfl (lv_at hl 2 rfl) ?_
        refine lv_aload_n hx hb d_Model_ownOf_13 rfl (lv_at hl 1 rfl) ?_
        refine lv_iload_n hx hb d_Model_ownOf_14 rfl (lv_at hl 0 rfl) ?_
        have hPc := hP.sub (ws' := [(h, .inr (5, [.int kc, .ref xw, .ref xl, .ref xs, .ref xf, .int kn, .int kz, .int ko, .int kt, .int kr, .ref xv, .ref xk, .ref xp, .ref xy, .ref xq, .ref xi, .ref xj, .ref xm])), (xw, .inl (cI, 384, .inl fw)), (xl, .inl (cZ, 384, .inl fl)), (xs, .inl (cI, 192, .inl fs)), (xf, .inl (cZ, 192, .inl ff)), (xv, .inl (cI, 4, .inl fv)), (xk, .inl (cZ, 4, .inl fk)), (xp, .inl (cI, 4, .inl fp)), (xy, .inl (cI, 192, .inl fy)), (xq, .inl (cI, 4, .inl fq)), (xi, .inl (cI, 80, .inl fi)), (xj, .inl (cI, 80, .inl fj)), (xm, .inl (cZ, 192, .inl fm))]) [0, 1, 2, 3, 4, 5, 6, 7, 8, 9, 10, 11, 12] rfl
        refine cz_r (va_runV (As := [.int (x3 + 1)]) (rest := [.int x2]) ⟨hx, hb, hml, hown, htb⟩ (m_Model_isLogical l dC dI cI cZ h xw xl xs xf xv xk xp xy xq xi xj xm _ kc kn kz ko kt kr fw fl fs ff fv fk fp fy fq fi fj fm (x3 + 1) _ hv) (cwV 1 htb (gz_V k_ml_Model_65 k_inst_Model_isLogical k_sel_Model_isLogical k_init_Model k_code_Model_isLogical) rfl rfl rfl (by decide +kernel) ⟨Nat.le_of_ble_eq_true rfl, Nat.le_of_ble_eq_true rfl⟩) (pz_VR (ci := 5) (q0 := 0) hPc hK hN rfl rfl) rfl rfl hl.1 rfl (lv_room (Nat.le_of_ble_eq_true rfl)) d_Model_ownOf_15 ⟨Nat.le_of_ble_eq_true rfl, Nat.le_of_ble_eq_true rfl⟩) hP hS hA (fun r_2 H hv hP hS => ?_)
        refine lv_if_eq (tgt := 25) hx hb d_Model_ownOf_18 (by decide) (fun c_3 => ?_) (fun c_3 => ?_)
        · have hv := hv.1 c_3
          refine lv_iconst (v := 0) hx hb d_Model_ownOf_25 (by decide) ?_
          exact J26 (x3 + 1) 0 x2 _ hv hP hS ls (lv_sub hl [1, 0] rfl)
        · have hv := hv.2 c_3
          refine lv_iconst (v := 1) hx hb d_Model_ownOf_21 (by decide) ?_
          refine lv_goto (tgt := 26) hx hb d_Model_ownOf_22 (by decide) ?_
          exact J26 (x3 + 1) 1 x2 _ hv hP hS ls (lv_sub hl [1, 0] rfl)
  refine lv_iload_n hx hb d_Model_ownOf_0 rfl (lv_at hl 1 rfl) ?_
  refine lv_istore_n (lv' := [(2, .int p0), (0, .ref h), (1, .int p0)]) hx hb d_Model_ownOf_1 rfl hl (by decide) rfl (fun ls hl => ?_)
  refine lv_bipush (v := 15) hx hb d_Model_ownOf_2 (by decide) ?_
  refine lv_istore_n (lv' := [(3, .int 15), (2, .int p0), (0, .ref h), (1, .int p0)]) hx hb d_Model_ownOf_4 rfl hl (by decide) rfl (fun ls hl => ?_)
  obtain ⟨n_5, hv⟩ := hv
  exact J5  n_5 p0 15 _ hv hP hS ls (lv_sub hl [2, 1, 0] rfl)
def v_Model_placeOf (kc : Int32) (kn : Int32) (kz : Int32) (ko : Int32) (kt : Int32) (kr : Int32) (fw : Nat → Int32) (fl : Nat → Int32) (fs : Nat → Int32) (ff : Nat → Int32) (fv : Nat → Int32) (fk : Nat → Int32) (fp : Nat → Int32) (fy : Nat → Int32) (fq : Nat → Int32) (fi : Nat → Int32) (fj : Nat → Int32) (fm : Nat → Int32) (p0 : Int32) (post : Int32 → Prop) : Prop := v_Model_ownOf kc kn kz ko kt kr fw fl fs ff fv fk fp fy fq fi fj fm p0 (fun r_1 => v_Model_pairOfFirst kc kn kz ko kt kr fw fl fs ff fv fk fp fy fq fi fj fm r_1 (fun r_2 => ((r_2 < 0 → post r_1) ∧ (¬ r_2 < 0 → (vp_in r_2 80 ∧ post (fj r_2.toNatClampNeg))))))
set_option maxHeartbeats 4000000 in
set_option maxRecDepth 100000 in
theorem m_Model_placeOf (l : Launch) (dC : Nat → ClassId) (dI : Nat → Nat → Nat) (cI cZ : ClassId) (h xw xl xs xf xv xk xp xy xq xi xj xm : Nat) (zz : Nat) (kc : Int32) (kn : Int32) (kz : Int32) (ko : Int32) (kt : Int32) (kr : Int32) (fw : Nat → Int32) (fl : Nat → Int32) (fs : Nat → Int32) (ff : Nat → Int32) (fv : Nat → Int32) (fk : Nat → Int32) (fp : Nat → Int32) (fy : Nat → Int32) (fq : Nat → Int32) (fi : Nat → Int32) (fj : Nat → Int32) (fm : Nat → Int32) (p0 : Int32) (post : Int32 → Prop) (hv : v_Model_placeOf kc kn kz ko kt kr fw fl fs ff fv fk fp fy fq fi fj fm p0 post) : Met l y_Model_placeOf w_Model_placeOf ({ frames := 3, cells := 0, slots := 0, locals := 67 }) (va_Pc [.ref h, .int p0] (fun U => U.heap.size = zz ∧ va_P (dC, dI) classes [(h, .inr (5, [.int kc, .ref xw, .ref xl, .ref xs, .ref xf, .int kn, .int kz, .int ko, .int kt, .int kr, .ref xv, .ref xk, .ref xp, .ref xy, .ref xq, .ref xi, .ref xj, .ref xm])), (xw, .inl (cI, 384, .inl fw)), (xl, .inl (cZ, 384, .inl fl)), (xs, .inl (cI, 192, .inl fs)), (xf, .inl (cZ, 192, .inl ff)), (xv, .inl (cI, 4, .inl fv)), (xk, .inl (cZ, 4, .inl fk)), (xp, .inl (cI, 4, .inl fp)), (xy, .inl (cI, 192, .inl fy)), (xq, .inl (cI, 4, .inl fq)), (xi, .inl (cI, 80, .inl fi)), (xj, .inl (cI, 80, .inl fj)), (xm, .inl (cZ, 192, .inl fm))] U.heap ∧ va_K (dC, dI) classes [(cI, .int), (cZ, .boolean)] U ∧ nz_N U)) (va_Qi (fun (r : Int32) (_ : Unit) => post r ) (fun _ _ => True) (fun q : Nat => zz ≤ q)) 0 0 (fun q : Nat => zz ≤ q) := by
  refine Met.ofW (cc := b_Model_placeOf) (maxL := 4) (ret := (some .int)) (by decide) rfl ?_
  intro p e s m args below meth c s₁ B hml hv0
  obtain ⟨rfl, hsz, hP, hK, hN⟩ := hv0
  have hx := B.exec
  have hb := B.bytes
  have hr := B.returns
  have htb := w_tbl (atoms_spec (ws := w_Model_placeOf) B.pre)
  have hown : s.vm.findClass R_Model = some m.cls := findClass_of_methodNamed B.named
  have hlocks := B.notSynchronized
  subst hsz
  have hA : ∀ q : Nat, s.heap.size ≤ q → (fun q : Nat => s.heap.size ≤ q) q := fun _ h => h
  have hS : va_S (fun q : Nat => s.heap.size ≤ q) s.heap s.heap [] := va_S.rf
  have hl := lv_entry ([.ref h, .int p0]) (n := 4) (Nat.le_of_ble_eq_true rfl)
  rw [lg_entry_eq]
  generalize (lg_sl ([.ref h, .int p0]) ++ List.replicate (4 - (lg_sl ([.ref h, .int p0])).length) Slot.unset).toArray = ls at hl ⊢
  have hl : lv_has ls 4 [(0, .ref h), (1, .int p0)] := hl
  refine lv_aload_n hx hb d_Model_placeOf_0 rfl (lv_at hl 0 rfl) ?_
  refine lv_iload_n hx hb d_Model_placeOf_1 rfl (lv_at hl 1 rfl) ?_
  have hPc := hP.sub (ws' := [(h, .inr (5, [.int kc, .ref xw, .ref xl, .ref xs, .ref xf, .int kn, .int kz, .int ko, .int kt, .int kr, .ref xv, .ref xk, .ref xp, .ref xy, .ref xq, .ref xi, .ref xj, .ref xm])), (xw, .inl (cI, 384, .inl fw)), (xl, .inl (cZ, 384, .inl fl)), (xs, .inl (cI, 192, .inl fs)), (xf, .inl (cZ, 192, .inl ff)), (xv, .inl (cI, 4, .inl fv)), (xk, .inl (cZ, 4, .inl fk)), (xp, .inl (cI, 4, .inl fp)), (xy, .inl (cI, 192, .inl fy)), (xq, .inl (cI, 4, .inl fq)), (xi, .inl (cI, 80, .inl fi)), (xj, .inl (cI, 80, .inl fj)), (xm, .inl (cZ, 192, .inl fm))]) [0, 1, 2, 3, 4, 5, 6, 7, 8, 9, 10, 11, 12] rfl
  refine cz_r (va_runV (As := [.int p0]) (rest := []) ⟨hx, hb, hml, hown, htb⟩ (m_Model_ownOf l dC dI cI cZ h xw xl xs xf xv xk xp xy xq xi xj xm _ kc kn kz ko kt kr fw fl fs ff fv fk fp fy fq fi fj fm p0 _ hv) (cwV 1 htb (gz_V k_ml_Model_72 k_inst_Model_ownOf k_sel_Model_ownOf k_init_Model k_code_Model_ownOf) rfl rfl rfl (by decide +kernel) ⟨Nat.le_of_ble_eq_true rfl, Nat.le_of_ble_eq_true rfl⟩) (pz_VR (ci := 5) (q0 := 0) hPc hK hN rfl rfl) rfl rfl hl.1 rfl (lv_room (Nat.le_of_ble_eq_true rfl)) d_Model_placeOf_2 ⟨Nat.le_of_ble_eq_true rfl, Nat.le_of_ble_eq_true rfl⟩) hP hS hA (fun r_1 H hv hP hS => ?_)
  refine lv_istore_n (lv' := [(2, .int r_1), (0, .ref h), (1, .int p0)]) hx hb d_Model_placeOf_5 rfl hl (by decide) rfl (fun ls hl => ?_)
  refine lv_aload_n hx hb d_Model_placeOf_6 rfl (lv_at hl 1 rfl) ?_
  refine lv_iload_n hx hb d_Model_placeOf_7 rfl (lv_at hl 0 rfl) ?_
  have hPc := hP.sub (ws' := [(h, .inr (5, [.int kc, .ref xw, .ref xl, .ref xs, .ref xf, .int kn, .int kz, .int ko, .int kt, .int kr, .ref xv, .ref xk, .ref xp, .ref xy, .ref xq, .ref xi, .ref xj, .ref xm])), (xw, .inl (cI, 384, .inl fw)), (xl, .inl (cZ, 384, .inl fl)), (xs, .inl (cI, 192, .inl fs)), (xf, .inl (cZ, 192, .inl ff)), (xv, .inl (cI, 4, .inl fv)), (xk, .inl (cZ, 4, .inl fk)), (xp, .inl (cI, 4, .inl fp)), (xy, .inl (cI, 192, .inl fy)), (xq, .inl (cI, 4, .inl fq)), (xi, .inl (cI, 80, .inl fi)), (xj, .inl (cI, 80, .inl fj)), (xm, .inl (cZ, 192, .inl fm))]) [0, 1, 2, 3, 4, 5, 6, 7, 8, 9, 10, 11, 12] rfl
  refine cz_r (va_runV (As := [.int r_1]) (rest := []) ⟨hx, hb, hml, hown, htb⟩ (m_Model_pairOfFirst l dC dI cI cZ h xw xl xs xf xv xk xp xy xq xi xj xm _ kc kn kz ko kt kr fw fl fs ff fv fk fp fy fq fi fj fm r_1 _ hv) (cwV 1 htb (gz_V k_ml_Model_76 k_inst_Model_pairOfFirst k_sel_Model_pairOfFirst k_init_Model k_code_Model_pairOfFirst) rfl rfl rfl (by decide +kernel) ⟨Nat.le_of_ble_eq_true rfl, Nat.le_of_ble_eq_true rfl⟩) (pz_VR (ci := 5) (q0 := 0) hPc hK hN rfl rfl) rfl rfl hl.1 rfl (lv_room (Nat.le_of_ble_eq_true rfl)) d_Model_placeOf_8 ⟨Nat.le_of_ble_eq_true rfl, Nat.le_of_ble_eq_true rfl⟩) hP hS hA (fun r_2 H hv hP hS => ?_)
  refine lv_istore_n (lv' := [(3, .int r_2), (2, .int r_1), (0, .ref h), (1, .int p0)]) hx hb d_Model_placeOf_11 rfl hl (by decide) rfl (fun ls hl => ?_)
  refine lv_iload_n hx hb d_Model_placeOf_12 rfl (lv_at hl 0 rfl) ?_
  refine lv_if_lt (tgt := 25) hx hb d_Model_placeOf_13 (by decide) (fun c_3 => ?_) (fun c_3 => ?_)
  · have hv := hv.1 c_3
    refine lv_iload_n hx hb d_Model_placeOf_25 rfl (lv_at hl 1 rfl) ?_
    exact W.iret (v := r_1) hx hb hr (fun t ht hW => ⟨⟨r_1, (), rfl, hv, trivial⟩, hS.F ht⟩) hS.2.2 d_Model_placeOf_26
  · have hv := hv.2 c_3
    refine lv_aload_n hx hb d_Model_placeOf_16 rfl (lv_at hl 2 rfl) ?_
    refine va_get (D := (dC, dI)) (ci := 5) (v := .ref xj) (C := R_Model) (T := F_Model) (N := 18) hx hb htb i_Model hown hK hP 0 rfl rfl 16 (by decide) (htb _ k_fl_Model_45) (fun _ h9 => h9) rfl d_Model_placeOf_17 ?_
    refine lv_iload_n hx hb d_Model_placeOf_20 rfl (lv_at hl 0 rfl) ?_
    obtain ⟨h_4, hv⟩ := hv
    refine va_iald hx hb hK hP 11 0 rfl rfl h_4 d_Model_placeOf_21 ?_
    refine lv_goto (tgt := 26) hx hb d_Model_placeOf_22 (by decide) ?_
    exact W.iret (v := fj r_2.toNatClampNeg) hx hb hr (fun t ht hW => ⟨⟨fj r_2.toNatClampNeg, (), rfl, hv, trivial⟩, hS.F ht⟩) hS.2.2 d_Model_placeOf_26
def v_Model_isFreeSpare (kc : Int32) (kn : Int32) (kz : Int32) (ko : Int32) (kt : Int32) (kr : Int32) (fw : Nat → Int32) (fl : Nat → Int32) (fs : Nat → Int32) (ff : Nat → Int32) (fv : Nat → Int32) (fk : Nat → Int32) (fp : Nat → Int32) (fy : Nat → Int32) (fq : Nat → Int32) (fi : Nat → Int32) (fj : Nat → Int32) (fm : Nat → Int32) (p0 : Int32) (post : Int32 → Prop) : Prop := v_Model_isSpare p0 (fun r_1 => ((r_1 = 0 → post 0) ∧ (¬ r_1 = 0 → (vp_in p0 192 ∧ ((¬ (fs p0.toNatClampNeg) = 0 → post 0) ∧ ((fs p0.toNatClampNeg) = 0 → v_Model_isPrimary kc kn kz ko kt kr fw fl fs ff fv fk fp fy fq fi fj fm p0 (fun r_5 => ((¬ r_5 = 0 → post 0) ∧ (r_5 = 0 → v_Model_pairOfSpare kc kn kz ko kt kr fw fl fs ff fv fk fp fy fq fi fj fm p0 (fun r_7 => ((0 ≤ r_7 → post 0) ∧ (¬ 0 ≤ r_7 → post 1))))))))))))
set_option maxHeartbeats 4000000 in
set_option maxRecDepth 100000 in
theorem m_Model_isFreeSpare (l : Launch) (dC : Nat → ClassId) (dI : Nat → Nat → Nat) (cI cZ : ClassId) (h xw xl xs xf xv xk xp xy xq xi xj xm : Nat) (zz : Nat) (kc : Int32) (kn : Int32) (kz : Int32) (ko : Int32) (kt : Int32) (kr : Int32) (fw : Nat → Int32) (fl : Nat → Int32) (fs : Nat → Int32) (ff : Nat → Int32) (fv : Nat → Int32) (fk : Nat → Int32) (fp : Nat → Int32) (fy : Nat → Int32) (fq : Nat → Int32) (fi : Nat → Int32) (fj : Nat → Int32) (fm : Nat → Int32) (p0 : Int32) (post : Int32 → Prop) (hv : v_Model_isFreeSpare kc kn kz ko kt kr fw fl fs ff fv fk fp fy fq fi fj fm p0 post) : Met l y_Model_isFreeSpare w_Model_isFreeSpare ({ frames := 1, cells := 0, slots := 0, locals := 23 }) (va_Pc [.ref h, .int p0] (fun U => U.heap.size = zz ∧ va_P (dC, dI) classes [(h, .inr (5, [.int kc, .ref xw, .ref xl, .ref xs, .ref xf, .int kn, .int kz, .int ko, .int kt, .int kr, .ref xv, .ref xk, .ref xp, .ref xy, .ref xq, .ref xi, .ref xj, .ref xm])), (xw, .inl (cI, 384, .inl fw)), (xl, .inl (cZ, 384, .inl fl)), (xs, .inl (cI, 192, .inl fs)), (xf, .inl (cZ, 192, .inl ff)), (xv, .inl (cI, 4, .inl fv)), (xk, .inl (cZ, 4, .inl fk)), (xp, .inl (cI, 4, .inl fp)), (xy, .inl (cI, 192, .inl fy)), (xq, .inl (cI, 4, .inl fq)), (xi, .inl (cI, 80, .inl fi)), (xj, .inl (cI, 80, .inl fj)), (xm, .inl (cZ, 192, .inl fm))] U.heap ∧ va_K (dC, dI) classes [(cI, .int), (cZ, .boolean)] U ∧ nz_N U)) (va_Qi (fun (r : Int32) (_ : Unit) => post r ) (fun _ _ => True) (fun q : Nat => zz ≤ q)) 0 0 (fun q : Nat => zz ≤ q) := by
  refine Met.ofW (cc := b_Model_isFreeSpare) (maxL := 2) (ret := (some .boolean)) (by decide) rfl ?_
  intro p e s m args below meth c s₁ B hml hv0
  obtain ⟨rfl, hsz, hP, hK, hN⟩ := hv0
  have hx := B.exec
  have hb := B.bytes
  have hr := B.returns
  have htb := w_tbl (atoms_spec (ws := w_Model_isFreeSpare) B.pre)
  have hown : s.vm.findClass R_Model = some m.cls := findClass_of_methodNamed B.named
  have hlocks := B.notSynchronized
  subst hsz
  have hA : ∀ q : Nat, s.heap.size ≤ q → (fun q : Nat => s.heap.size ≤ q) q := fun _ h => h
  have hS : va_S (fun q : Nat => s.heap.size ≤ q) s.heap s.heap [] := va_S.rf
  have hl := lv_entry ([.ref h, .int p0]) (n := 2) (Nat.le_of_ble_eq_true rfl)
  rw [lg_entry_eq]
  generalize (lg_sl ([.ref h, .int p0]) ++ List.replicate (2 - (lg_sl ([.ref h, .int p0])).length) Slot.unset).toArray = ls at hl ⊢
  have hl : lv_has ls 2 [(0, .ref h), (1, .int p0)] := hl
  refine lv_iload_n hx hb d_Model_isFreeSpare_0 rfl (lv_at hl 1 rfl) ?_
  have hPc := hP.sub (ws' := []) [] rfl
  refine cz_r (va_runS (As := [.int p0]) (rest := []) ⟨hx, hb, hml, hown, htb⟩ (m_Model_isSpare l dC dI cI cZ  _ p0 _ hv) (cwS 1 htb (gz_S k_ml_Model_58 k_stat_Model_isSpare k_init_Model k_code_Model_isSpare) rfl rfl rfl (by decide +kernel) ⟨Nat.le_of_ble_eq_true rfl, Nat.le_of_ble_eq_true rfl⟩) (pz_SR hPc hK hN) rfl rfl hl.1 rfl (lv_room (Nat.le_of_ble_eq_true rfl)) d_Model_isFreeSpare_1 ⟨Nat.le_of_ble_eq_true rfl, Nat.le_of_ble_eq_true rfl⟩) hP hS hA (fun r_1 H hv hP hS => ?_)
  refine lv_if_eq (tgt := 36) hx hb d_Model_isFreeSpare_4 (by decide) (fun c_2 => ?_) (fun c_2 => ?_)
  · have hv := hv.1 c_2
    refine lv_iconst (v := 0) hx hb d_Model_isFreeSpare_36 (by decide) ?_
    exact W.zret (v := 0) hx hb hr rfl (fun t ht hW => ⟨⟨0, (), rfl, hv, trivial⟩, hS.F ht⟩) hS.2.2 d_Model_isFreeSpare_37
  · have hv := hv.2 c_2
    refine lv_aload_n hx hb d_Model_isFreeSpare_7 rfl (lv_at hl 0 rfl) ?_
    refine va_get (D := (dC, dI)) (ci := 5) (v := .ref xs) (C := R_Model) (T := F_Model) (N := 18) hx hb htb i_Model hown hK hP 0 rfl rfl 3 (by decide) (htb _ k_fl_Model_17) (fun _ h9 => h9) rfl d_Model_isFreeSpare_8 ?_
    refine lv_iload_n hx hb d_Model_isFreeSpare_11 rfl (lv_at hl 1 rfl) ?_
    obtain ⟨h_3, hv⟩ := hv
    refine va_iald hx hb hK hP 3 0 rfl rfl h_3 d_Model_isFreeSpare_12 ?_
    refine lv_if_ne (tgt := 36) hx hb d_Model_isFreeSpare_13 (by decide) (fun c_4 => ?_) (fun c_4 => ?_)
    · have hv := hv.1 c_4
      refine lv_iconst (v := 0) hx hb d_Model_isFreeSpare_36 (by decide) ?_
      exact W.zret (v := 0) hx hb hr rfl (fun t ht hW => ⟨⟨0, (), rfl, hv, trivial⟩, hS.F ht⟩) hS.2.2 d_Model_isFreeSpare_37
    · have hv := hv.2 c_4
      refine lv_aload_n hx hb d_Model_isFreeSpare_16 rfl (lv_at hl 0 rfl) ?_
      refine lv_iload_n hx hb d_Model_isFreeSpare_17 rfl (lv_at hl 1 rfl) ?_
      have hPc := hP.sub (ws' := [(h, .inr (5, [.int kc, .ref xw, .ref xl, .ref xs, .ref xf, .int kn, .int kz, .int ko, .int kt, .int kr, .ref xv, .ref xk, .ref xp, .ref xy, .ref xq, .ref xi, .ref xj, .ref xm])), (xw, .inl (cI, 384, .inl fw)), (xl, .inl (cZ, 384, .inl fl)), (xs, .inl (cI, 192, .inl fs)), (xf, .inl (cZ, 192, .inl ff)), (xv, .inl (cI, 4, .inl fv)), (xk, .inl (cZ, 4, .inl fk)), (xp, .inl (cI, 4, .inl fp)), (xy, .inl (cI, 192, .inl fy)), (xq, .inl (cI, 4, .inl fq)), (xi, .inl (cI, 80, .inl fi)), (xj, .inl (cI, 80, .inl fj)), (xm, .inl (cZ, 192, .inl fm))]) [0, 1, 2, 3, 4, 5, 6, 7, 8, 9, 10, 11, 12] rfl
      refine cz_r (va_runV (As := [.int p0]) (rest := []) ⟨hx, hb, hml, hown, htb⟩ (m_Model_isPrimary l dC dI cI cZ h xw xl xs xf xv xk xp xy xq xi xj xm _ kc kn kz ko kt kr fw fl fs ff fv fk fp fy fq fi fj fm p0 _ hv) (cwV 1 htb (gz_V k_ml_Model_62 k_inst_Model_isPrimary k_sel_Model_isPrimary k_init_Model k_code_Model_isPrimary) rfl rfl rfl (by decide +kernel) ⟨Nat.le_of_ble_eq_true rfl, Nat.le_of_ble_eq_true rfl⟩) (pz_VR (ci := 5) (q0 := 0) hPc hK hN rfl rfl) rfl rfl hl.1 rfl (lv_room (Nat.le_of_ble_eq_true rfl)) d_Model_isFreeSpare_18 ⟨Nat.le_of_ble_eq_true rfl, Nat.le_of_ble_eq_true rfl⟩) hP hS hA (fun r_5 H hv hP hS => ?_)
      refine lv_if_ne (tgt := 36) hx hb d_Model_isFreeSpare_21 (by decide) (fun c_6 => ?_) (fun c_6 => ?_)
      · have hv := hv.1 c_6
        refine lv_iconst (v := 0) hx hb d_Model_isFreeSpare_36 (by decide) ?_
        exact W.zret (v := 0) hx hb hr rfl (fun t ht hW => ⟨⟨0, (), rfl, hv, trivial⟩, hS.F ht⟩) hS.2.2 d_Model_isFreeSpare_37
      · have hv := hv.2 c_6
        refine lv_aload_n hx hb d_Model_isFreeSpare_24 rfl (lv_at hl 0 rfl) ?_
        refine lv_iload_n hx hb d_Model_isFreeSpare_25 rfl (lv_at hl 1 rfl) ?_
        have hPc := hP.sub (ws' := [(h, .inr (5, [.int kc, .ref xw, .ref xl, .ref xs, .ref xf, .int kn, .int kz, .int ko, .int kt, .int kr, .ref xv, .ref xk, .ref xp, .ref xy, .ref xq, .ref xi, .ref xj, .ref xm])), (xw, .inl (cI, 384, .inl fw)), (xl, .inl (cZ, 384, .inl fl)), (xs, .inl (cI, 192, .inl fs)), (xf, .inl (cZ, 192, .inl ff)), (xv, .inl (cI, 4, .inl fv)), (xk, .inl (cZ, 4, .inl fk)), (xp, .inl (cI, 4, .inl fp)), (xy, .inl (cI, 192, .inl fy)), (xq, .inl (cI, 4, .inl fq)), (xi, .inl (cI, 80, .inl fi)), (xj, .inl (cI, 80, .inl fj)), (xm, .inl (cZ, 192, .inl fm))]) [0, 1, 2, 3, 4, 5, 6, 7, 8, 9, 10, 11, 12] rfl
        refine cz_r (va_runV (As := [.int p0]) (rest := []) ⟨hx, hb, hml, hown, htb⟩ (m_Model_pairOfSpare l dC dI cI cZ h xw xl xs xf xv xk xp xy xq xi xj xm _ kc kn kz ko kt kr fw fl fs ff fv fk fp fy fq fi fj fm p0 _ hv) (cwV 1 htb (gz_V k_ml_Model_79 k_inst_Model_pairOfSpare k_sel_Model_pairOfSpare k_init_Model k_code_Model_pairOfSpare) rfl rfl rfl (by decide +kernel) ⟨Nat.le_of_ble_eq_true rfl, Nat.le_of_ble_eq_true rfl⟩) (pz_VR (ci := 5) (q0 := 0) hPc hK hN rfl rfl) rfl rfl hl.1 rfl (lv_room (Nat.le_of_ble_eq_true rfl)) d_Model_isFreeSpare_26 ⟨Nat.le_of_ble_eq_true rfl, Nat.le_of_ble_eq_true rfl⟩) hP hS hA (fun r_7 H hv hP hS => ?_)
        refine lv_if_ge (tgt := 36) hx hb d_Model_isFreeSpare_29 (by decide) (fun c_8 => ?_) (fun c_8 => ?_)
        · have hv := hv.1 c_8
          refine lv_iconst (v := 0) hx hb d_Model_isFreeSpare_36 (by decide) ?_
          exact W.zret (v := 0) hx hb hr rfl (fun t ht hW => ⟨⟨0, (), rfl, hv, trivial⟩, hS.F ht⟩) hS.2.2 d_Model_isFreeSpare_37
        · have hv := hv.2 c_8
          refine lv_iconst (v := 1) hx hb d_Model_isFreeSpare_32 (by decide) ?_
          refine lv_goto (tgt := 37) hx hb d_Model_isFreeSpare_33 (by decide) ?_
          exact W.zret (v := 1) hx hb hr rfl (fun t ht hW => ⟨⟨1, (), rfl, hv, trivial⟩, hS.F ht⟩) hS.2.2 d_Model_isFreeSpare_37
def v_Model_writesOne_35 (y0 : Int32) (koM : Int32) (krM : Int32) (post : Int32 → Int32 → Int32 → Int32 → Prop) : Prop := post 1 koM y0 (krM + 1)
def v_Model_writesOne (kc : Int32) (kn : Int32) (kz : Int32) (ko : Int32) (kt : Int32) (kr : Int32) (fw : Nat → Int32) (fl : Nat → Int32) (fs : Nat → Int32) (ff : Nat → Int32) (fv : Nat → Int32) (fk : Nat → Int32) (fp : Nat → Int32) (fy : Nat → Int32) (fq : Nat → Int32) (fi : Nat → Int32) (fj : Nat → Int32) (fm : Nat → Int32) (post : Int32 → Int32 → Int32 → Int32 → Prop) : Prop := ((¬ kt = 0 → ((kt ≤ 0 → v_Model_writesOne_35 kt ko kr post) ∧ (¬ kt ≤ 0 → v_Model_writesOne_35 (kt - 1) ko kr post))) ∧ (kt = 0 → post 0 1 kt kr))
abbrev q_Model_writesOne (dC : Nat → ClassId) (dI : Nat → Nat → Nat) (cI cZ : ClassId) (h xw xl xs xf xv xk xp xy xq xi xj xm : Nat) (kc : Int32) (kn : Int32) (kz : Int32) (ko : Int32) (kt : Int32) (kr : Int32) (fw : Nat → Int32) (fl : Nat → Int32) (fs : Nat → Int32) (ff : Nat → Int32) (fv : Nat → Int32) (fk : Nat → Int32) (fp : Nat → Int32) (fy : Nat → Int32) (fq : Nat → Int32) (fi : Nat → Int32) (fj : Nat → Int32) (fm : Nat → Int32) (A : Nat → Prop) (post : Int32 → Int32 → Int32 → Int32 → Prop) : Array Value → State → Outcome → State → Prop := va_Qi (fun (r : Int32) (u : Int32 × Int32 × Int32) => post r u.1 u.2.1 u.2.2) (fun (u : Int32 × Int32 × Int32) t => va_P (dC, dI) classes [(h, .inr (5, [.int kc, .ref xw, .ref xl, .ref xs, .ref xf, .int kn, .int kz, .int u.1, .int u.2.1, .int u.2.2, .ref xv, .ref xk, .ref xp, .ref xy, .ref xq, .ref xi, .ref xj, .ref xm])), (xw, .inl (cI, 384, .inl fw)), (xl, .inl (cZ, 384, .inl fl)), (xs, .inl (cI, 192, .inl fs)), (xf, .inl (cZ, 192, .inl ff)), (xv, .inl (cI, 4, .inl fv)), (xk, .inl (cZ, 4, .inl fk)), (xp, .inl (cI, 4, .inl fp)), (xy, .inl (cI, 192, .inl fy)), (xq, .inl (cI, 4, .inl fq)), (xi, .inl (cI, 80, .inl fi)), (xj, .inl (cI, 80, .inl fj)), (xm, .inl (cZ, 192, .inl fm))] t.heap ∧ va_D A [(h, .inr (5, [.int kc, .ref xw, .ref xl, .ref xs, .ref xf, .int kn, .int kz, .int u.1, .int u.2.1, .int u.2.2, .ref xv, .ref xk, .ref xp, .ref xy, .ref xq, .ref xi, .ref xj, .ref xm])), (xw, .inl (cI, 384, .inl fw)), (xl, .inl (cZ, 384, .inl fl)), (xs, .inl (cI, 192, .inl fs)), (xf, .inl (cZ, 192, .inl ff)), (xv, .inl (cI, 4, .inl fv)), (xk, .inl (cZ, 4, .inl fk)), (xp, .inl (cI, 4, .inl fp)), (xy, .inl (cI, 192, .inl fy)), (xq, .inl (cI, 4, .inl fq)), (xi, .inl (cI, 80, .inl fi)), (xj, .inl (cI, 80, .inl fj)), (xm, .inl (cZ, 192, .inl fm))]) A
set_option maxHeartbeats 4000000 in
set_option maxRecDepth 100000 in
theorem m_Model_writesOne (l : Launch) (dC : Nat → ClassId) (dI : Nat → Nat → Nat) (cI cZ : ClassId) (h xw xl xs xf xv xk xp xy xq xi xj xm : Nat) (zz : Nat) (kc : Int32) (kn : Int32) (kz : Int32) (ko : Int32) (kt : Int32) (kr : Int32) (fw : Nat → Int32) (fl : Nat → Int32) (fs : Nat → Int32) (ff : Nat → Int32) (fv : Nat → Int32) (fk : Nat → Int32) (fp : Nat → Int32) (fy : Nat → Int32) (fq : Nat → Int32) (fi : Nat → Int32) (fj : Nat → Int32) (fm : Nat → Int32) (post : Int32 → Int32 → Int32 → Int32 → Prop) (hv : v_Model_writesOne kc kn kz ko kt kr fw fl fs ff fv fk fp fy fq fi fj fm post) : Met l y_Model_writesOne w_Model_writesOne ({ frames := 0, cells := 0, slots := 0, locals := 0 }) (va_Pc [.ref h] (fun U => U.heap.size = zz ∧ va_P (dC, dI) classes [(h, .inr (5, [.int kc, .ref xw, .ref xl, .ref xs, .ref xf, .int kn, .int kz, .int ko, .int kt, .int kr, .ref xv, .ref xk, .ref xp, .ref xy, .ref xq, .ref xi, .ref xj, .ref xm])), (xw, .inl (cI, 384, .inl fw)), (xl, .inl (cZ, 384, .inl fl)), (xs, .inl (cI, 192, .inl fs)), (xf, .inl (cZ, 192, .inl ff)), (xv, .inl (cI, 4, .inl fv)), (xk, .inl (cZ, 4, .inl fk)), (xp, .inl (cI, 4, .inl fp)), (xy, .inl (cI, 192, .inl fy)), (xq, .inl (cI, 4, .inl fq)), (xi, .inl (cI, 80, .inl fi)), (xj, .inl (cI, 80, .inl fj)), (xm, .inl (cZ, 192, .inl fm))] U.heap ∧ va_K (dC, dI) classes [(cI, .int), (cZ, .boolean)] U ∧ nz_N U ∧ va_D (fun _ => True) [(h, .inr (5, [.int kc, .ref xw, .ref xl, .ref xs, .ref xf, .int kn, .int kz, .int ko, .int kt, .int kr, .ref xv, .ref xk, .ref xp, .ref xy, .ref xq, .ref xi, .ref xj, .ref xm])), (xw, .inl (cI, 384, .inl fw)), (xl, .inl (cZ, 384, .inl fl)), (xs, .inl (cI, 192, .inl fs)), (xf, .inl (cZ, 192, .inl ff)), (xv, .inl (cI, 4, .inl fv)), (xk, .inl (cZ, 4, .inl fk)), (xp, .inl (cI, 4, .inl fp)), (xy, .inl (cI, 192, .inl fy)), (xq, .inl (cI, 4, .inl fq)), (xi, .inl (cI, 80, .inl fi)), (xj, .inl (cI, 80, .inl fj)), (xm, .inl (cZ, 192, .inl fm))])) (q_Model_writesOne dC dI cI cZ h xw xl xs xf xv xk xp xy xq xi xj xm kc kn kz ko kt kr fw fl fs ff fv fk fp fy fq fi fj fm (va_A [(h, .inr (5, [.int kc, .ref xw, .ref xl, .ref xs, .ref xf, .int kn, .int kz, .int ko, .int kt, .int kr, .ref xv, .ref xk, .ref xp, .ref xy, .ref xq, .ref xi, .ref xj, .ref xm])), (xw, .inl (cI, 384, .inl fw)), (xl, .inl (cZ, 384, .inl fl)), (xs, .inl (cI, 192, .inl fs)), (xf, .inl (cZ, 192, .inl ff)), (xv, .inl (cI, 4, .inl fv)), (xk, .inl (cZ, 4, .inl fk)), (xp, .inl (cI, 4, .inl fp)), (xy, .inl (cI, 192, .inl fy)), (xq, .inl (cI, 4, .inl fq)), (xi, .inl (cI, 80, .inl fi)), (xj, .inl (cI, 80, .inl fj)), (xm, .inl (cZ, 192, .inl fm))] zz) post) 0 0 (va_A [(h, .inr (5, [.int kc, .ref xw, .ref xl, .ref xs, .ref xf, .int kn, .int kz, .int ko, .int kt, .int kr, .ref xv, .ref xk, .ref xp, .ref xy, .ref xq, .ref xi, .ref xj, .ref xm])), (xw, .inl (cI, 384, .inl fw)), (xl, .inl (cZ, 384, .inl fl)), (xs, .inl (cI, 192, .inl fs)), (xf, .inl (cZ, 192, .inl ff)), (xv, .inl (cI, 4, .inl fv)), (xk, .inl (cZ, 4, .inl fk)), (xp, .inl (cI, 4, .inl fp)), (xy, .inl (cI, 192, .inl fy)), (xq, .inl (cI, 4, .inl fq)), (xi, .inl (cI, 80, .inl fi)), (xj, .inl (cI, 80, .inl fj)), (xm, .inl (cZ, 192, .inl fm))] zz) := by
  refine Met.ofW (cc := b_Model_writesOne) (maxL := 1) (ret := (some .boolean)) (by decide) rfl ?_
  intro p e s m args below meth c s₁ B hml hv0
  obtain ⟨rfl, hsz, hP, hK, hN, hD0⟩ := hv0
  have hx := B.exec
  have hb := B.bytes
  have hr := B.returns
  have htb := w_tbl (atoms_spec (ws := w_Model_writesOne) B.pre)
  have hown : s.vm.findClass R_Model = some m.cls := findClass_of_methodNamed B.named
  have hlocks := B.notSynchronized
  subst hsz
  have hD := hD0.self (sz := s.heap.size)
  generalize hAe : va_A [(h, .inr (5, [.int kc, .ref xw, .ref xl, .ref xs, .ref xf, .int kn, .int kz, .int ko, .int kt, .int kr, .ref xv, .ref xk, .ref xp, .ref xy, .ref xq, .ref xi, .ref xj, .ref xm])), (xw, .inl (cI, 384, .inl fw)), (xl, .inl (cZ, 384, .inl fl)), (xs, .inl (cI, 192, .inl fs)), (xf, .inl (cZ, 192, .inl ff)), (xv, .inl (cI, 4, .inl fv)), (xk, .inl (cZ, 4, .inl fk)), (xp, .inl (cI, 4, .inl fp)), (xy, .inl (cI, 192, .inl fy)), (xq, .inl (cI, 4, .inl fq)), (xi, .inl (cI, 80, .inl fi)), (xj, .inl (cI, 80, .inl fj)), (xm, .inl (cZ, 192, .inl fm))] s.heap.size = A at hD ⊢
  have hA : ∀ q : Nat, s.heap.size ≤ q → A q := fun q h => by rw [← hAe]; exact Or.inr h
  have hS : va_S A s.heap s.heap [] := va_S.rf
  have hl := lv_entry ([.ref h]) (n := 1) (Nat.le_of_ble_eq_true rfl)
  rw [lg_entry_eq]
  generalize (lg_sl ([.ref h]) ++ List.replicate (1 - (lg_sl ([.ref h])).length) Slot.unset).toArray = ls at hl ⊢
  have hl : lv_has ls 1 [(0, .ref h)] := hl
  have J35 : ∀ (y0 : Int32) (koM : Int32) (ktM : Int32) (krM : Int32) (H : Heap) (locs : List Loc), v_Model_writesOne_35 y0 koM krM post → va_P (dC, dI) classes [(h, .inr (5, [.int kc, .ref xw, .ref xl, .ref xs, .ref xf, .int kn, .int kz, .int koM, .int ktM, .int krM, .ref xv, .ref xk, .ref xp, .ref xy, .ref xq, .ref xi, .ref xj, .ref xm])), (xw, .inl (cI, 384, .inl fw)), (xl, .inl (cZ, 384, .inl fl)), (xs, .inl (cI, 192, .inl fs)), (xf, .inl (cZ, 192, .inl ff)), (xv, .inl (cI, 4, .inl fv)), (xk, .inl (cZ, 4, .inl fk)), (xp, .inl (cI, 4, .inl fp)), (xy, .inl (cI, 192, .inl fy)), (xq, .inl (cI, 4, .inl fq)), (xi, .inl (cI, 80, .inl fi)), (xj, .inl (cI, 80, .inl fj)), (xm, .inl (cZ, 192, .inl fm))] H → va_D A [(h, .inr (5, [.int kc, .ref xw, .ref xl, .ref xs, .ref xf, .int kn, .int kz, .int koM, .int ktM, .int krM, .ref xv, .ref xk, .ref xp, .ref xy, .ref xq, .ref xi, .ref xj, .ref xm])), (xw, .inl (cI, 384, .inl fw)), (xl, .inl (cZ, 384, .inl fl)), (xs, .inl (cI, 192, .inl fs)), (xf, .inl (cZ, 192, .inl ff)), (xv, .inl (cI, 4, .inl fv)), (xk, .inl (cZ, 4, .inl fk)), (xp, .inl (cI, 4, .inl fp)), (xy, .inl (cI, 192, .inl fy)), (xq, .inl (cI, 4, .inl fq)), (xi, .inl (cI, 80, .inl fi)), (xj, .inl (cI, 80, .inl fj)), (xm, .inl (cZ, 192, .inl fm))] → va_S A s.heap H locs → ∀ ls : Array Slot, lv_has ls 1 [(0, .ref h)] → W p l e (headSpec w_Model_writesOne ({ frames := 0, cells := 0, slots := 0, locals := 0 })).room s m ([.ref h] : List Value).toArray below meth c H locs 0 0 (MQ below (q_Model_writesOne dC dI cI cZ h xw xl xs xf xv xk xp xy xq xi xj xm kc kn kz ko kt kr fw fl fs ff fv fk fp fy fq fi fj fm A post) ([.ref h] : List Value).toArray s 0 0 A) (F0 m 35 ls [.int y0, .ref h]) := by
    intro y0 koM ktM krM H locs hv hP hD hS ls hl
    refine va_put (D := (dC, dI)) (ci := 5) (v := .int y0) (ty := .int) (C := R_Model) (T := F_Model) (N := 18) hx hb htb i_Model t_Model t_Model_ok n_Model hown hK hP hD hS 0 rfl rfl 8 (by decide) (htb _ k_fl_Model_23) (fun _ h9 => h9) rfl (by decide +kernel) rfl rfl (Nat.le_of_ble_eq_true rfl) d_Model_writesOne_35 (fun H locs hP hD hS => ?_)
    have hP : va_P (dC, dI) classes [(h, .inr (5, [.int kc, .ref xw, .ref xl, .ref xs, .ref xf, .int kn, .int kz, .int koM, .int y0, .int krM, .ref xv, .ref xk, .ref xp, .ref xy, .ref xq, .ref xi, .ref xj, .ref xm])), (xw, .inl (cI, 384, .inl fw)), (xl, .inl (cZ, 384, .inl fl)), (xs, .inl (cI, 192, .inl fs)), (xf, .inl (cZ, 192, .inl ff)), (xv, .inl (cI, 4, .inl fv)), (xk, .inl (cZ, 4, .inl fk)), (xp, .inl (cI, 4, .inl fp)), (xy, .inl (cI, 192, .inl fy)), (xq, .inl (cI, 4, .inl fq)), (xi, .inl (cI, 80, .inl fi)), (xj, .inl (cI, 80, .inl fj)), (xm, .inl (cZ, 192, .inl fm))] H := hP
    have hD : va_D A [(h, .inr (5, [.int kc, .ref xw, .ref xl, .ref xs, .ref xf, .int kn, .int kz, .int koM, .int y0, .int krM, .ref xv, .ref xk, .ref xp, .ref xy, .ref xq, .ref xi, .ref xj, .ref xm])), (xw, .inl (cI, 384, .inl fw)), (xl, .inl (cZ, 384, .inl fl)), (xs, .inl (cI, 192, .inl fs)), (xf, .inl (cZ, 192, .inl ff)), (xv, .inl (cI, 4, .inl fv)), (xk, .inl (cZ, 4, .inl fk)), (xp, .inl (cI, 4, .inl fp)), (xy, .inl (cI, 192, .inl fy)), (xq, .inl (cI, 4, .inl fq)), (xi, .inl (cI, 80, .inl fi)), (xj, .inl (cI, 80, .inl fj)), (xm, .inl (cZ, 192, .inl fm))] := hD
    refine lv_aload_n hx hb d_Model_writesOne_38 rfl (lv_at hl 0 rfl) ?_
    refine lv_dup hx hb d_Model_writesOne_39 rfl ?_
    refine va_get (D := (dC, dI)) (ci := 5) (v := .int krM) (C := R_Model) (T := F_Model) (N := 18) hx hb htb i_Model hown hK hP 0 rfl rfl 9 (by decide) (htb _ k_fl_Model_86) (fun _ h9 => h9) rfl d_Model_writesOne_40 ?_
    refine lv_iconst (v := 1) hx hb d_Model_writesOne_43 (by decide) ?_
    refine lv_iadd hx hb d_Model_writesOne_44 ?_
    refine va_put (D := (dC, dI)) (ci := 5) (v := .int (krM + 1)) (ty := .int) (C := R_Model) (T := F_Model) (N := 18) hx hb htb i_Model t_Model t_Model_ok n_Model hown hK hP hD hS 0 rfl rfl 9 (by decide) (htb _ k_fl_Model_86) (fun _ h9 => h9) rfl (by decide +kernel) rfl rfl (Nat.le_of_ble_eq_true rfl) d_Model_writesOne_45 (fun H locs hP hD hS => ?_)
    have hP : va_P (dC, dI) classes [(h, .inr (5, [.int kc, .ref xw, .ref xl, .ref xs, .ref xf, .int kn, .int kz, .int koM, .int y0, .int (krM + 1), .ref xv, .ref xk, .ref xp, .ref xy, .ref xq, .ref xi, .ref xj, .ref xm])), (xw, .inl (cI, 384, .inl fw)), (xl, .inl (cZ, 384, .inl fl)), (xs, .inl (cI, 192, .inl fs)), (xf, .inl (cZ, 192, .inl ff)), (xv, .inl (cI, 4, .inl fv)), (xk, .inl (cZ, 4, .inl fk)), (xp, .inl (cI, 4, .inl fp)), (xy, .inl (cI, 192, .inl fy)), (xq, .inl (cI, 4, .inl fq)), (xi, .inl (cI, 80, .inl fi)), (xj, .inl (cI, 80, .inl fj)), (xm, .inl (cZ, 192, .inl fm))] H := hP
    have hD : va_D A [(h, .inr (5, [.int kc, .ref xw, .ref xl, .ref xs, .ref xf, .int kn, .int kz, .int koM, .int y0, .int (krM + 1), .ref xv, .ref xk, .ref xp, .ref xy, .ref xq, .ref xi, .ref xj, .ref xm])), (xw, .inl (cI, 384, .inl fw)), (xl, .inl (cZ, 384, .inl fl)), (xs, .inl (cI, 192, .inl fs)), (xf, .inl (cZ, 192, .inl ff)), (xv, .inl (cI, 4, .inl fv)), (xk, .inl (cZ, 4, .inl fk)), (xp, .inl (cI, 4, .inl fp)), (xy, .inl (cI, 192, .inl fy)), (xq, .inl (cI, 4, .inl fq)), (xi, .inl (cI, 80, .inl fi)), (xj, .inl (cI, 80, .inl fj)), (xm, .inl (cZ, 192, .inl fm))] := hD
    refine lv_iconst (v := 1) hx hb d_Model_writesOne_48 (by decide) ?_
    exact W.zret (v := 1) hx hb hr rfl (fun t ht hW => ⟨⟨1, (koM, y0, krM + 1), rfl, hv, by rw [ht]; exact hP, hD⟩, hS.F ht⟩) hS.2.2 d_Model_writesOne_49
  refine lv_aload_n hx hb d_Model_writesOne_0 rfl (lv_at hl 0 rfl) ?_
  refine va_get (D := (dC, dI)) (ci := 5) (v := .int kt) (C := R_Model) (T := F_Model) (N := 18) hx hb htb i_Model hown hK hP 0 rfl rfl 8 (by decide) (htb _ k_fl_Model_23) (fun _ h9 => h9) rfl d_Model_writesOne_1 ?_
  refine lv_if_ne (tgt := 14) hx hb d_Model_writesOne_4 (by decide) (fun c_1 => ?_) (fun c_1 => ?_)
  · have hv := hv.1 c_1
    refine lv_aload_n hx hb d_Model_writesOne_14 rfl (lv_at hl 0 rfl) ?_
    refine lv_aload_n hx hb d_Model_writesOne_15 rfl (lv_at hl 0 rfl) ?_
    refine va_get (D := (dC, dI)) (ci := 5) (v := .int kt) (C := R_Model) (T := F_Model) (N := 18) hx hb htb i_Model hown hK hP 0 rfl rfl 8 (by decide) (htb _ k_fl_Model_23) (fun _ h9 => h9) rfl d_Model_writesOne_16 ?_
    refine lv_if_le (tgt := 31) hx hb d_Model_writesOne_19 (by decide) (fun c_2 => ?_) (fun c_2 => ?_)
    · have hv := hv.1 c_2
      refine lv_aload_n hx hb d_Model_writesOne_31 rfl (lv_at hl 0 rfl) ?_
      refine va_get (D := (dC, dI)) (ci := 5) (v := .int kt) (C := R_Model) (T := F_Model) (N := 18) hx hb htb i_Model hown hK hP 0 rfl rfl 8 (by decide) (htb _ k_fl_Model_23) (fun _ h9 => h9) rfl d_Model_writesOne_32 ?_
      exact J35 kt ko kt kr _ _ hv hP hD hS ls (lv_sub hl [0] rfl)
    · have hv := hv.2 c_2
      refine lv_aload_n hx hb d_Model_writesOne_22 rfl (lv_at hl 0 rfl) ?_
      refine va_get (D := (dC, dI)) (ci := 5) (v := .int kt) (C := R_Model) (T := F_Model) (N := 18) hx hb htb i_Model hown hK hP 0 rfl rfl 8 (by decide) (htb _ k_fl_Model_23) (fun _ h9 => h9) rfl d_Model_writesOne_23 ?_
      refine lv_iconst (v := 1) hx hb d_Model_writesOne_26 (by decide) ?_
      refine lv_isub hx hb d_Model_writesOne_27 ?_
      refine lv_goto (tgt := 35) hx hb d_Model_writesOne_28 (by decide) ?_
      exact J35 (kt - 1) ko kt kr _ _ hv hP hD hS ls (lv_sub hl [0] rfl)
  · have hv := hv.2 c_1
    refine lv_aload_n hx hb d_Model_writesOne_7 rfl (lv_at hl 0 rfl) ?_
    refine lv_iconst (v := 1) hx hb d_Model_writesOne_8 (by decide) ?_
    refine va_put (D := (dC, dI)) (ci := 5) (v := .int 1) (ty := .boolean) (C := R_Model) (T := F_Model) (N := 18) hx hb htb i_Model t_Model t_Model_ok n_Model hown hK hP hD hS 0 rfl rfl 7 (by decide) (htb _ k_fl_Model_82) (fun _ h9 => h9) rfl (by decide +kernel) rfl rfl (Nat.le_of_ble_eq_true rfl) d_Model_writesOne_9 (fun H locs hP hD hS => ?_)
    have hP : va_P (dC, dI) classes [(h, .inr (5, [.int kc, .ref xw, .ref xl, .ref xs, .ref xf, .int kn, .int kz, .int 1, .int kt, .int kr, .ref xv, .ref xk, .ref xp, .ref xy, .ref xq, .ref xi, .ref xj, .ref xm])), (xw, .inl (cI, 384, .inl fw)), (xl, .inl (cZ, 384, .inl fl)), (xs, .inl (cI, 192, .inl fs)), (xf, .inl (cZ, 192, .inl ff)), (xv, .inl (cI, 4, .inl fv)), (xk, .inl (cZ, 4, .inl fk)), (xp, .inl (cI, 4, .inl fp)), (xy, .inl (cI, 192, .inl fy)), (xq, .inl (cI, 4, .inl fq)), (xi, .inl (cI, 80, .inl fi)), (xj, .inl (cI, 80, .inl fj)), (xm, .inl (cZ, 192, .inl fm))] H := hP
    have hD : va_D A [(h, .inr (5, [.int kc, .ref xw, .ref xl, .ref xs, .ref xf, .int kn, .int kz, .int 1, .int kt, .int kr, .ref xv, .ref xk, .ref xp, .ref xy, .ref xq, .ref xi, .ref xj, .ref xm])), (xw, .inl (cI, 384, .inl fw)), (xl, .inl (cZ, 384, .inl fl)), (xs, .inl (cI, 192, .inl fs)), (xf, .inl (cZ, 192, .inl ff)), (xv, .inl (cI, 4, .inl fv)), (xk, .inl (cZ, 4, .inl fk)), (xp, .inl (cI, 4, .inl fp)), (xy, .inl (cI, 192, .inl fy)), (xq, .inl (cI, 4, .inl fq)), (xi, .inl (cI, 80, .inl fi)), (xj, .inl (cI, 80, .inl fj)), (xm, .inl (cZ, 192, .inl fm))] := hD
    refine lv_iconst (v := 0) hx hb d_Model_writesOne_12 (by decide) ?_
    exact W.zret (v := 0) hx hb hr rfl (fun t ht hW => ⟨⟨0, (1, kt, kr), rfl, hv, by rw [ht]; exact hP, hD⟩, hS.F ht⟩) hS.2.2 d_Model_writesOne_13
def vb_Model_copyLists_78 (fvM : Nat → Int32) (fpM : Nat → Int32) (fyM : Nat → Int32) (fqM : Nat → Int32) (p0 : Int32) (p1 : Int32) (post : (Nat → Int32) → (Nat → Int32) → (Nat → Int32) → (Nat → Int32) → (Nat → Int32) → (Nat → Int32) → Prop) (K78 : Int32 → (Nat → Int32) → (Nat → Int32) → Prop) (x3 : Int32) (fiM : Nat → Int32) (fjM : Nat → Int32) : Prop := (vp_in p0 4 ∧ (((fqM p0.toNatClampNeg) ≤ x3 → post fvM fpM fyM fqM fiM fjM) ∧ (¬ (fqM p0.toNatClampNeg) ≤ x3 → (vp_in (((20 : Int32) * p0) + x3) 80 ∧ (vp_in (((20 : Int32) * p1) + x3) 80 ∧ (vp_in (((20 : Int32) * p0) + x3) 80 ∧ (vp_in (((20 : Int32) * p1) + x3) 80 ∧ K78 (x3 + 1) (upd fiM (((20 : Int32) * p1) + x3).toNatClampNeg (fiM (((20 : Int32) * p0) + x3).toNatClampNeg)) (upd fjM (((20 : Int32) * p1) + x3).toNatClampNeg (fjM (((20 : Int32) * p0) + x3).toNatClampNeg)))))))))
def v_Model_copyLists_78 (fvM : Nat → Int32) (fpM : Nat → Int32) (fyM : Nat → Int32) (fqM : Nat → Int32) (p0 : Int32) (p1 : Int32) (post : (Nat → Int32) → (Nat → Int32) → (Nat → Int32) → (Nat → Int32) → (Nat → Int32) → (Nat → Int32) → Prop) : Nat → Int32 → (Nat → Int32) → (Nat → Int32) → Prop
  | 0 => fun _ _ _ => False
  | n + 1 => vb_Model_copyLists_78 fvM fpM fyM fqM p0 p1 post (v_Model_copyLists_78 fvM fpM fyM fqM p0 p1 post n)
def vb_Model_copyLists_38 (fvM : Nat → Int32) (fpM : Nat → Int32) (fqM : Nat → Int32) (fiM : Nat → Int32) (fjM : Nat → Int32) (p0 : Int32) (p1 : Int32) (post : (Nat → Int32) → (Nat → Int32) → (Nat → Int32) → (Nat → Int32) → (Nat → Int32) → (Nat → Int32) → Prop) (K38 : Int32 → (Nat → Int32) → Prop) (x3 : Int32) (fyM : Nat → Int32) : Prop := (vp_in p0 4 ∧ (((fpM p0.toNatClampNeg) ≤ x3 → ∃ n, v_Model_copyLists_78 fvM fpM fyM fqM p0 p1 post n 0 fiM fjM) ∧ (¬ (fpM p0.toNatClampNeg) ≤ x3 → (vp_in (((48 : Int32) * p0) + x3) 192 ∧ (vp_in (((48 : Int32) * p1) + x3) 192 ∧ K38 (x3 + 1) (upd fyM (((48 : Int32) * p1) + x3).toNatClampNeg (fyM (((48 : Int32) * p0) + x3).toNatClampNeg)))))))
def v_Model_copyLists_38 (fvM : Nat → Int32) (fpM : Nat → Int32) (fqM : Nat → Int32) (fiM : Nat → Int32) (fjM : Nat → Int32) (p0 : Int32) (p1 : Int32) (post : (Nat → Int32) → (Nat → Int32) → (Nat → Int32) → (Nat → Int32) → (Nat → Int32) → (Nat → Int32) → Prop) : Nat → Int32 → (Nat → Int32) → Prop
  | 0 => fun _ _ => False
  | n + 1 => vb_Model_copyLists_38 fvM fpM fqM fiM fjM p0 p1 post (v_Model_copyLists_38 fvM fpM fqM fiM fjM p0 p1 post n)
def v_Model_copyLists (kc : Int32) (kn : Int32) (kz : Int32) (ko : Int32) (kt : Int32) (kr : Int32) (fw : Nat → Int32) (fl : Nat → Int32) (fs : Nat → Int32) (ff : Nat → Int32) (fv : Nat → Int32) (fk : Nat → Int32) (fp : Nat → Int32) (fy : Nat → Int32) (fq : Nat → Int32) (fi : Nat → Int32) (fj : Nat → Int32) (fm : Nat → Int32) (p0 : Int32) (p1 : Int32) (post : (Nat → Int32) → (Nat → Int32) → (Nat → Int32) → (Nat → Int32) → (Nat → Int32) → (Nat → Int32) → Prop) : Prop := (vp_in p0 4 ∧ (vp_in p1 4 ∧ (vp_in p0 4 ∧ (vp_in p1 4 ∧ (vp_in p0 4 ∧ (vp_in p1 4 ∧ ∃ n, v_Model_copyLists_38 (upd fv p1.toNatClampNeg (fv p0.toNatClampNeg)) (upd fp p1.toNatClampNeg (fp p0.toNatClampNeg)) (upd fq p1.toNatClampNeg (fq p0.toNatClampNeg)) fi fj p0 p1 post n 0 fy))))))
abbrev q_Model_copyLists (dC : Nat → ClassId) (dI : Nat → Nat → Nat) (cI cZ : ClassId) (h xw xl xs xf xv xk xp xy xq xi xj xm : Nat) (kc : Int32) (kn : Int32) (kz : Int32) (ko : Int32) (kt : Int32) (kr : Int32) (fw : Nat → Int32) (fl : Nat → Int32) (fs : Nat → Int32) (ff : Nat → Int32) (fv : Nat → Int32) (fk : Nat → Int32) (fp : Nat → Int32) (fy : Nat → Int32) (fq : Nat → Int32) (fi : Nat → Int32) (fj : Nat → Int32) (fm : Nat → Int32) (A : Nat → Prop) (post : (Nat → Int32) → (Nat → Int32) → (Nat → Int32) → (Nat → Int32) → (Nat → Int32) → (Nat → Int32) → Prop) : Array Value → State → Outcome → State → Prop := va_Qv (fun (u : (Nat → Int32) × (Nat → Int32) × (Nat → Int32) × (Nat → Int32) × (Nat → Int32) × (Nat → Int32)) => post u.1 u.2.1 u.2.2.1 u.2.2.2.1 u.2.2.2.2.1 u.2.2.2.2.2) (fun (u : (Nat → Int32) × (Nat → Int32) × (Nat → Int32) × (Nat → Int32) × (Nat → Int32) × (Nat → Int32)) t => va_P (dC, dI) classes [(h, .inr (5, [.int kc, .ref xw, .ref xl, .ref xs, .ref xf, .int kn, .int kz, .int ko, .int kt, .int kr, .ref xv, .ref xk, .ref xp, .ref xy, .ref xq, .ref xi, .ref xj, .ref xm])), (xw, .inl (cI, 384, .inl fw)), (xl, .inl (cZ, 384, .inl fl)), (xs, .inl (cI, 192, .inl fs)), (xf, .inl (cZ, 192, .inl ff)), (xv, .inl (cI, 4, .inl u.1)), (xk, .inl (cZ, 4, .inl fk)), (xp, .inl (cI, 4, .inl u.2.1)), (xy, .inl (cI, 192, .inl u.2.2.1)), (xq, .inl (cI, 4, .inl u.2.2.2.1)), (xi, .inl (cI, 80, .inl u.2.2.2.2.1)), (xj, .inl (cI, 80, .inl u.2.2.2.2.2)), (xm, .inl (cZ, 192, .inl fm))] t.heap ∧ va_D A [(h, .inr (5, [.int kc, .ref xw, .ref xl, .ref xs, .ref xf, .int kn, .int kz, .int ko, .int kt, .int kr, .ref xv, .ref xk, .ref xp, .ref xy, .ref xq, .ref xi, .ref xj, .ref xm])), (xw, .inl (cI, 384, .inl fw)), (xl, .inl (cZ, 384, .inl fl)), (xs, .inl (cI, 192, .inl fs)), (xf, .inl (cZ, 192, .inl ff)), (xv, .inl (cI, 4, .inl u.1)), (xk, .inl (cZ, 4, .inl fk)), (xp, .inl (cI, 4, .inl u.2.1)), (xy, .inl (cI, 192, .inl u.2.2.1)), (xq, .inl (cI, 4, .inl u.2.2.2.1)), (xi, .inl (cI, 80, .inl u.2.2.2.2.1)), (xj, .inl (cI, 80, .inl u.2.2.2.2.2)), (xm, .inl (cZ, 192, .inl fm))]) A
set_option maxHeartbeats 4000000 in
set_option maxRecDepth 100000 in
theorem m_Model_copyLists (l : Launch) (dC : Nat → ClassId) (dI : Nat → Nat → Nat) (cI cZ : ClassId) (h xw xl xs xf xv xk xp xy xq xi xj xm : Nat) (zz : Nat) (kc : Int32) (kn : Int32) (kz : Int32) (ko : Int32) (kt : Int32) (kr : Int32) (fw : Nat → Int32) (fl : Nat → Int32) (fs : Nat → Int32) (ff : Nat → Int32) (fv : Nat → Int32) (fk : Nat → Int32) (fp : Nat → Int32) (fy : Nat → Int32) (fq : Nat → Int32) (fi : Nat → Int32) (fj : Nat → Int32) (fm : Nat → Int32) (p0 : Int32) (p1 : Int32) (post : (Nat → Int32) → (Nat → Int32) → (Nat → Int32) → (Nat → Int32) → (Nat → Int32) → (Nat → Int32) → Prop) (hv : v_Model_copyLists kc kn kz ko kt kr fw fl fs ff fv fk fp fy fq fi fj fm p0 p1 post) : Met l y_Model_copyLists w_Model_copyLists ({ frames := 0, cells := 0, slots := 0, locals := 0 }) (va_Pc [.ref h, .int p0, .int p1] (fun U => U.heap.size = zz ∧ va_P (dC, dI) classes [(h, .inr (5, [.int kc, .ref xw, .ref xl, .ref xs, .ref xf, .int kn, .int kz, .int ko, .int kt, .int kr, .ref xv, .ref xk, .ref xp, .ref xy, .ref xq, .ref xi, .ref xj, .ref xm])), (xw, .inl (cI, 384, .inl fw)), (xl, .inl (cZ, 384, .inl fl)), (xs, .inl (cI, 192, .inl fs)), (xf, .inl (cZ, 192, .inl ff)), (xv, .inl (cI, 4, .inl fv)), (xk, .inl (cZ, 4, .inl fk)), (xp, .inl (cI, 4, .inl fp)), (xy, .inl (cI, 192, .inl fy)), (xq, .inl (cI, 4, .inl fq)), (xi, .inl (cI, 80, .inl fi)), (xj, .inl (cI, 80, .inl fj)), (xm, .inl (cZ, 192, .inl fm))] U.heap ∧ va_K (dC, dI) classes [(cI, .int), (cZ, .boolean)] U ∧ nz_N U ∧ va_D (fun _ => True) [(h, .inr (5, [.int kc, .ref xw, .ref xl, .ref xs, .ref xf, .int kn, .int kz, .int ko, .int kt, .int kr, .ref xv, .ref xk, .ref xp, .ref xy, .ref xq, .ref xi, .ref xj, .ref xm])), (xw, .inl (cI, 384, .inl fw)), (xl, .inl (cZ, 384, .inl fl)), (xs, .inl (cI, 192, .inl fs)), (xf, .inl (cZ, 192, .inl ff)), (xv, .inl (cI, 4, .inl fv)), (xk, .inl (cZ, 4, .inl fk)), (xp, .inl (cI, 4, .inl fp)), (xy, .inl (cI, 192, .inl fy)), (xq, .inl (cI, 4, .inl fq)), (xi, .inl (cI, 80, .inl fi)), (xj, .inl (cI, 80, .inl fj)), (xm, .inl (cZ, 192, .inl fm))])) (q_Model_copyLists dC dI cI cZ h xw xl xs xf xv xk xp xy xq xi xj xm kc kn kz ko kt kr fw fl fs ff fv fk fp fy fq fi fj fm (va_A [(h, .inr (5, [.int kc, .ref xw, .ref xl, .ref xs, .ref xf, .int kn, .int kz, .int ko, .int kt, .int kr, .ref xv, .ref xk, .ref xp, .ref xy, .ref xq, .ref xi, .ref xj, .ref xm])), (xw, .inl (cI, 384, .inl fw)), (xl, .inl (cZ, 384, .inl fl)), (xs, .inl (cI, 192, .inl fs)), (xf, .inl (cZ, 192, .inl ff)), (xv, .inl (cI, 4, .inl fv)), (xk, .inl (cZ, 4, .inl fk)), (xp, .inl (cI, 4, .inl fp)), (xy, .inl (cI, 192, .inl fy)), (xq, .inl (cI, 4, .inl fq)), (xi, .inl (cI, 80, .inl fi)), (xj, .inl (cI, 80, .inl fj)), (xm, .inl (cZ, 192, .inl fm))] zz) post) 0 0 (va_A [(h, .inr (5, [.int kc, .ref xw, .ref xl, .ref xs, .ref xf, .int kn, .int kz, .int ko, .int kt, .int kr, .ref xv, .ref xk, .ref xp, .ref xy, .ref xq, .ref xi, .ref xj, .ref xm])), (xw, .inl (cI, 384, .inl fw)), (xl, .inl (cZ, 384, .inl fl)), (xs, .inl (cI, 192, .inl fs)), (xf, .inl (cZ, 192, .inl ff)), (xv, .inl (cI, 4, .inl fv)), (xk, .inl (cZ, 4, .inl fk)), (xp, .inl (cI, 4, .inl fp)), (xy, .inl (cI, 192, .inl fy)), (xq, .inl (cI, 4, .inl fq)), (xi, .inl (cI, 80, .inl fi)), (xj, .inl (cI, 80, .inl fj)), (xm, .inl (cZ, 192, .inl fm))] zz) := by
  refine Met.ofW (cc := b_Model_copyLists) (maxL := 4) (ret := none) (by decide) rfl ?_
  intro p e s m args below meth c s₁ B hml hv0
  obtain ⟨rfl, hsz, hP, hK, hN, hD0⟩ := hv0
  have hx := B.exec
  have hb := B.bytes
  have hr := B.returns
  have htb := w_tbl (atoms_spec (ws := w_Model_copyLists) B.pre)
  have hown : s.vm.findClass R_Model = some m.cls := findClass_of_methodNamed B.named
  have hlocks := B.notSynchronized
  subst hsz
  have hD := hD0.self (sz := s.heap.size)
  generalize hAe : va_A [(h, .inr (5, [.int kc, .ref xw, .ref xl, .ref xs, .ref xf, .int kn, .int kz, .int ko, .int kt, .int kr, .ref xv, .ref xk, .ref xp, .ref xy, .ref xq, .ref xi, .ref xj, .ref xm])), (xw, .inl (cI, 384, .inl fw)), (xl, .inl (cZ, 384, .inl fl)), (xs, .inl (cI, 192, .inl fs)), (xf, .inl (cZ, 192, .inl ff)), (xv, .inl (cI, 4, .inl fv)), (xk, .inl (cZ, 4, .inl fk)), (xp, .inl (cI, 4, .inl fp)), (xy, .inl (cI, 192, .inl fy)), (xq, .inl (cI, 4, .inl fq)), (xi, .inl (cI, 80, .inl fi)), (xj, .inl (cI, 80, .inl fj)), (xm, .inl (cZ, 192, .inl fm))] s.heap.size = A at hD ⊢
  have hA : ∀ q : Nat, s.heap.size ≤ q → A q := fun q h => by rw [← hAe]; exact Or.inr h
  have hS : va_S A s.heap s.heap [] := va_S.rf
  have hl := lv_entry ([.ref h, .int p0, .int p1]) (n := 4) (Nat.le_of_ble_eq_true rfl)
  rw [lg_entry_eq]
  generalize (lg_sl ([.ref h, .int p0, .int p1]) ++ List.replicate (4 - (lg_sl ([.ref h, .int p0, .int p1])).length) Slot.unset).toArray = ls at hl ⊢
  have hl : lv_has ls 4 [(0, .ref h), (1, .int p0), (2, .int p1)] := hl
  have J78 : ∀ (fvM : Nat → Int32) (fpM : Nat → Int32) (fyM : Nat → Int32) (fqM : Nat → Int32) (n : Nat) (x3 : Int32) (fiM : Nat → Int32) (fjM : Nat → Int32) (H : Heap) (locs : List Loc), v_Model_copyLists_78 fvM fpM fyM fqM p0 p1 post n x3 fiM fjM → va_P (dC, dI) classes [(h, .inr (5, [.int kc, .ref xw, .ref xl, .ref xs, .ref xf, .int kn, .int kz, .int ko, .int kt, .int kr, .ref xv, .ref xk, .ref xp, .ref xy, .ref xq, .ref xi, .ref xj, .ref xm])), (xw, .inl (cI, 384, .inl fw)), (xl, .inl (cZ, 384, .inl fl)), (xs, .inl (cI, 192, .inl fs)), (xf, .inl (cZ, 192, .inl ff)), (xv, .inl (cI, 4, .inl fvM)), (xk, .inl (cZ, 4, .inl fk)), (xp, .inl (cI, 4, .inl fpM)), (xy, .inl (cI, 192, .inl fyM)), (xq, .inl (cI, 4, .inl fqM)), (xi, .inl (cI, 80, .inl fiM)), (xj, .inl (cI, 80, .inl fjM)), (xm, .inl (cZ, 192, .inl fm))] H → va_D A [(h, .inr (5, [.int kc, .ref xw, .ref xl, .ref xs, .ref xf, .int kn, .int kz, .int ko, .int kt, .int kr, .ref xv, .ref xk, .ref xp, .ref xy, .ref xq, .ref xi, .ref xj, .ref xm])), (xw, .inl (cI, 384, .inl fw)), (xl, .inl (cZ, 384, .inl fl)), (xs, .inl (cI, 192, .inl fs)), (xf, .inl (cZ, 192, .inl ff)), (xv, .inl (cI, 4, .inl fvM)), (xk, .inl (cZ, 4, .inl fk)), (xp, .inl (cI, 4, .inl fpM)), (xy, .inl (cI, 192, .inl fyM)), (xq, .inl (cI, 4, .inl fqM)), (xi, .inl (cI, 80, .inl fiM)), (xj, .inl (cI, 80, .inl fjM)), (xm, .inl (cZ, 192, .inl fm))] → va_S A s.heap H locs → ∀ ls : Array Slot, lv_has ls 4 [(0, .ref h), (1, .int p0), (2, .int p1), (3, .int x3)] → W p l e (headSpec w_Model_copyLists ({ frames := 0, cells := 0, slots := 0, locals := 0 })).room s m ([.ref h, .int p0, .int p1] : List Value).toArray below meth c H locs 0 0 (MQ below (q_Model_copyLists dC dI cI cZ h xw xl xs xf xv xk xp xy xq xi xj xm kc kn kz ko kt kr fw fl fs ff fv fk fp fy fq fi fj fm A post) ([.ref h, .int p0, .int p1] : List Value).toArray s 0 0 A) (F0 m 78 ls []) := by
    intro fvM fpM fyM fqM n78
    induction n78 with
    | zero =>
      intro x3 fiM fjM H locs hv
      exact absurd hv id
    | succ n78 ih78 =>
      intro x3 fiM fjM H locs hv hP hD hS ls hl
      have hv : vb_Model_copyLists_78 fvM fpM fyM fqM p0 p1 post (v_Model_copyLists_78 fvM fpM fyM fqM p0 p1 post n78) x3 fiM fjM := hv
      refine lv_iload_n hx hb d_Model_copyLists_78 rfl (lv_at hl 3 rfl) ?_
      refine lv_aload_n hx hb d_Model_copyLists_79 rfl (lv_at hl 0 rfl) ?_
      refine va_get (D := (dC, dI)) (ci := 5) (v := .ref xq) (C := R_Model) (T := F_Model) (N := 18) hx hb htb i_Model hown hK hP 0 rfl rfl 14 (by decide) (htb _ k_fl_Model_39) (fun _ h9 => h9) rfl d_Model_copyLists_80 ?_
      refine lv_iload_n hx hb d_Model_copyLists_83 rfl (lv_at hl 1 rfl) ?_
      obtain ⟨h_9, hv⟩ := hv
      refine va_iald hx hb hK hP 9 0 rfl rfl h_9 d_Model_copyLists_84 ?_
      refine lv_icmp_ge (tgt := 138) hx hb d_Model_copyLists_85 (by decide) (fun c_10 => ?_) (fun c_10 => ?_)
      · have hv := hv.1 c_10
        exact W.vret hx hb hr (fun t ht hW => ⟨⟨(fvM, fpM, fyM, fqM, fiM, fjM), rfl, hv, by rw [ht]; exact hP, hD⟩, hS.F ht⟩) hS.2.2 d_Model_copyLists_138
      · have hv := hv.2 c_10
        refine lv_aload_n hx hb d_Model_copyLists_88 rfl (lv_at hl 0 rfl) ?_
        refine va_get (D := (dC, dI)) (ci := 5) (v := .ref xi) (C := R_Model) (T := F_Model) (N := 18) hx hb htb i_Model hown hK hP 0 rfl rfl 15 (by decide) (htb _ k_fl_Model_42) (fun _ h9 => h9) rfl d_Model_copyLists_89 ?_
        refine lv_bipush (v := 20) hx hb d_Model_copyLists_92 (by decide) ?_
        refine lv_iload_n hx hb d_Model_copyLists_94 rfl (lv_at hl 2 rfl) ?_
        refine lv_imul hx hb d_Model_copyLists_95 ?_
        refine lv_iload_n hx hb d_Model_copyLists_96 rfl (lv_at hl 3 rfl) ?_
        refine lv_iadd hx hb d_Model_copyLists_97 ?_
        refine lv_aload_n hx hb d_Model_copyLists_98 rfl (lv_at hl 0 rfl) ?_
        refine va_get (D := (dC, dI)) (ci := 5) (v := .ref xi) (C := R_Model) (T := F_Model) (N := 18) hx hb htb i_Model hown hK hP 0 rfl rfl 15 (by decide) (htb _ k_fl_Model_42) (fun _ h9 => h9) rfl d_Model_copyLists_99 ?_
        refine lv_bipush (v := 20) hx hb d_Model_copyLists_102 (by decide) ?_
        refine lv_iload_n hx hb d_Model_copyLists_104 rfl (lv_at hl 1 rfl) ?_
        refine lv_imul hx hb d_Model_copyLists_105 ?_
        refine lv_iload_n hx hb d_Model_copyLists_106 rfl (lv_at hl 3 rfl) ?_
        refine lv_iadd hx hb d_Model_copyLists_107 ?_
        obtain ⟨h_11, hv⟩ := hv
        refine va_iald hx hb hK hP 10 0 rfl rfl h_11 d_Model_copyLists_108 ?_
        obtain ⟨h_12, hv⟩ := hv
        refine va_iast hx hb hK hP hD hS 10 0 rfl rfl h_12 d_Model_copyLists_109 (fun H locs hP hD hS => ?_)
        have hP : va_P (dC, dI) classes [(h, .inr (5, [.int kc, .ref xw, .ref xl, .ref xs, .ref xf, .int kn, .int kz, .int ko, .int kt, .int kr, .ref xv, .ref xk, .ref xp, .ref xy, .ref xq, .ref xi, .ref xj, .ref xm])), (xw, .inl (cI, 384, .inl fw)), (xl, .inl (cZ, 384, .inl fl)), (xs, .inl (cI, 192, .inl fs)), (xf, .inl (cZ, 192, .inl ff)), (xv, .inl (cI, 4, .inl fvM)), (xk, .inl (cZ, 4, .inl fk)), (xp, .inl (cI, 4, .inl fpM)), (xy, .inl (cI, 192, .inl fyM)), (xq, .inl (cI, 4, .inl fqM)), (xi, .inl (cI, 80, .inl (upd fiM (((20 : Int32) * p1) + x3).toNatClampNeg (fiM (((20 : Int32) * p0) + x3).toNatClampNeg)))), (xj, .inl (cI, 80, .inl fjM)), (xm, .inl (cZ, 192, .inl fm))] H := hP
        have hD : va_D A [(h, .inr (5, [.int kc, .ref xw, .ref xl, .ref xs, .ref xf, .int kn, .int kz, .int ko, .int kt, .int kr, .ref xv, .ref xk, .ref xp, .ref xy, .ref xq, .ref xi, .ref xj, .ref xm])), (xw, .inl (cI, 384, .inl fw)), (xl, .inl (cZ, 384, .inl fl)), (xs, .inl (cI, 192, .inl fs)), (xf, .inl (cZ, 192, .inl ff)), (xv, .inl (cI, 4, .inl fvM)), (xk, .inl (cZ, 4, .inl fk)), (xp, .inl (cI, 4, .inl fpM)), (xy, .inl (cI, 192, .inl fyM)), (xq, .inl (cI, 4, .inl fqM)), (xi, .inl (cI, 80, .inl (upd fiM (((20 : Int32) * p1) + x3).toNatClampNeg (fiM (((20 : Int32) * p0) + x3).toNatClampNeg)))), (xj, .inl (cI, 80, .inl fjM)), (xm, .inl (cZ, 192, .inl fm))] := hD
        refine lv_aload_n hx hb d_Model_copyLists_110 rfl (lv_at hl 0 rfl) ?_
        refine va_get (D := (dC, dI)) (ci := 5) (v := .ref xj) (C := R_Model) (T := F_Model) (N := 18) hx hb htb i_Model hown hK hP 0 rfl rfl 16 (by decide) (htb _ k_fl_Model_45) (fun _ h9 => h9) rfl d_Model_copyLists_111 ?_
        refine lv_bipush (v := 20) hx hb d_Model_copyLists_114 (by decide) ?_
        refine lv_iload_n hx hb d_Model_copyLists_116 rfl (lv_at hl 2 rfl) ?_
        refine lv_imul hx hb d_Model_copyLists_117 ?_
        refine lv_iload_n hx hb d_Model_copyLists_118 rfl (lv_at hl 3 rfl) ?_
        refine lv_iadd hx hb d_Model_copyLists_119 ?_
        refine lv_aload_n hx hb d_Model_copyLists_120 rfl (lv_at hl 0 rfl) ?_
        refine va_get (D := (dC, dI)) (ci := 5) (v := .ref xj) (C := R_Model) (T := F_Model) (N := 18) hx hb htb i_Model hown hK hP 0 rfl rfl 16 (by decide) (htb _ k_fl_Model_45) (fun _ h9 => h9) rfl d_Model_copyLists_121 ?_
        refine lv_bipush (v := 20) hx hb d_Model_copyLists_124 (by decide) ?_
        refine lv_iload_n hx hb d_Model_copyLists_126 rfl (lv_at hl 1 rfl) ?_
        refine lv_imul hx hb d_Model_copyLists_127 ?_
        refine lv_iload_n hx hb d_Model_copyLists_128 rfl (lv_at hl 3 rfl) ?_
        refine lv_iadd hx hb d_Model_copyLists_129 ?_
        obtain ⟨h_13, hv⟩ := hv
        refine va_iald hx hb hK hP 11 0 rfl rfl h_13 d_Model_copyLists_130 ?_
        obtain ⟨h_14, hv⟩ := hv
        refine va_iast hx hb hK hP hD hS 11 0 rfl rfl h_14 d_Model_copyLists_131 (fun H locs hP hD hS => ?_)
        have hP : va_P (dC, dI) classes [(h, .inr (5, [.int kc, .ref xw, .ref xl, .ref xs, .ref xf, .int kn, .int kz, .int ko, .int kt, .int kr, .ref xv, .ref xk, .ref xp, .ref xy, .ref xq, .ref xi, .ref xj, .ref xm])), (xw, .inl (cI, 384, .inl fw)), (xl, .inl (cZ, 384, .inl fl)), (xs, .inl (cI, 192, .inl fs)), (xf, .inl (cZ, 192, .inl ff)), (xv, .inl (cI, 4, .inl fvM)), (xk, .inl (cZ, 4, .inl fk)), (xp, .inl (cI, 4, .inl fpM)), (xy, .inl (cI, 192, .inl fyM)), (xq, .inl (cI, 4, .inl fqM)), (xi, .inl (cI, 80, .inl (upd fiM (((20 : Int32) * p1) + x3).toNatClampNeg (fiM (((20 : Int32) * p0) + x3).toNatClampNeg)))), (xj, .inl (cI, 80, .inl (upd fjM (((20 : Int32) * p1) + x3).toNatClampNeg (fjM (((20 : Int32) * p0) + x3).toNatClampNeg)))), (xm, .inl (cZ, 192, .inl fm))] H := hP
        have hD : va_D A [(h, .inr (5, [.int kc, .ref xw, .ref xl, .ref xs, .ref xf, .int kn, .int kz, .int ko, .int kt, .int kr, .ref xv, .ref xk, .ref xp, .ref xy, .ref xq, .ref xi, .ref xj, .ref xm])), (xw, .inl (cI, 384, .inl fw)), (xl, .inl (cZ, 384, .inl fl)), (xs, .inl (cI, 192, .inl fs)), (xf, .inl (cZ, 192, .inl ff)), (xv, .inl (cI, 4, .inl fvM)), (xk, .inl (cZ, 4, .inl fk)), (xp, .inl (cI, 4, .inl fpM)), (xy, .inl (cI, 192, .inl fyM)), (xq, .inl (cI, 4, .inl fqM)), (xi, .inl (cI, 80, .inl (upd fiM (((20 : Int32) * p1) + x3).toNatClampNeg (fiM (((20 : Int32) * p0) + x3).toNatClampNeg)))), (xj, .inl (cI, 80, .inl (upd fjM (((20 : Int32) * p1) + x3).toNatClampNeg (fjM (((20 : Int32) * p0) + x3).toNatClampNeg)))), (xm, .inl (cZ, 192, .inl fm))] := hD
        refine lv_iinc (v := x3 + 1) (lv' := [(3, .int (x3 + 1)), (0, .ref h), (1, .int p0), (2, .int p1)]) hx hb d_Model_copyLists_132 hl (k := 3) rfl rfl (by decide) rfl (fun ls hl => ?_)
        refine lv_goto (tgt := 78) hx hb d_Model_copyLists_135 (by decide) ?_
        exact ih78 (x3 + 1) (upd fiM (((20 : Int32) * p1) + x3).toNatClampNeg (fiM (((20 : Int32) * p0) + x3).toNatClampNeg)) (upd fjM (((20 : Int32) * p1) + x3).toNatClampNeg (fjM (((20 : Int32) * p0) + x3).toNatClampNeg)) _ _ hv hP hD hS ls (lv_sub hl [1, 2, 3, 0] rfl)
  have J38 : ∀ (fvM : Nat → Int32) (fpM : Nat → Int32) (fqM : Nat → Int32) (fiM : Nat → Int32) (fjM : Nat → Int32) (n : Nat) (x3 : Int32) (fyM : Nat → Int32) (H : Heap) (locs : List Loc), v_Model_copyLists_38 fvM fpM fqM fiM fjM p0 p1 post n x3 fyM → va_P (dC, dI) classes [(h, .inr (5, [.int kc, .ref xw, .ref xl, .ref xs, .ref xf, .int kn, .int kz, .int ko, .int kt, .int kr, .ref xv, .ref xk, .ref xp, .ref xy, .ref xq, .ref xi, .ref xj, .ref xm])), (xw, .inl (cI, 384, .inl fw)), (xl, .inl (cZ, 384, .inl fl)), (xs, .inl (cI, 192, .inl fs)), (xf, .inl (cZ, 192, .inl ff)), (xv, .inl (cI, 4, .inl fvM)), (xk, .inl (cZ, 4, .inl fk)), (xp, .inl (cI, 4, .inl fpM)), (xy, .inl (cI, 192, .inl fyM)), (xq, .inl (cI, 4, .inl fqM)), (xi, .inl (cI, 80, .inl fiM)), (xj, .inl (cI, 80, .inl fjM)), (xm, .inl (cZ, 192, .inl fm))] H → va_D A [(h, .inr (5, [.int kc, .ref xw, .ref xl, .ref xs, .ref xf, .int kn, .int kz, .int ko, .int kt, .int kr, .ref xv, .ref xk, .ref xp, .ref xy, .ref xq, .ref xi, .ref xj, .ref xm])), (xw, .inl (cI, 384, .inl fw)), (xl, .inl (cZ, 384, .inl fl)), (xs, .inl (cI, 192, .inl fs)), (xf, .inl (cZ, 192, .inl ff)), (xv, .inl (cI, 4, .inl fvM)), (xk, .inl (cZ, 4, .inl fk)), (xp, .inl (cI, 4, .inl fpM)), (xy, .inl (cI, 192, .inl fyM)), (xq, .inl (cI, 4, .inl fqM)), (xi, .inl (cI, 80, .inl fiM)), (xj, .inl (cI, 80, .inl fjM)), (xm, .inl (cZ, 192, .inl fm))] → va_S A s.heap H locs → ∀ ls : Array Slot, lv_has ls 4 [(0, .ref h), (1, .int p0), (2, .int p1), (3, .int x3)] → W p l e (headSpec w_Model_copyLists ({ frames := 0, cells := 0, slots := 0, locals := 0 })).room s m ([.ref h, .int p0, .int p1] : List Value).toArray below meth c H locs 0 0 (MQ below (q_Model_copyLists dC dI cI cZ h xw xl xs xf xv xk xp xy xq xi xj xm kc kn kz ko kt kr fw fl fs ff fv fk fp fy fq fi fj fm A post) ([.ref h, .int p0, .int p1] : List Value).toArray s 0 0 A) (F0 m 38 ls []) := by
    intro fvM fpM fqM fiM fjM n38
    induction n38 with
    | zero =>
      intro x3 fyM H locs hv
      exact absurd hv id
    | succ n38 ih38 =>
      intro x3 fyM H locs hv hP hD hS ls hl
      have hv : vb_Model_copyLists_38 fvM fpM fqM fiM fjM p0 p1 post (v_Model_copyLists_38 fvM fpM fqM fiM fjM p0 p1 post n38) x3 fyM := hv
      refine lv_iload_n hx hb d_Model_copyLists_38 rfl (lv_at hl 3 rfl) ?_
      refine lv_aload_n hx hb d_Model_copyLists_39 rfl (lv_at hl 0 rfl) ?_
      refine va_get (D := (dC, dI)) (ci := 5) (v := .ref xp) (C := R_Model) (T := F_Model) (N := 18) hx hb htb i_Model hown hK hP 0 rfl rfl 12 (by decide) (htb _ k_fl_Model_33) (fun _ h9 => h9) rfl d_Model_copyLists_40 ?_
      refine lv_iload_n hx hb d_Model_copyLists_43 rfl (lv_at hl 1 rfl) ?_
      obtain ⟨h_7, hv⟩ := hv
      refine va_iald hx hb hK hP 7 0 rfl rfl h_7 d_Model_copyLists_44 ?_
      refine lv_icmp_ge (tgt := 76) hx hb d_Model_copyLists_45 (by decide) (fun c_8 => ?_) (fun c_8 => ?_)
      · have hv := hv.1 c_8
        refine lv_iconst (v := 0) hx hb d_Model_copyLists_76 (by decide) ?_
        refine lv_istore_n (lv' := [(3, .int 0), (0, .ref h), (1, .int p0), (2, .int p1)]) hx hb d_Model_copyLists_77 rfl hl (by decide) rfl (fun ls hl => ?_)
        obtain ⟨n_78, hv⟩ := hv
        exact J78 fvM fpM fyM fqM n_78 0 fiM fjM _ _ hv hP hD hS ls (lv_sub hl [1, 2, 3, 0] rfl)
      · have hv := hv.2 c_8
        refine lv_aload_n hx hb d_Model_copyLists_48 rfl (lv_at hl 0 rfl) ?_
        refine va_get (D := (dC, dI)) (ci := 5) (v := .ref xy) (C := R_Model) (T := F_Model) (N := 18) hx hb htb i_Model hown hK hP 0 rfl rfl 13 (by decide) (htb _ k_fl_Model_36) (fun _ h9 => h9) rfl d_Model_copyLists_49 ?_
        refine lv_bipush (v := 48) hx hb d_Model_copyLists_52 (by decide) ?_
        refine lv_iload_n hx hb d_Model_copyLists_54 rfl (lv_at hl 2 rfl) ?_
        refine lv_imul hx hb d_Model_copyLists_55 ?_
        refine lv_iload_n hx hb d_Model_copyLists_56 rfl (lv_at hl 3 rfl) ?_
        refine lv_iadd hx hb d_Model_copyLists_57 ?_
        refine lv_aload_n hx hb d_Model_copyLists_58 rfl (lv_at hl 0 rfl) ?_
        refine va_get (D := (dC, dI)) (ci := 5) (v := .ref xy) (C := R_Model) (T := F_Model) (N := 18) hx hb htb i_Model hown hK hP 0 rfl rfl 13 (by decide) (htb _ k_fl_Model_36) (fun _ h9 => h9) rfl d_Model_copyLists_59 ?_
        refine lv_bipush (v := 48) hx hb d_Model_copyLists_62 (by decide) ?_
        refine lv_iload_n hx hb d_Model_copyLists_64 rfl (lv_at hl 1 rfl) ?_
        refine lv_imul hx hb d_Model_copyLists_65 ?_
        refine lv_iload_n hx hb d_Model_copyLists_66 rfl (lv_at hl 3 rfl) ?_
        refine lv_iadd hx hb d_Model_copyLists_67 ?_
        obtain ⟨h_15, hv⟩ := hv
        refine va_iald hx hb hK hP 8 0 rfl rfl h_15 d_Model_copyLists_68 ?_
        obtain ⟨h_16, hv⟩ := hv
        refine va_iast hx hb hK hP hD hS 8 0 rfl rfl h_16 d_Model_copyLists_69 (fun H locs hP hD hS => ?_)
        have hP : va_P (dC, dI) classes [(h, .inr (5, [.int kc, .ref xw, .ref xl, .ref xs, .ref xf, .int kn, .int kz, .int ko, .int kt, .int kr, .ref xv, .ref xk, .ref xp, .ref xy, .ref xq, .ref xi, .ref xj, .ref xm])), (xw, .inl (cI, 384, .inl fw)), (xl, .inl (cZ, 384, .inl fl)), (xs, .inl (cI, 192, .inl fs)), (xf, .inl (cZ, 192, .inl ff)), (xv, .inl (cI, 4, .inl fvM)), (xk, .inl (cZ, 4, .inl fk)), (xp, .inl (cI, 4, .inl fpM)), (xy, .inl (cI, 192, .inl (upd fyM (((48 : Int32) * p1) + x3).toNatClampNeg (fyM (((48 : Int32) * p0) + x3).toNatClampNeg)))), (xq, .inl (cI, 4, .inl fqM)), (xi, .inl (cI, 80, .inl fiM)), (xj, .inl (cI, 80, .inl fjM)), (xm, .inl (cZ, 192, .inl fm))] H := hP
        have hD : va_D A [(h, .inr (5, [.int kc, .ref xw, .ref xl, .ref xs, .ref xf, .int kn, .int kz, .int ko, .int kt, .int kr, .ref xv, .ref xk, .ref xp, .ref xy, .ref xq, .ref xi, .ref xj, .ref xm])), (xw, .inl (cI, 384, .inl fw)), (xl, .inl (cZ, 384, .inl fl)), (xs, .inl (cI, 192, .inl fs)), (xf, .inl (cZ, 192, .inl ff)), (xv, .inl (cI, 4, .inl fvM)), (xk, .inl (cZ, 4, .inl fk)), (xp, .inl (cI, 4, .inl fpM)), (xy, .inl (cI, 192, .inl (upd fyM (((48 : Int32) * p1) + x3).toNatClampNeg (fyM (((48 : Int32) * p0) + x3).toNatClampNeg)))), (xq, .inl (cI, 4, .inl fqM)), (xi, .inl (cI, 80, .inl fiM)), (xj, .inl (cI, 80, .inl fjM)), (xm, .inl (cZ, 192, .inl fm))] := hD
        refine lv_iinc (v := x3 + 1) (lv' := [(3, .int (x3 + 1)), (0, .ref h), (1, .int p0), (2, .int p1)]) hx hb d_Model_copyLists_70 hl (k := 3) rfl rfl (by decide) rfl (fun ls hl => ?_)
        refine lv_goto (tgt := 38) hx hb d_Model_copyLists_73 (by decide) ?_
        exact ih38 (x3 + 1) (upd fyM (((48 : Int32) * p1) + x3).toNatClampNeg (fyM (((48 : Int32) * p0) + x3).toNatClampNeg)) _ _ hv hP hD hS ls (lv_sub hl [1, 2, 3, 0] rfl)
  refine lv_aload_n hx hb d_Model_copyLists_0 rfl (lv_at hl 0 rfl) ?_
  refine va_get (D := (dC, dI)) (ci := 5) (v := .ref xv) (C := R_Model) (T := F_Model) (N := 18) hx hb htb i_Model hown hK hP 0 rfl rfl 10 (by decide) (htb _ k_fl_Model_27) (fun _ h9 => h9) rfl d_Model_copyLists_1 ?_
  refine lv_iload_n hx hb d_Model_copyLists_4 rfl (lv_at hl 2 rfl) ?_
  refine lv_aload_n hx hb d_Model_copyLists_5 rfl (lv_at hl 0 rfl) ?_
  refine va_get (D := (dC, dI)) (ci := 5) (v := .ref xv) (C := R_Model) (T := F_Model) (N := 18) hx hb htb i_Model hown hK hP 0 rfl rfl 10 (by decide) (htb _ k_fl_Model_27) (fun _ h9 => h9) rfl d_Model_copyLists_6 ?_
  refine lv_iload_n hx hb d_Model_copyLists_9 rfl (lv_at hl 1 rfl) ?_
  obtain ⟨h_1, hv⟩ := hv
  refine va_iald hx hb hK hP 5 0 rfl rfl h_1 d_Model_copyLists_10 ?_
  obtain ⟨h_2, hv⟩ := hv
  refine va_iast hx hb hK hP hD hS 5 0 rfl rfl h_2 d_Model_copyLists_11 (fun H locs hP hD hS => ?_)
  have hP : va_P (dC, dI) classes [(h, .inr (5, [.int kc, .ref xw, .ref xl, .ref xs, .ref xf, .int kn, .int kz, .int ko, .int kt, .int kr, .ref xv, .ref xk, .ref xp, .ref xy, .ref xq, .ref xi, .ref xj, .ref xm])), (xw, .inl (cI, 384, .inl fw)), (xl, .inl (cZ, 384, .inl fl)), (xs, .inl (cI, 192, .inl fs)), (xf, .inl (cZ, 192, .inl ff)), (xv, .inl (cI, 4, .inl (upd fv p1.toNatClampNeg (fv p0.toNatClampNeg)))), (xk, .inl (cZ, 4, .inl fk)), (xp, .inl (cI, 4, .inl fp)), (xy, .inl (cI, 192, .inl fy)), (xq, .inl (cI, 4, .inl fq)), (xi, .inl (cI, 80, .inl fi)), (xj, .inl (cI, 80, .inl fj)), (xm, .inl (cZ, 192, .inl fm))] H := hP
  have hD : va_D A [(h, .inr (5, [.int kc, .ref xw, .ref xl, .ref xs, .ref xf, .int kn, .int kz, .int ko, .int kt, .int kr, .ref xv, .ref xk, .ref xp, .ref xy, .ref xq, .ref xi, .ref xj, .ref xm])), (xw, .inl (cI, 384, .inl fw)), (xl, .inl (cZ, 384, .inl fl)), (xs, .inl (cI, 192, .inl fs)), (xf, .inl (cZ, 192, .inl ff)), (xv, .inl (cI, 4, .inl (upd fv p1.toNatClampNeg (fv p0.toNatClampNeg)))), (xk, .inl (cZ, 4, .inl fk)), (xp, .inl (cI, 4, .inl fp)), (xy, .inl (cI, 192, .inl fy)), (xq, .inl (cI, 4, .inl fq)), (xi, .inl (cI, 80, .inl fi)), (xj, .inl (cI, 80, .inl fj)), (xm, .inl (cZ, 192, .inl fm))] := hD
  refine lv_aload_n hx hb d_Model_copyLists_12 rfl (lv_at hl 0 rfl) ?_
  refine va_get (D := (dC, dI)) (ci := 5) (v := .ref xp) (C := R_Model) (T := F_Model) (N := 18) hx hb htb i_Model hown hK hP 0 rfl rfl 12 (by decide) (htb _ k_fl_Model_33) (fun _ h9 => h9) rfl d_Model_copyLists_13 ?_
  refine lv_iload_n hx hb d_Model_copyLists_16 rfl (lv_at hl 2 rfl) ?_
  refine lv_aload_n hx hb d_Model_copyLists_17 rfl (lv_at hl 0 rfl) ?_
  refine va_get (D := (dC, dI)) (ci := 5) (v := .ref xp) (C := R_Model) (T := F_Model) (N := 18) hx hb htb i_Model hown hK hP 0 rfl rfl 12 (by decide) (htb _ k_fl_Model_33) (fun _ h9 => h9) rfl d_Model_copyLists_18 ?_
  refine lv_iload_n hx hb d_Model_copyLists_21 rfl (lv_at hl 1 rfl) ?_
  obtain ⟨h_3, hv⟩ := hv
  refine va_iald hx hb hK hP 7 0 rfl rfl h_3 d_Model_copyLists_22 ?_
  obtain ⟨h_4, hv⟩ := hv
  refine va_iast hx hb hK hP hD hS 7 0 rfl rfl h_4 d_Model_copyLists_23 (fun H locs hP hD hS => ?_)
  have hP : va_P (dC, dI) classes [(h, .inr (5, [.int kc, .ref xw, .ref xl, .ref xs, .ref xf, .int kn, .int kz, .int ko, .int kt, .int kr, .ref xv, .ref xk, .ref xp, .ref xy, .ref xq, .ref xi, .ref xj, .ref xm])), (xw, .inl (cI, 384, .inl fw)), (xl, .inl (cZ, 384, .inl fl)), (xs, .inl (cI, 192, .inl fs)), (xf, .inl (cZ, 192, .inl ff)), (xv, .inl (cI, 4, .inl (upd fv p1.toNatClampNeg (fv p0.toNatClampNeg)))), (xk, .inl (cZ, 4, .inl fk)), (xp, .inl (cI, 4, .inl (upd fp p1.toNatClampNeg (fp p0.toNatClampNeg)))), (xy, .inl (cI, 192, .inl fy)), (xq, .inl (cI, 4, .inl fq)), (xi, .inl (cI, 80, .inl fi)), (xj, .inl (cI, 80, .inl fj)), (xm, .inl (cZ, 192, .inl fm))] H := hP
  have hD : va_D A [(h, .inr (5, [.int kc, .ref xw, .ref xl, .ref xs, .ref xf, .int kn, .int kz, .int ko, .int kt, .int kr, .ref xv, .ref xk, .ref xp, .ref xy, .ref xq, .ref xi, .ref xj, .ref xm])), (xw, .inl (cI, 384, .inl fw)), (xl, .inl (cZ, 384, .inl fl)), (xs, .inl (cI, 192, .inl fs)), (xf, .inl (cZ, 192, .inl ff)), (xv, .inl (cI, 4, .inl (upd fv p1.toNatClampNeg (fv p0.toNatClampNeg)))), (xk, .inl (cZ, 4, .inl fk)), (xp, .inl (cI, 4, .inl (upd fp p1.toNatClampNeg (fp p0.toNatClampNeg)))), (xy, .inl (cI, 192, .inl fy)), (xq, .inl (cI, 4, .inl fq)), (xi, .inl (cI, 80, .inl fi)), (xj, .inl (cI, 80, .inl fj)), (xm, .inl (cZ, 192, .inl fm))] := hD
  refine lv_aload_n hx hb d_Model_copyLists_24 rfl (lv_at hl 0 rfl) ?_
  refine va_get (D := (dC, dI)) (ci := 5) (v := .ref xq) (C := R_Model) (T := F_Model) (N := 18) hx hb htb i_Model hown hK hP 0 rfl rfl 14 (by decide) (htb _ k_fl_Model_39) (fun _ h9 => h9) rfl d_Model_copyLists_25 ?_
  refine lv_iload_n hx hb d_Model_copyLists_28 rfl (lv_at hl 2 rfl) ?_
  refine lv_aload_n hx hb d_Model_copyLists_29 rfl (lv_at hl 0 rfl) ?_
  refine va_get (D := (dC, dI)) (ci := 5) (v := .ref xq) (C := R_Model) (T := F_Model) (N := 18) hx hb htb i_Model hown hK hP 0 rfl rfl 14 (by decide) (htb _ k_fl_Model_39) (fun _ h9 => h9) rfl d_Model_copyLists_30 ?_
  refine lv_iload_n hx hb d_Model_copyLists_33 rfl (lv_at hl 1 rfl) ?_
  obtain ⟨h_5, hv⟩ := hv
  refine va_iald hx hb hK hP 9 0 rfl rfl h_5 d_Model_copyLists_34 ?_
  obtain ⟨h_6, hv⟩ := hv
  refine va_iast hx hb hK hP hD hS 9 0 rfl rfl h_6 d_Model_copyLists_35 (fun H locs hP hD hS => ?_)
  have hP : va_P (dC, dI) classes [(h, .inr (5, [.int kc, .ref xw, .ref xl, .ref xs, .ref xf, .int kn, .int kz, .int ko, .int kt, .int kr, .ref xv, .ref xk, .ref xp, .ref xy, .ref xq, .ref xi, .ref xj, .ref xm])), (xw, .inl (cI, 384, .inl fw)), (xl, .inl (cZ, 384, .inl fl)), (xs, .inl (cI, 192, .inl fs)), (xf, .inl (cZ, 192, .inl ff)), (xv, .inl (cI, 4, .inl (upd fv p1.toNatClampNeg (fv p0.toNatClampNeg)))), (xk, .inl (cZ, 4, .inl fk)), (xp, .inl (cI, 4, .inl (upd fp p1.toNatClampNeg (fp p0.toNatClampNeg)))), (xy, .inl (cI, 192, .inl fy)), (xq, .inl (cI, 4, .inl (upd fq p1.toNatClampNeg (fq p0.toNatClampNeg)))), (xi, .inl (cI, 80, .inl fi)), (xj, .inl (cI, 80, .inl fj)), (xm, .inl (cZ, 192, .inl fm))] H := hP
  have hD : va_D A [(h, .inr (5, [.int kc, .ref xw, .ref xl, .ref xs, .ref xf, .int kn, .int kz, .int ko, .int kt, .int kr, .ref xv, .ref xk, .ref xp, .ref xy, .ref xq, .ref xi, .ref xj, .ref xm])), (xw, .inl (cI, 384, .inl fw)), (xl, .inl (cZ, 384, .inl fl)), (xs, .inl (cI, 192, .inl fs)), (xf, .inl (cZ, 192, .inl ff)), (xv, .inl (cI, 4, .inl (upd fv p1.toNatClampNeg (fv p0.toNatClampNeg)))), (xk, .inl (cZ, 4, .inl fk)), (xp, .inl (cI, 4, .inl (upd fp p1.toNatClampNeg (fp p0.toNatClampNeg)))), (xy, .inl (cI, 192, .inl fy)), (xq, .inl (cI, 4, .inl (upd fq p1.toNatClampNeg (fq p0.toNatClampNeg)))), (xi, .inl (cI, 80, .inl fi)), (xj, .inl (cI, 80, .inl fj)), (xm, .inl (cZ, 192, .inl fm))] := hD
  refine lv_iconst (v := 0) hx hb d_Model_copyLists_36 (by decide) ?_
  refine lv_istore_n (lv' := [(3, .int 0), (0, .ref h), (1, .int p0), (2, .int p1)]) hx hb d_Model_copyLists_37 rfl hl (by decide) rfl (fun ls hl => ?_)
  obtain ⟨n_38, hv⟩ := hv
  exact J38 (upd fv p1.toNatClampNeg (fv p0.toNatClampNeg)) (upd fp p1.toNatClampNeg (fp p0.toNatClampNeg)) (upd fq p1.toNatClampNeg (fq p0.toNatClampNeg)) fi fj n_38 0 fy _ _ hv hP hD hS ls (lv_sub hl [1, 2, 3, 0] rfl)
def v_Model_nearest_75 (K9 : (Int32 → Int32 → Int32 → Prop)) (x2 : Int32) (x3 : Int32) (x4 : Int32) : Prop := K9 x2 x3 (x4 + 1)
def v_Model_nearest_52 (K9 : (Int32 → Int32 → Int32 → Prop)) (x2 : Int32) (x3 : Int32) (x4 : Int32) (y0 : Int32) (kc : Int32) (kn : Int32) (kz : Int32) (ko : Int32) (kt : Int32) (kr : Int32) (fw : Nat → Int32) (fl : Nat → Int32) (fs : Nat → Int32) (ff : Nat → Int32) (fv : Nat → Int32) (fk : Nat → Int32) (fp : Nat → Int32) (fy : Nat → Int32) (fq : Nat → Int32) (fi : Nat → Int32) (fj : Nat → Int32) (fm : Nat → Int32) : Prop := v_Model_isFreeSpare kc kn kz ko kt kr fw fl fs ff fv fk fp fy fq fi fj fm x4 (fun r_3 => ((r_3 = 0 → v_Model_nearest_75 K9 x2 x3 x4) ∧ (¬ r_3 = 0 → ((x3 ≤ y0 → v_Model_nearest_75 K9 x2 x3 x4) ∧ (¬ x3 ≤ y0 → v_Model_nearest_75 K9 x4 y0 x4)))))
def vb_Model_nearest_9 (kc : Int32) (kn : Int32) (kz : Int32) (ko : Int32) (kt : Int32) (kr : Int32) (fw : Nat → Int32) (fl : Nat → Int32) (fs : Nat → Int32) (ff : Nat → Int32) (fv : Nat → Int32) (fk : Nat → Int32) (fp : Nat → Int32) (fy : Nat → Int32) (fq : Nat → Int32) (fi : Nat → Int32) (fj : Nat → Int32) (fm : Nat → Int32) (p0 : Int32) (post : Int32 → Prop) (K9 : Int32 → Int32 → Int32 → Prop) (x2 : Int32) (x3 : Int32) (x4 : Int32) : Prop := ((192 ≤ x4 → post x2) ∧ (¬ 192 ≤ x4 → (((x4 / 16) ≤ (p0 / 16) → v_Model_nearest_52 K9 x2 x3 x4 ((p0 / 16) - (x4 / 16)) kc kn kz ko kt kr fw fl fs ff fv fk fp fy fq fi fj fm) ∧ (¬ (x4 / 16) ≤ (p0 / 16) → v_Model_nearest_52 K9 x2 x3 x4 ((x4 / 16) - (p0 / 16)) kc kn kz ko kt kr fw fl fs ff fv fk fp fy fq fi fj fm))))
def v_Model_nearest_9 (kc : Int32) (kn : Int32) (kz : Int32) (ko : Int32) (kt : Int32) (kr : Int32) (fw : Nat → Int32) (fl : Nat → Int32) (fs : Nat → Int32) (ff : Nat → Int32) (fv : Nat → Int32) (fk : Nat → Int32) (fp : Nat → Int32) (fy : Nat → Int32) (fq : Nat → Int32) (fi : Nat → Int32) (fj : Nat → Int32) (fm : Nat → Int32) (p0 : Int32) (post : Int32 → Prop) : Nat → Int32 → Int32 → Int32 → Prop
  | 0 => fun _ _ _ => False
  | n + 1 => vb_Model_nearest_9 kc kn kz ko kt kr fw fl fs ff fv fk fp fy fq fi fj fm p0 post (v_Model_nearest_9 kc kn kz ko kt kr fw fl fs ff fv fk fp fy fq fi fj fm p0 post n)
def v_Model_nearest (kc : Int32) (kn : Int32) (kz : Int32) (ko : Int32) (kt : Int32) (kr : Int32) (fw : Nat → Int32) (fl : Nat → Int32) (fs : Nat → Int32) (ff : Nat → Int32) (fv : Nat → Int32) (fk : Nat → Int32) (fp : Nat → Int32) (fy : Nat → Int32) (fq : Nat → Int32) (fi : Nat → Int32) (fj : Nat → Int32) (fm : Nat → Int32) (p0 : Int32) (post : Int32 → Prop) : Prop := ∃ n, v_Model_nearest_9 kc kn kz ko kt kr fw fl fs ff fv fk fp fy fq fi fj fm p0 post n (-1) 100 16
set_option maxHeartbeats 4000000 in
set_option maxRecDepth 100000 in
theorem m_Model_nearest (l : Launch) (dC : Nat → ClassId) (dI : Nat → Nat → Nat) (cI cZ : ClassId) (h xw xl xs xf xv xk xp xy xq xi xj xm : Nat) (zz : Nat) (kc : Int32) (kn : Int32) (kz : Int32) (ko : Int32) (kt : Int32) (kr : Int32) (fw : Nat → Int32) (fl : Nat → Int32) (fs : Nat → Int32) (ff : Nat → Int32) (fv : Nat → Int32) (fk : Nat → Int32) (fp : Nat → Int32) (fy : Nat → Int32) (fq : Nat → Int32) (fi : Nat → Int32) (fj : Nat → Int32) (fm : Nat → Int32) (p0 : Int32) (post : Int32 → Prop) (hv : v_Model_nearest kc kn kz ko kt kr fw fl fs ff fv fk fp fy fq fi fj fm p0 post) : Met l y_Model_nearest w_Model_nearest ({ frames := 2, cells := 0, slots := 0, locals := 44 }) (va_Pc [.ref h, .int p0] (fun U => U.heap.size = zz ∧ va_P (dC, dI) classes [(h, .inr (5, [.int kc, .ref xw, .ref xl, .ref xs, .ref xf, .int kn, .int kz, .int ko, .int kt, .int kr, .ref xv, .ref xk, .ref xp, .ref xy, .ref xq, .ref xi, .ref xj, .ref xm])), (xw, .inl (cI, 384, .inl fw)), (xl, .inl (cZ, 384, .inl fl)), (xs, .inl (cI, 192, .inl fs)), (xf, .inl (cZ, 192, .inl ff)), (xv, .inl (cI, 4, .inl fv)), (xk, .inl (cZ, 4, .inl fk)), (xp, .inl (cI, 4, .inl fp)), (xy, .inl (cI, 192, .inl fy)), (xq, .inl (cI, 4, .inl fq)), (xi, .inl (cI, 80, .inl fi)), (xj, .inl (cI, 80, .inl fj)), (xm, .inl (cZ, 192, .inl fm))] U.heap ∧ va_K (dC, dI) classes [(cI, .int), (cZ, .boolean)] U ∧ nz_N U)) (va_Qi (fun (r : Int32) (_ : Unit) => post r ) (fun _ _ => True) (fun q : Nat => zz ≤ q)) 0 0 (fun q : Nat => zz ≤ q) := by
  refine Met.ofW (cc := b_Model_nearest) (maxL := 6) (ret := (some .int)) (by decide) rfl ?_
  intro p e s m args below meth c s₁ B hml hv0
  obtain ⟨rfl, hsz, hP, hK, hN⟩ := hv0
  have hx := B.exec
  have hb := B.bytes
  have hr := B.returns
  have htb := w_tbl (atoms_spec (ws := w_Model_nearest) B.pre)
  have hown : s.vm.findClass R_Model = some m.cls := findClass_of_methodNamed B.named
  have hlocks := B.notSynchronized
  subst hsz
  have hA : ∀ q : Nat, s.heap.size ≤ q → (fun q : Nat => s.heap.size ≤ q) q := fun _ h => h
  have hS : va_S (fun q : Nat => s.heap.size ≤ q) s.heap s.heap [] := va_S.rf
  have hl := lv_entry ([.ref h, .int p0]) (n := 6) (Nat.le_of_ble_eq_true rfl)
  rw [lg_entry_eq]
  generalize (lg_sl ([.ref h, .int p0]) ++ List.replicate (6 - (lg_sl ([.ref h, .int p0])).length) Slot.unset).toArray = ls at hl ⊢
  have hl : lv_has ls 6 [(0, .ref h), (1, .int p0)] := hl
  have J9 : ∀ (n : Nat) (x2 : Int32) (x3 : Int32) (x4 : Int32) (H : Heap), v_Model_nearest_9 kc kn kz ko kt kr fw fl fs ff fv fk fp fy fq fi fj fm p0 post n x2 x3 x4 → va_P (dC, dI) classes [(h, .inr (5, [.int kc, .ref xw, .ref xl, .ref xs, .ref xf, .int kn, .int kz, .int ko, .int kt, .int kr, .ref xv, .ref xk, .ref xp, .ref xy, .ref xq, .ref xi, .ref xj, .ref xm])), (xw, .inl (cI, 384, .inl fw)), (xl, .inl (cZ, 384, .inl fl)), (xs, .inl (cI, 192, .inl fs)), (xf, .inl (cZ, 192, .inl ff)), (xv, .inl (cI, 4, .inl fv)), (xk, .inl (cZ, 4, .inl fk)), (xp, .inl (cI, 4, .inl fp)), (xy, .inl (cI, 192, .inl fy)), (xq, .inl (cI, 4, .inl fq)), (xi, .inl (cI, 80, .inl fi)), (xj, .inl (cI, 80, .inl fj)), (xm, .inl (cZ, 192, .inl fm))] H → va_S (fun q : Nat => s.heap.size ≤ q) s.heap H [] → ∀ ls : Array Slot, lv_has ls 6 [(0, .ref h), (1, .int p0), (2, .int x2), (3, .int x3), (4, .int x4)] → W p l e (headSpec w_Model_nearest ({ frames := 2, cells := 0, slots := 0, locals := 44 })).room s m ([.ref h, .int p0] : List Value).toArray below meth c H [] 0 0 (MQ below (va_Qi (fun (r : Int32) (_ : Unit) => post r ) (fun _ _ => True) (fun q : Nat => s.heap.size ≤ q)) ([.ref h, .int p0] : List Value).toArray s 0 0 (fun q : Nat => s.heap.size ≤ q)) (F0 m 9 ls []) := by
    intro  n9
    induction n9 with
    | zero =>
      intro x2 x3 x4 H hv
      exact absurd hv id
    | succ n9 ih9 =>
      intro x2 x3 x4 H hv hP hS ls hl
      have hv : vb_Model_nearest_9 kc kn kz ko kt kr fw fl fs ff fv fk fp fy fq fi fj fm p0 post (v_Model_nearest_9 kc kn kz ko kt kr fw fl fs ff fv fk fp fy fq fi fj fm p0 post n9) x2 x3 x4 := hv
      have J75 : ∀ (x2 : Int32) (x3 : Int32) (x4 : Int32) (H : Heap), v_Model_nearest_75 (v_Model_nearest_9 kc kn kz ko kt kr fw fl fs ff fv fk fp fy fq fi fj fm p0 post n9) x2 x3 x4 → va_P (dC, dI) classes [(h, .inr (5, [.int kc, .ref xw, .ref xl, .ref xs, .ref xf, .int kn, .int kz, .int ko, .int kt, .int kr, .ref xv, .ref xk, .ref xp, .ref xy, .ref xq, .ref xi, .ref xj, .ref xm])), (xw, .inl (cI, 384, .inl fw)), (xl, .inl (cZ, 384, .inl fl)), (xs, .inl (cI, 192, .inl fs)), (xf, .inl (cZ, 192, .inl ff)), (xv, .inl (cI, 4, .inl fv)), (xk, .inl (cZ, 4, .inl fk)), (xp, .inl (cI, 4, .inl fp)), (xy, .inl (cI, 192, .inl fy)), (xq, .inl (cI, 4, .inl fq)), (xi, .inl (cI, 80, .inl fi)), (xj, .inl (cI, 80, .inl fj)), (xm, .inl (cZ, 192, .inl fm))] H → va_S (fun q : Nat => s.heap.size ≤ q) s.heap H [] → ∀ ls : Array Slot, lv_has ls 6 [(0, .ref h), (1, .int p0), (2, .int x2), (3, .int x3), (4, .int x4)] → W p l e (headSpec w_Model_nearest ({ frames := 2, cells := 0, slots := 0, locals := 44 })).room s m ([.ref h, .int p0] : List Value).toArray below meth c H [] 0 0 (MQ below (va_Qi (fun (r : Int32) (_ : Unit) => post r ) (fun _ _ => True) (fun q : Nat => s.heap.size ≤ q)) ([.ref h, .int p0] : List Value).toArray s 0 0 (fun q : Nat => s.heap.size ≤ q)) (F0 m 75 ls []) := by
        intro x2 x3 x4 H hv hP hS ls hl
        refine lv_iinc (v := x4 + 1) (lv' := [(4, .int (x4 + 1)), (0, .ref h), (1, .int p0), (2, .int x2), (3, .int x3)]) hx hb d_Model_nearest_75 hl (k := 4) rfl rfl (by decide) rfl (fun ls hl => ?_)
        refine lv_goto (tgt := 9) hx hb d_Model_nearest_78 (by decide) ?_
        exact ih9 x2 x3 (x4 + 1) _ hv hP hS ls (lv_sub hl [1, 2, 3, 4, 0] rfl)
      have J52 : ∀ (x2 : Int32) (x3 : Int32) (x4 : Int32) (y0 : Int32) (H : Heap), v_Model_nearest_52 (v_Model_nearest_9 kc kn kz ko kt kr fw fl fs ff fv fk fp fy fq fi fj fm p0 post n9) x2 x3 x4 y0 kc kn kz ko kt kr fw fl fs ff fv fk fp fy fq fi fj fm → va_P (dC, dI) classes [(h, .inr (5, [.int kc, .ref xw, .ref xl, .ref xs, .ref xf, .int kn, .int kz, .int ko, .int kt, .int kr, .ref xv, .ref xk, .ref xp, .ref xy, .ref xq, .ref xi, .ref xj, .ref xm])), (xw, .inl (cI, 384, .inl fw)), (xl, .inl (cZ, 384, .inl fl)), (xs, .inl (cI, 192, .inl fs)), (xf, .inl (cZ, 192, .inl ff)), (xv, .inl (cI, 4, .inl fv)), (xk, .inl (cZ, 4, .inl fk)), (xp, .inl (cI, 4, .inl fp)), (xy, .inl (cI, 192, .inl fy)), (xq, .inl (cI, 4, .inl fq)), (xi, .inl (cI, 80, .inl fi)), (xj, .inl (cI, 80, .inl fj)), (xm, .inl (cZ, 192, .inl fm))] H → va_S (fun q : Nat => s.heap.size ≤ q) s.heap H [] → ∀ ls : Array Slot, lv_has ls 6 [(0, .ref h), (1, .int p0), (2, .int x2), (3, .int x3), (4, .int x4)] → W p l e (headSpec w_Model_nearest ({ frames := 2, cells := 0, slots := 0, locals := 44 })).room s m ([.ref h, .int p0] : List Value).toArray below meth c H [] 0 0 (MQ below (va_Qi (fun (r : Int32) (_ : Unit) => post r ) (fun _ _ => True) (fun q : Nat => s.heap.size ≤ q)) ([.ref h, .int p0] : List Value).toArray s 0 0 (fun q : Nat => s.heap.size ≤ q)) (F0 m 52 ls [.int y0]) := by
        intro x2 x3 x4 y0 H hv hP hS ls hl
        refine lv_istore (lv' := [(5, .int y0), (0, .ref h), (1, .int p0), (2, .int x2), (3, .int x3), (4, .int x4)]) hx hb d_Model_nearest_52 hl (by decide) rfl (fun ls hl => ?_)
        refine lv_aload_n hx hb d_Model_nearest_54 rfl (lv_at hl 1 rfl) ?_
        refine lv_iload hx hb d_Model_nearest_55 (lv_at hl 5 rfl) ?_
        have hPc := hP.sub (ws' := [(h, .inr (5, [.int kc, .ref xw, .ref xl, .ref xs, .ref xf, .int kn, .int kz, .int ko, .int kt, .int kr, .ref xv, .ref xk, .ref xp, .ref xy, .ref xq, .ref xi, .ref xj, .ref xm])), (xw, .inl (cI, 384, .inl fw)), (xl, .inl (cZ, 384, .inl fl)), (xs, .inl (cI, 192, .inl fs)), (xf, .inl (cZ, 192, .inl ff)), (xv, .inl (cI, 4, .inl fv)), (xk, .inl (cZ, 4, .inl fk)), (xp, .inl (cI, 4, .inl fp)), (xy, .inl (cI, 192, .inl fy)), (xq, .inl (cI, 4, .inl fq)), (xi, .inl (cI, 80, .inl fi)), (xj, .inl (cI, 80, .inl fj)), (xm, .inl (cZ, 192, .inl fm))]) [0, 1, 2, 3, 4, 5, 6, 7, 8, 9, 10, 11, 12] rfl
        refine cz_r (va_runV (As := [.int x4]) (rest := []) ⟨hx, hb, hml, hown, htb⟩ (m_Model_isFreeSpare l dC dI cI cZ h xw xl xs xf xv xk xp xy xq xi xj xm _ kc kn kz ko kt kr fw fl fs ff fv fk fp fy fq fi fj fm x4 _ hv) (cwV 1 htb (gz_V k_ml_Model_115 k_inst_Model_isFreeSpare k_sel_Model_isFreeSpare k_init_Model k_code_Model_isFreeSpare) rfl rfl rfl (by decide +kernel) ⟨Nat.le_of_ble_eq_true rfl, Nat.le_of_ble_eq_true rfl⟩) (pz_VR (ci := 5) (q0 := 0) hPc hK hN rfl rfl) rfl rfl hl.1 rfl (lv_room (Nat.le_of_ble_eq_true rfl)) d_Model_nearest_57 ⟨Nat.le_of_ble_eq_true rfl, Nat.le_of_ble_eq_true rfl⟩) hP hS hA (fun r_3 H hv hP hS => ?_)
        refine lv_if_eq (tgt := 75) hx hb d_Model_nearest_60 (by decide) (fun c_4 => ?_) (fun c_4 => ?_)
        · have hv := hv.1 c_4
          exact J75 x2 x3 x4 _ hv hP hS ls (lv_sub hl [1, 2, 3, 4, 5] rfl)
        · have hv := hv.2 c_4
          refine lv_iload hx hb d_Model_nearest_63 (lv_at hl 0 rfl) ?_
          refine lv_iload_n hx hb d_Model_nearest_65 rfl (lv_at hl 4 rfl) ?_
          refine lv_icmp_ge (tgt := 75) hx hb d_Model_nearest_66 (by decide) (fun c_5 => ?_) (fun c_5 => ?_)
          · have hv := hv.1 c_5
            exact J75 x2 x3 x4 _ hv hP hS ls (lv_sub hl [1, 2, 3, 4, 5] rfl)
          · have hv := hv.2 c_5
            refine lv_iload hx hb d_Model_nearest_69 (lv_at hl 5 rfl) ?_
            refine lv_istore_n (lv' := [(2, .int x4), (5, .int y0), (0, .ref h), (1, .int p0), (3, .int x3), (4, .int x4)]) hx hb d_Model_nearest_71 rfl hl (by decide) rfl (fun ls hl => ?_)
            refine lv_iload hx hb d_Model_nearest_72 (lv_at hl 1 rfl) ?_
            refine lv_istore_n (lv' := [(3, .int y0), (2, .int x4), (5, .int y0), (0, .ref h), (1, .int p0), (4, .int x4)]) hx hb d_Model_nearest_74 rfl hl (by decide) rfl (fun ls hl => ?_)
            exact J75 x4 y0 x4 _ hv hP hS ls (lv_sub hl [3, 4, 1, 0, 5] rfl)
      refine lv_iload hx hb d_Model_nearest_9 (lv_at hl 4 rfl) ?_
      refine lv_sipush (v := 192) hx hb d_Model_nearest_11 (by decide) ?_
      refine lv_icmp_ge (tgt := 81) hx hb d_Model_nearest_14 (by decide) (fun c_1 => ?_) (fun c_1 => ?_)
      · have hv := hv.1 c_1
        refine lv_iload_n hx hb d_Model_nearest_81 rfl (lv_at hl 2 rfl) ?_
        exact W.iret (v := x2) hx hb hr (fun t ht hW => ⟨⟨x2, (), rfl, hv, trivial⟩, hS.F ht⟩) hS.2.2 d_Model_nearest_82
      · have hv := hv.2 c_1
        refine lv_iload hx hb d_Model_nearest_17 (lv_at hl 4 rfl) ?_
        refine lv_bipush (v := 16) hx hb d_Model_nearest_19 (by decide) ?_
        refine lv_idiv hx hb d_Model_nearest_21 (by decide) ?_
        refine lv_iload_n hx hb d_Model_nearest_22 rfl (lv_at hl 1 rfl) ?_
        refine lv_bipush (v := 16) hx hb d_Model_nearest_23 (by decide) ?_
        refine lv_idiv hx hb d_Model_nearest_25 (by decide) ?_
        refine lv_icmp_le (tgt := 42) hx hb d_Model_nearest_26 (by decide) (fun c_2 => ?_) (fun c_2 => ?_)
        · have hv := hv.1 c_2
          refine lv_iload_n hx hb d_Model_nearest_42 rfl (lv_at hl 1 rfl) ?_
          refine lv_bipush (v := 16) hx hb d_Model_nearest_43 (by decide) ?_
          refine lv_idiv hx hb d_Model_nearest_45 (by decide) ?_
          refine lv_iload hx hb d_Model_nearest_46 (lv_at hl 4 rfl) ?_
          refine lv_bipush (v := 16) hx hb d_Model_nearest_48 (by decide) ?_
          refine lv_idiv hx hb d_Model_nearest_50 (by decide) ?_
          refine lv_isub hx hb d_Model_nearest_51 ?_
          exact J52 x2 x3 x4 ((p0 / 16) - (x4 / 16)) _ hv hP hS ls (lv_sub hl [0, 1, 2, 3, 4] rfl)
        · have hv := hv.2 c_2
          refine lv_iload hx hb d_Model_nearest_29 (lv_at hl 4 rfl) ?_
          refine lv_bipush (v := 16) hx hb d_Model_nearest_31 (by decide) ?_
          refine lv_idiv hx hb d_Model_nearest_33 (by decide) ?_
          refine lv_iload_n hx hb d_Model_nearest_34 rfl (lv_at hl 1 rfl) ?_
          refine lv_bipush (v := 16) hx hb d_Model_nearest_35 (by decide) ?_
          refine lv_idiv hx hb d_Model_nearest_37 (by decide) ?_
          refine lv_isub hx hb d_Model_nearest_38 ?_
          refine lv_goto (tgt := 52) hx hb d_Model_nearest_39 (by decide) ?_
          exact J52 x2 x3 x4 ((x4 / 16) - (p0 / 16)) _ hv hP hS ls (lv_sub hl [0, 1, 2, 3, 4] rfl)
  refine lv_iconst (v := (-1)) hx hb d_Model_nearest_0 (by decide) ?_
  refine lv_istore_n (lv' := [(2, .int (-1)), (0, .ref h), (1, .int p0)]) hx hb d_Model_nearest_1 rfl hl (by decide) rfl (fun ls hl => ?_)
  refine lv_bipush (v := 100) hx hb d_Model_nearest_2 (by decide) ?_
  refine lv_istore_n (lv' := [(3, .int 100), (2, .int (-1)), (0, .ref h), (1, .int p0)]) hx hb d_Model_nearest_4 rfl hl (by decide) rfl (fun ls hl => ?_)
  refine lv_bipush (v := 16) hx hb d_Model_nearest_5 (by decide) ?_
  refine lv_istore (lv' := [(4, .int 16), (3, .int 100), (2, .int (-1)), (0, .ref h), (1, .int p0)]) hx hb d_Model_nearest_7 hl (by decide) rfl (fun ls hl => ?_)
  obtain ⟨n_9, hv⟩ := hv
  exact J9  n_9 (-1) 100 16 _ hv hP hS ls (lv_sub hl [3, 4, 2, 1, 0] rfl)
