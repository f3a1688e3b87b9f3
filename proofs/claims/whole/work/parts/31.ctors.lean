def vb_Arrays_fill_5 (x3 : Int32) (p0 : Int32) (post : (Nat → Int32) → Prop) (K5 : Int32 → (Nat → Int32) → Prop) (x2 : Int32) (afM : Nat → Int32) : Prop := ((x3 ≤ x2 → post afM) ∧ (¬ x3 ≤ x2 → (vp_in x2 192 ∧ K5 (x2 + 1) (upd afM x2.toNatClampNeg p0))))
def v_Arrays_fill_5 (x3 : Int32) (p0 : Int32) (post : (Nat → Int32) → Prop) : Nat → Int32 → (Nat → Int32) → Prop
  | 0 => fun _ _ => False
  | n + 1 => vb_Arrays_fill_5 x3 p0 post (v_Arrays_fill_5 x3 p0 post n)
def v_Arrays_fill (af : Nat → Int32) (p0 : Int32) (post : (Nat → Int32) → Prop) : Prop := ∃ n, v_Arrays_fill_5 192 p0 post n 0 af
abbrev q_Arrays_fill (dC : Nat → ClassId) (dI : Nat → Nat → Nat) (cI cZ : ClassId) (ax : Nat) (af : Nat → Int32) (A : Nat → Prop) (post : (Nat → Int32) → Prop) : Array Value → State → Outcome → State → Prop := va_Qv (fun (u : (Nat → Int32)) => post u) (fun (u : (Nat → Int32)) t => va_P (dC, dI) classes [(ax, .inl (cI, 192, .inl u))] t.heap ∧ va_D A [(ax, .inl (cI, 192, .inl u))]) A
set_option maxHeartbeats 4000000 in
set_option maxRecDepth 100000 in
theorem m_Arrays_fill (l : Launch) (dC : Nat → ClassId) (dI : Nat → Nat → Nat) (cI cZ : ClassId) (ax : Nat) (zz : Nat) (af : Nat → Int32) (p0 : Int32) (post : (Nat → Int32) → Prop) (hv : v_Arrays_fill af p0 post) : Met l y_Arrays_fill w_Arrays_fill ({ frames := 0, cells := 0, slots := 0, locals := 0 }) (va_Pc [.ref ax, .int p0] (fun U => U.heap.size = zz ∧ va_P (dC, dI) classes [(ax, .inl (cI, 192, .inl af))] U.heap ∧ va_K (dC, dI) classes [(cI, .int), (cZ, .boolean)] U ∧ nz_N U ∧ va_D (fun _ => True) [(ax, .inl (cI, 192, .inl af))])) (q_Arrays_fill dC dI cI cZ ax af (va_A [(ax, .inl (cI, 192, .inl af))] zz) post) 0 0 (va_A [(ax, .inl (cI, 192, .inl af))] zz) := by
  refine Met.ofW (cc := b_Arrays_fill) (maxL := 4) (ret := none) (by decide) rfl ?_
  intro p e s m args below meth c s₁ B hml hv0
  obtain ⟨rfl, hsz, hP, hK, hN, hD0⟩ := hv0
  have hx := B.exec
  have hb := B.bytes
  have hr := B.returns
  have htb := w_tbl (atoms_spec (ws := w_Arrays_fill) B.pre)
  have hown : s.vm.findClass R_Arrays = some m.cls := findClass_of_methodNamed B.named
  have hlocks := B.notSynchronized
  subst hsz
  have hD := hD0.self (sz := s.heap.size)
  generalize hAe : va_A [(ax, .inl (cI, 192, .inl af))] s.heap.size = A at hD ⊢
  have hA : ∀ q : Nat, s.heap.size ≤ q → A q := fun q h => by rw [← hAe]; exact Or.inr h
  have hS : va_S A s.heap s.heap [] := va_S.rf
  have hl := lv_entry ([.ref ax, .int p0]) (n := 4) (Nat.le_of_ble_eq_true rfl)
  rw [lg_entry_eq]
  generalize (lg_sl ([.ref ax, .int p0]) ++ List.replicate (4 - (lg_sl ([.ref ax, .int p0])).length) Slot.unset).toArray = ls at hl ⊢
  have hl : lv_has ls 4 [(0, .ref ax), (1, .int p0)] := hl
  have J5 : ∀ (x3 : Int32) (n : Nat) (x2 : Int32) (afM : Nat → Int32) (H : Heap) (locs : List Loc), v_Arrays_fill_5 x3 p0 post n x2 afM → va_P (dC, dI) classes [(ax, .inl (cI, 192, .inl afM))] H → va_D A [(ax, .inl (cI, 192, .inl afM))] → va_S A s.heap H locs → ∀ ls : Array Slot, lv_has ls 4 [(0, .ref ax), (1, .int p0), (2, .int x2), (3, .int x3)] → W p l e (headSpec w_Arrays_fill ({ frames := 0, cells := 0, slots := 0, locals := 0 })).room s m ([.ref ax, .int p0] : List Value).toArray below meth c H locs 0 0 (MQ below (q_Arrays_fill dC dI cI cZ ax af A post) ([.ref ax, .int p0] : List Value).toArray s 0 0 A) (F0 m 5 ls []) := by
    intro x3 n5
    induction n5 with
    | zero =>
      intro x2 afM H locs hv
      exact absurd hv id
    | succ n5 ih5 =>
      intro x2 afM H locs hv hP hD hS ls hl
      have hv : vb_Arrays_fill_5 x3 p0 post (v_Arrays_fill_5 x3 p0 post n5) x2 afM := hv
      refine lv_iload_n hx hb d_Arrays_fill_5 rfl (lv_at hl 2 rfl) ?_
      refine lv_iload_n hx hb d_Arrays_fill_6 rfl (lv_at hl 3 rfl) ?_
      refine lv_icmp_ge (tgt := 20) hx hb d_Arrays_fill_7 (by decide) (fun c_1 => ?_) (fun c_1 => ?_)
      · have hv := hv.1 c_1
        exact W.vret hx hb hr (fun t ht hW => ⟨⟨(afM), rfl, hv, by rw [ht]; exact hP, hD⟩, hS.F ht⟩) hS.2.2 d_Arrays_fill_20
      · have hv := hv.2 c_1
        refine lv_aload_n hx hb d_Arrays_fill_10 rfl (lv_at hl 0 rfl) ?_
        refine lv_iload_n hx hb d_Arrays_fill_11 rfl (lv_at hl 2 rfl) ?_
        refine lv_iload_n hx hb d_Arrays_fill_12 rfl (lv_at hl 1 rfl) ?_
        obtain ⟨h_2, hv⟩ := hv
        refine va_iast hx hb hK hP hD hS 0 0 rfl rfl h_2 d_Arrays_fill_13 (fun H locs hP hD hS => ?_)
        have hP : va_P (dC, dI) classes [(ax, .inl (cI, 192, .inl (upd afM x2.toNatClampNeg p0)))] H := hP
        have hD : va_D A [(ax, .inl (cI, 192, .inl (upd afM x2.toNatClampNeg p0)))] := hD
        refine lv_iinc (v := x2 + 1) (lv' := [(2, .int (x2 + 1)), (0, .ref ax), (1, .int p0), (3, .int x3)]) hx hb d_Arrays_fill_14 hl (k := 2) rfl rfl (by decide) rfl (fun ls hl => ?_)
        refine lv_goto (tgt := 5) hx hb d_Arrays_fill_17 (by decide) ?_
        exact ih5 (x2 + 1) (upd afM x2.toNatClampNeg p0) _ _ hv hP hD hS ls (lv_sub hl [1, 2, 0, 3] rfl)
  refine lv_iconst (v := 0) hx hb d_Arrays_fill_0 (by decide) ?_
  refine lv_istore_n (lv' := [(2, .int 0), (0, .ref ax), (1, .int p0)]) hx hb d_Arrays_fill_1 rfl hl (by decide) rfl (fun ls hl => ?_)
  refine lv_aload_n hx hb d_Arrays_fill_2 rfl (lv_at hl 1 rfl) ?_
  refine va_alen (v := 192) hx hb hK hP 0 0 rfl rfl rfl d_Arrays_fill_3 ?_
  refine lv_istore_n (lv' := [(3, .int 192), (2, .int 0), (0, .ref ax), (1, .int p0)]) hx hb d_Arrays_fill_4 rfl hl (by decide) rfl (fun ls hl => ?_)
  obtain ⟨n_5, hv⟩ := hv
  exact J5 192 n_5 0 af _ _ hv hP hD hS ls (lv_sub hl [2, 3, 1, 0] rfl)
def v_Power_init (post : Int32 → Int32 → Int32 → Prop) : Prop := post 0 (-1) 0
abbrev q_Power_init (dC : Nat → ClassId) (dI : Nat → Nat → Nat) (cI cZ : ClassId) (h : Nat) (A : Nat → Prop) (post : Int32 → Int32 → Int32 → Prop) : Array Value → State → Outcome → State → Prop := va_Qv (fun (u : Int32 × Int32 × Int32) => post u.1 u.2.1 u.2.2) (fun (u : Int32 × Int32 × Int32) t => va_P (dC, dI) classes [(h, .inr (1, [.int u.1, .int u.2.1, .int u.2.2]))] t.heap ∧ va_D A [(h, .inr (1, [.int u.1, .int u.2.1, .int u.2.2]))]) A
set_option maxHeartbeats 4000000 in
set_option maxRecDepth 100000 in
theorem m_Power_init (l : Launch) (dC : Nat → ClassId) (dI : Nat → Nat → Nat) (cI cZ : ClassId) (h : Nat) (zz : Nat) (post : Int32 → Int32 → Int32 → Prop) (hv : v_Power_init  post) : Met l y_Power_init w_Power_init ({ frames := 1, cells := 0, slots := 0, locals := 20 }) (va_Pc [.ref h] (fun U => U.heap.size = zz ∧ va_P (dC, dI) classes [(h, .inr (1, [.int 0, .int 0, .int 0]))] U.heap ∧ va_K (dC, dI) classes [(cI, .int), (cZ, .boolean)] U ∧ nz_N U ∧ va_D (fun _ => True) [(h, .inr (1, [.int 0, .int 0, .int 0]))])) (q_Power_init dC dI cI cZ h (va_A [(h, .inr (1, [.int 0, .int 0, .int 0]))] zz) post) 0 0 (va_A [(h, .inr (1, [.int 0, .int 0, .int 0]))] zz) := by
  refine Met.ofW (cc := b_Power_init) (maxL := 1) (ret := none) (by decide) rfl ?_
  intro p e s m args below meth c s₁ B hml hv0
  obtain ⟨rfl, hsz, hP, hK, hN, hD0⟩ := hv0
  have hx := B.exec
  have hb := B.bytes
  have hr := B.returns
  have htb := w_tbl (atoms_spec (ws := w_Power_init) B.pre)
  have hown : s.vm.findClass R_Power = some m.cls := findClass_of_methodNamed B.named
  have hlocks := B.notSynchronized
  have hin : meth.name = "<init>" := (name_of_methodNamed B.named B.method).1
  subst hsz
  have hD := hD0.self (sz := s.heap.size)
  generalize hAe : va_A [(h, .inr (1, [.int 0, .int 0, .int 0]))] s.heap.size = A at hD ⊢
  have hA : ∀ q : Nat, s.heap.size ≤ q → A q := fun q h => by rw [← hAe]; exact Or.inr h
  have hS : va_S A s.heap s.heap [] := va_S.rf
  have hl := lv_entry ([.ref h]) (n := 1) (Nat.le_of_ble_eq_true rfl)
  rw [lg_entry_eq]
  generalize (lg_sl ([.ref h]) ++ List.replicate (1 - (lg_sl ([.ref h])).length) Slot.unset).toArray = ls at hl ⊢
  have hl : lv_has ls 1 [(0, .ref h)] := hl
  refine lv_aload_n hx hb d_Power_init_0 rfl (lv_at hl 0 rfl) ?_
  refine W.objInit hx hb hown (htb _ k_ml_Power_3) (htb _ k_inst_Object) (htb _ k_code_Object) rfl (by rw [hml]; exact hl.1) rfl d_Power_init_1 (Nat.le_of_ble_eq_true rfl) (Nat.le_of_ble_eq_true rfl) ?_
  refine W.eq (g2 := F0 m 4 ls []) rfl ?_
  refine lv_aload_n hx hb d_Power_init_4 rfl (lv_at hl 0 rfl) ?_
  refine lv_iconst (v := (-1)) hx hb d_Power_init_5 (by decide) ?_
  refine va_put (D := (dC, dI)) (ci := 1) (v := .int (-1)) (ty := .int) (C := R_Power) (T := F_Power) (N := 3) hx hb htb i_Power t_Power t_Power_ok n_Power hown hK hP hD hS 0 rfl rfl 1 (by decide) (htb _ k_fl_Power_9) (fun _ h9 => h9) rfl (by decide +kernel) rfl rfl (Nat.le_of_ble_eq_true rfl) d_Power_init_6 (fun H locs hP hD hS => ?_)
  have hP : va_P (dC, dI) classes [(h, .inr (1, [.int 0, .int (-1), .int 0]))] H := hP
  have hD : va_D A [(h, .inr (1, [.int 0, .int (-1), .int 0]))] := hD
  exact W.vret hx hb hr (fun t ht hW => ⟨⟨(0, (-1), 0), rfl, hv, by rw [ht]; exact hP, hD⟩, hS.F ht⟩) hS.2.2 d_Power_init_9
def v_Surface_init (post : (Nat → Int32) → (Nat → Int32) → (Nat → Int32) → Prop) : Prop := post (fun _ => 0) (fun _ => 0) (fun _ => 0)
abbrev q_Surface_init (dC : Nat → ClassId) (dI : Nat → Nat → Nat) (cI cZ : ClassId) (h : Nat) (A : Nat → Prop) (post : (Nat → Int32) → (Nat → Int32) → (Nat → Int32) → Prop) : Array Value → State → Outcome → State → Prop := va_Qv (fun (u : Nat × Nat × Nat × (Nat → Int32) × (Nat → Int32) × (Nat → Int32)) => post u.2.2.2.1 u.2.2.2.2.1 u.2.2.2.2.2) (fun (u : Nat × Nat × Nat × (Nat → Int32) × (Nat → Int32) × (Nat → Int32)) t => va_P (dC, dI) classes [(h, .inr (3, [.ref u.1, .ref u.2.1, .ref u.2.2.1])), (u.1, .inl (cI, 192, .inl u.2.2.2.1)), (u.2.1, .inl (cI, 384, .inl u.2.2.2.2.1)), (u.2.2.1, .inl (cZ, 384, .inl u.2.2.2.2.2))] t.heap ∧ va_D A [(h, .inr (3, [.ref u.1, .ref u.2.1, .ref u.2.2.1])), (u.1, .inl (cI, 192, .inl u.2.2.2.1)), (u.2.1, .inl (cI, 384, .inl u.2.2.2.2.1)), (u.2.2.1, .inl (cZ, 384, .inl u.2.2.2.2.2))]) A
set_option maxHeartbeats 4000000 in
set_option maxRecDepth 100000 in
theorem m_Surface_init (l : Launch) (dC : Nat → ClassId) (dI : Nat → Nat → Nat) (cI cZ : ClassId) (h : Nat) (zz : Nat) (post : (Nat → Int32) → (Nat → Int32) → (Nat → Int32) → Prop) (hv : v_Surface_init  post) : Met l y_Surface_init w_Surface_init ({ frames := 1, cells := 3, slots := 960, locals := 20 }) (va_Pc [.ref h] (fun U => U.heap.size = zz ∧ va_P (dC, dI) classes [(h, .inr (3, [.null, .null, .null]))] U.heap ∧ va_K (dC, dI) classes [(cI, .int), (cZ, .boolean)] U ∧ nz_N U ∧ va_D (fun _ => True) [(h, .inr (3, [.null, .null, .null]))])) (q_Surface_init dC dI cI cZ h (va_A [(h, .inr (3, [.null, .null, .null]))] zz) post) 3 960 (va_A [(h, .inr (3, [.null, .null, .null]))] zz) := by
  refine Met.ofW (cc := b_Surface_init) (maxL := 1) (ret := none) (by decide) rfl ?_
  intro p e s m args below meth c s₁ B hml hv0
  obtain ⟨rfl, hsz, hP, hK, hN, hD0⟩ := hv0
  have hx := B.exec
  have hb := B.bytes
  have hr := B.returns
  have htb := w_tbl (atoms_spec (ws := w_Surface_init) B.pre)
  have hown : s.vm.findClass R_Surface = some m.cls := findClass_of_methodNamed B.named
  have hlocks := B.notSynchronized
  have hin : meth.name = "<init>" := (name_of_methodNamed B.named B.method).1
  subst hsz
  have hD := hD0.self (sz := s.heap.size)
  generalize hAe : va_A [(h, .inr (3, [.null, .null, .null]))] s.heap.size = A at hD ⊢
  have hA : ∀ q : Nat, s.heap.size ≤ q → A q := fun q h => by rw [← hAe]; exact Or.inr h
  have hS : va_S A s.heap s.heap [] := va_S.rf
  have hl := lv_entry ([.ref h]) (n := 1) (Nat.le_of_ble_eq_true rfl)
  rw [lg_entry_eq]
  generalize (lg_sl ([.ref h]) ++ List.replicate (1 - (lg_sl ([.ref h])).length) Slot.unset).toArray = ls at hl ⊢
  have hl : lv_has ls 1 [(0, .ref h)] := hl
  refine lv_aload_n hx hb d_Surface_init_0 rfl (lv_at hl 0 rfl) ?_
  refine W.objInit hx hb hown (htb _ k_ml_Surface_3) (htb _ k_inst_Object) (htb _ k_code_Object) rfl (by rw [hml]; exact hl.1) rfl d_Surface_init_1 (Nat.le_of_ble_eq_true rfl) (Nat.le_of_ble_eq_true rfl) ?_
  refine W.eq (g2 := F0 m 4 ls []) rfl ?_
  refine lv_aload_n hx hb d_Surface_init_4 rfl (lv_at hl 0 rfl) ?_
  refine lv_sipush (v := 192) hx hb d_Surface_init_5 (by decide) ?_
  refine nz_newa (atype := .int) (ty := .int) (N' := 192) (a0 := (192, .inl (fun _ => 0))) hx hb (htb _ k_arr_I) rfl hK hP hD hS hA 0 rfl (fun _ => rfl) (by decide) (by decide) (by decide) (Nat.le_of_ble_eq_true rfl) (Nat.le_of_ble_eq_true rfl) d_Surface_init_8 (fun q_1 H hP hD hS => ?_)
  have hP : va_P (dC, dI) classes [(h, .inr (3, [.null, .null, .null])), (q_1, .inl (cI, 192, .inl (fun _ => 0)))] H := hP
  have hD : va_D A [(h, .inr (3, [.null, .null, .null])), (q_1, .inl (cI, 192, .inl (fun _ => 0)))] := hD
  refine va_putF (D := (dC, dI)) (ci := 3) (v := .ref q_1) (ty := .array .int) (C := R_Surface) (T := F_Surface) (N := 3) hx hb htb i_Surface t_Surface t_Surface_ok n_Surface hown hK hP hD hS 0 rfl rfl 0 (by decide) (htb _ k_fl_Surface_9) (fun _ h9 => h9) rfl hin rfl (by decide +kernel) rfl rfl (Nat.le_of_ble_eq_true rfl) d_Surface_init_10 (fun H locs hP hD hS => ?_)
  have hP : va_P (dC, dI) classes [(h, .inr (3, [.ref q_1, .null, .null])), (q_1, .inl (cI, 192, .inl (fun _ => 0)))] H := hP
  have hD : va_D A [(h, .inr (3, [.ref q_1, .null, .null])), (q_1, .inl (cI, 192, .inl (fun _ => 0)))] := hD
  refine lv_aload_n hx hb d_Surface_init_13 rfl (lv_at hl 0 rfl) ?_
  refine lv_sipush (v := 384) hx hb d_Surface_init_14 (by decide) ?_
  refine nz_newa (atype := .int) (ty := .int) (N' := 384) (a0 := (384, .inl (fun _ => 0))) hx hb (htb _ k_arr_I) rfl hK hP hD hS hA 0 rfl (fun _ => rfl) (by decide) (by decide) (by decide) (Nat.le_of_ble_eq_true rfl) (Nat.le_of_ble_eq_true rfl) d_Surface_init_17 (fun q_2 H hP hD hS => ?_)
  have hP : va_P (dC, dI) classes [(h, .inr (3, [.ref q_1, .null, .null])), (q_1, .inl (cI, 192, .inl (fun _ => 0))), (q_2, .inl (cI, 384, .inl (fun _ => 0)))] H := hP
  have hD : va_D A [(h, .inr (3, [.ref q_1, .null, .null])), (q_1, .inl (cI, 192, .inl (fun _ => 0))), (q_2, .inl (cI, 384, .inl (fun _ => 0)))] := hD
  refine va_putF (D := (dC, dI)) (ci := 3) (v := .ref q_2) (ty := .array .int) (C := R_Surface) (T := F_Surface) (N := 3) hx hb htb i_Surface t_Surface t_Surface_ok n_Surface hown hK hP hD hS 0 rfl rfl 1 (by decide) (htb _ k_fl_Surface_15) (fun _ h9 => h9) rfl hin rfl (by decide +kernel) rfl rfl (Nat.le_of_ble_eq_true rfl) d_Surface_init_19 (fun H locs hP hD hS => ?_)
  have hP : va_P (dC, dI) classes [(h, .inr (3, [.ref q_1, .ref q_2, .null])), (q_1, .inl (cI, 192, .inl (fun _ => 0))), (q_2, .inl (cI, 384, .inl (fun _ => 0)))] H := hP
  have hD : va_D A [(h, .inr (3, [.ref q_1, .ref q_2, .null])), (q_1, .inl (cI, 192, .inl (fun _ => 0))), (q_2, .inl (cI, 384, .inl (fun _ => 0)))] := hD
  refine lv_aload_n hx hb d_Surface_init_22 rfl (lv_at hl 0 rfl) ?_
  refine lv_sipush (v := 384) hx hb d_Surface_init_23 (by decide) ?_
  refine nz_newa (atype := .boolean) (ty := .boolean) (N' := 384) (a0 := (384, .inl (fun _ => 0))) hx hb (htb _ k_arr_Z) rfl hK hP hD hS hA 1 rfl (fun _ => rfl) (by decide) (by decide) (by decide) (Nat.le_of_ble_eq_true rfl) (Nat.le_of_ble_eq_true rfl) d_Surface_init_26 (fun q_3 H hP hD hS => ?_)
  have hP : va_P (dC, dI) classes [(h, .inr (3, [.ref q_1, .ref q_2, .null])), (q_1, .inl (cI, 192, .inl (fun _ => 0))), (q_2, .inl (cI, 384, .inl (fun _ => 0))), (q_3, .inl (cZ, 384, .inl (fun _ => 0)))] H := hP
  have hD : va_D A [(h, .inr (3, [.ref q_1, .ref q_2, .null])), (q_1, .inl (cI, 192, .inl (fun _ => 0))), (q_2, .inl (cI, 384, .inl (fun _ => 0))), (q_3, .inl (cZ, 384, .inl (fun _ => 0)))] := hD
  refine va_putF (D := (dC, dI)) (ci := 3) (v := .ref q_3) (ty := .array .boolean) (C := R_Surface) (T := F_Surface) (N := 3) hx hb htb i_Surface t_Surface t_Surface_ok n_Surface hown hK hP hD hS 0 rfl rfl 2 (by decide) (htb _ k_fl_Surface_18) (fun _ h9 => h9) rfl hin rfl (by decide +kernel) rfl rfl (Nat.le_of_ble_eq_true rfl) d_Surface_init_28 (fun H locs hP hD hS => ?_)
  have hP : va_P (dC, dI) classes [(h, .inr (3, [.ref q_1, .ref q_2, .ref q_3])), (q_1, .inl (cI, 192, .inl (fun _ => 0))), (q_2, .inl (cI, 384, .inl (fun _ => 0))), (q_3, .inl (cZ, 384, .inl (fun _ => 0)))] H := hP
  have hD : va_D A [(h, .inr (3, [.ref q_1, .ref q_2, .ref q_3])), (q_1, .inl (cI, 192, .inl (fun _ => 0))), (q_2, .inl (cI, 384, .inl (fun _ => 0))), (q_3, .inl (cZ, 384, .inl (fun _ => 0)))] := hD
  exact W.vret hx hb hr (fun t ht hW => ⟨⟨(q_1, q_2, q_3, (fun _ => 0), (fun _ => 0), (fun _ => 0)), rfl, hv, by rw [ht]; exact hP, hD⟩, hS.F ht⟩) hS.2.2 d_Surface_init_31
def v_Lists_init (post : Int32 → Int32 → Int32 → Int32 → (Nat → Int32) → (Nat → Int32) → Prop) : Prop := post 0 0 0 0 (fun _ => 0) (fun _ => 0)
abbrev q_Lists_init (dC : Nat → ClassId) (dI : Nat → Nat → Nat) (cI cZ : ClassId) (h : Nat) (A : Nat → Prop) (post : Int32 → Int32 → Int32 → Int32 → (Nat → Int32) → (Nat → Int32) → Prop) : Array Value → State → Outcome → State → Prop := va_Qv (fun (u : Nat × Nat × Int32 × Int32 × Int32 × Int32 × (Nat → Int32) × (Nat → Int32)) => post u.2.2.1 u.2.2.2.1 u.2.2.2.2.1 u.2.2.2.2.2.1 u.2.2.2.2.2.2.1 u.2.2.2.2.2.2.2) (fun (u : Nat × Nat × Int32 × Int32 × Int32 × Int32 × (Nat → Int32) × (Nat → Int32)) t => va_P (dC, dI) classes [(h, .inr (0, [.int u.2.2.1, .int u.2.2.2.1, .int u.2.2.2.2.1, .int u.2.2.2.2.2.1, .ref u.1, .ref u.2.1])), (u.1, .inl (cI, 48, .inl u.2.2.2.2.2.2.1)), (u.2.1, .inl (cI, 48, .inl u.2.2.2.2.2.2.2))] t.heap ∧ va_D A [(h, .inr (0, [.int u.2.2.1, .int u.2.2.2.1, .int u.2.2.2.2.1, .int u.2.2.2.2.2.1, .ref u.1, .ref u.2.1])), (u.1, .inl (cI, 48, .inl u.2.2.2.2.2.2.1)), (u.2.1, .inl (cI, 48, .inl u.2.2.2.2.2.2.2))]) A
set_option maxHeartbeats 4000000 in
set_option maxRecDepth 100000 in
theorem m_Lists_init (l : Launch) (dC : Nat → ClassId) (dI : Nat → Nat → Nat) (cI cZ : ClassId) (h : Nat) (zz : Nat) (post : Int32 → Int32 → Int32 → Int32 → (Nat → Int32) → (Nat → Int32) → Prop) (hv : v_Lists_init  post) : Met l y_Lists_init w_Lists_init ({ frames := 1, cells := 2, slots := 96, locals := 20 }) (va_Pc [.ref h] (fun U => U.heap.size = zz ∧ va_P (dC, dI) classes [(h, .inr (0, [.int 0, .int 0, .int 0, .int 0, .null, .null]))] U.heap ∧ va_K (dC, dI) classes [(cI, .int), (cZ, .boolean)] U ∧ nz_N U ∧ va_D (fun _ => True) [(h, .inr (0, [.int 0, .int 0, .int 0, .int 0, .null, .null]))])) (q_Lists_init dC dI cI cZ h (va_A [(h, .inr (0, [.int 0, .int 0, .int 0, .int 0, .null, .null]))] zz) post) 2 96 (va_A [(h, .inr (0, [.int 0, .int 0, .int 0, .int 0, .null, .null]))] zz) := by
  refine Met.ofW (cc := b_Lists_init) (maxL := 1) (ret := none) (by decide) rfl ?_
  intro p e s m args below meth c s₁ B hml hv0
  obtain ⟨rfl, hsz, hP, hK, hN, hD0⟩ := hv0
  have hx := B.exec
  have hb := B.bytes
  have hr := B.returns
  have htb := w_tbl (atoms_spec (ws := w_Lists_init) B.pre)
  have hown : s.vm.findClass R_Lists = some m.cls := findClass_of_methodNamed B.named
  have hlocks := B.notSynchronized
  have hin : meth.name = "<init>" := (name_of_methodNamed B.named B.method).1
  subst hsz
  have hD := hD0.self (sz := s.heap.size)
  generalize hAe : va_A [(h, .inr (0, [.int 0, .int 0, .int 0, .int 0, .null, .null]))] s.heap.size = A at hD ⊢
  have hA : ∀ q : Nat, s.heap.size ≤ q → A q := fun q h => by rw [← hAe]; exact Or.inr h
  have hS : va_S A s.heap s.heap [] := va_S.rf
  have hl := lv_entry ([.ref h]) (n := 1) (Nat.le_of_ble_eq_true rfl)
  rw [lg_entry_eq]
  generalize (lg_sl ([.ref h]) ++ List.replicate (1 - (lg_sl ([.ref h])).length) Slot.unset).toArray = ls at hl ⊢
  have hl : lv_has ls 1 [(0, .ref h)] := hl
  refine lv_aload_n hx hb d_Lists_init_0 rfl (lv_at hl 0 rfl) ?_
  refine W.objInit hx hb hown (htb _ k_ml_Lists_3) (htb _ k_inst_Object) (htb _ k_code_Object) rfl (by rw [hml]; exact hl.1) rfl d_Lists_init_1 (Nat.le_of_ble_eq_true rfl) (Nat.le_of_ble_eq_true rfl) ?_
  refine W.eq (g2 := F0 m 4 ls []) rfl ?_
  refine lv_aload_n hx hb d_Lists_init_4 rfl (lv_at hl 0 rfl) ?_
  refine lv_bipush (v := 48) hx hb d_Lists_init_5 (by decide) ?_
  refine nz_newa (atype := .int) (ty := .int) (N' := 48) (a0 := (48, .inl (fun _ => 0))) hx hb (htb _ k_arr_I) rfl hK hP hD hS hA 0 rfl (fun _ => rfl) (by decide) (by decide) (by decide) (Nat.le_of_ble_eq_true rfl) (Nat.le_of_ble_eq_true rfl) d_Lists_init_7 (fun q_1 H hP hD hS => ?_)
  have hP : va_P (dC, dI) classes [(h, .inr (0, [.int 0, .int 0, .int 0, .int 0, .null, .null])), (q_1, .inl (cI, 48, .inl (fun _ => 0)))] H := hP
  have hD : va_D A [(h, .inr (0, [.int 0, .int 0, .int 0, .int 0, .null, .null])), (q_1, .inl (cI, 48, .inl (fun _ => 0)))] := hD
  refine va_putF (D := (dC, dI)) (ci := 0) (v := .ref q_1) (ty := .array .int) (C := R_Lists) (T := F_Lists) (N := 6) hx hb htb i_Lists t_Lists t_Lists_ok n_Lists hown hK hP hD hS 0 rfl rfl 4 (by decide) (htb _ k_fl_Lists_9) (fun _ h9 => h9) rfl hin rfl (by decide +kernel) rfl rfl (Nat.le_of_ble_eq_true rfl) d_Lists_init_9 (fun H locs hP hD hS => ?_)
  have hP : va_P (dC, dI) classes [(h, .inr (0, [.int 0, .int 0, .int 0, .int 0, .ref q_1, .null])), (q_1, .inl (cI, 48, .inl (fun _ => 0)))] H := hP
  have hD : va_D A [(h, .inr (0, [.int 0, .int 0, .int 0, .int 0, .ref q_1, .null])), (q_1, .inl (cI, 48, .inl (fun _ => 0)))] := hD
  refine lv_aload_n hx hb d_Lists_init_12 rfl (lv_at hl 0 rfl) ?_
  refine lv_bipush (v := 48) hx hb d_Lists_init_13 (by decide) ?_
  refine nz_newa (atype := .int) (ty := .int) (N' := 48) (a0 := (48, .inl (fun _ => 0))) hx hb (htb _ k_arr_I) rfl hK hP hD hS hA 0 rfl (fun _ => rfl) (by decide) (by decide) (by decide) (Nat.le_of_ble_eq_true rfl) (Nat.le_of_ble_eq_true rfl) d_Lists_init_15 (fun q_2 H hP hD hS => ?_)
  have hP : va_P (dC, dI) classes [(h, .inr (0, [.int 0, .int 0, .int 0, .int 0, .ref q_1, .null])), (q_1, .inl (cI, 48, .inl (fun _ => 0))), (q_2, .inl (cI, 48, .inl (fun _ => 0)))] H := hP
  have hD : va_D A [(h, .inr (0, [.int 0, .int 0, .int 0, .int 0, .ref q_1, .null])), (q_1, .inl (cI, 48, .inl (fun _ => 0))), (q_2, .inl (cI, 48, .inl (fun _ => 0)))] := hD
  refine va_putF (D := (dC, dI)) (ci := 0) (v := .ref q_2) (ty := .array .int) (C := R_Lists) (T := F_Lists) (N := 6) hx hb htb i_Lists t_Lists t_Lists_ok n_Lists hown hK hP hD hS 0 rfl rfl 5 (by decide) (htb _ k_fl_Lists_15) (fun _ h9 => h9) rfl hin rfl (by decide +kernel) rfl rfl (Nat.le_of_ble_eq_true rfl) d_Lists_init_17 (fun H locs hP hD hS => ?_)
  have hP : va_P (dC, dI) classes [(h, .inr (0, [.int 0, .int 0, .int 0, .int 0, .ref q_1, .ref q_2])), (q_1, .inl (cI, 48, .inl (fun _ => 0))), (q_2, .inl (cI, 48, .inl (fun _ => 0)))] H := hP
  have hD : va_D A [(h, .inr (0, [.int 0, .int 0, .int 0, .int 0, .ref q_1, .ref q_2])), (q_1, .inl (cI, 48, .inl (fun _ => 0))), (q_2, .inl (cI, 48, .inl (fun _ => 0)))] := hD
  exact W.vret hx hb hr (fun t ht hW => ⟨⟨(q_1, q_2, 0, 0, 0, 0, (fun _ => 0), (fun _ => 0)), rfl, hv, by rw [ht]; exact hP, hD⟩, hS.F ht⟩) hS.2.2 d_Lists_init_20
def v_SectorMap_init (post : Int32 → (Nat → Int32) → (Nat → Int32) → (Nat → Int32) → (Nat → Int32) → Prop) : Prop := v_Arrays_fill (fun _ => 0) (-1) (fun af_6 => post 0 (fun _ => 0) (fun _ => 0) af_6 (fun _ => 0))
abbrev q_SectorMap_init (dC : Nat → ClassId) (dI : Nat → Nat → Nat) (cI cZ : ClassId) (h : Nat) (A : Nat → Prop) (post : Int32 → (Nat → Int32) → (Nat → Int32) → (Nat → Int32) → (Nat → Int32) → Prop) : Array Value → State → Outcome → State → Prop := va_Qv (fun (u : Nat × Nat × Nat × Nat × Int32 × (Nat → Int32) × (Nat → Int32) × (Nat → Int32) × (Nat → Int32)) => post u.2.2.2.2.1 u.2.2.2.2.2.1 u.2.2.2.2.2.2.1 u.2.2.2.2.2.2.2.1 u.2.2.2.2.2.2.2.2) (fun (u : Nat × Nat × Nat × Nat × Int32 × (Nat → Int32) × (Nat → Int32) × (Nat → Int32) × (Nat → Int32)) t => va_P (dC, dI) classes [(h, .inr (2, [.int u.2.2.2.2.1, .ref u.1, .ref u.2.1, .ref u.2.2.1, .ref u.2.2.2.1])), (u.1, .inl (cI, 143, .inl u.2.2.2.2.2.1)), (u.2.1, .inl (cI, 143, .inl u.2.2.2.2.2.2.1)), (u.2.2.1, .inl (cI, 192, .inl u.2.2.2.2.2.2.2.1)), (u.2.2.2.1, .inl (cZ, 192, .inl u.2.2.2.2.2.2.2.2))] t.heap ∧ va_D A [(h, .inr (2, [.int u.2.2.2.2.1, .ref u.1, .ref u.2.1, .ref u.2.2.1, .ref u.2.2.2.1])), (u.1, .inl (cI, 143, .inl u.2.2.2.2.2.1)), (u.2.1, .inl (cI, 143, .inl u.2.2.2.2.2.2.1)), (u.2.2.1, .inl (cI, 192, .inl u.2.2.2.2.2.2.2.1)), (u.2.2.2.1, .inl (cZ, 192, .inl u.2.2.2.2.2.2.2.2))]) A
set_option maxHeartbeats 4000000 in
set_option maxRecDepth 100000 in
theorem m_SectorMap_init (l : Launch) (dC : Nat → ClassId) (dI : Nat → Nat → Nat) (cI cZ : ClassId) (h : Nat) (zz : Nat) (post : Int32 → (Nat → Int32) → (Nat → Int32) → (Nat → Int32) → (Nat → Int32) → Prop) (hv : v_SectorMap_init  post) : Met l y_SectorMap_init w_SectorMap_init ({ frames := 1, cells := 4, slots := 670, locals := 23 }) (va_Pc [.ref h] (fun U => U.heap.size = zz ∧ va_P (dC, dI) classes [(h, .inr (2, [.int 0, .null, .null, .null, .null]))] U.heap ∧ va_K (dC, dI) classes [(cI, .int), (cZ, .boolean)] U ∧ nz_N U ∧ va_D (fun _ => True) [(h, .inr (2, [.int 0, .null, .null, .null, .null]))])) (q_SectorMap_init dC dI cI cZ h (va_A [(h, .inr (2, [.int 0, .null, .null, .null, .null]))] zz) post) 4 670 (va_A [(h, .inr (2, [.int 0, .null, .null, .null, .null]))] zz) := by
  refine Met.ofW (cc := b_SectorMap_init) (maxL := 1) (ret := none) (by decide) rfl ?_
  intro p e s m args below meth c s₁ B hml hv0
  obtain ⟨rfl, hsz, hP, hK, hN, hD0⟩ := hv0
  have hx := B.exec
  have hb := B.bytes
  have hr := B.returns
  have htb := w_tbl (atoms_spec (ws := w_SectorMap_init) B.pre)
  have hown : s.vm.findClass R_SectorMap = some m.cls := findClass_of_methodNamed B.named
  have hlocks := B.notSynchronized
  have hin : meth.name = "<init>" := (name_of_methodNamed B.named B.method).1
  subst hsz
  have hD := hD0.self (sz := s.heap.size)
  generalize hAe : va_A [(h, .inr (2, [.int 0, .null, .null, .null, .null]))] s.heap.size = A at hD ⊢
  have hA : ∀ q : Nat, s.heap.size ≤ q → A q := fun q h => by rw [← hAe]; exact Or.inr h
  have hS : va_S A s.heap s.heap [] := va_S.rf
  have hl := lv_entry ([.ref h]) (n := 1) (Nat.le_of_ble_eq_true rfl)
  rw [lg_entry_eq]
  generalize (lg_sl ([.ref h]) ++ List.replicate (1 - (lg_sl ([.ref h])).length) Slot.unset).toArray = ls at hl ⊢
  have hl : lv_has ls 1 [(0, .ref h)] := hl
  refine lv_aload_n hx hb d_SectorMap_init_0 rfl (lv_at hl 0 rfl) ?_
  refine W.objInit hx hb hown (htb _ k_ml_SectorMap_3) (htb _ k_inst_Object) (htb _ k_code_Object) rfl (by rw [hml]; exact hl.1) rfl d_SectorMap_init_1 (Nat.le_of_ble_eq_true rfl) (Nat.le_of_ble_eq_true rfl) ?_
  refine W.eq (g2 := F0 m 4 ls []) rfl ?_
  refine lv_aload_n hx hb d_SectorMap_init_4 rfl (lv_at hl 0 rfl) ?_
  refine lv_sipush (v := 143) hx hb d_SectorMap_init_5 (by decide) ?_
  refine nz_newa (atype := .int) (ty := .int) (N' := 143) (a0 := (143, .inl (fun _ => 0))) hx hb (htb _ k_arr_I) rfl hK hP hD hS hA 0 rfl (fun _ => rfl) (by decide) (by decide) (by decide) (Nat.le_of_ble_eq_true rfl) (Nat.le_of_ble_eq_true rfl) d_SectorMap_init_8 (fun q_1 H hP hD hS => ?_)
  have hP : va_P (dC, dI) classes [(h, .inr (2, [.int 0, .null, .null, .null, .null])), (q_1, .inl (cI, 143, .inl (fun _ => 0)))] H := hP
  have hD : va_D A [(h, .inr (2, [.int 0, .null, .null, .null, .null])), (q_1, .inl (cI, 143, .inl (fun _ => 0)))] := hD
  refine va_putF (D := (dC, dI)) (ci := 2) (v := .ref q_1) (ty := .array .int) (C := R_SectorMap) (T := F_SectorMap) (N := 5) hx hb htb i_SectorMap t_SectorMap t_SectorMap_ok n_SectorMap hown hK hP hD hS 0 rfl rfl 1 (by decide) (htb _ k_fl_SectorMap_9) (fun _ h9 => h9) rfl hin rfl (by decide +kernel) rfl rfl (Nat.le_of_ble_eq_true rfl) d_SectorMap_init_10 (fun H locs hP hD hS => ?_)
  have hP : va_P (dC, dI) classes [(h, .inr (2, [.int 0, .ref q_1, .null, .null, .null])), (q_1, .inl (cI, 143, .inl (fun _ => 0)))] H := hP
  have hD : va_D A [(h, .inr (2, [.int 0, .ref q_1, .null, .null, .null])), (q_1, .inl (cI, 143, .inl (fun _ => 0)))] := hD
  refine lv_aload_n hx hb d_SectorMap_init_13 rfl (lv_at hl 0 rfl) ?_
  refine lv_sipush (v := 143) hx hb d_SectorMap_init_14 (by decide) ?_
  refine nz_newa (atype := .int) (ty := .int) (N' := 143) (a0 := (143, .inl (fun _ => 0))) hx hb (htb _ k_arr_I) rfl hK hP hD hS hA 0 rfl (fun _ => rfl) (by decide) (by decide) (by decide) (Nat.le_of_ble_eq_true rfl) (Nat.le_of_ble_eq_true rfl) d_SectorMap_init_17 (fun q_2 H hP hD hS => ?_)
  have hP : va_P (dC, dI) classes [(h, .inr (2, [.int 0, .ref q_1, .null, .null, .null])), (q_1, .inl (cI, 143, .inl (fun _ => 0))), (q_2, .inl (cI, 143, .inl (fun _ => 0)))] H := hP
  have hD : va_D A [(h, .inr (2, [.int 0, .ref q_1, .null, .null, .null])), (q_1, .inl (cI, 143, .inl (fun _ => 0))), (q_2, .inl (cI, 143, .inl (fun _ => 0)))] := hD
  refine va_putF (D := (dC, dI)) (ci := 2) (v := .ref q_2) (ty := .array .int) (C := R_SectorMap) (T := F_SectorMap) (N := 5) hx hb htb i_SectorMap t_SectorMap t_SectorMap_ok n_SectorMap hown hK hP hD hS 0 rfl rfl 2 (by decide) (htb _ k_fl_SectorMap_15) (fun _ h9 => h9) rfl hin rfl (by decide +kernel) rfl rfl (Nat.le_of_ble_eq_true rfl) d_SectorMap_init_19 (fun H locs hP hD hS => ?_)
  have hP : va_P (dC, dI) classes [(h, .inr (2, [.int 0, .ref q_1, .ref q_2, .null, .null])), (q_1, .inl (cI, 143, .inl (fun _ => 0))), (q_2, .inl (cI, 143, .inl (fun _ => 0)))] H := hP
  have hD : va_D A [(h, .inr (2, [.int 0, .ref q_1, .ref q_2, .null, .null])), (q_1, .inl (cI, 143, .inl (fun _ => 0))), (q_2, .inl (cI, 143, .inl (fun _ => 0)))] := hD
  refine lv_aload_n hx hb d_SectorMap_init_22 rfl (lv_at hl 0 rfl) ?_
  refine lv_sipush (v := 192) hx hb d_SectorMap_init_23 (by decide) ?_
  refine nz_newa (atype := .int) (ty := .int) (N' := 192) (a0 := (192, .inl (fun _ => 0))) hx hb (htb _ k_arr_I) rfl hK hP hD hS hA 0 rfl (fun _ => rfl) (by decide) (by decide) (by decide) (Nat.le_of_ble_eq_true rfl) (Nat.le_of_ble_eq_true rfl) d_SectorMap_init_26 (fun q_3 H hP hD hS => ?_)
  have hP : va_P (dC, dI) classes [(h, .inr (2, [.int 0, .ref q_1, .ref q_2, .null, .null])), (q_1, .inl (cI, 143, .inl (fun _ => 0))), (q_2, .inl (cI, 143, .inl (fun _ => 0))), (q_3, .inl (cI, 192, .inl (fun _ => 0)))] H := hP
  have hD : va_D A [(h, .inr (2, [.int 0, .ref q_1, .ref q_2, .null, .null])), (q_1, .inl (cI, 143, .inl (fun _ => 0))), (q_2, .inl (cI, 143, .inl (fun _ => 0))), (q_3, .inl (cI, 192, .inl (fun _ => 0)))] := hD
  refine va_putF (D := (dC, dI)) (ci := 2) (v := .ref q_3) (ty := .array .int) (C := R_SectorMap) (T := F_SectorMap) (N := 5) hx hb htb i_SectorMap t_SectorMap t_SectorMap_ok n_SectorMap hown hK hP hD hS 0 rfl rfl 3 (by decide) (htb _ k_fl_SectorMap_18) (fun _ h9 => h9) rfl hin rfl (by decide +kernel) rfl rfl (Nat.le_of_ble_eq_true rfl) d_SectorMap_init_28 (fun H locs hP hD hS => ?_)
  have hP : va_P (dC, dI) classes [(h, .inr (2, [.int 0, .ref q_1, .ref q_2, .ref q_3, .null])), (q_1, .inl (cI, 143, .inl (fun _ => 0))), (q_2, .inl (cI, 143, .inl (fun _ => 0))), (q_3, .inl (cI, 192, .inl (fun _ => 0)))] H := hP
  have hD : va_D A [(h, .inr (2, [.int 0, .ref q_1, .ref q_2, .ref q_3, .null])), (q_1, .inl (cI, 143, .inl (fun _ => 0))), (q_2, .inl (cI, 143, .inl (fun _ => 0))), (q_3, .inl (cI, 192, .inl (fun _ => 0)))] := hD
  refine lv_aload_n hx hb d_SectorMap_init_31 rfl (lv_at hl 0 rfl) ?_
  refine lv_sipush (v := 192) hx hb d_SectorMap_init_32 (by decide) ?_
  refine nz_newa (atype := .boolean) (ty := .boolean) (N' := 192) (a0 := (192, .inl (fun _ => 0))) hx hb (htb _ k_arr_Z) rfl hK hP hD hS hA 1 rfl (fun _ => rfl) (by decide) (by decide) (by decide) (Nat.le_of_ble_eq_true rfl) (Nat.le_of_ble_eq_true rfl) d_SectorMap_init_35 (fun q_4 H hP hD hS => ?_)
  have hP : va_P (dC, dI) classes [(h, .inr (2, [.int 0, .ref q_1, .ref q_2, .ref q_3, .null])), (q_1, .inl (cI, 143, .inl (fun _ => 0))), (q_2, .inl (cI, 143, .inl (fun _ => 0))), (q_3, .inl (cI, 192, .inl (fun _ => 0))), (q_4, .inl (cZ, 192, .inl (fun _ => 0)))] H := hP
  have hD : va_D A [(h, .inr (2, [.int 0, .ref q_1, .ref q_2, .ref q_3, .null])), (q_1, .inl (cI, 143, .inl (fun _ => 0))), (q_2, .inl (cI, 143, .inl (fun _ => 0))), (q_3, .inl (cI, 192, .inl (fun _ => 0))), (q_4, .inl (cZ, 192, .inl (fun _ => 0)))] := hD
  refine va_putF (D := (dC, dI)) (ci := 2) (v := .ref q_4) (ty := .array .boolean) (C := R_SectorMap) (T := F_SectorMap) (N := 5) hx hb htb i_SectorMap t_SectorMap t_SectorMap_ok n_SectorMap hown hK hP hD hS 0 rfl rfl 4 (by decide) (htb _ k_fl_SectorMap_21) (fun _ h9 => h9) rfl hin rfl (by decide +kernel) rfl rfl (Nat.le_of_ble_eq_true rfl) d_SectorMap_init_37 (fun H locs hP hD hS => ?_)
  have hP : va_P (dC, dI) classes [(h, .inr (2, [.int 0, .ref q_1, .ref q_2, .ref q_3, .ref q_4])), (q_1, .inl (cI, 143, .inl (fun _ => 0))), (q_2, .inl (cI, 143, .inl (fun _ => 0))), (q_3, .inl (cI, 192, .inl (fun _ => 0))), (q_4, .inl (cZ, 192, .inl (fun _ => 0)))] H := hP
  have hD : va_D A [(h, .inr (2, [.int 0, .ref q_1, .ref q_2, .ref q_3, .ref q_4])), (q_1, .inl (cI, 143, .inl (fun _ => 0))), (q_2, .inl (cI, 143, .inl (fun _ => 0))), (q_3, .inl (cI, 192, .inl (fun _ => 0))), (q_4, .inl (cZ, 192, .inl (fun _ => 0)))] := hD
  refine lv_aload_n hx hb d_SectorMap_init_40 rfl (lv_at hl 0 rfl) ?_
  refine va_get (D := (dC, dI)) (ci := 2) (v := .ref q_3) (C := R_SectorMap) (T := F_SectorMap) (N := 5) hx hb htb i_SectorMap hown hK hP 0 rfl rfl 3 (by decide) (htb _ k_fl_SectorMap_18) (fun _ h9 => h9) rfl d_SectorMap_init_41 ?_
  refine lv_iconst (v := (-1)) hx hb d_SectorMap_init_44 (by decide) ?_
  have hPc := hP.sub (ws' := [(q_3, .inl (cI, 192, .inl (fun _ => 0)))]) [3] rfl
  have hDc := hD.sub (ws' := [(q_3, .inl (cI, 192, .inl (fun _ => 0)))]) [3] (by decide) rfl
  refine cz_v (wr := [(h, .inr (2, [.int 0, .ref q_1, .ref q_2, .ref q_3, .ref q_4])), (q_1, .inl (cI, 143, .inl (fun _ => 0))), (q_2, .inl (cI, 143, .inl (fun _ => 0))), (q_4, .inl (cZ, 192, .inl (fun _ => 0)))]) (va_runS (As := [.ref q_3, .int (-1)]) (rest := []) ⟨hx, hb, hml, hown, htb⟩ (m_Arrays_fill l dC dI cI cZ q_3 _ (fun _ => 0) (-1) _ hv) (va_cwS 2 htb (gz_T k_ml_SectorMap_25 k_stat_Arrays_fill k_init_Arrays k_code_Arrays_fill) rfl rfl rfl (by decide +kernel) ⟨Nat.le_of_ble_eq_true rfl, Nat.le_of_ble_eq_true rfl⟩) (pz_S hPc hK hN hDc) rfl rfl hl.1 rfl (lv_room (Nat.le_of_ble_eq_true rfl)) d_SectorMap_init_45 ⟨Nat.le_of_ble_eq_true rfl, Nat.le_of_ble_eq_true rfl⟩) hP hD hS hA [3] [0, 1, 2, 4] rfl rfl (by decide) (by decide) (fun u H locs hv hP hD hS => ?_)
  obtain ⟨af_6, rfl⟩ : ∃ z, z = u := ⟨_, rfl⟩
  have hP : va_P (dC, dI) classes [(h, .inr (2, [.int 0, .ref q_1, .ref q_2, .ref q_3, .ref q_4])), (q_1, .inl (cI, 143, .inl (fun _ => 0))), (q_2, .inl (cI, 143, .inl (fun _ => 0))), (q_3, .inl (cI, 192, .inl af_6)), (q_4, .inl (cZ, 192, .inl (fun _ => 0)))] H := hP.sub [0, 1, 2, 4, 3] rfl
  have hD : va_D A [(h, .inr (2, [.int 0, .ref q_1, .ref q_2, .ref q_3, .ref q_4])), (q_1, .inl (cI, 143, .inl (fun _ => 0))), (q_2, .inl (cI, 143, .inl (fun _ => 0))), (q_3, .inl (cI, 192, .inl af_6)), (q_4, .inl (cZ, 192, .inl (fun _ => 0)))] := hD.sub [0, 1, 2, 4, 3] (by decide) rfl
  exact W.vret hx hb hr (fun t ht hW => ⟨⟨(q_1, q_2, q_3, q_4, 0, (fun _ => 0), (fun _ => 0), af_6, (fun _ => 0)), rfl, hv, by rw [ht]; exact hP, hD⟩, hS.F ht⟩) hS.2.2 d_SectorMap_init_48
