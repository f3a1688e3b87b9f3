def v_Lists_entries (av : Int32) (ac : Int32) (ap : Int32) (aq : Int32) (af : Nat → Int32) (ag : Nat → Int32) (post : Int32 → Prop) : Prop := post (ap + aq)
set_option maxHeartbeats 4000000 in
set_option maxRecDepth 100000 in
theorem m_Lists_entries (l : Launch) (dC : Nat → ClassId) (dI : Nat → Nat → Nat) (cI cZ : ClassId) (ah ahs aht : Nat) (zz : Nat) (av : Int32) (ac : Int32) (ap : Int32) (aq : Int32) (af : Nat → Int32) (ag : Nat → Int32) (post : Int32 → Prop) (hv : v_Lists_entries av ac ap aq af ag post) : Met l y_Lists_entries w_Lists_entries ({ frames := 0, cells := 0, slots := 0, locals := 0 }) (va_Pc [.ref ah] (fun U => U.heap.size = zz ∧ va_P (dC, dI) classes [(ah, .inr (0, [.int av, .int ac, .int ap, .int aq, .ref ahs, .ref aht])), (ahs, .inl (cI, 48, .inl af)), (aht, .inl (cI, 48, .inl ag))] U.heap ∧ va_K (dC, dI) classes [(cI, .int), (cZ, .boolean)] U ∧ nz_N U)) (va_Qi (fun (r : Int32) (_ : Unit) => post r ) (fun _ _ => True) (fun q : Nat => zz ≤ q)) 0 0 (fun q : Nat => zz ≤ q) := by
  refine Met.ofW (cc := b_Lists_entries) (maxL := 1) (ret := (some .int)) (by decide) rfl ?_
  intro p e s m args below meth c s₁ B hml hv0
  obtain ⟨rfl, hsz, hP, hK, hN⟩ := hv0
  have hx := B.exec
  have hb := B.bytes
  have hr := B.returns
  have htb := w_tbl (atoms_spec (ws := w_Lists_entries) B.pre)
  have hown : s.vm.findClass R_Lists = some m.cls := findClass_of_methodNamed B.named
  have hlocks := B.notSynchronized
  subst hsz
  have hA : ∀ q : Nat, s.heap.size ≤ q → (fun q : Nat => s.heap.size ≤ q) q := fun _ h => h
  have hS : va_S (fun q : Nat => s.heap.size ≤ q) s.heap s.heap [] := va_S.rf
  have hl := lv_entry ([.ref ah]) (n := 1) (Nat.le_of_ble_eq_true rfl)
  rw [lg_entry_eq]
  generalize (lg_sl ([.ref ah]) ++ List.replicate (1 - (lg_sl ([.ref ah])).length) Slot.unset).toArray = ls at hl ⊢
  have hl : lv_has ls 1 [(0, .ref ah)] := hl
  refine lv_aload_n hx hb d_Lists_entries_0 rfl (lv_at hl 0 rfl) ?_
  refine va_get (D := (dC, dI)) (ci := 0) (v := .int ap) (C := R_Lists) (T := F_Lists) (N := 6) hx hb htb i_Lists hown hK hP 0 rfl rfl 2 (by decide) (htb _ k_fl_Lists_18) (fun _ h9 => h9) rfl d_Lists_entries_1 ?_
  refine lv_aload_n hx hb d_Lists_entries_4 rfl (lv_at hl 0 rfl) ?_
  refine va_get (D := (dC, dI)) (ci := 0) (v := .int aq) (C := R_Lists) (T := F_Lists) (N := 6) hx hb htb i_Lists hown hK hP 0 rfl rfl 3 (by decide) (htb _ k_fl_Lists_22) (fun _ h9 => h9) rfl d_Lists_entries_5 ?_
  refine lv_iadd hx hb d_Lists_entries_8 ?_
  exact W.iret (v := ap + aq) hx hb hr (fun t ht hW => ⟨⟨ap + aq, (), rfl, hv, trivial⟩, hS.F ht⟩) hS.2.2 d_Lists_entries_9
def vb_Lists_pairOf_2 (ap : Int32) (aq : Int32) (af : Nat → Int32) (p0 : Int32) (post : Int32 → Prop) (K2 : Int32 → Prop) (x2 : Int32) : Prop := ((aq ≤ x2 → post (-1)) ∧ (¬ aq ≤ x2 → (vp_in (ap + x2) 48 ∧ ((¬ (af (ap + x2).toNatClampNeg) = p0 → K2 (x2 + 1)) ∧ ((af (ap + x2).toNatClampNeg) = p0 → post x2)))))
def v_Lists_pairOf_2 (ap : Int32) (aq : Int32) (af : Nat → Int32) (p0 : Int32) (post : Int32 → Prop) : Nat → Int32 → Prop
  | 0 => fun _ => False
  | n + 1 => vb_Lists_pairOf_2 ap aq af p0 post (v_Lists_pairOf_2 ap aq af p0 post n)
def v_Lists_pairOf (av : Int32) (ac : Int32) (ap : Int32) (aq : Int32) (af : Nat → Int32) (ag : Nat → Int32) (p0 : Int32) (post : Int32 → Prop) : Prop := ∃ n, v_Lists_pairOf_2 ap aq af p0 post n 0
set_option maxHeartbeats 4000000 in
set_option maxRecDepth 100000 in
theorem m_Lists_pairOf (l : Launch) (dC : Nat → ClassId) (dI : Nat → Nat → Nat) (cI cZ : ClassId) (ah ahs aht : Nat) (zz : Nat) (av : Int32) (ac : Int32) (ap : Int32) (aq : Int32) (af : Nat → Int32) (ag : Nat → Int32) (p0 : Int32) (post : Int32 → Prop) (hv : v_Lists_pairOf av ac ap aq af ag p0 post) : Met l y_Lists_pairOf w_Lists_pairOf ({ frames := 0, cells := 0, slots := 0, locals := 0 }) (va_Pc [.ref ah, .int p0] (fun U => U.heap.size = zz ∧ va_P (dC, dI) classes [(ah, .inr (0, [.int av, .int ac, .int ap, .int aq, .ref ahs, .ref aht])), (ahs, .inl (cI, 48, .inl af)), (aht, .inl (cI, 48, .inl ag))] U.heap ∧ va_K (dC, dI) classes [(cI, .int), (cZ, .boolean)] U ∧ nz_N U)) (va_Qi (fun (r : Int32) (_ : Unit) => post r ) (fun _ _ => True) (fun q : Nat => zz ≤ q)) 0 0 (fun q : Nat => zz ≤ q) := by
  refine Met.ofW (cc := b_Lists_pairOf) (maxL := 3) (ret := (some .int)) (by decide) rfl ?_
  intro p e s m args below meth c s₁ B hml hv0
  obtain ⟨rfl, hsz, hP, hK, hN⟩ := hv0
  have hx := B.exec
  have hb := B.bytes
  have hr := B.returns
  have htb := w_tbl (atoms_spec (ws := w_Lists_pairOf) B.pre)
  have hown : s.vm.findClass R_Lists = some m.cls := findClass_of_methodNamed B.named
  have hlocks := B.notSynchronized
  subst hsz
  have hA : ∀ q : Nat, s.heap.size ≤ q → (fun q : Nat => s.heap.size ≤ q) q := fun _ h => h
  have hS : va_S (fun q : Nat => s.heap.size ≤ q) s.heap s.heap [] := va_S.rf
  have hl := lv_entry ([.ref ah, .int p0]) (n := 3) (Nat.le_of_ble_eq_true rfl)
  rw [lg_entry_eq]
  generalize (lg_sl ([.ref ah, .int p0]) ++ List.replicate (3 - (lg_sl ([.ref ah, .int p0])).length) Slot.unset).toArray = ls at hl ⊢
  have hl : lv_has ls 3 [(0, .ref ah), (1, .int p0)] := hl
  have J2 : ∀ (n : Nat) (x2 : Int32) (H : Heap), v_Lists_pairOf_2 ap aq af p0 post n x2 → va_P (dC, dI) classes [(ah, .inr (0, [.int av, .int ac, .int ap, .int aq, .ref ahs, .ref aht])), (ahs, .inl (cI, 48, .inl af)), (aht, .inl (cI, 48, .inl ag))] H → va_S (fun q : Nat => s.heap.size ≤ q) s.heap H [] → ∀ ls : Array Slot, lv_has ls 3 [(0, .ref ah), (1, .int p0), (2, .int x2)] → W p l e (headSpec w_Lists_pairOf ({ frames := 0, cells := 0, slots := 0, locals := 0 })).room s m ([.ref ah, .int p0] : List Value).toArray below meth c H [] 0 0 (MQ below (va_Qi (fun (r : Int32) (_ : Unit) => post r ) (fun _ _ => True) (fun q : Nat => s.heap.size ≤ q)) ([.ref ah, .int p0] : List Value).toArray s 0 0 (fun q : Nat => s.heap.size ≤ q)) (F0 m 2 ls []) := by
    intro  n2
    induction n2 with
    | zero =>
      intro x2 H hv
      exact absurd hv id
    | succ n2 ih2 =>
      intro x2 H hv hP hS ls hl
      have hv : vb_Lists_pairOf_2 ap aq af p0 post (v_Lists_pairOf_2 ap aq af p0 post n2) x2 := hv
      refine lv_iload_n hx hb d_Lists_pairOf_2 rfl (lv_at hl 2 rfl) ?_
      refine lv_aload_n hx hb d_Lists_pairOf_3 rfl (lv_at hl 0 rfl) ?_
      refine va_get (D := (dC, dI)) (ci := 0) (v := .int aq) (C := R_Lists) (T := F_Lists) (N := 6) hx hb htb i_Lists hown hK hP 0 rfl rfl 3 (by decide) (htb _ k_fl_Lists_22) (fun _ h9 => h9) rfl d_Lists_pairOf_4 ?_
      refine lv_icmp_ge (tgt := 33) hx hb d_Lists_pairOf_7 (by decide) (fun c_1 => ?_) (fun c_1 => ?_)
      · have hv := hv.1 c_1
        refine lv_iconst (v := (-1)) hx hb d_Lists_pairOf_33 (by decide) ?_
        exact W.iret (v := (-1)) hx hb hr (fun t ht hW => ⟨⟨(-1), (), rfl, hv, trivial⟩, hS.F ht⟩) hS.2.2 d_Lists_pairOf_34
      · have hv := hv.2 c_1
        refine lv_aload_n hx hb d_Lists_pairOf_10 rfl (lv_at hl 0 rfl) ?_
        refine va_get (D := (dC, dI)) (ci := 0) (v := .ref ahs) (C := R_Lists) (T := F_Lists) (N := 6) hx hb htb i_Lists hown hK hP 0 rfl rfl 4 (by decide) (htb _ k_fl_Lists_9) (fun _ h9 => h9) rfl d_Lists_pairOf_11 ?_
        refine lv_aload_n hx hb d_Lists_pairOf_14 rfl (lv_at hl 0 rfl) ?_
        refine va_get (D := (dC, dI)) (ci := 0) (v := .int ap) (C := R_Lists) (T := F_Lists) (N := 6) hx hb htb i_Lists hown hK hP 0 rfl rfl 2 (by decide) (htb _ k_fl_Lists_18) (fun _ h9 => h9) rfl d_Lists_pairOf_15 ?_
        refine lv_iload_n hx hb d_Lists_pairOf_18 rfl (lv_at hl 2 rfl) ?_
        refine lv_iadd hx hb d_Lists_pairOf_19 ?_
        obtain ⟨h_2, hv⟩ := hv
        refine va_iald hx hb hK hP 1 0 rfl rfl h_2 d_Lists_pairOf_20 ?_
        refine lv_iload_n hx hb d_Lists_pairOf_21 rfl (lv_at hl 1 rfl) ?_
        refine lv_icmp_ne (tgt := 27) hx hb d_Lists_pairOf_22 (by decide) (fun c_3 => ?_) (fun c_3 => ?_)
        · have hv := hv.1 c_3
          refine lv_iinc (v := x2 + 1) (lv' := [(2, .int (x2 + 1)), (0, .ref ah), (1, .int p0)]) hx hb d_Lists_pairOf_27 hl (k := 2) rfl rfl (by decide) rfl (fun ls hl => ?_)
          refine lv_goto (tgt := 2) hx hb d_Lists_pairOf_30 (by decide) ?_
          exact ih2 (x2 + 1) _ hv hP hS ls (lv_sub hl [1, 2, 0] rfl)
        · have hv := hv.2 c_3
          refine lv_iload_n hx hb d_Lists_pairOf_25 rfl (lv_at hl 2 rfl) ?_
          exact W.iret (v := x2) hx hb hr (fun t ht hW => ⟨⟨x2, (), rfl, hv, trivial⟩, hS.F ht⟩) hS.2.2 d_Lists_pairOf_26
  refine lv_iconst (v := 0) hx hb d_Lists_pairOf_0 (by decide) ?_
  refine lv_istore_n (lv' := [(2, .int 0), (0, .ref ah), (1, .int p0)]) hx hb d_Lists_pairOf_1 rfl hl (by decide) rfl (fun ls hl => ?_)
  obtain ⟨n_2, hv⟩ := hv
  exact J2  n_2 0 _ hv hP hS ls (lv_sub hl [1, 2, 0] rfl)
def v_Lists_hasRoomForPairOf (av : Int32) (ac : Int32) (ap : Int32) (aq : Int32) (af : Nat → Int32) (ag : Nat → Int32) (p0 : Int32) (post : Int32 → Prop) : Prop := v_Lists_pairOf av ac ap aq af ag p0 (fun r_1 => ((¬ r_1 = (-1) → post 1) ∧ (r_1 = (-1) → ((20 ≤ aq → post 0) ∧ (¬ 20 ≤ aq → v_Lists_entries av ac ap aq af ag (fun r_4 => ((48 ≤ r_4 → post 0) ∧ (¬ 48 ≤ r_4 → post 1))))))))
set_option maxHeartbeats 4000000 in
set_option maxRecDepth 100000 in
theorem m_Lists_hasRoomForPairOf (l : Launch) (dC : Nat → ClassId) (dI : Nat → Nat → Nat) (cI cZ : ClassId) (ah ahs aht : Nat) (zz : Nat) (av : Int32) (ac : Int32) (ap : Int32) (aq : Int32) (af : Nat → Int32) (ag : Nat → Int32) (p0 : Int32) (post : Int32 → Prop) (hv : v_Lists_hasRoomForPairOf av ac ap aq af ag p0 post) : Met l y_Lists_hasRoomForPairOf w_Lists_hasRoomForPairOf ({ frames := 1, cells := 0, slots := 0, locals := 22 }) (va_Pc [.ref ah, .int p0] (fun U => U.heap.size = zz ∧ va_P (dC, dI) classes [(ah, .inr (0, [.int av, .int ac, .int ap, .int aq, .ref ahs, .ref aht])), (ahs, .inl (cI, 48, .inl af)), (aht, .inl (cI, 48, .inl ag))] U.heap ∧ va_K (dC, dI) classes [(cI, .int), (cZ, .boolean)] U ∧ nz_N U)) (va_Qi (fun (r : Int32) (_ : Unit) => post r ) (fun _ _ => True) (fun q : Nat => zz ≤ q)) 0 0 (fun q : Nat => zz ≤ q) := by
  refine Met.ofW (cc := b_Lists_hasRoomForPairOf) (maxL := 2) (ret := (some .boolean)) (by decide) rfl ?_
  intro p e s m args below meth c s₁ B hml hv0
  obtain ⟨rfl, hsz, hP, hK, hN⟩ := hv0
  have hx := B.exec
  have hb := B.bytes
  have hr := B.returns
  have htb := w_tbl (atoms_spec (ws := w_Lists_hasRoomForPairOf) B.pre)
  have hown : s.vm.findClass R_Lists = some m.cls := findClass_of_methodNamed B.named
  have hlocks := B.notSynchronized
  subst hsz
  have hA : ∀ q : Nat, s.heap.size ≤ q → (fun q : Nat => s.heap.size ≤ q) q := fun _ h => h
  have hS : va_S (fun q : Nat => s.heap.size ≤ q) s.heap s.heap [] := va_S.rf
  have hl := lv_entry ([.ref ah, .int p0]) (n := 2) (Nat.le_of_ble_eq_true rfl)
  rw [lg_entry_eq]
  generalize (lg_sl ([.ref ah, .int p0]) ++ List.replicate (2 - (lg_sl ([.ref ah, .int p0])).length) Slot.unset).toArray = ls at hl ⊢
  have hl : lv_has ls 2 [(0, .ref ah), (1, .int p0)] := hl
  refine lv_aload_n hx hb d_Lists_hasRoomForPairOf_0 rfl (lv_at hl 0 rfl) ?_
  refine lv_iload_n hx hb d_Lists_hasRoomForPairOf_1 rfl (lv_at hl 1 rfl) ?_
  have hPc := hP.sub (ws' := [(ah, .inr (0, [.int av, .int ac, .int ap, .int aq, .ref ahs, .ref aht])), (ahs, .inl (cI, 48, .inl af)), (aht, .inl (cI, 48, .inl ag))]) [0, 1, 2] rfl
  refine cz_r (va_runV (As := [.int p0]) (rest := []) ⟨hx, hb, hml, hown, htb⟩ (m_Lists_pairOf l dC dI cI cZ ah ahs aht _ av ac ap aq af ag p0 _ hv) (cwV 1 htb (gz_V k_ml_Lists_25 k_inst_Lists_pairOf k_sel_Lists_pairOf k_init_Lists k_code_Lists_pairOf) rfl rfl rfl (by decide +kernel) ⟨Nat.le_of_ble_eq_true rfl, Nat.le_of_ble_eq_true rfl⟩) (pz_VR (ci := 0) (q0 := 0) hPc hK hN rfl rfl) rfl rfl hl.1 rfl (lv_room (Nat.le_of_ble_eq_true rfl)) d_Lists_hasRoomForPairOf_2 ⟨Nat.le_of_ble_eq_true rfl, Nat.le_of_ble_eq_true rfl⟩) hP hS hA (fun r_1 H hv hP hS => ?_)
  refine lv_iconst (v := (-1)) hx hb d_Lists_hasRoomForPairOf_5 (by decide) ?_
  refine lv_icmp_ne (tgt := 27) hx hb d_Lists_hasRoomForPairOf_6 (by decide) (fun c_2 => ?_) (fun c_2 => ?_)
  · have hv := hv.1 c_2
    refine lv_iconst (v := 1) hx hb d_Lists_hasRoomForPairOf_27 (by decide) ?_
    refine lv_goto (tgt := 32) hx hb d_Lists_hasRoomForPairOf_28 (by decide) ?_
    exact W.zret (v := 1) hx hb hr rfl (fun t ht hW => ⟨⟨1, (), rfl, hv, trivial⟩, hS.F ht⟩) hS.2.2 d_Lists_hasRoomForPairOf_32
  · have hv := hv.2 c_2
    refine lv_aload_n hx hb d_Lists_hasRoomForPairOf_9 rfl (lv_at hl 0 rfl) ?_
    refine va_get (D := (dC, dI)) (ci := 0) (v := .int aq) (C := R_Lists) (T := F_Lists) (N := 6) hx hb htb i_Lists hown hK hP 0 rfl rfl 3 (by decide) (htb _ k_fl_Lists_22) (fun _ h9 => h9) rfl d_Lists_hasRoomForPairOf_10 ?_
    refine lv_bipush (v := 20) hx hb d_Lists_hasRoomForPairOf_13 (by decide) ?_
    refine lv_icmp_ge (tgt := 31) hx hb d_Lists_hasRoomForPairOf_15 (by decide) (fun c_3 => ?_) (fun c_3 => ?_)
    · have hv := hv.1 c_3
      refine lv_iconst (v := 0) hx hb d_Lists_hasRoomForPairOf_31 (by decide) ?_
      exact W.zret (v := 0) hx hb hr rfl (fun t ht hW => ⟨⟨0, (), rfl, hv, trivial⟩, hS.F ht⟩) hS.2.2 d_Lists_hasRoomForPairOf_32
    · have hv := hv.2 c_3
      refine lv_aload_n hx hb d_Lists_hasRoomForPairOf_18 rfl (lv_at hl 0 rfl) ?_
      have hPc := hP.sub (ws' := [(ah, .inr (0, [.int av, .int ac, .int ap, .int aq, .ref ahs, .ref aht])), (ahs, .inl (cI, 48, .inl af)), (aht, .inl (cI, 48, .inl ag))]) [0, 1, 2] rfl
      refine cz_r (va_runV (As := []) (rest := []) ⟨hx, hb, hml, hown, htb⟩ (m_Lists_entries l dC dI cI cZ ah ahs aht _ av ac ap aq af ag _ hv) (cwV 0 htb (gz_V k_ml_Lists_29 k_inst_Lists_entries k_sel_Lists_entries k_init_Lists k_code_Lists_entries) rfl rfl rfl (by decide +kernel) ⟨Nat.le_of_ble_eq_true rfl, Nat.le_of_ble_eq_true rfl⟩) (pz_VR (ci := 0) (q0 := 0) hPc hK hN rfl rfl) rfl rfl hl.1 rfl (lv_room (Nat.le_of_ble_eq_true rfl)) d_Lists_hasRoomForPairOf_19 ⟨Nat.le_of_ble_eq_true rfl, Nat.le_of_ble_eq_true rfl⟩) hP hS hA (fun r_4 H hv hP hS => ?_)
      refine lv_bipush (v := 48) hx hb d_Lists_hasRoomForPairOf_22 (by decide) ?_
      refine lv_icmp_ge (tgt := 31) hx hb d_Lists_hasRoomForPairOf_24 (by decide) (fun c_5 => ?_) (fun c_5 => ?_)
      · have hv := hv.1 c_5
        refine lv_iconst (v := 0) hx hb d_Lists_hasRoomForPairOf_31 (by decide) ?_
        exact W.zret (v := 0) hx hb hr rfl (fun t ht hW => ⟨⟨0, (), rfl, hv, trivial⟩, hS.F ht⟩) hS.2.2 d_Lists_hasRoomForPairOf_32
      · have hv := hv.2 c_5
        refine lv_iconst (v := 1) hx hb d_Lists_hasRoomForPairOf_27 (by decide) ?_
        refine lv_goto (tgt := 32) hx hb d_Lists_hasRoomForPairOf_28 (by decide) ?_
        exact W.zret (v := 1) hx hb hr rfl (fun t ht hW => ⟨⟨1, (), rfl, hv, trivial⟩, hS.F ht⟩) hS.2.2 d_Lists_hasRoomForPairOf_32
def v_Lists_becomeEmpty (av : Int32) (ac : Int32) (ap : Int32) (aq : Int32) (af : Nat → Int32) (ag : Nat → Int32) (p0 : Int32) (post : Int32 → Int32 → Int32 → Prop) : Prop := post p0 0 0
abbrev q_Lists_becomeEmpty (dC : Nat → ClassId) (dI : Nat → Nat → Nat) (cI cZ : ClassId) (ah ahs aht : Nat) (av : Int32) (ac : Int32) (ap : Int32) (aq : Int32) (af : Nat → Int32) (ag : Nat → Int32) (A : Nat → Prop) (post : Int32 → Int32 → Int32 → Prop) : Array Value → State → Outcome → State → Prop := va_Qv (fun (u : Int32 × Int32 × Int32) => post u.1 u.2.1 u.2.2) (fun (u : Int32 × Int32 × Int32) t => va_P (dC, dI) classes [(ah, .inr (0, [.int u.1, .int ac, .int u.2.1, .int u.2.2, .ref ahs, .ref aht])), (ahs, .inl (cI, 48, .inl af)), (aht, .inl (cI, 48, .inl ag))] t.heap ∧ va_D A [(ah, .inr (0, [.int u.1, .int ac, .int u.2.1, .int u.2.2, .ref ahs, .ref aht])), (ahs, .inl (cI, 48, .inl af)), (aht, .inl (cI, 48, .inl ag))]) A
set_option maxHeartbeats 4000000 in
set_option maxRecDepth 100000 in
theorem m_Lists_becomeEmpty (l : Launch) (dC : Nat → ClassId) (dI : Nat → Nat → Nat) (cI cZ : ClassId) (ah ahs aht : Nat) (zz : Nat) (av : Int32) (ac : Int32) (ap : Int32) (aq : Int32) (af : Nat → Int32) (ag : Nat → Int32) (p0 : Int32) (post : Int32 → Int32 → Int32 → Prop) (hv : v_Lists_becomeEmpty av ac ap aq af ag p0 post) : Met l y_Lists_becomeEmpty w_Lists_becomeEmpty ({ frames := 0, cells := 0, slots := 0, locals := 0 }) (va_Pc [.ref ah, .int p0] (fun U => U.heap.size = zz ∧ va_P (dC, dI) classes [(ah, .inr (0, [.int av, .int ac, .int ap, .int aq, .ref ahs, .ref aht])), (ahs, .inl (cI, 48, .inl af)), (aht, .inl (cI, 48, .inl ag))] U.heap ∧ va_K (dC, dI) classes [(cI, .int), (cZ, .boolean)] U ∧ nz_N U ∧ va_D (fun _ => True) [(ah, .inr (0, [.int av, .int ac, .int ap, .int aq, .ref ahs, .ref aht])), (ahs, .inl (cI, 48, .inl af)), (aht, .inl (cI, 48, .inl ag))])) (q_Lists_becomeEmpty dC dI cI cZ ah ahs aht av ac ap aq af ag (va_A [(ah, .inr (0, [.int av, .int ac, .int ap, .int aq, .ref ahs, .ref aht])), (ahs, .inl (cI, 48, .inl af)), (aht, .inl (cI, 48, .inl ag))] zz) post) 0 0 (va_A [(ah, .inr (0, [.int av, .int ac, .int ap, .int aq, .ref ahs, .ref aht])), (ahs, .inl (cI, 48, .inl af)), (aht, .inl (cI, 48, .inl ag))] zz) := by
  refine Met.ofW (cc := b_Lists_becomeEmpty) (maxL := 2) (ret := none) (by decide) rfl ?_
  intro p e s m args below meth c s₁ B hml hv0
  obtain ⟨rfl, hsz, hP, hK, hN, hD0⟩ := hv0
  have hx := B.exec
  have hb := B.bytes
  have hr := B.returns
  have htb := w_tbl (atoms_spec (ws := w_Lists_becomeEmpty) B.pre)
  have hown : s.vm.findClass R_Lists = some m.cls := findClass_of_methodNamed B.named
  have hlocks := B.notSynchronized
  subst hsz
  have hD := hD0.self (sz := s.heap.size)
  generalize hAe : va_A [(ah, .inr (0, [.int av, .int ac, .int ap, .int aq, .ref ahs, .ref aht])), (ahs, .inl (cI, 48, .inl af)), (aht, .inl (cI, 48, .inl ag))] s.heap.size = A at hD ⊢
  have hA : ∀ q : Nat, s.heap.size ≤ q → A q := fun q h => by rw [← hAe]; exact Or.inr h
  have hS : va_S A s.heap s.heap [] := va_S.rf
  have hl := lv_entry ([.ref ah, .int p0]) (n := 2) (Nat.le_of_ble_eq_true rfl)
  rw [lg_entry_eq]
  generalize (lg_sl ([.ref ah, .int p0]) ++ List.replicate (2 - (lg_sl ([.ref ah, .int p0])).length) Slot.unset).toArray = ls at hl ⊢
  have hl : lv_has ls 2 [(0, .ref ah), (1, .int p0)] := hl
  refine lv_aload_n hx hb d_Lists_becomeEmpty_0 rfl (lv_at hl 0 rfl) ?_
  refine lv_iload_n hx hb d_Lists_becomeEmpty_1 rfl (lv_at hl 1 rfl) ?_
  refine va_put (D := (dC, dI)) (ci := 0) (v := .int p0) (ty := .int) (C := R_Lists) (T := F_Lists) (N := 6) hx hb htb i_Lists t_Lists t_Lists_ok n_Lists hown hK hP hD hS 0 rfl rfl 0 (by decide) (htb _ k_fl_Lists_33) (fun _ h9 => h9) rfl (by decide +kernel) rfl rfl (Nat.le_of_ble_eq_true rfl) d_Lists_becomeEmpty_2 (fun H locs hP hD hS => ?_)
  have hP : va_P (dC, dI) classes [(ah, .inr (0, [.int p0, .int ac, .int ap, .int aq, .ref ahs, .ref aht])), (ahs, .inl (cI, 48, .inl af)), (aht, .inl (cI, 48, .inl ag))] H := hP
  have hD : va_D A [(ah, .inr (0, [.int p0, .int ac, .int ap, .int aq, .ref ahs, .ref aht])), (ahs, .inl (cI, 48, .inl af)), (aht, .inl (cI, 48, .inl ag))] := hD
  refine lv_aload_n hx hb d_Lists_becomeEmpty_5 rfl (lv_at hl 0 rfl) ?_
  refine lv_iconst (v := 0) hx hb d_Lists_becomeEmpty_6 (by decide) ?_
  refine va_put (D := (dC, dI)) (ci := 0) (v := .int 0) (ty := .int) (C := R_Lists) (T := F_Lists) (N := 6) hx hb htb i_Lists t_Lists t_Lists_ok n_Lists hown hK hP hD hS 0 rfl rfl 2 (by decide) (htb _ k_fl_Lists_18) (fun _ h9 => h9) rfl (by decide +kernel) rfl rfl (Nat.le_of_ble_eq_true rfl) d_Lists_becomeEmpty_7 (fun H locs hP hD hS => ?_)
  have hP : va_P (dC, dI) classes [(ah, .inr (0, [.int p0, .int ac, .int 0, .int aq, .ref ahs, .ref aht])), (ahs, .inl (cI, 48, .inl af)), (aht, .inl (cI, 48, .inl ag))] H := hP
  have hD : va_D A [(ah, .inr (0, [.int p0, .int ac, .int 0, .int aq, .ref ahs, .ref aht])), (ahs, .inl (cI, 48, .inl af)), (aht, .inl (cI, 48, .inl ag))] := hD
  refine lv_aload_n hx hb d_Lists_becomeEmpty_10 rfl (lv_at hl 0 rfl) ?_
  refine lv_iconst (v := 0) hx hb d_Lists_becomeEmpty_11 (by decide) ?_
  refine va_put (D := (dC, dI)) (ci := 0) (v := .int 0) (ty := .int) (C := R_Lists) (T := F_Lists) (N := 6) hx hb htb i_Lists t_Lists t_Lists_ok n_Lists hown hK hP hD hS 0 rfl rfl 3 (by decide) (htb _ k_fl_Lists_22) (fun _ h9 => h9) rfl (by decide +kernel) rfl rfl (Nat.le_of_ble_eq_true rfl) d_Lists_becomeEmpty_12 (fun H locs hP hD hS => ?_)
  have hP : va_P (dC, dI) classes [(ah, .inr (0, [.int p0, .int ac, .int 0, .int 0, .ref ahs, .ref aht])), (ahs, .inl (cI, 48, .inl af)), (aht, .inl (cI, 48, .inl ag))] H := hP
  have hD : va_D A [(ah, .inr (0, [.int p0, .int ac, .int 0, .int 0, .ref ahs, .ref aht])), (ahs, .inl (cI, 48, .inl af)), (aht, .inl (cI, 48, .inl ag))] := hD
  exact W.vret hx hb hr (fun t ht hW => ⟨⟨(p0, 0, 0), rfl, hv, by rw [ht]; exact hP, hD⟩, hS.F ht⟩) hS.2.2 d_Lists_becomeEmpty_15
def v_Lists_addPrimary (av : Int32) (ac : Int32) (ap : Int32) (aq : Int32) (af : Nat → Int32) (ag : Nat → Int32) (p0 : Int32) (post : Int32 → (Nat → Int32) → (Nat → Int32) → Prop) : Prop := v_Lists_entries av ac ap aq af ag (fun r_1 => ((48 ≤ r_1 → post ap af ag) ∧ (¬ 48 ≤ r_1 → (vp_in ap 48 ∧ (vp_in ap 48 ∧ post (ap + 1) (upd af ap.toNatClampNeg p0) (upd ag ap.toNatClampNeg (-1)))))))
abbrev q_Lists_addPrimary (dC : Nat → ClassId) (dI : Nat → Nat → Nat) (cI cZ : ClassId) (ah ahs aht : Nat) (av : Int32) (ac : Int32) (ap : Int32) (aq : Int32) (af : Nat → Int32) (ag : Nat → Int32) (A : Nat → Prop) (post : Int32 → (Nat → Int32) → (Nat → Int32) → Prop) : Array Value → State → Outcome → State → Prop := va_Qv (fun (u : Int32 × (Nat → Int32) × (Nat → Int32)) => post u.1 u.2.1 u.2.2) (fun (u : Int32 × (Nat → Int32) × (Nat → Int32)) t => va_P (dC, dI) classes [(ah, .inr (0, [.int av, .int ac, .int u.1, .int aq, .ref ahs, .ref aht])), (ahs, .inl (cI, 48, .inl u.2.1)), (aht, .inl (cI, 48, .inl u.2.2))] t.heap ∧ va_D A [(ah, .inr (0, [.int av, .int ac, .int u.1, .int aq, .ref ahs, .ref aht])), (ahs, .inl (cI, 48, .inl u.2.1)), (aht, .inl (cI, 48, .inl u.2.2))]) A
set_option maxHeartbeats 4000000 in
set_option maxRecDepth 100000 in
theorem m_Lists_addPrimary (l : Launch) (dC : Nat → ClassId) (dI : Nat → Nat → Nat) (cI cZ : ClassId) (ah ahs aht : Nat) (zz : Nat) (av : Int32) (ac : Int32) (ap : Int32) (aq : Int32) (af : Nat → Int32) (ag : Nat → Int32) (p0 : Int32) (post : Int32 → (Nat → Int32) → (Nat → Int32) → Prop) (hv : v_Lists_addPrimary av ac ap aq af ag p0 post) : Met l y_Lists_addPrimary w_Lists_addPrimary ({ frames := 1, cells := 0, slots := 0, locals := 20 }) (va_Pc [.ref ah, .int p0] (fun U => U.heap.size = zz ∧ va_P (dC, dI) classes [(ah, .inr (0, [.int av, .int ac, .int ap, .int aq, .ref ahs, .ref aht])), (ahs, .inl (cI, 48, .inl af)), (aht, .inl (cI, 48, .inl ag))] U.heap ∧ va_K (dC, dI) classes [(cI, .int), (cZ, .boolean)] U ∧ nz_N U ∧ va_D (fun _ => True) [(ah, .inr (0, [.int av, .int ac, .int ap, .int aq, .ref ahs, .ref aht])), (ahs, .inl (cI, 48, .inl af)), (aht, .inl (cI, 48, .inl ag))])) (q_Lists_addPrimary dC dI cI cZ ah ahs aht av ac ap aq af ag (va_A [(ah, .inr (0, [.int av, .int ac, .int ap, .int aq, .ref ahs, .ref aht])), (ahs, .inl (cI, 48, .inl af)), (aht, .inl (cI, 48, .inl ag))] zz) post) 0 0 (va_A [(ah, .inr (0, [.int av, .int ac, .int ap, .int aq, .ref ahs, .ref aht])), (ahs, .inl (cI, 48, .inl af)), (aht, .inl (cI, 48, .inl ag))] zz) := by
  refine Met.ofW (cc := b_Lists_addPrimary) (maxL := 2) (ret := none) (by decide) rfl ?_
  intro p e s m args below meth c s₁ B hml hv0
  obtain ⟨rfl, hsz, hP, hK, hN, hD0⟩ := hv0
  have hx := B.exec
  have hb := B.bytes
  have hr := B.returns
  have htb := w_tbl (atoms_spec (ws := w_Lists_addPrimary) B.pre)
  have hown : s.vm.findClass R_Lists = some m.cls := findClass_of_methodNamed B.named
  have hlocks := B.notSynchronized
  subst hsz
  have hD := hD0.self (sz := s.heap.size)
  generalize hAe : va_A [(ah, .inr (0, [.int av, .int ac, .int ap, .int aq, .ref ahs, .ref aht])), (ahs, .inl (cI, 48, .inl af)), (aht, .inl (cI, 48, .inl ag))] s.heap.size = A at hD ⊢
  have hA : ∀ q : Nat, s.heap.size ≤ q → A q := fun q h => by rw [← hAe]; exact Or.inr h
  have hS : va_S A s.heap s.heap [] := va_S.rf
  have hl := lv_entry ([.ref ah, .int p0]) (n := 2) (Nat.le_of_ble_eq_true rfl)
  rw [lg_entry_eq]
  generalize (lg_sl ([.ref ah, .int p0]) ++ List.replicate (2 - (lg_sl ([.ref ah, .int p0])).length) Slot.unset).toArray = ls at hl ⊢
  have hl : lv_has ls 2 [(0, .ref ah), (1, .int p0)] := hl
  refine lv_aload_n hx hb d_Lists_addPrimary_0 rfl (lv_at hl 0 rfl) ?_
  have hPc := hP.sub (ws' := [(ah, .inr (0, [.int av, .int ac, .int ap, .int aq, .ref ahs, .ref aht])), (ahs, .inl (cI, 48, .inl af)), (aht, .inl (cI, 48, .inl ag))]) [0, 1, 2] rfl
  refine cz_r (va_runV (As := []) (rest := []) ⟨hx, hb, hml, hown, htb⟩ (m_Lists_entries l dC dI cI cZ ah ahs aht _ av ac ap aq af ag _ hv) (cwV 0 htb (gz_V k_ml_Lists_29 k_inst_Lists_entries k_sel_Lists_entries k_init_Lists k_code_Lists_entries) rfl rfl rfl (by decide +kernel) ⟨Nat.le_of_ble_eq_true rfl, Nat.le_of_ble_eq_true rfl⟩) (pz_VR (ci := 0) (q0 := 0) hPc hK hN rfl rfl) rfl rfl hl.1 rfl (lv_room (Nat.le_of_ble_eq_true rfl)) d_Lists_addPrimary_1 ⟨Nat.le_of_ble_eq_true rfl, Nat.le_of_ble_eq_true rfl⟩) hP hS hA (fun r_1 H hv hP hS => ?_)
  refine lv_bipush (v := 48) hx hb d_Lists_addPrimary_4 (by decide) ?_
  refine lv_icmp_ge (tgt := 39) hx hb d_Lists_addPrimary_6 (by decide) (fun c_2 => ?_) (fun c_2 => ?_)
  · have hv := hv.1 c_2
    exact W.vret hx hb hr (fun t ht hW => ⟨⟨(ap, af, ag), rfl, hv, by rw [ht]; exact hP, hD⟩, hS.F ht⟩) hS.2.2 d_Lists_addPrimary_39
  · have hv := hv.2 c_2
    refine lv_aload_n hx hb d_Lists_addPrimary_9 rfl (lv_at hl 0 rfl) ?_
    refine va_get (D := (dC, dI)) (ci := 0) (v := .ref ahs) (C := R_Lists) (T := F_Lists) (N := 6) hx hb htb i_Lists hown hK hP 0 rfl rfl 4 (by decide) (htb _ k_fl_Lists_9) (fun _ h9 => h9) rfl d_Lists_addPrimary_10 ?_
    refine lv_aload_n hx hb d_Lists_addPrimary_13 rfl (lv_at hl 0 rfl) ?_
    refine va_get (D := (dC, dI)) (ci := 0) (v := .int ap) (C := R_Lists) (T := F_Lists) (N := 6) hx hb htb i_Lists hown hK hP 0 rfl rfl 2 (by decide) (htb _ k_fl_Lists_18) (fun _ h9 => h9) rfl d_Lists_addPrimary_14 ?_
    refine lv_iload_n hx hb d_Lists_addPrimary_17 rfl (lv_at hl 1 rfl) ?_
    obtain ⟨h_3, hv⟩ := hv
    refine va_iast hx hb hK hP hD hS 1 0 rfl rfl h_3 d_Lists_addPrimary_18 (fun H locs hP hD hS => ?_)
    have hP : va_P (dC, dI) classes [(ah, .inr (0, [.int av, .int ac, .int ap, .int aq, .ref ahs, .ref aht])), (ahs, .inl (cI, 48, .inl (upd af ap.toNatClampNeg p0))), (aht, .inl (cI, 48, .inl ag))] H := hP
    have hD : va_D A [(ah, .inr (0, [.int av, .int ac, .int ap, .int aq, .ref ahs, .ref aht])), (ahs, .inl (cI, 48, .inl (upd af ap.toNatClampNeg p0))), (aht, .inl (cI, 48, .inl ag))] := hD
    refine lv_aload_n hx hb d_Lists_addPrimary_19 rfl (lv_at hl 0 rfl) ?_
    refine va_get (D := (dC, dI)) (ci := 0) (v := .ref aht) (C := R_Lists) (T := F_Lists) (N := 6) hx hb htb i_Lists hown hK hP 0 rfl rfl 5 (by decide) (htb _ k_fl_Lists_15) (fun _ h9 => h9) rfl d_Lists_addPrimary_20 ?_
    refine lv_aload_n hx hb d_Lists_addPrimary_23 rfl (lv_at hl 0 rfl) ?_
    refine va_get (D := (dC, dI)) (ci := 0) (v := .int ap) (C := R_Lists) (T := F_Lists) (N := 6) hx hb htb i_Lists hown hK hP 0 rfl rfl 2 (by decide) (htb _ k_fl_Lists_18) (fun _ h9 => h9) rfl d_Lists_addPrimary_24 ?_
    refine lv_iconst (v := (-1)) hx hb d_Lists_addPrimary_27 (by decide) ?_
    obtain ⟨h_4, hv⟩ := hv
    refine va_iast hx hb hK hP hD hS 2 0 rfl rfl h_4 d_Lists_addPrimary_28 (fun H locs hP hD hS => ?_)
    have hP : va_P (dC, dI) classes [(ah, .inr (0, [.int av, .int ac, .int ap, .int aq, .ref ahs, .ref aht])), (ahs, .inl (cI, 48, .inl (upd af ap.toNatClampNeg p0))), (aht, .inl (cI, 48, .inl (upd ag ap.toNatClampNeg (-1))))] H := hP
    have hD : va_D A [(ah, .inr (0, [.int av, .int ac, .int ap, .int aq, .ref ahs, .ref aht])), (ahs, .inl (cI, 48, .inl (upd af ap.toNatClampNeg p0))), (aht, .inl (cI, 48, .inl (upd ag ap.toNatClampNeg (-1))))] := hD
    refine lv_aload_n hx hb d_Lists_addPrimary_29 rfl (lv_at hl 0 rfl) ?_
    refine lv_dup hx hb d_Lists_addPrimary_30 rfl ?_
    refine va_get (D := (dC, dI)) (ci := 0) (v := .int ap) (C := R_Lists) (T := F_Lists) (N := 6) hx hb htb i_Lists hown hK hP 0 rfl rfl 2 (by decide) (htb _ k_fl_Lists_18) (fun _ h9 => h9) rfl d_Lists_addPrimary_31 ?_
    refine lv_iconst (v := 1) hx hb d_Lists_addPrimary_34 (by decide) ?_
    refine lv_iadd hx hb d_Lists_addPrimary_35 ?_
    refine va_put (D := (dC, dI)) (ci := 0) (v := .int (ap + 1)) (ty := .int) (C := R_Lists) (T := F_Lists) (N := 6) hx hb htb i_Lists t_Lists t_Lists_ok n_Lists hown hK hP hD hS 0 rfl rfl 2 (by decide) (htb _ k_fl_Lists_18) (fun _ h9 => h9) rfl (by decide +kernel) rfl rfl (Nat.le_of_ble_eq_true rfl) d_Lists_addPrimary_36 (fun H locs hP hD hS => ?_)
    have hP : va_P (dC, dI) classes [(ah, .inr (0, [.int av, .int ac, .int (ap + 1), .int aq, .ref ahs, .ref aht])), (ahs, .inl (cI, 48, .inl (upd af ap.toNatClampNeg p0))), (aht, .inl (cI, 48, .inl (upd ag ap.toNatClampNeg (-1))))] H := hP
    have hD : va_D A [(ah, .inr (0, [.int av, .int ac, .int (ap + 1), .int aq, .ref ahs, .ref aht])), (ahs, .inl (cI, 48, .inl (upd af ap.toNatClampNeg p0))), (aht, .inl (cI, 48, .inl (upd ag ap.toNatClampNeg (-1))))] := hD
    exact W.vret hx hb hr (fun t ht hW => ⟨⟨(ap + 1, upd af ap.toNatClampNeg p0, upd ag ap.toNatClampNeg (-1)), rfl, hv, by rw [ht]; exact hP, hD⟩, hS.F ht⟩) hS.2.2 d_Lists_addPrimary_39
def v_Lists_becomeWithPair (av : Int32) (ac : Int32) (ap : Int32) (aq : Int32) (af : Nat → Int32) (ag : Nat → Int32) (bv : Int32) (bc : Int32) (bp : Int32) (bq : Int32) (bf : Nat → Int32) (bg : Nat → Int32) (p0 : Int32) (p1 : Int32) (post : Int32 → Int32 → Int32 → (Nat → Int32) → (Nat → Int32) → Prop) : Prop := v_Lists_pairOf (bv + 1) ac bp bq (va_cpy bf af 0 0 48) (va_cpy bg ag 0 0 48) p0 (fun r_1 => ((r_1 = (-1) → v_Lists_entries (bv + 1) ac bp bq (va_cpy bf af 0 0 48) (va_cpy bg ag 0 0 48) (fun r_3 => ((48 ≤ r_3 → post (bv + 1) bp bq (va_cpy bf af 0 0 48) (va_cpy bg ag 0 0 48)) ∧ (¬ 48 ≤ r_3 → v_Lists_entries (bv + 1) ac bp bq (va_cpy bf af 0 0 48) (va_cpy bg ag 0 0 48) (fun r_5 => (vp_in r_5 48 ∧ v_Lists_entries (bv + 1) ac bp bq (upd (va_cpy bf af 0 0 48) r_5.toNatClampNeg p0) (va_cpy bg ag 0 0 48) (fun r_7 => (vp_in r_7 48 ∧ post (bv + 1) bp (bq + 1) (upd (va_cpy bf af 0 0 48) r_5.toNatClampNeg p0) (upd (va_cpy bg ag 0 0 48) r_7.toNatClampNeg p1))))))))) ∧ (¬ r_1 = (-1) → (vp_in (bp + r_1) 48 ∧ post (bv + 1) bp bq (va_cpy bf af 0 0 48) (upd (va_cpy bg ag 0 0 48) (bp + r_1).toNatClampNeg p1)))))
abbrev q_Lists_becomeWithPair (dC : Nat → ClassId) (dI : Nat → Nat → Nat) (cI cZ : ClassId) (ah bh ahs aht bhs bht : Nat) (av : Int32) (ac : Int32) (ap : Int32) (aq : Int32) (af : Nat → Int32) (ag : Nat → Int32) (bv : Int32) (bc : Int32) (bp : Int32) (bq : Int32) (bf : Nat → Int32) (bg : Nat → Int32) (A : Nat → Prop) (post : Int32 → Int32 → Int32 → (Nat → Int32) → (Nat → Int32) → Prop) : Array Value → State → Outcome → State → Prop := va_Qv (fun (u : Int32 × Int32 × Int32 × (Nat → Int32) × (Nat → Int32)) => post u.1 u.2.1 u.2.2.1 u.2.2.2.1 u.2.2.2.2) (fun (u : Int32 × Int32 × Int32 × (Nat → Int32) × (Nat → Int32)) t => va_P (dC, dI) classes [(ah, .inr (0, [.int u.1, .int ac, .int u.2.1, .int u.2.2.1, .ref ahs, .ref aht])), (ahs, .inl (cI, 48, .inl u.2.2.2.1)), (aht, .inl (cI, 48, .inl u.2.2.2.2)), (bh, .inr (0, [.int bv, .int bc, .int bp, .int bq, .ref bhs, .ref bht])), (bhs, .inl (cI, 48, .inl bf)), (bht, .inl (cI, 48, .inl bg))] t.heap ∧ va_D A [(ah, .inr (0, [.int u.1, .int ac, .int u.2.1, .int u.2.2.1, .ref ahs, .ref aht])), (ahs, .inl (cI, 48, .inl u.2.2.2.1)), (aht, .inl (cI, 48, .inl u.2.2.2.2)), (bh, .inr (0, [.int bv, .int bc, .int bp, .int bq, .ref bhs, .ref bht])), (bhs, .inl (cI, 48, .inl bf)), (bht, .inl (cI, 48, .inl bg))]) A
set_option maxHeartbeats 4000000 in
set_option maxRecDepth 100000 in
theorem m_Lists_becomeWithPair (l : Launch) (dC : Nat → ClassId) (dI : Nat → Nat → Nat) (cI cZ : ClassId) (ah bh ahs aht bhs bht : Nat) (zz : Nat) (av : Int32) (ac : Int32) (ap : Int32) (aq : Int32) (af : Nat → Int32) (ag : Nat → Int32) (bv : Int32) (bc : Int32) (bp : Int32) (bq : Int32) (bf : Nat → Int32) (bg : Nat → Int32) (p0 : Int32) (p1 : Int32) (post : Int32 → Int32 → Int32 → (Nat → Int32) → (Nat → Int32) → Prop) (hv : v_Lists_becomeWithPair av ac ap aq af ag bv bc bp bq bf bg p0 p1 post) : Met l y_Lists_becomeWithPair w_Lists_becomeWithPair ({ frames := 1, cells := 0, slots := 0, locals := 60 }) (va_Pc [.ref ah, .ref bh, .int p0, .int p1] (fun U => U.heap.size = zz ∧ va_P (dC, dI) classes [(ah, .inr (0, [.int av, .int ac, .int ap, .int aq, .ref ahs, .ref aht])), (ahs, .inl (cI, 48, .inl af)), (aht, .inl (cI, 48, .inl ag)), (bh, .inr (0, [.int bv, .int bc, .int bp, .int bq, .ref bhs, .ref bht])), (bhs, .inl (cI, 48, .inl bf)), (bht, .inl (cI, 48, .inl bg))] U.heap ∧ va_K (dC, dI) classes [(cI, .int), (cZ, .boolean)] U ∧ nz_N U ∧ va_D (fun _ => True) [(ah, .inr (0, [.int av, .int ac, .int ap, .int aq, .ref ahs, .ref aht])), (ahs, .inl (cI, 48, .inl af)), (aht, .inl (cI, 48, .inl ag)), (bh, .inr (0, [.int bv, .int bc, .int bp, .int bq, .ref bhs, .ref bht])), (bhs, .inl (cI, 48, .inl bf)), (bht, .inl (cI, 48, .inl bg))])) (q_Lists_becomeWithPair dC dI cI cZ ah bh ahs aht bhs bht av ac ap aq af ag bv bc bp bq bf bg (va_A [(ah, .inr (0, [.int av, .int ac, .int ap, .int aq, .ref ahs, .ref aht])), (ahs, .inl (cI, 48, .inl af)), (aht, .inl (cI, 48, .inl ag)), (bh, .inr (0, [.int bv, .int bc, .int bp, .int bq, .ref bhs, .ref bht])), (bhs, .inl (cI, 48, .inl bf)), (bht, .inl (cI, 48, .inl bg))] zz) post) 0 0 (va_A [(ah, .inr (0, [.int av, .int ac, .int ap, .int aq, .ref ahs, .ref aht])), (ahs, .inl (cI, 48, .inl af)), (aht, .inl (cI, 48, .inl ag)), (bh, .inr (0, [.int bv, .int bc, .int bp, .int bq, .ref bhs, .ref bht])), (bhs, .inl (cI, 48, .inl bf)), (bht, .inl (cI, 48, .inl bg))] zz) := by
  refine Met.ofW (cc := b_Lists_becomeWithPair) (maxL := 5) (ret := none) (by decide) rfl ?_
  intro p e s m args below meth c s₁ B hml hv0
  obtain ⟨rfl, hsz, hP, hK, hN, hD0⟩ := hv0
  have hx := B.exec
  have hb := B.bytes
  have hr := B.returns
  have htb := w_tbl (atoms_spec (ws := w_Lists_becomeWithPair) B.pre)
  have hown : s.vm.findClass R_Lists = some m.cls := findClass_of_methodNamed B.named
  have hlocks := B.notSynchronized
  subst hsz
  have hD := hD0.self (sz := s.heap.size)
  generalize hAe : va_A [(ah, .inr (0, [.int av, .int ac, .int ap, .int aq, .ref ahs, .ref aht])), (ahs, .inl (cI, 48, .inl af)), (aht, .inl (cI, 48, .inl ag)), (bh, .inr (0, [.int bv, .int bc, .int bp, .int bq, .ref bhs, .ref bht])), (bhs, .inl (cI, 48, .inl bf)), (bht, .inl (cI, 48, .inl bg))] s.heap.size = A at hD ⊢
  have hA : ∀ q : Nat, s.heap.size ≤ q → A q := fun q h => by rw [← hAe]; exact Or.inr h
  have hS : va_S A s.heap s.heap [] := va_S.rf
  have hl := lv_entry ([.ref ah, .ref bh, .int p0, .int p1]) (n := 5) (Nat.le_of_ble_eq_true rfl)
  rw [lg_entry_eq]
  generalize (lg_sl ([.ref ah, .ref bh, .int p0, .int p1]) ++ List.replicate (5 - (lg_sl ([.ref ah, .ref bh, .int p0, .int p1])).length) Slot.unset).toArray = ls at hl ⊢
  have hl : lv_has ls 5 [(0, .ref ah), (1, .ref bh), (2, .int p0), (3, .int p1)] := hl
  refine lv_aload_n hx hb d_Lists_becomeWithPair_0 rfl (lv_at hl 0 rfl) ?_
  refine lv_aload_n hx hb d_Lists_becomeWithPair_1 rfl (lv_at hl 1 rfl) ?_
  refine va_get (D := (dC, dI)) (ci := 0) (v := .int bv) (C := R_Lists) (T := F_Lists) (N := 6) hx hb htb i_Lists hown hK hP 3 rfl rfl 0 (by decide) (htb _ k_fl_Lists_33) (fun _ h9 => h9) rfl d_Lists_becomeWithPair_2 ?_
  refine lv_iconst (v := 1) hx hb d_Lists_becomeWithPair_5 (by decide) ?_
  refine lv_iadd hx hb d_Lists_becomeWithPair_6 ?_
  refine va_put (D := (dC, dI)) (ci := 0) (v := .int (bv + 1)) (ty := .int) (C := R_Lists) (T := F_Lists) (N := 6) hx hb htb i_Lists t_Lists t_Lists_ok n_Lists hown hK hP hD hS 0 rfl rfl 0 (by decide) (htb _ k_fl_Lists_33) (fun _ h9 => h9) rfl (by decide +kernel) rfl rfl (Nat.le_of_ble_eq_true rfl) d_Lists_becomeWithPair_7 (fun H locs hP hD hS => ?_)
  have hP : va_P (dC, dI) classes [(ah, .inr (0, [.int (bv + 1), .int ac, .int ap, .int aq, .ref ahs, .ref aht])), (ahs, .inl (cI, 48, .inl af)), (aht, .inl (cI, 48, .inl ag)), (bh, .inr (0, [.int bv, .int bc, .int bp, .int bq, .ref bhs, .ref bht])), (bhs, .inl (cI, 48, .inl bf)), (bht, .inl (cI, 48, .inl bg))] H := hP
  have hD : va_D A [(ah, .inr (0, [.int (bv + 1), .int ac, .int ap, .int aq, .ref ahs, .ref aht])), (ahs, .inl (cI, 48, .inl af)), (aht, .inl (cI, 48, .inl ag)), (bh, .inr (0, [.int bv, .int bc, .int bp, .int bq, .ref bhs, .ref bht])), (bhs, .inl (cI, 48, .inl bf)), (bht, .inl (cI, 48, .inl bg))] := hD
  refine lv_aload_n hx hb d_Lists_becomeWithPair_10 rfl (lv_at hl 0 rfl) ?_
  refine lv_aload_n hx hb d_Lists_becomeWithPair_11 rfl (lv_at hl 1 rfl) ?_
  refine va_get (D := (dC, dI)) (ci := 0) (v := .int bp) (C := R_Lists) (T := F_Lists) (N := 6) hx hb htb i_Lists hown hK hP 3 rfl rfl 2 (by decide) (htb _ k_fl_Lists_18) (fun _ h9 => h9) rfl d_Lists_becomeWithPair_12 ?_
  refine va_put (D := (dC, dI)) (ci := 0) (v := .int bp) (ty := .int) (C := R_Lists) (T := F_Lists) (N := 6) hx hb htb i_Lists t_Lists t_Lists_ok n_Lists hown hK hP hD hS 0 rfl rfl 2 (by decide) (htb _ k_fl_Lists_18) (fun _ h9 => h9) rfl (by decide +kernel) rfl rfl (Nat.le_of_ble_eq_true rfl) d_Lists_becomeWithPair_15 (fun H locs hP hD hS => ?_)
  have hP : va_P (dC, dI) classes [(ah, .inr (0, [.int (bv + 1), .int ac, .int bp, .int aq, .ref ahs, .ref aht])), (ahs, .inl (cI, 48, .inl af)), (aht, .inl (cI, 48, .inl ag)), (bh, .inr (0, [.int bv, .int bc, .int bp, .int bq, .ref bhs, .ref bht])), (bhs, .inl (cI, 48, .inl bf)), (bht, .inl (cI, 48, .inl bg))] H := hP
  have hD : va_D A [(ah, .inr (0, [.int (bv + 1), .int ac, .int bp, .int aq, .ref ahs, .ref aht])), (ahs, .inl (cI, 48, .inl af)), (aht, .inl (cI, 48, .inl ag)), (bh, .inr (0, [.int bv, .int bc, .int bp, .int bq, .ref bhs, .ref bht])), (bhs, .inl (cI, 48, .inl bf)), (bht, .inl (cI, 48, .inl bg))] := hD
  refine lv_aload_n hx hb d_Lists_becomeWithPair_18 rfl (lv_at hl 0 rfl) ?_
  refine lv_aload_n hx hb d_Lists_becomeWithPair_19 rfl (lv_at hl 1 rfl) ?_
  refine va_get (D := (dC, dI)) (ci := 0) (v := .int bq) (C := R_Lists) (T := F_Lists) (N := 6) hx hb htb i_Lists hown hK hP 3 rfl rfl 3 (by decide) (htb _ k_fl_Lists_22) (fun _ h9 => h9) rfl d_Lists_becomeWithPair_20 ?_
  refine va_put (D := (dC, dI)) (ci := 0) (v := .int bq) (ty := .int) (C := R_Lists) (T := F_Lists) (N := 6) hx hb htb i_Lists t_Lists t_Lists_ok n_Lists hown hK hP hD hS 0 rfl rfl 3 (by decide) (htb _ k_fl_Lists_22) (fun _ h9 => h9) rfl (by decide +kernel) rfl rfl (Nat.le_of_ble_eq_true rfl) d_Lists_becomeWithPair_23 (fun H locs hP hD hS => ?_)
  have hP : va_P (dC, dI) classes [(ah, .inr (0, [.int (bv + 1), .int ac, .int bp, .int bq, .ref ahs, .ref aht])), (ahs, .inl (cI, 48, .inl af)), (aht, .inl (cI, 48, .inl ag)), (bh, .inr (0, [.int bv, .int bc, .int bp, .int bq, .ref bhs, .ref bht])), (bhs, .inl (cI, 48, .inl bf)), (bht, .inl (cI, 48, .inl bg))] H := hP
  have hD : va_D A [(ah, .inr (0, [.int (bv + 1), .int ac, .int bp, .int bq, .ref ahs, .ref aht])), (ahs, .inl (cI, 48, .inl af)), (aht, .inl (cI, 48, .inl ag)), (bh, .inr (0, [.int bv, .int bc, .int bp, .int bq, .ref bhs, .ref bht])), (bhs, .inl (cI, 48, .inl bf)), (bht, .inl (cI, 48, .inl bg))] := hD
  refine lv_aload_n hx hb d_Lists_becomeWithPair_26 rfl (lv_at hl 1 rfl) ?_
  refine va_get (D := (dC, dI)) (ci := 0) (v := .ref bhs) (C := R_Lists) (T := F_Lists) (N := 6) hx hb htb i_Lists hown hK hP 3 rfl rfl 4 (by decide) (htb _ k_fl_Lists_9) (fun _ h9 => h9) rfl d_Lists_becomeWithPair_27 ?_
  refine lv_iconst (v := 0) hx hb d_Lists_becomeWithPair_30 (by decide) ?_
  refine lv_aload_n hx hb d_Lists_becomeWithPair_31 rfl (lv_at hl 0 rfl) ?_
  refine va_get (D := (dC, dI)) (ci := 0) (v := .ref ahs) (C := R_Lists) (T := F_Lists) (N := 6) hx hb htb i_Lists hown hK hP 0 rfl rfl 4 (by decide) (htb _ k_fl_Lists_9) (fun _ h9 => h9) rfl d_Lists_becomeWithPair_32 ?_
  refine lv_iconst (v := 0) hx hb d_Lists_becomeWithPair_35 (by decide) ?_
  refine lv_bipush (v := 48) hx hb d_Lists_becomeWithPair_36 (by decide) ?_
  refine va_copyi hx hb (hml.trans hl.1.symm) hown (htb _ k_ml_Lists_36) (htb _ k_nat_arraycopy) (htb _ k_st_arraycopy) (htb _ k_init_System) hK hP hD hS 4 1 0 0 (ty := .int) rfl rfl rfl rfl rfl (by decide) (by decide) (by decide) (by decide) (by decide) (fun _ _ => rfl) (Nat.le_of_ble_eq_true rfl) (Nat.le_of_ble_eq_true rfl) d_Lists_becomeWithPair_38 (fun H locs hP hD hS => ?_)
  have hP : va_P (dC, dI) classes [(ah, .inr (0, [.int (bv + 1), .int ac, .int bp, .int bq, .ref ahs, .ref aht])), (ahs, .inl (cI, 48, .inl (va_cpy bf af 0 0 48))), (aht, .inl (cI, 48, .inl ag)), (bh, .inr (0, [.int bv, .int bc, .int bp, .int bq, .ref bhs, .ref bht])), (bhs, .inl (cI, 48, .inl bf)), (bht, .inl (cI, 48, .inl bg))] H := hP
  have hD : va_D A [(ah, .inr (0, [.int (bv + 1), .int ac, .int bp, .int bq, .ref ahs, .ref aht])), (ahs, .inl (cI, 48, .inl (va_cpy bf af 0 0 48))), (aht, .inl (cI, 48, .inl ag)), (bh, .inr (0, [.int bv, .int bc, .int bp, .int bq, .ref bhs, .ref bht])), (bhs, .inl (cI, 48, .inl bf)), (bht, .inl (cI, 48, .inl bg))] := hD
  refine lv_aload_n hx hb d_Lists_becomeWithPair_41 rfl (lv_at hl 1 rfl) ?_
  refine va_get (D := (dC, dI)) (ci := 0) (v := .ref bht) (C := R_Lists) (T := F_Lists) (N := 6) hx hb htb i_Lists hown hK hP 3 rfl rfl 5 (by decide) (htb _ k_fl_Lists_15) (fun _ h9 => h9) rfl d_Lists_becomeWithPair_42 ?_
  refine lv_iconst (v := 0) hx hb d_Lists_becomeWithPair_45 (by decide) ?_
  refine lv_aload_n hx hb d_Lists_becomeWithPair_46 rfl (lv_at hl 0 rfl) ?_
  refine va_get (D := (dC, dI)) (ci := 0) (v := .ref aht) (C := R_Lists) (T := F_Lists) (N := 6) hx hb htb i_Lists hown hK hP 0 rfl rfl 5 (by decide) (htb _ k_fl_Lists_15) (fun _ h9 => h9) rfl d_Lists_becomeWithPair_47 ?_
  refine lv_iconst (v := 0) hx hb d_Lists_becomeWithPair_50 (by decide) ?_
  refine lv_bipush (v := 48) hx hb d_Lists_becomeWithPair_51 (by decide) ?_
  refine va_copyi hx hb (hml.trans hl.1.symm) hown (htb _ k_ml_Lists_36) (htb _ k_nat_arraycopy) (htb _ k_st_arraycopy) (htb _ k_init_System) hK hP hD hS 5 2 0 0 (ty := .int) rfl rfl rfl rfl rfl (by decide) (by decide) (by decide) (by decide) (by decide) (fun _ _ => rfl) (Nat.le_of_ble_eq_true rfl) (Nat.le_of_ble_eq_true rfl) d_Lists_becomeWithPair_53 (fun H locs hP hD hS => ?_)
  have hP : va_P (dC, dI) classes [(ah, .inr (0, [.int (bv + 1), .int ac, .int bp, .int bq, .ref ahs, .ref aht])), (ahs, .inl (cI, 48, .inl (va_cpy bf af 0 0 48))), (aht, .inl (cI, 48, .inl (va_cpy bg ag 0 0 48))), (bh, .inr (0, [.int bv, .int bc, .int bp, .int bq, .ref bhs, .ref bht])), (bhs, .inl (cI, 48, .inl bf)), (bht, .inl (cI, 48, .inl bg))] H := hP
  have hD : va_D A [(ah, .inr (0, [.int (bv + 1), .int ac, .int bp, .int bq, .ref ahs, .ref aht])), (ahs, .inl (cI, 48, .inl (va_cpy bf af 0 0 48))), (aht, .inl (cI, 48, .inl (va_cpy bg ag 0 0 48))), (bh, .inr (0, [.int bv, .int bc, .int bp, .int bq, .ref bhs, .ref bht])), (bhs, .inl (cI, 48, .inl bf)), (bht, .inl (cI, 48, .inl bg))] := hD
  refine lv_aload_n hx hb d_Lists_becomeWithPair_56 rfl (lv_at hl 0 rfl) ?_
  refine lv_iload_n hx hb d_Lists_becomeWithPair_57 rfl (lv_at hl 2 rfl) ?_
  have hPc := hP.sub (ws' := [(ah, .inr (0, [.int (bv + 1), .int ac, .int bp, .int bq, .ref ahs, .ref aht])), (ahs, .inl (cI, 48, .inl (va_cpy bf af 0 0 48))), (aht, .inl (cI, 48, .inl (va_cpy bg ag 0 0 48)))]) [0, 1, 2] rfl
  refine cz_r (va_runV (As := [.int p0]) (rest := []) ⟨hx, hb, hml, hown, htb⟩ (m_Lists_pairOf l dC dI cI cZ ah ahs aht _ (bv + 1) ac bp bq (va_cpy bf af 0 0 48) (va_cpy bg ag 0 0 48) p0 _ hv) (cwV 1 htb (gz_V k_ml_Lists_25 k_inst_Lists_pairOf k_sel_Lists_pairOf k_init_Lists k_code_Lists_pairOf) rfl rfl rfl (by decide +kernel) ⟨Nat.le_of_ble_eq_true rfl, Nat.le_of_ble_eq_true rfl⟩) (pz_VR (ci := 0) (q0 := 0) hPc hK hN rfl rfl) rfl rfl hl.1 rfl (lv_room (Nat.le_of_ble_eq_true rfl)) d_Lists_becomeWithPair_58 ⟨Nat.le_of_ble_eq_true rfl, Nat.le_of_ble_eq_true rfl⟩) hP hS hA (fun r_1 H hv hP hS => ?_)
  refine lv_istore (lv' := [(4, .int r_1), (0, .ref ah), (1, .ref bh), (2, .int p0), (3, .int p1)]) hx hb d_Lists_becomeWithPair_61 hl (by decide) rfl (fun ls hl => ?_)
  refine lv_iload hx hb d_Lists_becomeWithPair_63 (lv_at hl 0 rfl) ?_
  refine lv_iconst (v := (-1)) hx hb d_Lists_becomeWithPair_65 (by decide) ?_
  refine lv_icmp_eq (tgt := 85) hx hb d_Lists_becomeWithPair_66 (by decide) (fun c_2 => ?_) (fun c_2 => ?_)
  · have hv := hv.1 c_2
    refine lv_aload_n hx hb d_Lists_becomeWithPair_85 rfl (lv_at hl 1 rfl) ?_
    have hPc := hP.sub (ws' := [(ah, .inr (0, [.int (bv + 1), .int ac, .int bp, .int bq, .ref ahs, .ref aht])), (ahs, .inl (cI, 48, .inl (va_cpy bf af 0 0 48))), (aht, .inl (cI, 48, .inl (va_cpy bg ag 0 0 48)))]) [0, 1, 2] rfl
    refine cz_r (va_runV (As := []) (rest := []) ⟨hx, hb, hml, hown, htb⟩ (m_Lists_entries l dC dI cI cZ ah ahs aht _ (bv + 1) ac bp bq (va_cpy bf af 0 0 48) (va_cpy bg ag 0 0 48) _ hv) (cwV 0 htb (gz_V k_ml_Lists_29 k_inst_Lists_entries k_sel_Lists_entries k_init_Lists k_code_Lists_entries) rfl rfl rfl (by decide +kernel) ⟨Nat.le_of_ble_eq_true rfl, Nat.le_of_ble_eq_true rfl⟩) (pz_VR (ci := 0) (q0 := 0) hPc hK hN rfl rfl) rfl rfl hl.1 rfl (lv_room (Nat.le_of_ble_eq_true rfl)) d_Lists_becomeWithPair_86 ⟨Nat.le_of_ble_eq_true rfl, Nat.le_of_ble_eq_true rfl⟩) hP hS hA (fun r_3 H hv hP hS => ?_)
    refine lv_bipush (v := 48) hx hb d_Lists_becomeWithPair_89 (by decide) ?_
    refine lv_icmp_ge (tgt := 124) hx hb d_Lists_becomeWithPair_91 (by decide) (fun c_4 => ?_) (fun c_4 => ?_)
    · have hv := hv.1 c_4
      exact W.vret hx hb hr (fun t ht hW => ⟨⟨(bv + 1, bp, bq, va_cpy bf af 0 0 48, va_cpy bg ag 0 0 48), rfl, hv, by rw [ht]; exact hP, hD⟩, hS.F ht⟩) hS.2.2 d_Lists_becomeWithPair_124
    · have hv := hv.2 c_4
      refine lv_aload_n hx hb d_Lists_becomeWithPair_94 rfl (lv_at hl 1 rfl) ?_
      refine va_get (D := (dC, dI)) (ci := 0) (v := .ref ahs) (C := R_Lists) (T := F_Lists) (N := 6) hx hb htb i_Lists hown hK hP 0 rfl rfl 4 (by decide) (htb _ k_fl_Lists_9) (fun _ h9 => h9) rfl d_Lists_becomeWithPair_95 ?_
      refine lv_aload_n hx hb d_Lists_becomeWithPair_98 rfl (lv_at hl 1 rfl) ?_
      have hPc := hP.sub (ws' := [(ah, .inr (0, [.int (bv + 1), .int ac, .int bp, .int bq, .ref ahs, .ref aht])), (ahs, .inl (cI, 48, .inl (va_cpy bf af 0 0 48))), (aht, .inl (cI, 48, .inl (va_cpy bg ag 0 0 48)))]) [0, 1, 2] rfl
      refine cz_r (va_runV (As := []) (rest := [.ref ahs]) ⟨hx, hb, hml, hown, htb⟩ (m_Lists_entries l dC dI cI cZ ah ahs aht _ (bv + 1) ac bp bq (va_cpy bf af 0 0 48) (va_cpy bg ag 0 0 48) _ hv) (cwV 0 htb (gz_V k_ml_Lists_29 k_inst_Lists_entries k_sel_Lists_entries k_init_Lists k_code_Lists_entries) rfl rfl rfl (by decide +kernel) ⟨Nat.le_of_ble_eq_true rfl, Nat.le_of_ble_eq_true rfl⟩) (pz_VR (ci := 0) (q0 := 0) hPc hK hN rfl rfl) rfl rfl hl.1 rfl (lv_room (Nat.le_of_ble_eq_true rfl)) d_Lists_becomeWithPair_99 ⟨Nat.le_of_ble_eq_true rfl, Nat.le_of_ble_eq_true rfl⟩) hP hS hA (fun r_5 H hv hP hS => ?_)
      refine lv_iload_n hx hb d_Lists_becomeWithPair_102 rfl (lv_at hl 3 rfl) ?_
      obtain ⟨h_6, hv⟩ := hv
      refine va_iast hx hb hK hP hD hS 1 0 rfl rfl h_6 d_Lists_becomeWithPair_103 (fun H locs hP hD hS => ?_)
      have hP : va_P (dC, dI) classes [(ah, .inr (0, [.int (bv + 1), .int ac, .int bp, .int bq, .ref ahs, .ref aht])), (ahs, .inl (cI, 48, .inl (upd (va_cpy bf af 0 0 48) r_5.toNatClampNeg p0))), (aht, .inl (cI, 48, .inl (va_cpy bg ag 0 0 48))), (bh, .inr (0, [.int bv, .int bc, .int bp, .int bq, .ref bhs, .ref bht])), (bhs, .inl (cI, 48, .inl bf)), (bht, .inl (cI, 48, .inl bg))] H := hP
      have hD : va_D A [(ah, .inr (0, [.int (bv + 1), .int ac, .int bp, .int bq, .ref ahs, .ref aht])), (ahs, .inl (cI, 48, .inl (upd (va_cpy bf af 0 0 48) r_5.toNatClampNeg p0))), (aht, .inl (cI, 48, .inl (va_cpy bg ag 0 0 48))), (bh, .inr (0, [.int bv, .int bc, .int bp, .int bq, .ref bhs, .ref bht])), (bhs, .inl (cI, 48, .inl bf)), (bht, .inl (cI, 48, .inl bg))] := hD
      refine lv_aload_n hx hb d_Lists_becomeWithPair_104 rfl (lv_at hl 1 rfl) ?_
      refine va_get (D := (dC, dI)) (ci := 0) (v := .ref aht) (C := R_Lists) (T := F_Lists) (N := 6) hx hb htb i_Lists hown hK hP 0 rfl rfl 5 (by decide) (htb _ k_fl_Lists_15) (fun _ h9 => h9) rfl d_Lists_becomeWithPair_105 ?_
      refine lv_aload_n hx hb d_Lists_becomeWithPair_108 rfl (lv_at hl 1 rfl) ?_
      have hPc := hP.sub (ws' := [(ah, .inr (0, [.int (bv + 1), .int ac, .int bp, .int bq, .ref ahs, .ref aht])), (ahs, .inl (cI, 48, .inl (upd (va_cpy bf af 0 0 48) r_5.toNatClampNeg p0))), (aht, .inl (cI, 48, .inl (va_cpy bg ag 0 0 48)))]) [0, 1, 2] rfl
      refine cz_r (va_runV (As := []) (rest := [.ref aht]) ⟨hx, hb, hml, hown, htb⟩ (m_Lists_entries l dC dI cI cZ ah ahs aht _ (bv + 1) ac bp bq (upd (va_cpy bf af 0 0 48) r_5.toNatClampNeg p0) (va_cpy bg ag 0 0 48) _ hv) (cwV 0 htb (gz_V k_ml_Lists_29 k_inst_Lists_entries k_sel_Lists_entries k_init_Lists k_code_Lists_entries) rfl rfl rfl (by decide +kernel) ⟨Nat.le_of_ble_eq_true rfl, Nat.le_of_ble_eq_true rfl⟩) (pz_VR (ci := 0) (q0 := 0) hPc hK hN rfl rfl) rfl rfl hl.1 rfl (lv_room (Nat.le_of_ble_eq_true rfl)) d_Lists_becomeWithPair_109 ⟨Nat.le_of_ble_eq_true rfl, Nat.le_of_ble_eq_true rfl⟩) hP hS hA (fun r_7 H hv hP hS => ?_)
      refine lv_iload_n hx hb d_Lists_becomeWithPair_112 rfl (lv_at hl 4 rfl) ?_
      obtain ⟨h_8, hv⟩ := hv
      refine va_iast hx hb hK hP hD hS 2 0 rfl rfl h_8 d_Lists_becomeWithPair_113 (fun H locs hP hD hS => ?_)
      have hP : va_P (dC, dI) classes [(ah, .inr (0, [.int (bv + 1), .int ac, .int bp, .int bq, .ref ahs, .ref aht])), (ahs, .inl (cI, 48, .inl (upd (va_cpy bf af 0 0 48) r_5.toNatClampNeg p0))), (aht, .inl (cI, 48, .inl (upd (va_cpy bg ag 0 0 48) r_7.toNatClampNeg p1))), (bh, .inr (0, [.int bv, .int bc, .int bp, .int bq, .ref bhs, .ref bht])), (bhs, .inl (cI, 48, .inl bf)), (bht, .inl (cI, 48, .inl bg))] H := hP
      have hD : va_D A [(ah, .inr (0, [.int (bv + 1), .int ac, .int bp, .int bq, .ref ahs, .ref aht])), (ahs, .inl (cI, 48, .inl (upd (va_cpy bf af 0 0 48) r_5.toNatClampNeg p0))), (aht, .inl (cI, 48, .inl (upd (va_cpy bg ag 0 0 48) r_7.toNatClampNeg p1))), (bh, .inr (0, [.int bv, .int bc, .int bp, .int bq, .ref bhs, .ref bht])), (bhs, .inl (cI, 48, .inl bf)), (bht, .inl (cI, 48, .inl bg))] := hD
      refine lv_aload_n hx hb d_Lists_becomeWithPair_114 rfl (lv_at hl 1 rfl) ?_
      refine lv_dup hx hb d_Lists_becomeWithPair_115 rfl ?_
      refine va_get (D := (dC, dI)) (ci := 0) (v := .int bq) (C := R_Lists) (T := F_Lists) (N := 6) hx hb htb i_Lists hown hK hP 0 rfl rfl 3 (by decide) (htb _ k_fl_Lists_22) (fun _ h9 => h9) rfl d_Lists_becomeWithPair_116 ?_
      refine lv_iconst (v := 1) hx hb d_Lists_becomeWithPair_119 (by decide) ?_
      refine lv_iadd hx hb d_Lists_becomeWithPair_120 ?_
      refine va_put (D := (dC, dI)) (ci := 0) (v := .int (bq + 1)) (ty := .int) (C := R_Lists) (T := F_Lists) (N := 6) hx hb htb i_Lists t_Lists t_Lists_ok n_Lists hown hK hP hD hS 0 rfl rfl 3 (by decide) (htb _ k_fl_Lists_22) (fun _ h9 => h9) rfl (by decide +kernel) rfl rfl (Nat.le_of_ble_eq_true rfl) d_Lists_becomeWithPair_121 (fun H locs hP hD hS => ?_)
      have hP : va_P (dC, dI) classes [(ah, .inr (0, [.int (bv + 1), .int ac, .int bp, .int (bq + 1), .ref ahs, .ref aht])), (ahs, .inl (cI, 48, .inl (upd (va_cpy bf af 0 0 48) r_5.toNatClampNeg p0))), (aht, .inl (cI, 48, .inl (upd (va_cpy bg ag 0 0 48) r_7.toNatClampNeg p1))), (bh, .inr (0, [.int bv, .int bc, .int bp, .int bq, .ref bhs, .ref bht])), (bhs, .inl (cI, 48, .inl bf)), (bht, .inl (cI, 48, .inl bg))] H := hP
      have hD : va_D A [(ah, .inr (0, [.int (bv + 1), .int ac, .int bp, .int (bq + 1), .ref ahs, .ref aht])), (ahs, .inl (cI, 48, .inl (upd (va_cpy bf af 0 0 48) r_5.toNatClampNeg p0))), (aht, .inl (cI, 48, .inl (upd (va_cpy bg ag 0 0 48) r_7.toNatClampNeg p1))), (bh, .inr (0, [.int bv, .int bc, .int bp, .int bq, .ref bhs, .ref bht])), (bhs, .inl (cI, 48, .inl bf)), (bht, .inl (cI, 48, .inl bg))] := hD
      exact W.vret hx hb hr (fun t ht hW => ⟨⟨(bv + 1, bp, bq + 1, upd (va_cpy bf af 0 0 48) r_5.toNatClampNeg p0, upd (va_cpy bg ag 0 0 48) r_7.toNatClampNeg p1), rfl, hv, by rw [ht]; exact hP, hD⟩, hS.F ht⟩) hS.2.2 d_Lists_becomeWithPair_124
  · have hv := hv.2 c_2
    refine lv_aload_n hx hb d_Lists_becomeWithPair_69 rfl (lv_at hl 1 rfl) ?_
    refine va_get (D := (dC, dI)) (ci := 0) (v := .ref aht) (C := R_Lists) (T := F_Lists) (N := 6) hx hb htb i_Lists hown hK hP 0 rfl rfl 5 (by decide) (htb _ k_fl_Lists_15) (fun _ h9 => h9) rfl d_Lists_becomeWithPair_70 ?_
    refine lv_aload_n hx hb d_Lists_becomeWithPair_73 rfl (lv_at hl 1 rfl) ?_
    refine va_get (D := (dC, dI)) (ci := 0) (v := .int bp) (C := R_Lists) (T := F_Lists) (N := 6) hx hb htb i_Lists hown hK hP 0 rfl rfl 2 (by decide) (htb _ k_fl_Lists_18) (fun _ h9 => h9) rfl d_Lists_becomeWithPair_74 ?_
    refine lv_iload hx hb d_Lists_becomeWithPair_77 (lv_at hl 0 rfl) ?_
    refine lv_iadd hx hb d_Lists_becomeWithPair_79 ?_
    refine lv_iload_n hx hb d_Lists_becomeWithPair_80 rfl (lv_at hl 4 rfl) ?_
    obtain ⟨h_9, hv⟩ := hv
    refine va_iast hx hb hK hP hD hS 2 0 rfl rfl h_9 d_Lists_becomeWithPair_81 (fun H locs hP hD hS => ?_)
    have hP : va_P (dC, dI) classes [(ah, .inr (0, [.int (bv + 1), .int ac, .int bp, .int bq, .ref ahs, .ref aht])), (ahs, .inl (cI, 48, .inl (va_cpy bf af 0 0 48))), (aht, .inl (cI, 48, .inl (upd (va_cpy bg ag 0 0 48) (bp + r_1).toNatClampNeg p1))), (bh, .inr (0, [.int bv, .int bc, .int bp, .int bq, .ref bhs, .ref bht])), (bhs, .inl (cI, 48, .inl bf)), (bht, .inl (cI, 48, .inl bg))] H := hP
    have hD : va_D A [(ah, .inr (0, [.int (bv + 1), .int ac, .int bp, .int bq, .ref ahs, .ref aht])), (ahs, .inl (cI, 48, .inl (va_cpy bf af 0 0 48))), (aht, .inl (cI, 48, .inl (upd (va_cpy bg ag 0 0 48) (bp + r_1).toNatClampNeg p1))), (bh, .inr (0, [.int bv, .int bc, .int bp, .int bq, .ref bhs, .ref bht])), (bhs, .inl (cI, 48, .inl bf)), (bht, .inl (cI, 48, .inl bg))] := hD
    refine lv_goto (tgt := 124) hx hb d_Lists_becomeWithPair_82 (by decide) ?_
    exact W.vret hx hb hr (fun t ht hW => ⟨⟨(bv + 1, bp, bq, va_cpy bf af 0 0 48, upd (va_cpy bg ag 0 0 48) (bp + r_1).toNatClampNeg p1), rfl, hv, by rw [ht]; exact hP, hD⟩, hS.F ht⟩) hS.2.2 d_Lists_becomeWithPair_124
def v_Lists_begin (av : Int32) (ac : Int32) (ap : Int32) (aq : Int32) (af : Nat → Int32) (ag : Nat → Int32) (bv : Int32) (bc : Int32) (bp : Int32) (bq : Int32) (bf : Nat → Int32) (bg : Nat → Int32) (post : Int32 → Int32 → Int32 → Int32 → Prop) : Prop := post bv 0 bp bq
abbrev q_Lists_begin (dC : Nat → ClassId) (dI : Nat → Nat → Nat) (cI cZ : ClassId) (ah bh ahs aht bhs bht : Nat) (av : Int32) (ac : Int32) (ap : Int32) (aq : Int32) (af : Nat → Int32) (ag : Nat → Int32) (bv : Int32) (bc : Int32) (bp : Int32) (bq : Int32) (bf : Nat → Int32) (bg : Nat → Int32) (A : Nat → Prop) (post : Int32 → Int32 → Int32 → Int32 → Prop) : Array Value → State → Outcome → State → Prop := va_Qv (fun (u : Int32 × Int32 × Int32 × Int32) => post u.1 u.2.1 u.2.2.1 u.2.2.2) (fun (u : Int32 × Int32 × Int32 × Int32) t => va_P (dC, dI) classes [(ah, .inr (0, [.int u.1, .int u.2.1, .int u.2.2.1, .int u.2.2.2, .ref ahs, .ref aht])), (ahs, .inl (cI, 48, .inl af)), (aht, .inl (cI, 48, .inl ag)), (bh, .inr (0, [.int bv, .int bc, .int bp, .int bq, .ref bhs, .ref bht])), (bhs, .inl (cI, 48, .inl bf)), (bht, .inl (cI, 48, .inl bg))] t.heap ∧ va_D A [(ah, .inr (0, [.int u.1, .int u.2.1, .int u.2.2.1, .int u.2.2.2, .ref ahs, .ref aht])), (ahs, .inl (cI, 48, .inl af)), (aht, .inl (cI, 48, .inl ag)), (bh, .inr (0, [.int bv, .int bc, .int bp, .int bq, .ref bhs, .ref bht])), (bhs, .inl (cI, 48, .inl bf)), (bht, .inl (cI, 48, .inl bg))]) A
set_option maxHeartbeats 4000000 in
set_option maxRecDepth 100000 in
theorem m_Lists_begin (l : Launch) (dC : Nat → ClassId) (dI : Nat → Nat → Nat) (cI cZ : ClassId) (ah bh ahs aht bhs bht : Nat) (zz : Nat) (av : Int32) (ac : Int32) (ap : Int32) (aq : Int32) (af : Nat → Int32) (ag : Nat → Int32) (bv : Int32) (bc : Int32) (bp : Int32) (bq : Int32) (bf : Nat → Int32) (bg : Nat → Int32) (post : Int32 → Int32 → Int32 → Int32 → Prop) (hv : v_Lists_begin av ac ap aq af ag bv bc bp bq bf bg post) : Met l y_Lists_begin w_Lists_begin ({ frames := 0, cells := 0, slots := 0, locals := 0 }) (va_Pc [.ref ah, .ref bh] (fun U => U.heap.size = zz ∧ va_P (dC, dI) classes [(ah, .inr (0, [.int av, .int ac, .int ap, .int aq, .ref ahs, .ref aht])), (ahs, .inl (cI, 48, .inl af)), (aht, .inl (cI, 48, .inl ag)), (bh, .inr (0, [.int bv, .int bc, .int bp, .int bq, .ref bhs, .ref bht])), (bhs, .inl (cI, 48, .inl bf)), (bht, .inl (cI, 48, .inl bg))] U.heap ∧ va_K (dC, dI) classes [(cI, .int), (cZ, .boolean)] U ∧ nz_N U ∧ va_D (fun _ => True) [(ah, .inr (0, [.int av, .int ac, .int ap, .int aq, .ref ahs, .ref aht])), (ahs, .inl (cI, 48, .inl af)), (aht, .inl (cI, 48, .inl ag)), (bh, .inr (0, [.int bv, .int bc, .int bp, .int bq, .ref bhs, .ref bht])), (bhs, .inl (cI, 48, .inl bf)), (bht, .inl (cI, 48, .inl bg))])) (q_Lists_begin dC dI cI cZ ah bh ahs aht bhs bht av ac ap aq af ag bv bc bp bq bf bg (va_A [(ah, .inr (0, [.int av, .int ac, .int ap, .int aq, .ref ahs, .ref aht])), (ahs, .inl (cI, 48, .inl af)), (aht, .inl (cI, 48, .inl ag)), (bh, .inr (0, [.int bv, .int bc, .int bp, .int bq, .ref bhs, .ref bht])), (bhs, .inl (cI, 48, .inl bf)), (bht, .inl (cI, 48, .inl bg))] zz) post) 0 0 (va_A [(ah, .inr (0, [.int av, .int ac, .int ap, .int aq, .ref ahs, .ref aht])), (ahs, .inl (cI, 48, .inl af)), (aht, .inl (cI, 48, .inl ag)), (bh, .inr (0, [.int bv, .int bc, .int bp, .int bq, .ref bhs, .ref bht])), (bhs, .inl (cI, 48, .inl bf)), (bht, .inl (cI, 48, .inl bg))] zz) := by
  refine Met.ofW (cc := b_Lists_begin) (maxL := 2) (ret := none) (by decide) rfl ?_
  intro p e s m args below meth c s₁ B hml hv0
  obtain ⟨rfl, hsz, hP, hK, hN, hD0⟩ := hv0
  have hx := B.exec
  have hb := B.bytes
  have hr := B.returns
  have htb := w_tbl (atoms_spec (ws := w_Lists_begin) B.pre)
  have hown : s.vm.findClass R_Lists = some m.cls := findClass_of_methodNamed B.named
  have hlocks := B.notSynchronized
  subst hsz
  have hD := hD0.self (sz := s.heap.size)
  generalize hAe : va_A [(ah, .inr (0, [.int av, .int ac, .int ap, .int aq, .ref ahs, .ref aht])), (ahs, .inl (cI, 48, .inl af)), (aht, .inl (cI, 48, .inl ag)), (bh, .inr (0, [.int bv, .int bc, .int bp, .int bq, .ref bhs, .ref bht])), (bhs, .inl (cI, 48, .inl bf)), (bht, .inl (cI, 48, .inl bg))] s.heap.size = A at hD ⊢
  have hA : ∀ q : Nat, s.heap.size ≤ q → A q := fun q h => by rw [← hAe]; exact Or.inr h
  have hS : va_S A s.heap s.heap [] := va_S.rf
  have hl := lv_entry ([.ref ah, .ref bh]) (n := 2) (Nat.le_of_ble_eq_true rfl)
  rw [lg_entry_eq]
  generalize (lg_sl ([.ref ah, .ref bh]) ++ List.replicate (2 - (lg_sl ([.ref ah, .ref bh])).length) Slot.unset).toArray = ls at hl ⊢
  have hl : lv_has ls 2 [(0, .ref ah), (1, .ref bh)] := hl
  refine lv_aload_n hx hb d_Lists_begin_0 rfl (lv_at hl 0 rfl) ?_
  refine lv_iconst (v := 0) hx hb d_Lists_begin_1 (by decide) ?_
  refine va_put (D := (dC, dI)) (ci := 0) (v := .int 0) (ty := .boolean) (C := R_Lists) (T := F_Lists) (N := 6) hx hb htb i_Lists t_Lists t_Lists_ok n_Lists hown hK hP hD hS 0 rfl rfl 1 (by decide) (htb _ k_fl_Lists_42) (fun _ h9 => h9) rfl (by decide +kernel) rfl rfl (Nat.le_of_ble_eq_true rfl) d_Lists_begin_2 (fun H locs hP hD hS => ?_)
  have hP : va_P (dC, dI) classes [(ah, .inr (0, [.int av, .int 0, .int ap, .int aq, .ref ahs, .ref aht])), (ahs, .inl (cI, 48, .inl af)), (aht, .inl (cI, 48, .inl ag)), (bh, .inr (0, [.int bv, .int bc, .int bp, .int bq, .ref bhs, .ref bht])), (bhs, .inl (cI, 48, .inl bf)), (bht, .inl (cI, 48, .inl bg))] H := hP
  have hD : va_D A [(ah, .inr (0, [.int av, .int 0, .int ap, .int aq, .ref ahs, .ref aht])), (ahs, .inl (cI, 48, .inl af)), (aht, .inl (cI, 48, .inl ag)), (bh, .inr (0, [.int bv, .int bc, .int bp, .int bq, .ref bhs, .ref bht])), (bhs, .inl (cI, 48, .inl bf)), (bht, .inl (cI, 48, .inl bg))] := hD
  refine lv_aload_n hx hb d_Lists_begin_5 rfl (lv_at hl 0 rfl) ?_
  refine lv_aload_n hx hb d_Lists_begin_6 rfl (lv_at hl 1 rfl) ?_
  refine va_get (D := (dC, dI)) (ci := 0) (v := .int bv) (C := R_Lists) (T := F_Lists) (N := 6) hx hb htb i_Lists hown hK hP 3 rfl rfl 0 (by decide) (htb _ k_fl_Lists_33) (fun _ h9 => h9) rfl d_Lists_begin_7 ?_
  refine va_put (D := (dC, dI)) (ci := 0) (v := .int bv) (ty := .int) (C := R_Lists) (T := F_Lists) (N := 6) hx hb htb i_Lists t_Lists t_Lists_ok n_Lists hown hK hP hD hS 0 rfl rfl 0 (by decide) (htb _ k_fl_Lists_33) (fun _ h9 => h9) rfl (by decide +kernel) rfl rfl (Nat.le_of_ble_eq_true rfl) d_Lists_begin_10 (fun H locs hP hD hS => ?_)
  have hP : va_P (dC, dI) classes [(ah, .inr (0, [.int bv, .int 0, .int ap, .int aq, .ref ahs, .ref aht])), (ahs, .inl (cI, 48, .inl af)), (aht, .inl (cI, 48, .inl ag)), (bh, .inr (0, [.int bv, .int bc, .int bp, .int bq, .ref bhs, .ref bht])), (bhs, .inl (cI, 48, .inl bf)), (bht, .inl (cI, 48, .inl bg))] H := hP
  have hD : va_D A [(ah, .inr (0, [.int bv, .int 0, .int ap, .int aq, .ref ahs, .ref aht])), (ahs, .inl (cI, 48, .inl af)), (aht, .inl (cI, 48, .inl ag)), (bh, .inr (0, [.int bv, .int bc, .int bp, .int bq, .ref bhs, .ref bht])), (bhs, .inl (cI, 48, .inl bf)), (bht, .inl (cI, 48, .inl bg))] := hD
  refine lv_aload_n hx hb d_Lists_begin_13 rfl (lv_at hl 0 rfl) ?_
  refine lv_aload_n hx hb d_Lists_begin_14 rfl (lv_at hl 1 rfl) ?_
  refine va_get (D := (dC, dI)) (ci := 0) (v := .int bp) (C := R_Lists) (T := F_Lists) (N := 6) hx hb htb i_Lists hown hK hP 3 rfl rfl 2 (by decide) (htb _ k_fl_Lists_18) (fun _ h9 => h9) rfl d_Lists_begin_15 ?_
  refine va_put (D := (dC, dI)) (ci := 0) (v := .int bp) (ty := .int) (C := R_Lists) (T := F_Lists) (N := 6) hx hb htb i_Lists t_Lists t_Lists_ok n_Lists hown hK hP hD hS 0 rfl rfl 2 (by decide) (htb _ k_fl_Lists_18) (fun _ h9 => h9) rfl (by decide +kernel) rfl rfl (Nat.le_of_ble_eq_true rfl) d_Lists_begin_18 (fun H locs hP hD hS => ?_)
  have hP : va_P (dC, dI) classes [(ah, .inr (0, [.int bv, .int 0, .int bp, .int aq, .ref ahs, .ref aht])), (ahs, .inl (cI, 48, .inl af)), (aht, .inl (cI, 48, .inl ag)), (bh, .inr (0, [.int bv, .int bc, .int bp, .int bq, .ref bhs, .ref bht])), (bhs, .inl (cI, 48, .inl bf)), (bht, .inl (cI, 48, .inl bg))] H := hP
  have hD : va_D A [(ah, .inr (0, [.int bv, .int 0, .int bp, .int aq, .ref ahs, .ref aht])), (ahs, .inl (cI, 48, .inl af)), (aht, .inl (cI, 48, .inl ag)), (bh, .inr (0, [.int bv, .int bc, .int bp, .int bq, .ref bhs, .ref bht])), (bhs, .inl (cI, 48, .inl bf)), (bht, .inl (cI, 48, .inl bg))] := hD
  refine lv_aload_n hx hb d_Lists_begin_21 rfl (lv_at hl 0 rfl) ?_
  refine lv_aload_n hx hb d_Lists_begin_22 rfl (lv_at hl 1 rfl) ?_
  refine va_get (D := (dC, dI)) (ci := 0) (v := .int bq) (C := R_Lists) (T := F_Lists) (N := 6) hx hb htb i_Lists hown hK hP 3 rfl rfl 3 (by decide) (htb _ k_fl_Lists_22) (fun _ h9 => h9) rfl d_Lists_begin_23 ?_
  refine va_put (D := (dC, dI)) (ci := 0) (v := .int bq) (ty := .int) (C := R_Lists) (T := F_Lists) (N := 6) hx hb htb i_Lists t_Lists t_Lists_ok n_Lists hown hK hP hD hS 0 rfl rfl 3 (by decide) (htb _ k_fl_Lists_22) (fun _ h9 => h9) rfl (by decide +kernel) rfl rfl (Nat.le_of_ble_eq_true rfl) d_Lists_begin_26 (fun H locs hP hD hS => ?_)
  have hP : va_P (dC, dI) classes [(ah, .inr (0, [.int bv, .int 0, .int bp, .int bq, .ref ahs, .ref aht])), (ahs, .inl (cI, 48, .inl af)), (aht, .inl (cI, 48, .inl ag)), (bh, .inr (0, [.int bv, .int bc, .int bp, .int bq, .ref bhs, .ref bht])), (bhs, .inl (cI, 48, .inl bf)), (bht, .inl (cI, 48, .inl bg))] H := hP
  have hD : va_D A [(ah, .inr (0, [.int bv, .int 0, .int bp, .int bq, .ref ahs, .ref aht])), (ahs, .inl (cI, 48, .inl af)), (aht, .inl (cI, 48, .inl ag)), (bh, .inr (0, [.int bv, .int bc, .int bp, .int bq, .ref bhs, .ref bht])), (bhs, .inl (cI, 48, .inl bf)), (bht, .inl (cI, 48, .inl bg))] := hD
  exact W.vret hx hb hr (fun t ht hW => ⟨⟨(bv, 0, bp, bq), rfl, hv, by rw [ht]; exact hP, hD⟩, hS.F ht⟩) hS.2.2 d_Lists_begin_29
def vb_Lists_takePart_15 (x3 : Int32) (bf : Nat → Int32) (bg : Nat → Int32) (post : (Nat → Int32) → (Nat → Int32) → Prop) (K15 : Int32 → (Nat → Int32) → (Nat → Int32) → Prop) (x4 : Int32) (afM : Nat → Int32) (agM : Nat → Int32) : Prop := ((x3 ≤ x4 → post afM agM) ∧ (¬ x3 ≤ x4 → (vp_in x4 48 ∧ (vp_in x4 48 ∧ (vp_in x4 48 ∧ (vp_in x4 48 ∧ K15 (x4 + 1) (upd afM x4.toNatClampNeg (bf x4.toNatClampNeg)) (upd agM x4.toNatClampNeg (bg x4.toNatClampNeg))))))))
def v_Lists_takePart_15 (x3 : Int32) (bf : Nat → Int32) (bg : Nat → Int32) (post : (Nat → Int32) → (Nat → Int32) → Prop) : Nat → Int32 → (Nat → Int32) → (Nat → Int32) → Prop
  | 0 => fun _ _ _ => False
  | n + 1 => vb_Lists_takePart_15 x3 bf bg post (v_Lists_takePart_15 x3 bf bg post n)
def v_Lists_takePart (av : Int32) (ac : Int32) (ap : Int32) (aq : Int32) (af : Nat → Int32) (ag : Nat → Int32) (bv : Int32) (bc : Int32) (bp : Int32) (bq : Int32) (bf : Nat → Int32) (bg : Nat → Int32) (p0 : Int32) (post : (Nat → Int32) → (Nat → Int32) → Prop) : Prop := v_Lists_entries bv bc bp bq bf bg (fun r_1 => ∃ n, v_Lists_takePart_15 (if r_1 < (p0 + 8) then r_1 else (p0 + 8)) bf bg post n p0 af ag)
abbrev q_Lists_takePart (dC : Nat → ClassId) (dI : Nat → Nat → Nat) (cI cZ : ClassId) (ah bh ahs aht bhs bht : Nat) (av : Int32) (ac : Int32) (ap : Int32) (aq : Int32) (af : Nat → Int32) (ag : Nat → Int32) (bv : Int32) (bc : Int32) (bp : Int32) (bq : Int32) (bf : Nat → Int32) (bg : Nat → Int32) (A : Nat → Prop) (post : (Nat → Int32) → (Nat → Int32) → Prop) : Array Value → State → Outcome → State → Prop := va_Qv (fun (u : (Nat → Int32) × (Nat → Int32)) => post u.1 u.2) (fun (u : (Nat → Int32) × (Nat → Int32)) t => va_P (dC, dI) classes [(ah, .inr (0, [.int av, .int ac, .int ap, .int aq, .ref ahs, .ref aht])), (ahs, .inl (cI, 48, .inl u.1)), (aht, .inl (cI, 48, .inl u.2)), (bh, .inr (0, [.int bv, .int bc, .int bp, .int bq, .ref bhs, .ref bht])), (bhs, .inl (cI, 48, .inl bf)), (bht, .inl (cI, 48, .inl bg))] t.heap ∧ va_D A [(ah, .inr (0, [.int av, .int ac, .int ap, .int aq, .ref ahs, .ref aht])), (ahs, .inl (cI, 48, .inl u.1)), (aht, .inl (cI, 48, .inl u.2)), (bh, .inr (0, [.int bv, .int bc, .int bp, .int bq, .ref bhs, .ref bht])), (bhs, .inl (cI, 48, .inl bf)), (bht, .inl (cI, 48, .inl bg))]) A
set_option maxHeartbeats 4000000 in
set_option maxRecDepth 100000 in
theorem m_Lists_takePart (l : Launch) (dC : Nat → ClassId) (dI : Nat → Nat → Nat) (cI cZ : ClassId) (ah bh ahs aht bhs bht : Nat) (zz : Nat) (av : Int32) (ac : Int32) (ap : Int32) (aq : Int32) (af : Nat → Int32) (ag : Nat → Int32) (bv : Int32) (bc : Int32) (bp : Int32) (bq : Int32) (bf : Nat → Int32) (bg : Nat → Int32) (p0 : Int32) (post : (Nat → Int32) → (Nat → Int32) → Prop) (hv : v_Lists_takePart av ac ap aq af ag bv bc bp bq bf bg p0 post) : Met l y_Lists_takePart w_Lists_takePart ({ frames := 1, cells := 0, slots := 0, locals := 21 }) (va_Pc [.ref ah, .ref bh, .int p0] (fun U => U.heap.size = zz ∧ va_P (dC, dI) classes [(ah, .inr (0, [.int av, .int ac, .int ap, .int aq, .ref ahs, .ref aht])), (ahs, .inl (cI, 48, .inl af)), (aht, .inl (cI, 48, .inl ag)), (bh, .inr (0, [.int bv, .int bc, .int bp, .int bq, .ref bhs, .ref bht])), (bhs, .inl (cI, 48, .inl bf)), (bht, .inl (cI, 48, .inl bg))] U.heap ∧ va_K (dC, dI) classes [(cI, .int), (cZ, .boolean)] U ∧ nz_N U ∧ va_D (fun _ => True) [(ah, .inr (0, [.int av, .int ac, .int ap, .int aq, .ref ahs, .ref aht])), (ahs, .inl (cI, 48, .inl af)), (aht, .inl (cI, 48, .inl ag)), (bh, .inr (0, [.int bv, .int bc, .int bp, .int bq, .ref bhs, .ref bht])), (bhs, .inl (cI, 48, .inl bf)), (bht, .inl (cI, 48, .inl bg))])) (q_Lists_takePart dC dI cI cZ ah bh ahs aht bhs bht av ac ap aq af ag bv bc bp bq bf bg (va_A [(ah, .inr (0, [.int av, .int ac, .int ap, .int aq, .ref ahs, .ref aht])), (ahs, .inl (cI, 48, .inl af)), (aht, .inl (cI, 48, .inl ag)), (bh, .inr (0, [.int bv, .int bc, .int bp, .int bq, .ref bhs, .ref bht])), (bhs, .inl (cI, 48, .inl bf)), (bht, .inl (cI, 48, .inl bg))] zz) post) 0 0 (va_A [(ah, .inr (0, [.int av, .int ac, .int ap, .int aq, .ref ahs, .ref aht])), (ahs, .inl (cI, 48, .inl af)), (aht, .inl (cI, 48, .inl ag)), (bh, .inr (0, [.int bv, .int bc, .int bp, .int bq, .ref bhs, .ref bht])), (bhs, .inl (cI, 48, .inl bf)), (bht, .inl (cI, 48, .inl bg))] zz) := by
  refine Met.ofW (cc := b_Lists_takePart) (maxL := 5) (ret := none) (by decide) rfl ?_
  intro p e s m args below meth c s₁ B hml hv0
  obtain ⟨rfl, hsz, hP, hK, hN, hD0⟩ := hv0
  have hx := B.exec
  have hb := B.bytes
  have hr := B.returns
  have htb := w_tbl (atoms_spec (ws := w_Lists_takePart) B.pre)
  have hown : s.vm.findClass R_Lists = some m.cls := findClass_of_methodNamed B.named
  have hlocks := B.notSynchronized
  subst hsz
  have hD := hD0.self (sz := s.heap.size)
  generalize hAe : va_A [(ah, .inr (0, [.int av, .int ac, .int ap, .int aq, .ref ahs, .ref aht])), (ahs, .inl (cI, 48, .inl af)), (aht, .inl (cI, 48, .inl ag)), (bh, .inr (0, [.int bv, .int bc, .int bp, .int bq, .ref bhs, .ref bht])), (bhs, .inl (cI, 48, .inl bf)), (bht, .inl (cI, 48, .inl bg))] s.heap.size = A at hD ⊢
  have hA : ∀ q : Nat, s.heap.size ≤ q → A q := fun q h => by rw [← hAe]; exact Or.inr h
  have hS : va_S A s.heap s.heap [] := va_S.rf
  have hl := lv_entry ([.ref ah, .ref bh, .int p0]) (n := 5) (Nat.le_of_ble_eq_true rfl)
  rw [lg_entry_eq]
  generalize (lg_sl ([.ref ah, .ref bh, .int p0]) ++ List.replicate (5 - (lg_sl ([.ref ah, .ref bh, .int p0])).length) Slot.unset).toArray = ls at hl ⊢
  have hl : lv_has ls 5 [(0, .ref ah), (1, .ref bh), (2, .int p0)] := hl
  have J15 : ∀ (x3 : Int32) (n : Nat) (x4 : Int32) (afM : Nat → Int32) (agM : Nat → Int32) (H : Heap) (locs : List Loc), v_Lists_takePart_15 x3 bf bg post n x4 afM agM → va_P (dC, dI) classes [(ah, .inr (0, [.int av, .int ac, .int ap, .int aq, .ref ahs, .ref aht])), (ahs, .inl (cI, 48, .inl afM)), (aht, .inl (cI, 48, .inl agM)), (bh, .inr (0, [.int bv, .int bc, .int bp, .int bq, .ref bhs, .ref bht])), (bhs, .inl (cI, 48, .inl bf)), (bht, .inl (cI, 48, .inl bg))] H → va_D A [(ah, .inr (0, [.int av, .int ac, .int ap, .int aq, .ref ahs, .ref aht])), (ahs, .inl (cI, 48, .inl afM)), (aht, .inl (cI, 48, .inl agM)), (bh, .inr (0, [.int bv, .int bc, .int bp, .int bq, .ref bhs, .ref bht])), (bhs, .inl (cI, 48, .inl bf)), (bht, .inl (cI, 48, .inl bg))] → va_S A s.heap H locs → ∀ ls : Array Slot, lv_has ls 5 [(0, .ref ah), (1, .ref bh), (3, .int x3), (4, .int x4)] → W p l e (headSpec w_Lists_takePart ({ frames := 1, cells := 0, slots := 0, locals := 21 })).room s m ([.ref ah, .ref bh, .int p0] : List Value).toArray below meth c H locs 0 0 (MQ below (q_Lists_takePart dC dI cI cZ ah bh ahs aht bhs bht av ac ap aq af ag bv bc bp bq bf bg A post) ([.ref ah, .ref bh, .int p0] : List Value).toArray s 0 0 A) (F0 m 15 ls []) := by
    intro x3 n15
    induction n15 with
    | zero =>
      intro x4 afM agM H locs hv
      exact absurd hv id
    | succ n15 ih15 =>
      intro x4 afM agM H locs hv hP hD hS ls hl
      have hv : vb_Lists_takePart_15 x3 bf bg post (v_Lists_takePart_15 x3 bf bg post n15) x4 afM agM := hv
      refine lv_iload hx hb d_Lists_takePart_15 (lv_at hl 3 rfl) ?_
      refine lv_iload_n hx hb d_Lists_takePart_17 rfl (lv_at hl 2 rfl) ?_
      refine lv_icmp_ge (tgt := 55) hx hb d_Lists_takePart_18 (by decide) (fun c_2 => ?_) (fun c_2 => ?_)
      · have hv := hv.1 c_2
        exact W.vret hx hb hr (fun t ht hW => ⟨⟨(afM, agM), rfl, hv, by rw [ht]; exact hP, hD⟩, hS.F ht⟩) hS.2.2 d_Lists_takePart_55
      · have hv := hv.2 c_2
        refine lv_aload_n hx hb d_Lists_takePart_21 rfl (lv_at hl 0 rfl) ?_
        refine va_get (D := (dC, dI)) (ci := 0) (v := .ref ahs) (C := R_Lists) (T := F_Lists) (N := 6) hx hb htb i_Lists hown hK hP 0 rfl rfl 4 (by decide) (htb _ k_fl_Lists_9) (fun _ h9 => h9) rfl d_Lists_takePart_22 ?_
        refine lv_iload hx hb d_Lists_takePart_25 (lv_at hl 3 rfl) ?_
        refine lv_aload_n hx hb d_Lists_takePart_27 rfl (lv_at hl 1 rfl) ?_
        refine va_get (D := (dC, dI)) (ci := 0) (v := .ref bhs) (C := R_Lists) (T := F_Lists) (N := 6) hx hb htb i_Lists hown hK hP 3 rfl rfl 4 (by decide) (htb _ k_fl_Lists_9) (fun _ h9 => h9) rfl d_Lists_takePart_28 ?_
        refine lv_iload hx hb d_Lists_takePart_31 (lv_at hl 3 rfl) ?_
        obtain ⟨h_3, hv⟩ := hv
        refine va_iald hx hb hK hP 4 0 rfl rfl h_3 d_Lists_takePart_33 ?_
        obtain ⟨h_4, hv⟩ := hv
        refine va_iast hx hb hK hP hD hS 1 0 rfl rfl h_4 d_Lists_takePart_34 (fun H locs hP hD hS => ?_)
        have hP : va_P (dC, dI) classes [(ah, .inr (0, [.int av, .int ac, .int ap, .int aq, .ref ahs, .ref aht])), (ahs, .inl (cI, 48, .inl (upd afM x4.toNatClampNeg (bf x4.toNatClampNeg)))), (aht, .inl (cI, 48, .inl agM)), (bh, .inr (0, [.int bv, .int bc, .int bp, .int bq, .ref bhs, .ref bht])), (bhs, .inl (cI, 48, .inl bf)), (bht, .inl (cI, 48, .inl bg))] H := hP
        have hD : va_D A [(ah, .inr (0, [.int av, .int ac, .int ap, .int aq, .ref ahs, .ref aht])), (ahs, .inl (cI, 48, .inl (upd afM x4.toNatClampNeg (bf x4.toNatClampNeg)))), (aht, .inl (cI, 48, .inl agM)), (bh, .inr (0, [.int bv, .int bc, .int bp, .int bq, .ref bhs, .ref bht])), (bhs, .inl (cI, 48, .inl bf)), (bht, .inl (cI, 48, .inl bg))] := hD
        refine lv_aload_n hx hb d_Lists_takePart_35 rfl (lv_at hl 0 rfl) ?_
        refine va_get (D := (dC, dI)) (ci := 0) (v := .ref aht) (C := R_Lists) (T := F_Lists) (N := 6) hx hb htb i_Lists hown hK hP 0 rfl rfl 5 (by decide) (htb _ k_fl_Lists_15) (fun _ h9 => h9) rfl d_Lists_takePart_36 ?_
        refine lv_iload hx hb d_Lists_takePart_39 (lv_at hl 3 rfl) ?_
        refine lv_aload_n hx hb d_Lists_takePart_41 rfl (lv_at hl 1 rfl) ?_
        refine va_get (D := (dC, dI)) (ci := 0) (v := .ref bht) (C := R_Lists) (T := F_Lists) (N := 6) hx hb htb i_Lists hown hK hP 3 rfl rfl 5 (by decide) (htb _ k_fl_Lists_15) (fun _ h9 => h9) rfl d_Lists_takePart_42 ?_
        refine lv_iload hx hb d_Lists_takePart_45 (lv_at hl 3 rfl) ?_
        obtain ⟨h_5, hv⟩ := hv
        refine va_iald hx hb hK hP 5 0 rfl rfl h_5 d_Lists_takePart_47 ?_
        obtain ⟨h_6, hv⟩ := hv
        refine va_iast hx hb hK hP hD hS 2 0 rfl rfl h_6 d_Lists_takePart_48 (fun H locs hP hD hS => ?_)
        have hP : va_P (dC, dI) classes [(ah, .inr (0, [.int av, .int ac, .int ap, .int aq, .ref ahs, .ref aht])), (ahs, .inl (cI, 48, .inl (upd afM x4.toNatClampNeg (bf x4.toNatClampNeg)))), (aht, .inl (cI, 48, .inl (upd agM x4.toNatClampNeg (bg x4.toNatClampNeg)))), (bh, .inr (0, [.int bv, .int bc, .int bp, .int bq, .ref bhs, .ref bht])), (bhs, .inl (cI, 48, .inl bf)), (bht, .inl (cI, 48, .inl bg))] H := hP
        have hD : va_D A [(ah, .inr (0, [.int av, .int ac, .int ap, .int aq, .ref ahs, .ref aht])), (ahs, .inl (cI, 48, .inl (upd afM x4.toNatClampNeg (bf x4.toNatClampNeg)))), (aht, .inl (cI, 48, .inl (upd agM x4.toNatClampNeg (bg x4.toNatClampNeg)))), (bh, .inr (0, [.int bv, .int bc, .int bp, .int bq, .ref bhs, .ref bht])), (bhs, .inl (cI, 48, .inl bf)), (bht, .inl (cI, 48, .inl bg))] := hD
        refine lv_iinc (v := x4 + 1) (lv' := [(4, .int (x4 + 1)), (0, .ref ah), (1, .ref bh), (3, .int x3)]) hx hb d_Lists_takePart_49 hl (k := 3) rfl rfl (by decide) rfl (fun ls hl => ?_)
        refine lv_goto (tgt := 15) hx hb d_Lists_takePart_52 (by decide) ?_
        exact ih15 (x4 + 1) (upd afM x4.toNatClampNeg (bf x4.toNatClampNeg)) (upd agM x4.toNatClampNeg (bg x4.toNatClampNeg)) _ _ hv hP hD hS ls (lv_sub hl [1, 2, 3, 0] rfl)
  refine lv_iload_n hx hb d_Lists_takePart_0 rfl (lv_at hl 2 rfl) ?_
  refine lv_bipush (v := 8) hx hb d_Lists_takePart_1 (by decide) ?_
  refine lv_iadd hx hb d_Lists_takePart_3 ?_
  refine lv_aload_n hx hb d_Lists_takePart_4 rfl (lv_at hl 1 rfl) ?_
  have hPc := hP.sub (ws' := [(bh, .inr (0, [.int bv, .int bc, .int bp, .int bq, .ref bhs, .ref bht])), (bhs, .inl (cI, 48, .inl bf)), (bht, .inl (cI, 48, .inl bg))]) [3, 4, 5] rfl
  refine cz_r (va_runV (As := []) (rest := [.int (p0 + 8)]) ⟨hx, hb, hml, hown, htb⟩ (m_Lists_entries l dC dI cI cZ bh bhs bht _ bv bc bp bq bf bg _ hv) (cwV 0 htb (gz_V k_ml_Lists_29 k_inst_Lists_entries k_sel_Lists_entries k_init_Lists k_code_Lists_entries) rfl rfl rfl (by decide +kernel) ⟨Nat.le_of_ble_eq_true rfl, Nat.le_of_ble_eq_true rfl⟩) (pz_VR (ci := 0) (q0 := 0) hPc hK hN rfl rfl) rfl rfl hl.1 rfl (lv_room (Nat.le_of_ble_eq_true rfl)) d_Lists_takePart_5 ⟨Nat.le_of_ble_eq_true rfl, Nat.le_of_ble_eq_true rfl⟩) hP hS hA (fun r_1 H hv hP hS => ?_)
  refine va_mmin hx hb (hml.trans hl.1.symm) hown (htb _ k_ml_Lists_46) (htb _ k_st_min) (htb _ k_init_Math) (htb _ k_cd_min) (Nat.le_of_ble_eq_true rfl) (Nat.le_of_ble_eq_true rfl) (Nat.zero_le _) (Nat.zero_le _) d_Lists_takePart_8 ?_
  refine lv_istore_n (lv' := [(3, .int (if r_1 < (p0 + 8) then r_1 else (p0 + 8))), (0, .ref ah), (1, .ref bh), (2, .int p0)]) hx hb d_Lists_takePart_11 rfl hl (by decide) rfl (fun ls hl => ?_)
  refine lv_iload_n hx hb d_Lists_takePart_12 rfl (lv_at hl 3 rfl) ?_
  refine lv_istore (lv' := [(4, .int p0), (3, .int (if r_1 < (p0 + 8) then r_1 else (p0 + 8))), (0, .ref ah), (1, .ref bh), (2, .int p0)]) hx hb d_Lists_takePart_13 hl (by decide) rfl (fun ls hl => ?_)
  obtain ⟨n_15, hv⟩ := hv
  exact J15 (if r_1 < (p0 + 8) then r_1 else (p0 + 8)) n_15 p0 af ag _ _ hv hP hD hS ls (lv_sub hl [2, 3, 1, 0] rfl)
