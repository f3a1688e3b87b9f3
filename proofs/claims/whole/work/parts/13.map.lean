def v_SectorMap_holds (mk : Int32) (mo : Nat → Int32) (mp : Nat → Int32) (ml : Nat → Int32) (mi : Nat → Int32) (p0 : Int32) (post : Int32 → Prop) : Prop := ((p0 < 0 → post 0) ∧ (¬ p0 < 0 → ((mk ≤ p0 → post 0) ∧ (¬ mk ≤ p0 → post 1))))
set_option maxHeartbeats 4000000 in
set_option maxRecDepth 100000 in
theorem m_SectorMap_holds (l : Launch) (dC : Nat → ClassId) (dI : Nat → Nat → Nat) (cI cZ : ClassId) (mh mx my mz mu : Nat) (zz : Nat) (mk : Int32) (mo : Nat → Int32) (mp : Nat → Int32) (ml : Nat → Int32) (mi : Nat → Int32) (p0 : Int32) (post : Int32 → Prop) (hv : v_SectorMap_holds mk mo mp ml mi p0 post) : Met l y_SectorMap_holds w_SectorMap_holds ({ frames := 0, cells := 0, slots := 0, locals := 0 }) (va_Pc [.ref mh, .int p0] (fun U => U.heap.size = zz ∧ va_P (dC, dI) classes [(mh, .inr (2, [.int mk, .ref mx, .ref my, .ref mz, .ref mu])), (mx, .inl (cI, 143, .inl mo)), (my, .inl (cI, 143, .inl mp)), (mz, .inl (cI, 192, .inl ml)), (mu, .inl (cZ, 192, .inl mi))] U.heap ∧ va_K (dC, dI) classes [(cI, .int), (cZ, .boolean)] U ∧ nz_N U)) (va_Qi (fun (r : Int32) (_ : Unit) => post r ) (fun _ _ => True) (fun q : Nat => zz ≤ q)) 0 0 (fun q : Nat => zz ≤ q) := by
  refine Met.ofW (cc := b_SectorMap_holds) (maxL := 2) (ret := (some .boolean)) (by decide) rfl ?_
  intro p e s m args below meth c s₁ B hml hv0
  obtain ⟨rfl, hsz, hP, hK, hN⟩ := hv0
  have hx := B.exec
  have hb := B.bytes
  have hr := B.returns
  have htb := w_tbl (atoms_spec (ws := w_SectorMap_holds) B.pre)
  have hown : s.vm.findClass R_SectorMap = some m.cls := findClass_of_methodNamed B.named
  have hlocks := B.notSynchronized
  subst hsz
  have hA : ∀ q : Nat, s.heap.size ≤ q → (fun q : Nat => s.heap.size ≤ q) q := fun _ h => h
  have hS : va_S (fun q : Nat => s.heap.size ≤ q) s.heap s.heap [] := va_S.rf
  have hl := lv_entry ([.ref mh, .int p0]) (n := 2) (Nat.le_of_ble_eq_true rfl)
  rw [lg_entry_eq]
  generalize (lg_sl ([.ref mh, .int p0]) ++ List.replicate (2 - (lg_sl ([.ref mh, .int p0])).length) Slot.unset).toArray = ls at hl ⊢
  have hl : lv_has ls 2 [(0, .ref mh), (1, .int p0)] := hl
  refine lv_iload_n hx hb d_SectorMap_holds_0 rfl (lv_at hl 1 rfl) ?_
  refine lv_if_lt (tgt := 16) hx hb d_SectorMap_holds_1 (by decide) (fun c_1 => ?_) (fun c_1 => ?_)
  · have hv := hv.1 c_1
    refine lv_iconst (v := 0) hx hb d_SectorMap_holds_16 (by decide) ?_
    exact W.zret (v := 0) hx hb hr rfl (fun t ht hW => ⟨⟨0, (), rfl, hv, trivial⟩, hS.F ht⟩) hS.2.2 d_SectorMap_holds_17
  · have hv := hv.2 c_1
    refine lv_iload_n hx hb d_SectorMap_holds_4 rfl (lv_at hl 1 rfl) ?_
    refine lv_aload_n hx hb d_SectorMap_holds_5 rfl (lv_at hl 0 rfl) ?_
    refine va_get (D := (dC, dI)) (ci := 2) (v := .int mk) (C := R_SectorMap) (T := F_SectorMap) (N := 5) hx hb htb i_SectorMap hown hK hP 0 rfl rfl 0 (by decide) (htb _ k_fl_SectorMap_31) (fun _ h9 => h9) rfl d_SectorMap_holds_6 ?_
    refine lv_icmp_ge (tgt := 16) hx hb d_SectorMap_holds_9 (by decide) (fun c_2 => ?_) (fun c_2 => ?_)
    · have hv := hv.1 c_2
      refine lv_iconst (v := 0) hx hb d_SectorMap_holds_16 (by decide) ?_
      exact W.zret (v := 0) hx hb hr rfl (fun t ht hW => ⟨⟨0, (), rfl, hv, trivial⟩, hS.F ht⟩) hS.2.2 d_SectorMap_holds_17
    · have hv := hv.2 c_2
      refine lv_iconst (v := 1) hx hb d_SectorMap_holds_12 (by decide) ?_
      refine lv_goto (tgt := 17) hx hb d_SectorMap_holds_13 (by decide) ?_
      exact W.zret (v := 1) hx hb hr rfl (fun t ht hW => ⟨⟨1, (), rfl, hv, trivial⟩, hS.F ht⟩) hS.2.2 d_SectorMap_holds_17
def vb_SectorMap_forget_7 (mkM : Int32) (post : Int32 → (Nat → Int32) → (Nat → Int32) → Prop) (K7 : Int32 → (Nat → Int32) → (Nat → Int32) → Prop) (x1 : Int32) (mlM : Nat → Int32) (miM : Nat → Int32) : Prop := ((192 ≤ x1 → post mkM mlM miM) ∧ (¬ 192 ≤ x1 → (vp_in x1 192 ∧ (vp_in x1 192 ∧ K7 (x1 + 1) (upd mlM x1.toNatClampNeg (-1)) (upd miM x1.toNatClampNeg (vp_nar .boolean 0))))))
def v_SectorMap_forget_7 (mkM : Int32) (post : Int32 → (Nat → Int32) → (Nat → Int32) → Prop) : Nat → Int32 → (Nat → Int32) → (Nat → Int32) → Prop
  | 0 => fun _ _ _ => False
  | n + 1 => vb_SectorMap_forget_7 mkM post (v_SectorMap_forget_7 mkM post n)
def v_SectorMap_forget (mk : Int32) (mo : Nat → Int32) (mp : Nat → Int32) (ml : Nat → Int32) (mi : Nat → Int32) (post : Int32 → (Nat → Int32) → (Nat → Int32) → Prop) : Prop := ∃ n, v_SectorMap_forget_7 0 post n 0 ml mi
abbrev q_SectorMap_forget (dC : Nat → ClassId) (dI : Nat → Nat → Nat) (cI cZ : ClassId) (mh mx my mz mu : Nat) (mk : Int32) (mo : Nat → Int32) (mp : Nat → Int32) (ml : Nat → Int32) (mi : Nat → Int32) (A : Nat → Prop) (post : Int32 → (Nat → Int32) → (Nat → Int32) → Prop) : Array Value → State → Outcome → State → Prop := va_Qv (fun (u : Int32 × (Nat → Int32) × (Nat → Int32)) => post u.1 u.2.1 u.2.2) (fun (u : Int32 × (Nat → Int32) × (Nat → Int32)) t => va_P (dC, dI) classes [(mh, .inr (2, [.int u.1, .ref mx, .ref my, .ref mz, .ref mu])), (mx, .inl (cI, 143, .inl mo)), (my, .inl (cI, 143, .inl mp)), (mz, .inl (cI, 192, .inl u.2.1)), (mu, .inl (cZ, 192, .inl u.2.2))] t.heap ∧ va_D A [(mh, .inr (2, [.int u.1, .ref mx, .ref my, .ref mz, .ref mu])), (mx, .inl (cI, 143, .inl mo)), (my, .inl (cI, 143, .inl mp)), (mz, .inl (cI, 192, .inl u.2.1)), (mu, .inl (cZ, 192, .inl u.2.2))]) A
set_option maxHeartbeats 4000000 in
set_option maxRecDepth 100000 in
theorem m_SectorMap_forget (l : Launch) (dC : Nat → ClassId) (dI : Nat → Nat → Nat) (cI cZ : ClassId) (mh mx my mz mu : Nat) (zz : Nat) (mk : Int32) (mo : Nat → Int32) (mp : Nat → Int32) (ml : Nat → Int32) (mi : Nat → Int32) (post : Int32 → (Nat → Int32) → (Nat → Int32) → Prop) (hv : v_SectorMap_forget mk mo mp ml mi post) : Met l y_SectorMap_forget w_SectorMap_forget ({ frames := 0, cells := 0, slots := 0, locals := 0 }) (va_Pc [.ref mh] (fun U => U.heap.size = zz ∧ va_P (dC, dI) classes [(mh, .inr (2, [.int mk, .ref mx, .ref my, .ref mz, .ref mu])), (mx, .inl (cI, 143, .inl mo)), (my, .inl (cI, 143, .inl mp)), (mz, .inl (cI, 192, .inl ml)), (mu, .inl (cZ, 192, .inl mi))] U.heap ∧ va_K (dC, dI) classes [(cI, .int), (cZ, .boolean)] U ∧ nz_N U ∧ va_D (fun _ => True) [(mh, .inr (2, [.int mk, .ref mx, .ref my, .ref mz, .ref mu])), (mx, .inl (cI, 143, .inl mo)), (my, .inl (cI, 143, .inl mp)), (mz, .inl (cI, 192, .inl ml)), (mu, .inl (cZ, 192, .inl mi))])) (q_SectorMap_forget dC dI cI cZ mh mx my mz mu mk mo mp ml mi (va_A [(mh, .inr (2, [.int mk, .ref mx, .ref my, .ref mz, .ref mu])), (mx, .inl (cI, 143, .inl mo)), (my, .inl (cI, 143, .inl mp)), (mz, .inl (cI, 192, .inl ml)), (mu, .inl (cZ, 192, .inl mi))] zz) post) 0 0 (va_A [(mh, .inr (2, [.int mk, .ref mx, .ref my, .ref mz, .ref mu])), (mx, .inl (cI, 143, .inl mo)), (my, .inl (cI, 143, .inl mp)), (mz, .inl (cI, 192, .inl ml)), (mu, .inl (cZ, 192, .inl mi))] zz) := by
  refine Met.ofW (cc := b_SectorMap_forget) (maxL := 2) (ret := none) (by decide) rfl ?_
  intro p e s m args below meth c s₁ B hml hv0
  obtain ⟨rfl, hsz, hP, hK, hN, hD0⟩ := hv0
  have hx := B.exec
  have hb := B.bytes
  have hr := B.returns
  have htb := w_tbl (atoms_spec (ws := w_SectorMap_forget) B.pre)
  have hown : s.vm.findClass R_SectorMap = some m.cls := findClass_of_methodNamed B.named
  have hlocks := B.notSynchronized
  subst hsz
  have hD := hD0.self (sz := s.heap.size)
  generalize hAe : va_A [(mh, .inr (2, [.int mk, .ref mx, .ref my, .ref mz, .ref mu])), (mx, .inl (cI, 143, .inl mo)), (my, .inl (cI, 143, .inl mp)), (mz, .inl (cI, 192, .inl ml)), (mu, .inl (cZ, 192, .inl mi))] s.heap.size = A at hD ⊢
  have hA : ∀ q : Nat, s.heap.size ≤ q → A q := fun q h => by rw [← hAe]; exact Or.inr h
  have hS : va_S A s.heap s.heap [] := va_S.rf
  have hl := lv_entry ([.ref mh]) (n := 2) (Nat.le_of_ble_eq_true rfl)
  rw [lg_entry_eq]
  generalize (lg_sl ([.ref mh]) ++ List.replicate (2 - (lg_sl ([.ref mh])).length) Slot.unset).toArray = ls at hl ⊢
  have hl : lv_has ls 2 [(0, .ref mh)] := hl
  have J7 : ∀ (mkM : Int32) (n : Nat) (x1 : Int32) (mlM : Nat → Int32) (miM : Nat → Int32) (H : Heap) (locs : List Loc), v_SectorMap_forget_7 mkM post n x1 mlM miM → va_P (dC, dI) classes [(mh, .inr (2, [.int mkM, .ref mx, .ref my, .ref mz, .ref mu])), (mx, .inl (cI, 143, .inl mo)), (my, .inl (cI, 143, .inl mp)), (mz, .inl (cI, 192, .inl mlM)), (mu, .inl (cZ, 192, .inl miM))] H → va_D A [(mh, .inr (2, [.int mkM, .ref mx, .ref my, .ref mz, .ref mu])), (mx, .inl (cI, 143, .inl mo)), (my, .inl (cI, 143, .inl mp)), (mz, .inl (cI, 192, .inl mlM)), (mu, .inl (cZ, 192, .inl miM))] → va_S A s.heap H locs → ∀ ls : Array Slot, lv_has ls 2 [(0, .ref mh), (1, .int x1)] → W p l e (headSpec w_SectorMap_forget ({ frames := 0, cells := 0, slots := 0, locals := 0 })).room s m ([.ref mh] : List Value).toArray below meth c H locs 0 0 (MQ below (q_SectorMap_forget dC dI cI cZ mh mx my mz mu mk mo mp ml mi A post) ([.ref mh] : List Value).toArray s 0 0 A) (F0 m 7 ls []) := by
    intro mkM n7
    induction n7 with
    | zero =>
      intro x1 mlM miM H locs hv
      exact absurd hv id
    | succ n7 ih7 =>
      intro x1 mlM miM H locs hv hP hD hS ls hl
      have hv : vb_SectorMap_forget_7 mkM post (v_SectorMap_forget_7 mkM post n7) x1 mlM miM := hv
      refine lv_iload_n hx hb d_SectorMap_forget_7 rfl (lv_at hl 1 rfl) ?_
      refine lv_sipush (v := 192) hx hb d_SectorMap_forget_8 (by decide) ?_
      refine lv_icmp_ge (tgt := 34) hx hb d_SectorMap_forget_11 (by decide) (fun c_1 => ?_) (fun c_1 => ?_)
      · have hv := hv.1 c_1
        exact W.vret hx hb hr (fun t ht hW => ⟨⟨(mkM, mlM, miM), rfl, hv, by rw [ht]; exact hP, hD⟩, hS.F ht⟩) hS.2.2 d_SectorMap_forget_34
      · have hv := hv.2 c_1
        refine lv_aload_n hx hb d_SectorMap_forget_14 rfl (lv_at hl 0 rfl) ?_
        refine va_get (D := (dC, dI)) (ci := 2) (v := .ref mz) (C := R_SectorMap) (T := F_SectorMap) (N := 5) hx hb htb i_SectorMap hown hK hP 0 rfl rfl 3 (by decide) (htb _ k_fl_SectorMap_18) (fun _ h9 => h9) rfl d_SectorMap_forget_15 ?_
        refine lv_iload_n hx hb d_SectorMap_forget_18 rfl (lv_at hl 1 rfl) ?_
        refine lv_iconst (v := (-1)) hx hb d_SectorMap_forget_19 (by decide) ?_
        obtain ⟨h_2, hv⟩ := hv
        refine va_iast hx hb hK hP hD hS 3 0 rfl rfl h_2 d_SectorMap_forget_20 (fun H locs hP hD hS => ?_)
        have hP : va_P (dC, dI) classes [(mh, .inr (2, [.int mkM, .ref mx, .ref my, .ref mz, .ref mu])), (mx, .inl (cI, 143, .inl mo)), (my, .inl (cI, 143, .inl mp)), (mz, .inl (cI, 192, .inl (upd mlM x1.toNatClampNeg (-1)))), (mu, .inl (cZ, 192, .inl miM))] H := hP
        have hD : va_D A [(mh, .inr (2, [.int mkM, .ref mx, .ref my, .ref mz, .ref mu])), (mx, .inl (cI, 143, .inl mo)), (my, .inl (cI, 143, .inl mp)), (mz, .inl (cI, 192, .inl (upd mlM x1.toNatClampNeg (-1)))), (mu, .inl (cZ, 192, .inl miM))] := hD
        refine lv_aload_n hx hb d_SectorMap_forget_21 rfl (lv_at hl 0 rfl) ?_
        refine va_get (D := (dC, dI)) (ci := 2) (v := .ref mu) (C := R_SectorMap) (T := F_SectorMap) (N := 5) hx hb htb i_SectorMap hown hK hP 0 rfl rfl 4 (by decide) (htb _ k_fl_SectorMap_21) (fun _ h9 => h9) rfl d_SectorMap_forget_22 ?_
        refine lv_iload_n hx hb d_SectorMap_forget_25 rfl (lv_at hl 1 rfl) ?_
        refine lv_iconst (v := 0) hx hb d_SectorMap_forget_26 (by decide) ?_
        obtain ⟨h_3, hv⟩ := hv
        refine va_zast hx hb hK hP hD hS 4 1 rfl rfl h_3 d_SectorMap_forget_27 (fun H locs hP hD hS => ?_)
        have hP : va_P (dC, dI) classes [(mh, .inr (2, [.int mkM, .ref mx, .ref my, .ref mz, .ref mu])), (mx, .inl (cI, 143, .inl mo)), (my, .inl (cI, 143, .inl mp)), (mz, .inl (cI, 192, .inl (upd mlM x1.toNatClampNeg (-1)))), (mu, .inl (cZ, 192, .inl (upd miM x1.toNatClampNeg (vp_nar .boolean 0))))] H := hP
        have hD : va_D A [(mh, .inr (2, [.int mkM, .ref mx, .ref my, .ref mz, .ref mu])), (mx, .inl (cI, 143, .inl mo)), (my, .inl (cI, 143, .inl mp)), (mz, .inl (cI, 192, .inl (upd mlM x1.toNatClampNeg (-1)))), (mu, .inl (cZ, 192, .inl (upd miM x1.toNatClampNeg (vp_nar .boolean 0))))] := hD
        refine lv_iinc (v := x1 + 1) (lv' := [(1, .int (x1 + 1)), (0, .ref mh)]) hx hb d_SectorMap_forget_28 hl (k := 1) rfl rfl (by decide) rfl (fun ls hl => ?_)
        refine lv_goto (tgt := 7) hx hb d_SectorMap_forget_31 (by decide) ?_
        exact ih7 (x1 + 1) (upd mlM x1.toNatClampNeg (-1)) (upd miM x1.toNatClampNeg (vp_nar .boolean 0)) _ _ hv hP hD hS ls (lv_sub hl [1, 0] rfl)
  refine lv_aload_n hx hb d_SectorMap_forget_0 rfl (lv_at hl 0 rfl) ?_
  refine lv_iconst (v := 0) hx hb d_SectorMap_forget_1 (by decide) ?_
  refine va_put (D := (dC, dI)) (ci := 2) (v := .int 0) (ty := .int) (C := R_SectorMap) (T := F_SectorMap) (N := 5) hx hb htb i_SectorMap t_SectorMap t_SectorMap_ok n_SectorMap hown hK hP hD hS 0 rfl rfl 0 (by decide) (htb _ k_fl_SectorMap_31) (fun _ h9 => h9) rfl (by decide +kernel) rfl rfl (Nat.le_of_ble_eq_true rfl) d_SectorMap_forget_2 (fun H locs hP hD hS => ?_)
  have hP : va_P (dC, dI) classes [(mh, .inr (2, [.int 0, .ref mx, .ref my, .ref mz, .ref mu])), (mx, .inl (cI, 143, .inl mo)), (my, .inl (cI, 143, .inl mp)), (mz, .inl (cI, 192, .inl ml)), (mu, .inl (cZ, 192, .inl mi))] H := hP
  have hD : va_D A [(mh, .inr (2, [.int 0, .ref mx, .ref my, .ref mz, .ref mu])), (mx, .inl (cI, 143, .inl mo)), (my, .inl (cI, 143, .inl mp)), (mz, .inl (cI, 192, .inl ml)), (mu, .inl (cZ, 192, .inl mi))] := hD
  refine lv_iconst (v := 0) hx hb d_SectorMap_forget_5 (by decide) ?_
  refine lv_istore_n (lv' := [(1, .int 0), (0, .ref mh)]) hx hb d_SectorMap_forget_6 rfl hl (by decide) rfl (fun ls hl => ?_)
  obtain ⟨n_7, hv⟩ := hv
  exact J7 0 n_7 0 ml mi _ _ hv hP hD hS ls (lv_sub hl [1, 0] rfl)
def v_SectorMap_numberSectors_76 (K3 : (Int32 → Int32 → (Nat → Int32) → (Nat → Int32) → (Nat → Int32) → Prop)) (x1 : Int32) (mkM : Int32) (moM : Nat → Int32) (mpM : Nat → Int32) (mlM : Nat → Int32) : Prop := K3 (x1 + 1) mkM moM mpM mlM
def vb_SectorMap_numberSectors_3 (mi : Nat → Int32) (post : Int32 → (Nat → Int32) → (Nat → Int32) → (Nat → Int32) → Prop) (K3 : Int32 → Int32 → (Nat → Int32) → (Nat → Int32) → (Nat → Int32) → Prop) (x1 : Int32) (mkM : Int32) (moM : Nat → Int32) (mpM : Nat → Int32) (mlM : Nat → Int32) : Prop := ((192 ≤ x1 → post mkM moM mpM mlM) ∧ (¬ 192 ≤ x1 → v_DefectDrive_isSpare x1 (fun r_2 => ((¬ r_2 = 0 → v_SectorMap_numberSectors_76 K3 x1 mkM moM mpM mlM) ∧ (r_2 = 0 → (vp_in x1 192 ∧ ((¬ (mi x1.toNatClampNeg) = 0 → v_SectorMap_numberSectors_76 K3 x1 mkM moM mpM mlM) ∧ ((mi x1.toNatClampNeg) = 0 → ((143 ≤ mkM → v_SectorMap_numberSectors_76 K3 x1 mkM moM mpM mlM) ∧ (¬ 143 ≤ mkM → (vp_in mkM 143 ∧ (vp_in mkM 143 ∧ (vp_in x1 192 ∧ v_SectorMap_numberSectors_76 K3 x1 (mkM + 1) (upd moM mkM.toNatClampNeg x1) (upd mpM mkM.toNatClampNeg x1) (upd mlM x1.toNatClampNeg mkM))))))))))))))
def v_SectorMap_numberSectors_3 (mi : Nat → Int32) (post : Int32 → (Nat → Int32) → (Nat → Int32) → (Nat → Int32) → Prop) : Nat → Int32 → Int32 → (Nat → Int32) → (Nat → Int32) → (Nat → Int32) → Prop
  | 0 => fun _ _ _ _ _ => False
  | n + 1 => vb_SectorMap_numberSectors_3 mi post (v_SectorMap_numberSectors_3 mi post n)
def v_SectorMap_numberSectors (mk : Int32) (mo : Nat → Int32) (mp : Nat → Int32) (ml : Nat → Int32) (mi : Nat → Int32) (post : Int32 → (Nat → Int32) → (Nat → Int32) → (Nat → Int32) → Prop) : Prop := ∃ n, v_SectorMap_numberSectors_3 mi post n 16 mk mo mp ml
abbrev q_SectorMap_numberSectors (dC : Nat → ClassId) (dI : Nat → Nat → Nat) (cI cZ : ClassId) (mh mx my mz mu : Nat) (mk : Int32) (mo : Nat → Int32) (mp : Nat → Int32) (ml : Nat → Int32) (mi : Nat → Int32) (A : Nat → Prop) (post : Int32 → (Nat → Int32) → (Nat → Int32) → (Nat → Int32) → Prop) : Array Value → State → Outcome → State → Prop := va_Qv (fun (u : Int32 × (Nat → Int32) × (Nat → Int32) × (Nat → Int32)) => post u.1 u.2.1 u.2.2.1 u.2.2.2) (fun (u : Int32 × (Nat → Int32) × (Nat → Int32) × (Nat → Int32)) t => va_P (dC, dI) classes [(mh, .inr (2, [.int u.1, .ref mx, .ref my, .ref mz, .ref mu])), (mx, .inl (cI, 143, .inl u.2.1)), (my, .inl (cI, 143, .inl u.2.2.1)), (mz, .inl (cI, 192, .inl u.2.2.2)), (mu, .inl (cZ, 192, .inl mi))] t.heap ∧ va_D A [(mh, .inr (2, [.int u.1, .ref mx, .ref my, .ref mz, .ref mu])), (mx, .inl (cI, 143, .inl u.2.1)), (my, .inl (cI, 143, .inl u.2.2.1)), (mz, .inl (cI, 192, .inl u.2.2.2)), (mu, .inl (cZ, 192, .inl mi))]) A
set_option maxHeartbeats 4000000 in
set_option maxRecDepth 100000 in
theorem m_SectorMap_numberSectors (l : Launch) (dC : Nat → ClassId) (dI : Nat → Nat → Nat) (cI cZ : ClassId) (mh mx my mz mu : Nat) (zz : Nat) (mk : Int32) (mo : Nat → Int32) (mp : Nat → Int32) (ml : Nat → Int32) (mi : Nat → Int32) (post : Int32 → (Nat → Int32) → (Nat → Int32) → (Nat → Int32) → Prop) (hv : v_SectorMap_numberSectors mk mo mp ml mi post) : Met l y_SectorMap_numberSectors w_SectorMap_numberSectors ({ frames := 1, cells := 0, slots := 0, locals := 20 }) (va_Pc [.ref mh] (fun U => U.heap.size = zz ∧ va_P (dC, dI) classes [(mh, .inr (2, [.int mk, .ref mx, .ref my, .ref mz, .ref mu])), (mx, .inl (cI, 143, .inl mo)), (my, .inl (cI, 143, .inl mp)), (mz, .inl (cI, 192, .inl ml)), (mu, .inl (cZ, 192, .inl mi))] U.heap ∧ va_K (dC, dI) classes [(cI, .int), (cZ, .boolean)] U ∧ nz_N U ∧ va_D (fun _ => True) [(mh, .inr (2, [.int mk, .ref mx, .ref my, .ref mz, .ref mu])), (mx, .inl (cI, 143, .inl mo)), (my, .inl (cI, 143, .inl mp)), (mz, .inl (cI, 192, .inl ml)), (mu, .inl (cZ, 192, .inl mi))])) (q_SectorMap_numberSectors dC dI cI cZ mh mx my mz mu mk mo mp ml mi (va_A [(mh, .inr (2, [.int mk, .ref mx, .ref my, .ref mz, .ref mu])), (mx, .inl (cI, 143, .inl mo)), (my, .inl (cI, 143, .inl mp)), (mz, .inl (cI, 192, .inl ml)), (mu, .inl (cZ, 192, .inl mi))] zz) post) 0 0 (va_A [(mh, .inr (2, [.int mk, .ref mx, .ref my, .ref mz, .ref mu])), (mx, .inl (cI, 143, .inl mo)), (my, .inl (cI, 143, .inl mp)), (mz, .inl (cI, 192, .inl ml)), (mu, .inl (cZ, 192, .inl mi))] zz) := by
  refine Met.ofW (cc := b_SectorMap_numberSectors) (maxL := 2) (ret := none) (by decide) rfl ?_
  intro p e s m args below meth c s₁ B hml hv0
  obtain ⟨rfl, hsz, hP, hK, hN, hD0⟩ := hv0
  have hx := B.exec
  have hb := B.bytes
  have hr := B.returns
  have htb := w_tbl (atoms_spec (ws := w_SectorMap_numberSectors) B.pre)
  have hown : s.vm.findClass R_SectorMap = some m.cls := findClass_of_methodNamed B.named
  have hlocks := B.notSynchronized
  subst hsz
  have hD := hD0.self (sz := s.heap.size)
  generalize hAe : va_A [(mh, .inr (2, [.int mk, .ref mx, .ref my, .ref mz, .ref mu])), (mx, .inl (cI, 143, .inl mo)), (my, .inl (cI, 143, .inl mp)), (mz, .inl (cI, 192, .inl ml)), (mu, .inl (cZ, 192, .inl mi))] s.heap.size = A at hD ⊢
  have hA : ∀ q : Nat, s.heap.size ≤ q → A q := fun q h => by rw [← hAe]; exact Or.inr h
  have hS : va_S A s.heap s.heap [] := va_S.rf
  have hl := lv_entry ([.ref mh]) (n := 2) (Nat.le_of_ble_eq_true rfl)
  rw [lg_entry_eq]
  generalize (lg_sl ([.ref mh]) ++ List.replicate (2 - (lg_sl ([.ref mh])).length) Slot.unset).toArray = ls at hl ⊢
  have hl : lv_has ls 2 [(0, .ref mh)] := hl
  have J3 : ∀ (n : Nat) (x1 : Int32) (mkM : Int32) (moM : Nat → Int32) (mpM : Nat → Int32) (mlM : Nat → Int32) (H : Heap) (locs : List Loc), v_SectorMap_numberSectors_3 mi post n x1 mkM moM mpM mlM → va_P (dC, dI) classes [(mh, .inr (2, [.int mkM, .ref mx, .ref my, .ref mz, .ref mu])), (mx, .inl (cI, 143, .inl moM)), (my, .inl (cI, 143, .inl mpM)), (mz, .inl (cI, 192, .inl mlM)), (mu, .inl (cZ, 192, .inl mi))] H → va_D A [(mh, .inr (2, [.int mkM, .ref mx, .ref my, .ref mz, .ref mu])), (mx, .inl (cI, 143, .inl moM)), (my, .inl (cI, 143, .inl mpM)), (mz, .inl (cI, 192, .inl mlM)), (mu, .inl (cZ, 192, .inl mi))] → va_S A s.heap H locs → ∀ ls : Array Slot, lv_has ls 2 [(0, .ref mh), (1, .int x1)] → W p l e (headSpec w_SectorMap_numberSectors ({ frames := 1, cells := 0, slots := 0, locals := 20 })).room s m ([.ref mh] : List Value).toArray below meth c H locs 0 0 (MQ below (q_SectorMap_numberSectors dC dI cI cZ mh mx my mz mu mk mo mp ml mi A post) ([.ref mh] : List Value).toArray s 0 0 A) (F0 m 3 ls []) := by
    intro  n3
    induction n3 with
    | zero =>
      intro x1 mkM moM mpM mlM H locs hv
      exact absurd hv id
    | succ n3 ih3 =>
      intro x1 mkM moM mpM mlM H locs hv hP hD hS ls hl
      have hv : vb_SectorMap_numberSectors_3 mi post (v_SectorMap_numberSectors_3 mi post n3) x1 mkM moM mpM mlM := hv
      have J76 : ∀ (x1 : Int32) (mkM : Int32) (moM : Nat → Int32) (mpM : Nat → Int32) (mlM : Nat → Int32) (H : Heap) (locs : List Loc), v_SectorMap_numberSectors_76 (v_SectorMap_numberSectors_3 mi post n3) x1 mkM moM mpM mlM → va_P (dC, dI) classes [(mh, .inr (2, [.int mkM, .ref mx, .ref my, .ref mz, .ref mu])), (mx, .inl (cI, 143, .inl moM)), (my, .inl (cI, 143, .inl mpM)), (mz, .inl (cI, 192, .inl mlM)), (mu, .inl (cZ, 192, .inl mi))] H → va_D A [(mh, .inr (2, [.int mkM, .ref mx, .ref my, .ref mz, .ref mu])), (mx, .inl (cI, 143, .inl moM)), (my, .inl (cI, 143, .inl mpM)), (mz, .inl (cI, 192, .inl mlM)), (mu, .inl (cZ, 192, .inl mi))] → va_S A s.heap H locs → ∀ ls : Array Slot, lv_has ls 2 [(0, .ref mh), (1, .int x1)] → W p l e (headSpec w_SectorMap_numberSectors ({ frames := 1, cells := 0, slots := 0, locals := 20 })).room s m ([.ref mh] : List Value).toArray below meth c H locs 0 0 (MQ below (q_SectorMap_numberSectors dC dI cI cZ mh mx my mz mu mk mo mp ml mi A post) ([.ref mh] : List Value).toArray s 0 0 A) (F0 m 76 ls []) := by
        intro x1 mkM moM mpM mlM H locs hv hP hD hS ls hl
        refine lv_iinc (v := x1 + 1) (lv' := [(1, .int (x1 + 1)), (0, .ref mh)]) hx hb d_SectorMap_numberSectors_76 hl (k := 1) rfl rfl (by decide) rfl (fun ls hl => ?_)
        refine lv_goto (tgt := 3) hx hb d_SectorMap_numberSectors_79 (by decide) ?_
        exact ih3 (x1 + 1) mkM moM mpM mlM _ _ hv hP hD hS ls (lv_sub hl [1, 0] rfl)
      refine lv_iload_n hx hb d_SectorMap_numberSectors_3 rfl (lv_at hl 1 rfl) ?_
      refine lv_sipush (v := 192) hx hb d_SectorMap_numberSectors_4 (by decide) ?_
      refine lv_icmp_ge (tgt := 82) hx hb d_SectorMap_numberSectors_7 (by decide) (fun c_1 => ?_) (fun c_1 => ?_)
      · have hv := hv.1 c_1
        exact W.vret hx hb hr (fun t ht hW => ⟨⟨(mkM, moM, mpM, mlM), rfl, hv, by rw [ht]; exact hP, hD⟩, hS.F ht⟩) hS.2.2 d_SectorMap_numberSectors_82
      · have hv := hv.2 c_1
        refine lv_iload_n hx hb d_SectorMap_numberSectors_10 rfl (lv_at hl 1 rfl) ?_
        have hPc := hP.sub (ws' := []) [] rfl
        refine cz_r (va_runSN (As := [.int x1]) (rest := []) ⟨hx, hb, hml, hown, htb⟩ (m_DefectDrive_isSpare l dC dI cI cZ  _ x1 _ hv) ⟨va_cnB 1 htb (gz_C k_code_DefectDrive_isSpare) rfl rfl rfl (hN _ k_ml_SectorMap_63) (htb _ k_init_DefectDrive) (by decide +kernel) ⟨Nat.le_of_ble_eq_true rfl, Nat.le_of_ble_eq_true rfl⟩, htb _ k_stat_DefectDrive_isSpare, trivial⟩ (pz_SR hPc hK hN) rfl rfl hl.1 rfl (lv_room (Nat.le_of_ble_eq_true rfl)) d_SectorMap_numberSectors_11 ⟨Nat.le_of_ble_eq_true rfl, Nat.le_of_ble_eq_true rfl⟩) hP hS hA (fun r_2 H hv hP hS => ?_)
        refine lv_if_ne (tgt := 76) hx hb d_SectorMap_numberSectors_14 (by decide) (fun c_3 => ?_) (fun c_3 => ?_)
        · have hv := hv.1 c_3
          exact J76 x1 mkM moM mpM mlM _ _ hv hP hD hS ls (lv_sub hl [0, 1] rfl)
        · have hv := hv.2 c_3
          refine lv_aload_n hx hb d_SectorMap_numberSectors_17 rfl (lv_at hl 0 rfl) ?_
          refine va_get (D := (dC, dI)) (ci := 2) (v := .ref mu) (C := R_SectorMap) (T := F_SectorMap) (N := 5) hx hb htb i_SectorMap hown hK hP 0 rfl rfl 4 (by decide) (htb _ k_fl_SectorMap_21) (fun _ h9 => h9) rfl d_SectorMap_numberSectors_18 ?_
          refine lv_iload_n hx hb d_SectorMap_numberSectors_21 rfl (lv_at hl 1 rfl) ?_
          obtain ⟨h_4, hv⟩ := hv
          refine va_zald hx hb hK hP 4 1 rfl rfl h_4 d_SectorMap_numberSectors_22 ?_
          refine lv_if_ne (tgt := 76) hx hb d_SectorMap_numberSectors_23 (by decide) (fun c_5 => ?_) (fun c_5 => ?_)
          · have hv := hv.1 c_5
            exact J76 x1 mkM moM mpM mlM _ _ hv hP hD hS ls (lv_sub hl [0, 1] rfl)
          · have hv := hv.2 c_5
            refine lv_aload_n hx hb d_SectorMap_numberSectors_26 rfl (lv_at hl 0 rfl) ?_
            refine va_get (D := (dC, dI)) (ci := 2) (v := .int mkM) (C := R_SectorMap) (T := F_SectorMap) (N := 5) hx hb htb i_SectorMap hown hK hP 0 rfl rfl 0 (by decide) (htb _ k_fl_SectorMap_31) (fun _ h9 => h9) rfl d_SectorMap_numberSectors_27 ?_
            refine lv_sipush (v := 143) hx hb d_SectorMap_numberSectors_30 (by decide) ?_
            refine lv_icmp_ge (tgt := 76) hx hb d_SectorMap_numberSectors_33 (by decide) (fun c_6 => ?_) (fun c_6 => ?_)
            · have hv := hv.1 c_6
              exact J76 x1 mkM moM mpM mlM _ _ hv hP hD hS ls (lv_sub hl [0, 1] rfl)
            · have hv := hv.2 c_6
              refine lv_aload_n hx hb d_SectorMap_numberSectors_36 rfl (lv_at hl 0 rfl) ?_
              refine va_get (D := (dC, dI)) (ci := 2) (v := .ref mx) (C := R_SectorMap) (T := F_SectorMap) (N := 5) hx hb htb i_SectorMap hown hK hP 0 rfl rfl 1 (by decide) (htb _ k_fl_SectorMap_9) (fun _ h9 => h9) rfl d_SectorMap_numberSectors_37 ?_
              refine lv_aload_n hx hb d_SectorMap_numberSectors_40 rfl (lv_at hl 0 rfl) ?_
              refine va_get (D := (dC, dI)) (ci := 2) (v := .int mkM) (C := R_SectorMap) (T := F_SectorMap) (N := 5) hx hb htb i_SectorMap hown hK hP 0 rfl rfl 0 (by decide) (htb _ k_fl_SectorMap_31) (fun _ h9 => h9) rfl d_SectorMap_numberSectors_41 ?_
              refine lv_iload_n hx hb d_SectorMap_numberSectors_44 rfl (lv_at hl 1 rfl) ?_
              obtain ⟨h_7, hv⟩ := hv
              refine va_iast hx hb hK hP hD hS 1 0 rfl rfl h_7 d_SectorMap_numberSectors_45 (fun H locs hP hD hS => ?_)
              have hP : va_P (dC, dI) classes [(mh, .inr (2, [.int mkM, .ref mx, .ref my, .ref mz, .ref mu])), (mx, .inl (cI, 143, .inl (upd moM mkM.toNatClampNeg x1))), (my, .inl (cI, 143, .inl mpM)), (mz, .inl (cI, 192, .inl mlM)), (mu, .inl (cZ, 192, .inl mi))] H := hP
              have hD : va_D A [(mh, .inr (2, [.int mkM, .ref mx, .ref my, .ref mz, .ref mu])), (mx, .inl (cI, 143, .inl (upd moM mkM.toNatClampNeg x1))), (my, .inl (cI, 143, .inl mpM)), (mz, .inl (cI, 192, .inl mlM)), (mu, .inl (cZ, 192, .inl mi))] := hD
              refine lv_aload_n hx hb d_SectorMap_numberSectors_46 rfl (lv_at hl 0 rfl) ?_
              refine va_get (D := (dC, dI)) (ci := 2) (v := .ref my) (C := R_SectorMap) (T := F_SectorMap) (N := 5) hx hb htb i_SectorMap hown hK hP 0 rfl rfl 2 (by decide) (htb _ k_fl_SectorMap_15) (fun _ h9 => h9) rfl d_SectorMap_numberSectors_47 ?_
              refine lv_aload_n hx hb d_SectorMap_numberSectors_50 rfl (lv_at hl 0 rfl) ?_
              refine va_get (D := (dC, dI)) (ci := 2) (v := .int mkM) (C := R_SectorMap) (T := F_SectorMap) (N := 5) hx hb htb i_SectorMap hown hK hP 0 rfl rfl 0 (by decide) (htb _ k_fl_SectorMap_31) (fun _ h9 => h9) rfl d_SectorMap_numberSectors_51 ?_
              refine lv_iload_n hx hb d_SectorMap_numberSectors_54 rfl (lv_at hl 1 rfl) ?_
              obtain ⟨h_8, hv⟩ := hv
              refine va_iast hx hb hK hP hD hS 2 0 rfl rfl h_8 d_SectorMap_numberSectors_55 (fun H locs hP hD hS => ?_)
              have hP : va_P (dC, dI) classes [(mh, .inr (2, [.int mkM, .ref mx, .ref my, .ref mz, .ref mu])), (mx, .inl (cI, 143, .inl (upd moM mkM.toNatClampNeg x1))), (my, .inl (cI, 143, .inl (upd mpM mkM.toNatClampNeg x1))), (mz, .inl (cI, 192, .inl mlM)), (mu, .inl (cZ, 192, .inl mi))] H := hP
              have hD : va_D A [(mh, .inr (2, [.int mkM, .ref mx, .ref my, .ref mz, .ref mu])), (mx, .inl (cI, 143, .inl (upd moM mkM.toNatClampNeg x1))), (my, .inl (cI, 143, .inl (upd mpM mkM.toNatClampNeg x1))), (mz, .inl (cI, 192, .inl mlM)), (mu, .inl (cZ, 192, .inl mi))] := hD
              refine lv_aload_n hx hb d_SectorMap_numberSectors_56 rfl (lv_at hl 0 rfl) ?_
              refine va_get (D := (dC, dI)) (ci := 2) (v := .ref mz) (C := R_SectorMap) (T := F_SectorMap) (N := 5) hx hb htb i_SectorMap hown hK hP 0 rfl rfl 3 (by decide) (htb _ k_fl_SectorMap_18) (fun _ h9 => h9) rfl d_SectorMap_numberSectors_57 ?_
              refine lv_iload_n hx hb d_SectorMap_numberSectors_60 rfl (lv_at hl 1 rfl) ?_
              refine lv_aload_n hx hb d_SectorMap_numberSectors_61 rfl (lv_at hl 0 rfl) ?_
              refine va_get (D := (dC, dI)) (ci := 2) (v := .int mkM) (C := R_SectorMap) (T := F_SectorMap) (N := 5) hx hb htb i_SectorMap hown hK hP 0 rfl rfl 0 (by decide) (htb _ k_fl_SectorMap_31) (fun _ h9 => h9) rfl d_SectorMap_numberSectors_62 ?_
              obtain ⟨h_9, hv⟩ := hv
              refine va_iast hx hb hK hP hD hS 3 0 rfl rfl h_9 d_SectorMap_numberSectors_65 (fun H locs hP hD hS => ?_)
              have hP : va_P (dC, dI) classes [(mh, .inr (2, [.int mkM, .ref mx, .ref my, .ref mz, .ref mu])), (mx, .inl (cI, 143, .inl (upd moM mkM.toNatClampNeg x1))), (my, .inl (cI, 143, .inl (upd mpM mkM.toNatClampNeg x1))), (mz, .inl (cI, 192, .inl (upd mlM x1.toNatClampNeg mkM))), (mu, .inl (cZ, 192, .inl mi))] H := hP
              have hD : va_D A [(mh, .inr (2, [.int mkM, .ref mx, .ref my, .ref mz, .ref mu])), (mx, .inl (cI, 143, .inl (upd moM mkM.toNatClampNeg x1))), (my, .inl (cI, 143, .inl (upd mpM mkM.toNatClampNeg x1))), (mz, .inl (cI, 192, .inl (upd mlM x1.toNatClampNeg mkM))), (mu, .inl (cZ, 192, .inl mi))] := hD
              refine lv_aload_n hx hb d_SectorMap_numberSectors_66 rfl (lv_at hl 0 rfl) ?_
              refine lv_dup hx hb d_SectorMap_numberSectors_67 rfl ?_
              refine va_get (D := (dC, dI)) (ci := 2) (v := .int mkM) (C := R_SectorMap) (T := F_SectorMap) (N := 5) hx hb htb i_SectorMap hown hK hP 0 rfl rfl 0 (by decide) (htb _ k_fl_SectorMap_31) (fun _ h9 => h9) rfl d_SectorMap_numberSectors_68 ?_
              refine lv_iconst (v := 1) hx hb d_SectorMap_numberSectors_71 (by decide) ?_
              refine lv_iadd hx hb d_SectorMap_numberSectors_72 ?_
              refine va_put (D := (dC, dI)) (ci := 2) (v := .int (mkM + 1)) (ty := .int) (C := R_SectorMap) (T := F_SectorMap) (N := 5) hx hb htb i_SectorMap t_SectorMap t_SectorMap_ok n_SectorMap hown hK hP hD hS 0 rfl rfl 0 (by decide) (htb _ k_fl_SectorMap_31) (fun _ h9 => h9) rfl (by decide +kernel) rfl rfl (Nat.le_of_ble_eq_true rfl) d_SectorMap_numberSectors_73 (fun H locs hP hD hS => ?_)
              have hP : va_P (dC, dI) classes [(mh, .inr (2, [.int (mkM + 1), .ref mx, .ref my, .ref mz, .ref mu])), (mx, .inl (cI, 143, .inl (upd moM mkM.toNatClampNeg x1))), (my, .inl (cI, 143, .inl (upd mpM mkM.toNatClampNeg x1))), (mz, .inl (cI, 192, .inl (upd mlM x1.toNatClampNeg mkM))), (mu, .inl (cZ, 192, .inl mi))] H := hP
              have hD : va_D A [(mh, .inr (2, [.int (mkM + 1), .ref mx, .ref my, .ref mz, .ref mu])), (mx, .inl (cI, 143, .inl (upd moM mkM.toNatClampNeg x1))), (my, .inl (cI, 143, .inl (upd mpM mkM.toNatClampNeg x1))), (mz, .inl (cI, 192, .inl (upd mlM x1.toNatClampNeg mkM))), (mu, .inl (cZ, 192, .inl mi))] := hD
              exact J76 x1 (mkM + 1) (upd moM mkM.toNatClampNeg x1) (upd mpM mkM.toNatClampNeg x1) (upd mlM x1.toNatClampNeg mkM) _ _ hv hP hD hS ls (lv_sub hl [0, 1] rfl)
  refine lv_bipush (v := 16) hx hb d_SectorMap_numberSectors_0 (by decide) ?_
  refine lv_istore_n (lv' := [(1, .int 16), (0, .ref mh)]) hx hb d_SectorMap_numberSectors_2 rfl hl (by decide) rfl (fun ls hl => ?_)
  obtain ⟨n_3, hv⟩ := hv
  exact J3  n_3 16 mk mo mp ml _ _ hv hP hD hS ls (lv_sub hl [1, 0] rfl)
def v_SectorMap_redirect (mk : Int32) (mo : Nat → Int32) (mp : Nat → Int32) (ml : Nat → Int32) (mi : Nat → Int32) (p0 : Int32) (p1 : Int32) (post : (Nat → Int32) → (Nat → Int32) → Prop) : Prop := (vp_in p0 192 ∧ (((ml p0.toNatClampNeg) = (-1) → post mp ml) ∧ (¬ (ml p0.toNatClampNeg) = (-1) → (vp_in (ml p0.toNatClampNeg) 143 ∧ (vp_in p0 192 ∧ (vp_in p1 192 ∧ post (upd mp (ml p0.toNatClampNeg).toNatClampNeg p1) (upd (upd ml p0.toNatClampNeg (-1)) p1.toNatClampNeg (ml p0.toNatClampNeg))))))))
abbrev q_SectorMap_redirect (dC : Nat → ClassId) (dI : Nat → Nat → Nat) (cI cZ : ClassId) (mh mx my mz mu : Nat) (mk : Int32) (mo : Nat → Int32) (mp : Nat → Int32) (ml : Nat → Int32) (mi : Nat → Int32) (A : Nat → Prop) (post : (Nat → Int32) → (Nat → Int32) → Prop) : Array Value → State → Outcome → State → Prop := va_Qv (fun (u : (Nat → Int32) × (Nat → Int32)) => post u.1 u.2) (fun (u : (Nat → Int32) × (Nat → Int32)) t => va_P (dC, dI) classes [(mh, .inr (2, [.int mk, .ref mx, .ref my, .ref mz, .ref mu])), (mx, .inl (cI, 143, .inl mo)), (my, .inl (cI, 143, .inl u.1)), (mz, .inl (cI, 192, .inl u.2)), (mu, .inl (cZ, 192, .inl mi))] t.heap ∧ va_D A [(mh, .inr (2, [.int mk, .ref mx, .ref my, .ref mz, .ref mu])), (mx, .inl (cI, 143, .inl mo)), (my, .inl (cI, 143, .inl u.1)), (mz, .inl (cI, 192, .inl u.2)), (mu, .inl (cZ, 192, .inl mi))]) A
set_option maxHeartbeats 4000000 in
set_option maxRecDepth 100000 in
theorem m_SectorMap_redirect (l : Launch) (dC : Nat → ClassId) (dI : Nat → Nat → Nat) (cI cZ : ClassId) (mh mx my mz mu : Nat) (zz : Nat) (mk : Int32) (mo : Nat → Int32) (mp : Nat → Int32) (ml : Nat → Int32) (mi : Nat → Int32) (p0 : Int32) (p1 : Int32) (post : (Nat → Int32) → (Nat → Int32) → Prop) (hv : v_SectorMap_redirect mk mo mp ml mi p0 p1 post) : Met l y_SectorMap_redirect w_SectorMap_redirect ({ frames := 0, cells := 0, slots := 0, locals := 0 }) (va_Pc [.ref mh, .int p0, .int p1] (fun U => U.heap.size = zz ∧ va_P (dC, dI) classes [(mh, .inr (2, [.int mk, .ref mx, .ref my, .ref mz, .ref mu])), (mx, .inl (cI, 143, .inl mo)), (my, .inl (cI, 143, .inl mp)), (mz, .inl (cI, 192, .inl ml)), (mu, .inl (cZ, 192, .inl mi))] U.heap ∧ va_K (dC, dI) classes [(cI, .int), (cZ, .boolean)] U ∧ nz_N U ∧ va_D (fun _ => True) [(mh, .inr (2, [.int mk, .ref mx, .ref my, .ref mz, .ref mu])), (mx, .inl (cI, 143, .inl mo)), (my, .inl (cI, 143, .inl mp)), (mz, .inl (cI, 192, .inl ml)), (mu, .inl (cZ, 192, .inl mi))])) (q_SectorMap_redirect dC dI cI cZ mh mx my mz mu mk mo mp ml mi (va_A [(mh, .inr (2, [.int mk, .ref mx, .ref my, .ref mz, .ref mu])), (mx, .inl (cI, 143, .inl mo)), (my, .inl (cI, 143, .inl mp)), (mz, .inl (cI, 192, .inl ml)), (mu, .inl (cZ, 192, .inl mi))] zz) post) 0 0 (va_A [(mh, .inr (2, [.int mk, .ref mx, .ref my, .ref mz, .ref mu])), (mx, .inl (cI, 143, .inl mo)), (my, .inl (cI, 143, .inl mp)), (mz, .inl (cI, 192, .inl ml)), (mu, .inl (cZ, 192, .inl mi))] zz) := by
  refine Met.ofW (cc := b_SectorMap_redirect) (maxL := 4) (ret := none) (by decide) rfl ?_
  intro p e s m args below meth c s₁ B hml hv0
  obtain ⟨rfl, hsz, hP, hK, hN, hD0⟩ := hv0
  have hx := B.exec
  have hb := B.bytes
  have hr := B.returns
  have htb := w_tbl (atoms_spec (ws := w_SectorMap_redirect) B.pre)
  have hown : s.vm.findClass R_SectorMap = some m.cls := findClass_of_methodNamed B.named
  have hlocks := B.notSynchronized
  subst hsz
  have hD := hD0.self (sz := s.heap.size)
  generalize hAe : va_A [(mh, .inr (2, [.int mk, .ref mx, .ref my, .ref mz, .ref mu])), (mx, .inl (cI, 143, .inl mo)), (my, .inl (cI, 143, .inl mp)), (mz, .inl (cI, 192, .inl ml)), (mu, .inl (cZ, 192, .inl mi))] s.heap.size = A at hD ⊢
  have hA : ∀ q : Nat, s.heap.size ≤ q → A q := fun q h => by rw [← hAe]; exact Or.inr h
  have hS : va_S A s.heap s.heap [] := va_S.rf
  have hl := lv_entry ([.ref mh, .int p0, .int p1]) (n := 4) (Nat.le_of_ble_eq_true rfl)
  rw [lg_entry_eq]
  generalize (lg_sl ([.ref mh, .int p0, .int p1]) ++ List.replicate (4 - (lg_sl ([.ref mh, .int p0, .int p1])).length) Slot.unset).toArray = ls at hl ⊢
  have hl : lv_has ls 4 [(0, .ref mh), (1, .int p0), (2, .int p1)] := hl
  refine lv_aload_n hx hb d_SectorMap_redirect_0 rfl (lv_at hl 0 rfl) ?_
  refine va_get (D := (dC, dI)) (ci := 2) (v := .ref mz) (C := R_SectorMap) (T := F_SectorMap) (N := 5) hx hb htb i_SectorMap hown hK hP 0 rfl rfl 3 (by decide) (htb _ k_fl_SectorMap_18) (fun _ h9 => h9) rfl d_SectorMap_redirect_1 ?_
  refine lv_iload_n hx hb d_SectorMap_redirect_4 rfl (lv_at hl 1 rfl) ?_
  obtain ⟨h_1, hv⟩ := hv
  refine va_iald hx hb hK hP 3 0 rfl rfl h_1 d_SectorMap_redirect_5 ?_
  refine lv_istore_n (lv' := [(3, .int (ml p0.toNatClampNeg)), (0, .ref mh), (1, .int p0), (2, .int p1)]) hx hb d_SectorMap_redirect_6 rfl hl (by decide) rfl (fun ls hl => ?_)
  refine lv_iload_n hx hb d_SectorMap_redirect_7 rfl (lv_at hl 0 rfl) ?_
  refine lv_iconst (v := (-1)) hx hb d_SectorMap_redirect_8 (by decide) ?_
  refine lv_icmp_eq (tgt := 33) hx hb d_SectorMap_redirect_9 (by decide) (fun c_2 => ?_) (fun c_2 => ?_)
  · have hv := hv.1 c_2
    exact W.vret hx hb hr (fun t ht hW => ⟨⟨(mp, ml), rfl, hv, by rw [ht]; exact hP, hD⟩, hS.F ht⟩) hS.2.2 d_SectorMap_redirect_33
  · have hv := hv.2 c_2
    refine lv_aload_n hx hb d_SectorMap_redirect_12 rfl (lv_at hl 1 rfl) ?_
    refine va_get (D := (dC, dI)) (ci := 2) (v := .ref my) (C := R_SectorMap) (T := F_SectorMap) (N := 5) hx hb htb i_SectorMap hown hK hP 0 rfl rfl 2 (by decide) (htb _ k_fl_SectorMap_15) (fun _ h9 => h9) rfl d_SectorMap_redirect_13 ?_
    refine lv_iload_n hx hb d_SectorMap_redirect_16 rfl (lv_at hl 0 rfl) ?_
    refine lv_iload_n hx hb d_SectorMap_redirect_17 rfl (lv_at hl 3 rfl) ?_
    obtain ⟨h_3, hv⟩ := hv
    refine va_iast hx hb hK hP hD hS 2 0 rfl rfl h_3 d_SectorMap_redirect_18 (fun H locs hP hD hS => ?_)
    have hP : va_P (dC, dI) classes [(mh, .inr (2, [.int mk, .ref mx, .ref my, .ref mz, .ref mu])), (mx, .inl (cI, 143, .inl mo)), (my, .inl (cI, 143, .inl (upd mp (ml p0.toNatClampNeg).toNatClampNeg p1))), (mz, .inl (cI, 192, .inl ml)), (mu, .inl (cZ, 192, .inl mi))] H := hP
    have hD : va_D A [(mh, .inr (2, [.int mk, .ref mx, .ref my, .ref mz, .ref mu])), (mx, .inl (cI, 143, .inl mo)), (my, .inl (cI, 143, .inl (upd mp (ml p0.toNatClampNeg).toNatClampNeg p1))), (mz, .inl (cI, 192, .inl ml)), (mu, .inl (cZ, 192, .inl mi))] := hD
    refine lv_aload_n hx hb d_SectorMap_redirect_19 rfl (lv_at hl 1 rfl) ?_
    refine va_get (D := (dC, dI)) (ci := 2) (v := .ref mz) (C := R_SectorMap) (T := F_SectorMap) (N := 5) hx hb htb i_SectorMap hown hK hP 0 rfl rfl 3 (by decide) (htb _ k_fl_SectorMap_18) (fun _ h9 => h9) rfl d_SectorMap_redirect_20 ?_
    refine lv_iload_n hx hb d_SectorMap_redirect_23 rfl (lv_at hl 2 rfl) ?_
    refine lv_iconst (v := (-1)) hx hb d_SectorMap_redirect_24 (by decide) ?_
    obtain ⟨h_4, hv⟩ := hv
    refine va_iast hx hb hK hP hD hS 3 0 rfl rfl h_4 d_SectorMap_redirect_25 (fun H locs hP hD hS => ?_)
    have hP : va_P (dC, dI) classes [(mh, .inr (2, [.int mk, .ref mx, .ref my, .ref mz, .ref mu])), (mx, .inl (cI, 143, .inl mo)), (my, .inl (cI, 143, .inl (upd mp (ml p0.toNatClampNeg).toNatClampNeg p1))), (mz, .inl (cI, 192, .inl (upd ml p0.toNatClampNeg (-1)))), (mu, .inl (cZ, 192, .inl mi))] H := hP
    have hD : va_D A [(mh, .inr (2, [.int mk, .ref mx, .ref my, .ref mz, .ref mu])), (mx, .inl (cI, 143, .inl mo)), (my, .inl (cI, 143, .inl (upd mp (ml p0.toNatClampNeg).toNatClampNeg p1))), (mz, .inl (cI, 192, .inl (upd ml p0.toNatClampNeg (-1)))), (mu, .inl (cZ, 192, .inl mi))] := hD
    refine lv_aload_n hx hb d_SectorMap_redirect_26 rfl (lv_at hl 1 rfl) ?_
    refine va_get (D := (dC, dI)) (ci := 2) (v := .ref mz) (C := R_SectorMap) (T := F_SectorMap) (N := 5) hx hb htb i_SectorMap hown hK hP 0 rfl rfl 3 (by decide) (htb _ k_fl_SectorMap_18) (fun _ h9 => h9) rfl d_SectorMap_redirect_27 ?_
    refine lv_iload_n hx hb d_SectorMap_redirect_30 rfl (lv_at hl 3 rfl) ?_
    refine lv_iload_n hx hb d_SectorMap_redirect_31 rfl (lv_at hl 0 rfl) ?_
    obtain ⟨h_5, hv⟩ := hv
    refine va_iast hx hb hK hP hD hS 3 0 rfl rfl h_5 d_SectorMap_redirect_32 (fun H locs hP hD hS => ?_)
    have hP : va_P (dC, dI) classes [(mh, .inr (2, [.int mk, .ref mx, .ref my, .ref mz, .ref mu])), (mx, .inl (cI, 143, .inl mo)), (my, .inl (cI, 143, .inl (upd mp (ml p0.toNatClampNeg).toNatClampNeg p1))), (mz, .inl (cI, 192, .inl (upd (upd ml p0.toNatClampNeg (-1)) p1.toNatClampNeg (ml p0.toNatClampNeg)))), (mu, .inl (cZ, 192, .inl mi))] H := hP
    have hD : va_D A [(mh, .inr (2, [.int mk, .ref mx, .ref my, .ref mz, .ref mu])), (mx, .inl (cI, 143, .inl mo)), (my, .inl (cI, 143, .inl (upd mp (ml p0.toNatClampNeg).toNatClampNeg p1))), (mz, .inl (cI, 192, .inl (upd (upd ml p0.toNatClampNeg (-1)) p1.toNatClampNeg (ml p0.toNatClampNeg)))), (mu, .inl (cZ, 192, .inl mi))] := hD
    exact W.vret hx hb hr (fun t ht hW => ⟨⟨(upd mp (ml p0.toNatClampNeg).toNatClampNeg p1, upd (upd ml p0.toNatClampNeg (-1)) p1.toNatClampNeg (ml p0.toNatClampNeg)), rfl, hv, by rw [ht]; exact hP, hD⟩, hS.F ht⟩) hS.2.2 d_SectorMap_redirect_33
def vb_SectorMap_follow_49 (mkM : Int32) (moM : Nat → Int32) (miM : Nat → Int32) (av : Int32) (ac : Int32) (ap : Int32) (aq : Int32) (af : Nat → Int32) (ag : Nat → Int32) (post : Int32 → (Nat → Int32) → (Nat → Int32) → (Nat → Int32) → (Nat → Int32) → Prop) (K49 : Int32 → (Nat → Int32) → (Nat → Int32) → Prop) (x2 : Int32) (mpM : Nat → Int32) (mlM : Nat → Int32) : Prop := v_Lists_entries av ac ap aq af ag (fun r_12 => ((r_12 ≤ x2 → post mkM moM mpM mlM miM) ∧ (¬ r_12 ≤ x2 → (vp_in x2 48 ∧ (vp_in x2 48 ∧ v_SectorMap_redirect mkM moM mpM mlM miM (af x2.toNatClampNeg) (ag x2.toNatClampNeg) (fun mp_17 ml_18 => K49 (x2 + 1) mp_17 ml_18))))))
def v_SectorMap_follow_49 (mkM : Int32) (moM : Nat → Int32) (miM : Nat → Int32) (av : Int32) (ac : Int32) (ap : Int32) (aq : Int32) (af : Nat → Int32) (ag : Nat → Int32) (post : Int32 → (Nat → Int32) → (Nat → Int32) → (Nat → Int32) → (Nat → Int32) → Prop) : Nat → Int32 → (Nat → Int32) → (Nat → Int32) → Prop
  | 0 => fun _ _ _ => False
  | n + 1 => vb_SectorMap_follow_49 mkM moM miM av ac ap aq af ag post (v_SectorMap_follow_49 mkM moM miM av ac ap aq af ag post n)
def vb_SectorMap_follow_14 (mkM : Int32) (moM : Nat → Int32) (mpM : Nat → Int32) (mlM : Nat → Int32) (av : Int32) (ac : Int32) (ap : Int32) (aq : Int32) (af : Nat → Int32) (ag : Nat → Int32) (post : Int32 → (Nat → Int32) → (Nat → Int32) → (Nat → Int32) → (Nat → Int32) → Prop) (K14 : Int32 → (Nat → Int32) → Prop) (x2 : Int32) (miM : Nat → Int32) : Prop := ((ap ≤ x2 → v_SectorMap_numberSectors mkM moM mpM mlM miM (fun mk_8 mo_9 mp_10 ml_11 => ∃ n, v_SectorMap_follow_49 mk_8 mo_9 miM av ac ap aq af ag post n ap mp_10 ml_11)) ∧ (¬ ap ≤ x2 → (vp_in x2 48 ∧ (vp_in (af x2.toNatClampNeg) 192 ∧ K14 (x2 + 1) (upd miM (af x2.toNatClampNeg).toNatClampNeg (vp_nar .boolean 1))))))
def v_SectorMap_follow_14 (mkM : Int32) (moM : Nat → Int32) (mpM : Nat → Int32) (mlM : Nat → Int32) (av : Int32) (ac : Int32) (ap : Int32) (aq : Int32) (af : Nat → Int32) (ag : Nat → Int32) (post : Int32 → (Nat → Int32) → (Nat → Int32) → (Nat → Int32) → (Nat → Int32) → Prop) : Nat → Int32 → (Nat → Int32) → Prop
  | 0 => fun _ _ => False
  | n + 1 => vb_SectorMap_follow_14 mkM moM mpM mlM av ac ap aq af ag post (v_SectorMap_follow_14 mkM moM mpM mlM av ac ap aq af ag post n)
def v_SectorMap_follow (mk : Int32) (mo : Nat → Int32) (mp : Nat → Int32) (ml : Nat → Int32) (mi : Nat → Int32) (av : Int32) (ac : Int32) (ap : Int32) (aq : Int32) (af : Nat → Int32) (ag : Nat → Int32) (post : Int32 → (Nat → Int32) → (Nat → Int32) → (Nat → Int32) → (Nat → Int32) → Prop) : Prop := v_SectorMap_forget mk mo mp ml mi (fun mk_2 ml_3 mi_4 => ((¬ av = 0 → ∃ n, v_SectorMap_follow_14 mk_2 mo mp ml_3 av ac ap aq af ag post n 0 mi_4) ∧ (av = 0 → post mk_2 mo mp ml_3 mi_4)))
abbrev q_SectorMap_follow (dC : Nat → ClassId) (dI : Nat → Nat → Nat) (cI cZ : ClassId) (mh ah mx my mz mu ahs aht : Nat) (mk : Int32) (mo : Nat → Int32) (mp : Nat → Int32) (ml : Nat → Int32) (mi : Nat → Int32) (av : Int32) (ac : Int32) (ap : Int32) (aq : Int32) (af : Nat → Int32) (ag : Nat → Int32) (A : Nat → Prop) (post : Int32 → (Nat → Int32) → (Nat → Int32) → (Nat → Int32) → (Nat → Int32) → Prop) : Array Value → State → Outcome → State → Prop := va_Qv (fun (u : Int32 × (Nat → Int32) × (Nat → Int32) × (Nat → Int32) × (Nat → Int32)) => post u.1 u.2.1 u.2.2.1 u.2.2.2.1 u.2.2.2.2) (fun (u : Int32 × (Nat → Int32) × (Nat → Int32) × (Nat → Int32) × (Nat → Int32)) t => va_P (dC, dI) classes [(mh, .inr (2, [.int u.1, .ref mx, .ref my, .ref mz, .ref mu])), (mx, .inl (cI, 143, .inl u.2.1)), (my, .inl (cI, 143, .inl u.2.2.1)), (mz, .inl (cI, 192, .inl u.2.2.2.1)), (mu, .inl (cZ, 192, .inl u.2.2.2.2)), (ah, .inr (0, [.int av, .int ac, .int ap, .int aq, .ref ahs, .ref aht])), (ahs, .inl (cI, 48, .inl af)), (aht, .inl (cI, 48, .inl ag))] t.heap ∧ va_D A [(mh, .inr (2, [.int u.1, .ref mx, .ref my, .ref mz, .ref mu])), (mx, .inl (cI, 143, .inl u.2.1)), (my, .inl (cI, 143, .inl u.2.2.1)), (mz, .inl (cI, 192, .inl u.2.2.2.1)), (mu, .inl (cZ, 192, .inl u.2.2.2.2)), (ah, .inr (0, [.int av, .int ac, .int ap, .int aq, .ref ahs, .ref aht])), (ahs, .inl (cI, 48, .inl af)), (aht, .inl (cI, 48, .inl ag))]) A
set_option maxHeartbeats 4000000 in
set_option maxRecDepth 100000 in
theorem m_SectorMap_follow (l : Launch) (dC : Nat → ClassId) (dI : Nat → Nat → Nat) (cI cZ : ClassId) (mh ah mx my mz mu ahs aht : Nat) (zz : Nat) (mk : Int32) (mo : Nat → Int32) (mp : Nat → Int32) (ml : Nat → Int32) (mi : Nat → Int32) (av : Int32) (ac : Int32) (ap : Int32) (aq : Int32) (af : Nat → Int32) (ag : Nat → Int32) (post : Int32 → (Nat → Int32) → (Nat → Int32) → (Nat → Int32) → (Nat → Int32) → Prop) (hv : v_SectorMap_follow mk mo mp ml mi av ac ap aq af ag post) : Met l y_SectorMap_follow w_SectorMap_follow ({ frames := 2, cells := 0, slots := 0, locals := 41 }) (va_Pc [.ref mh, .ref ah] (fun U => U.heap.size = zz ∧ va_P (dC, dI) classes [(mh, .inr (2, [.int mk, .ref mx, .ref my, .ref mz, .ref mu])), (mx, .inl (cI, 143, .inl mo)), (my, .inl (cI, 143, .inl mp)), (mz, .inl (cI, 192, .inl ml)), (mu, .inl (cZ, 192, .inl mi)), (ah, .inr (0, [.int av, .int ac, .int ap, .int aq, .ref ahs, .ref aht])), (ahs, .inl (cI, 48, .inl af)), (aht, .inl (cI, 48, .inl ag))] U.heap ∧ va_K (dC, dI) classes [(cI, .int), (cZ, .boolean)] U ∧ nz_N U ∧ va_D (fun _ => True) [(mh, .inr (2, [.int mk, .ref mx, .ref my, .ref mz, .ref mu])), (mx, .inl (cI, 143, .inl mo)), (my, .inl (cI, 143, .inl mp)), (mz, .inl (cI, 192, .inl ml)), (mu, .inl (cZ, 192, .inl mi)), (ah, .inr (0, [.int av, .int ac, .int ap, .int aq, .ref ahs, .ref aht])), (ahs, .inl (cI, 48, .inl af)), (aht, .inl (cI, 48, .inl ag))])) (q_SectorMap_follow dC dI cI cZ mh ah mx my mz mu ahs aht mk mo mp ml mi av ac ap aq af ag (va_A [(mh, .inr (2, [.int mk, .ref mx, .ref my, .ref mz, .ref mu])), (mx, .inl (cI, 143, .inl mo)), (my, .inl (cI, 143, .inl mp)), (mz, .inl (cI, 192, .inl ml)), (mu, .inl (cZ, 192, .inl mi)), (ah, .inr (0, [.int av, .int ac, .int ap, .int aq, .ref ahs, .ref aht])), (ahs, .inl (cI, 48, .inl af)), (aht, .inl (cI, 48, .inl ag))] zz) post) 0 0 (va_A [(mh, .inr (2, [.int mk, .ref mx, .ref my, .ref mz, .ref mu])), (mx, .inl (cI, 143, .inl mo)), (my, .inl (cI, 143, .inl mp)), (mz, .inl (cI, 192, .inl ml)), (mu, .inl (cZ, 192, .inl mi)), (ah, .inr (0, [.int av, .int ac, .int ap, .int aq, .ref ahs, .ref aht])), (ahs, .inl (cI, 48, .inl af)), (aht, .inl (cI, 48, .inl ag))] zz) := by
  refine Met.ofW (cc := b_SectorMap_follow) (maxL := 3) (ret := none) (by decide) rfl ?_
  intro p e s m args below meth c s₁ B hml hv0
  obtain ⟨rfl, hsz, hP, hK, hN, hD0⟩ := hv0
  have hx := B.exec
  have hb := B.bytes
  have hr := B.returns
  have htb := w_tbl (atoms_spec (ws := w_SectorMap_follow) B.pre)
  have hown : s.vm.findClass R_SectorMap = some m.cls := findClass_of_methodNamed B.named
  have hlocks := B.notSynchronized
  subst hsz
  have hD := hD0.self (sz := s.heap.size)
  generalize hAe : va_A [(mh, .inr (2, [.int mk, .ref mx, .ref my, .ref mz, .ref mu])), (mx, .inl (cI, 143, .inl mo)), (my, .inl (cI, 143, .inl mp)), (mz, .inl (cI, 192, .inl ml)), (mu, .inl (cZ, 192, .inl mi)), (ah, .inr (0, [.int av, .int ac, .int ap, .int aq, .ref ahs, .ref aht])), (ahs, .inl (cI, 48, .inl af)), (aht, .inl (cI, 48, .inl ag))] s.heap.size = A at hD ⊢
  have hA : ∀ q : Nat, s.heap.size ≤ q → A q := fun q h => by rw [← hAe]; exact Or.inr h
  have hS : va_S A s.heap s.heap [] := va_S.rf
  have hl := lv_entry ([.ref mh, .ref ah]) (n := 3) (Nat.le_of_ble_eq_true rfl)
  rw [lg_entry_eq]
  generalize (lg_sl ([.ref mh, .ref ah]) ++ List.replicate (3 - (lg_sl ([.ref mh, .ref ah])).length) Slot.unset).toArray = ls at hl ⊢
  have hl : lv_has ls 3 [(0, .ref mh), (1, .ref ah)] := hl
  have J49 : ∀ (mkM : Int32) (moM : Nat → Int32) (miM : Nat → Int32) (n : Nat) (x2 : Int32) (mpM : Nat → Int32) (mlM : Nat → Int32) (H : Heap) (locs : List Loc), v_SectorMap_follow_49 mkM moM miM av ac ap aq af ag post n x2 mpM mlM → va_P (dC, dI) classes [(mh, .inr (2, [.int mkM, .ref mx, .ref my, .ref mz, .ref mu])), (mx, .inl (cI, 143, .inl moM)), (my, .inl (cI, 143, .inl mpM)), (mz, .inl (cI, 192, .inl mlM)), (mu, .inl (cZ, 192, .inl miM)), (ah, .inr (0, [.int av, .int ac, .int ap, .int aq, .ref ahs, .ref aht])), (ahs, .inl (cI, 48, .inl af)), (aht, .inl (cI, 48, .inl ag))] H → va_D A [(mh, .inr (2, [.int mkM, .ref mx, .ref my, .ref mz, .ref mu])), (mx, .inl (cI, 143, .inl moM)), (my, .inl (cI, 143, .inl mpM)), (mz, .inl (cI, 192, .inl mlM)), (mu, .inl (cZ, 192, .inl miM)), (ah, .inr (0, [.int av, .int ac, .int ap, .int aq, .ref ahs, .ref aht])), (ahs, .inl (cI, 48, .inl af)), (aht, .inl (cI, 48, .inl ag))] → va_S A s.heap H locs → ∀ ls : Array Slot, lv_has ls 3 [(0, .ref mh), (1, .ref ah), (2, .int x2)] → W p l e (headSpec w_SectorMap_follow ({ frames := 2, cells := 0, slots := 0, locals := 41 })).room s m ([.ref mh, .ref ah] : List Value).toArray below meth c H locs 0 0 (MQ below (q_SectorMap_follow dC dI cI cZ mh ah mx my mz mu ahs aht mk mo mp ml mi av ac ap aq af ag A post) ([.ref mh, .ref ah] : List Value).toArray s 0 0 A) (F0 m 49 ls []) := by
    intro mkM moM miM n49
    induction n49 with
    | zero =>
      intro x2 mpM mlM H locs hv
      exact absurd hv id
    | succ n49 ih49 =>
      intro x2 mpM mlM H locs hv hP hD hS ls hl
      have hv : vb_SectorMap_follow_49 mkM moM miM av ac ap aq af ag post (v_SectorMap_follow_49 mkM moM miM av ac ap aq af ag post n49) x2 mpM mlM := hv
      refine lv_iload_n hx hb d_SectorMap_follow_49 rfl (lv_at hl 2 rfl) ?_
      refine lv_aload_n hx hb d_SectorMap_follow_50 rfl (lv_at hl 1 rfl) ?_
      have hPc := hP.sub (ws' := [(ah, .inr (0, [.int av, .int ac, .int ap, .int aq, .ref ahs, .ref aht])), (ahs, .inl (cI, 48, .inl af)), (aht, .inl (cI, 48, .inl ag))]) [5, 6, 7] rfl
      refine cz_r (va_runV (As := []) (rest := [.int x2]) ⟨hx, hb, hml, hown, htb⟩ (m_Lists_entries l dC dI cI cZ ah ahs aht _ av ac ap aq af ag _ hv) (cwV 0 htb (gz_V k_ml_SectorMap_52 k_inst_Lists_entries k_sel_Lists_entries k_init_Lists k_code_Lists_entries) rfl rfl rfl (by decide +kernel) ⟨Nat.le_of_ble_eq_true rfl, Nat.le_of_ble_eq_true rfl⟩) (pz_VR (ci := 0) (q0 := 0) hPc hK hN rfl rfl) rfl rfl hl.1 rfl (lv_room (Nat.le_of_ble_eq_true rfl)) d_SectorMap_follow_51 ⟨Nat.le_of_ble_eq_true rfl, Nat.le_of_ble_eq_true rfl⟩) hP hS hA (fun r_12 H hv hP hS => ?_)
      refine lv_icmp_ge (tgt := 79) hx hb d_SectorMap_follow_54 (by decide) (fun c_13 => ?_) (fun c_13 => ?_)
      · have hv := hv.1 c_13
        exact W.vret hx hb hr (fun t ht hW => ⟨⟨(mkM, moM, mpM, mlM, miM), rfl, hv, by rw [ht]; exact hP, hD⟩, hS.F ht⟩) hS.2.2 d_SectorMap_follow_79
      · have hv := hv.2 c_13
        refine lv_aload_n hx hb d_SectorMap_follow_57 rfl (lv_at hl 0 rfl) ?_
        refine lv_aload_n hx hb d_SectorMap_follow_58 rfl (lv_at hl 1 rfl) ?_
        refine va_getN (D := (dC, dI)) (ci := 0) (v := .ref ahs) (C := R_Lists) (T := F_Lists) (N := 6) hx hb htb i_Lists hown hK hP 5 rfl rfl 4 (by decide) (va_Nw.use rfl (hN _ k_fl_SectorMap_46)) (fun _ h9 => h9) rfl d_SectorMap_follow_59 ?_
        refine lv_iload_n hx hb d_SectorMap_follow_62 rfl (lv_at hl 2 rfl) ?_
        obtain ⟨h_14, hv⟩ := hv
        refine va_iald hx hb hK hP 6 0 rfl rfl h_14 d_SectorMap_follow_63 ?_
        refine lv_aload_n hx hb d_SectorMap_follow_64 rfl (lv_at hl 1 rfl) ?_
        refine va_getN (D := (dC, dI)) (ci := 0) (v := .ref aht) (C := R_Lists) (T := F_Lists) (N := 6) hx hb htb i_Lists hown hK hP 5 rfl rfl 5 (by decide) (va_Nw.use rfl (hN _ k_fl_SectorMap_56)) (fun _ h9 => h9) rfl d_SectorMap_follow_65 ?_
        refine lv_iload_n hx hb d_SectorMap_follow_68 rfl (lv_at hl 2 rfl) ?_
        obtain ⟨h_15, hv⟩ := hv
        refine va_iald hx hb hK hP 7 0 rfl rfl h_15 d_SectorMap_follow_69 ?_
        have hPc := hP.sub (ws' := [(mh, .inr (2, [.int mkM, .ref mx, .ref my, .ref mz, .ref mu])), (mx, .inl (cI, 143, .inl moM)), (my, .inl (cI, 143, .inl mpM)), (mz, .inl (cI, 192, .inl mlM)), (mu, .inl (cZ, 192, .inl miM))]) [0, 1, 2, 3, 4] rfl
        have hDc := hD.sub (ws' := [(mh, .inr (2, [.int mkM, .ref mx, .ref my, .ref mz, .ref mu])), (mx, .inl (cI, 143, .inl moM)), (my, .inl (cI, 143, .inl mpM)), (mz, .inl (cI, 192, .inl mlM)), (mu, .inl (cZ, 192, .inl miM))]) [0, 1, 2, 3, 4] (by decide) rfl
        refine cz_v (wr := [(ah, .inr (0, [.int av, .int ac, .int ap, .int aq, .ref ahs, .ref aht])), (ahs, .inl (cI, 48, .inl af)), (aht, .inl (cI, 48, .inl ag))]) (va_runV (As := [.int (af x2.toNatClampNeg), .int (ag x2.toNatClampNeg)]) (rest := []) ⟨hx, hb, hml, hown, htb⟩ (m_SectorMap_redirect l dC dI cI cZ mh mx my mz mu _ mkM moM mpM mlM miM (af x2.toNatClampNeg) (ag x2.toNatClampNeg) _ hv) (cwV 2 htb (gz_V k_ml_SectorMap_59 k_inst_SectorMap_redirect k_sel_SectorMap_redirect k_init_SectorMap k_code_SectorMap_redirect) rfl rfl rfl (by decide +kernel) ⟨Nat.le_of_ble_eq_true rfl, Nat.le_of_ble_eq_true rfl⟩) (pz_V (ci := 2) (q0 := 0) hPc hK hN hDc rfl rfl) rfl rfl hl.1 rfl (lv_room (Nat.le_of_ble_eq_true rfl)) d_SectorMap_follow_70 ⟨Nat.le_of_ble_eq_true rfl, Nat.le_of_ble_eq_true rfl⟩) hP hD hS hA [0, 1, 2, 3, 4] [5, 6, 7] rfl rfl (by decide) (by decide) (fun u H locs hv hP hD hS => ?_)
        obtain ⟨mp_17, ml_18⟩ := u
        have hP : va_P (dC, dI) classes [(mh, .inr (2, [.int mkM, .ref mx, .ref my, .ref mz, .ref mu])), (mx, .inl (cI, 143, .inl moM)), (my, .inl (cI, 143, .inl mp_17)), (mz, .inl (cI, 192, .inl ml_18)), (mu, .inl (cZ, 192, .inl miM)), (ah, .inr (0, [.int av, .int ac, .int ap, .int aq, .ref ahs, .ref aht])), (ahs, .inl (cI, 48, .inl af)), (aht, .inl (cI, 48, .inl ag))] H := hP.sub [3, 4, 5, 6, 7, 0, 1, 2] rfl
        have hD : va_D A [(mh, .inr (2, [.int mkM, .ref mx, .ref my, .ref mz, .ref mu])), (mx, .inl (cI, 143, .inl moM)), (my, .inl (cI, 143, .inl mp_17)), (mz, .inl (cI, 192, .inl ml_18)), (mu, .inl (cZ, 192, .inl miM)), (ah, .inr (0, [.int av, .int ac, .int ap, .int aq, .ref ahs, .ref aht])), (ahs, .inl (cI, 48, .inl af)), (aht, .inl (cI, 48, .inl ag))] := hD.sub [3, 4, 5, 6, 7, 0, 1, 2] (by decide) rfl
        refine lv_iinc (v := x2 + 1) (lv' := [(2, .int (x2 + 1)), (0, .ref mh), (1, .ref ah)]) hx hb d_SectorMap_follow_73 hl (k := 2) rfl rfl (by decide) rfl (fun ls hl => ?_)
        refine lv_goto (tgt := 49) hx hb d_SectorMap_follow_76 (by decide) ?_
        exact ih49 (x2 + 1) mp_17 ml_18 _ _ hv hP hD hS ls (lv_sub hl [1, 2, 0] rfl)
  have J14 : ∀ (mkM : Int32) (moM : Nat → Int32) (mpM : Nat → Int32) (mlM : Nat → Int32) (n : Nat) (x2 : Int32) (miM : Nat → Int32) (H : Heap) (locs : List Loc), v_SectorMap_follow_14 mkM moM mpM mlM av ac ap aq af ag post n x2 miM → va_P (dC, dI) classes [(mh, .inr (2, [.int mkM, .ref mx, .ref my, .ref mz, .ref mu])), (mx, .inl (cI, 143, .inl moM)), (my, .inl (cI, 143, .inl mpM)), (mz, .inl (cI, 192, .inl mlM)), (mu, .inl (cZ, 192, .inl miM)), (ah, .inr (0, [.int av, .int ac, .int ap, .int aq, .ref ahs, .ref aht])), (ahs, .inl (cI, 48, .inl af)), (aht, .inl (cI, 48, .inl ag))] H → va_D A [(mh, .inr (2, [.int mkM, .ref mx, .ref my, .ref mz, .ref mu])), (mx, .inl (cI, 143, .inl moM)), (my, .inl (cI, 143, .inl mpM)), (mz, .inl (cI, 192, .inl mlM)), (mu, .inl (cZ, 192, .inl miM)), (ah, .inr (0, [.int av, .int ac, .int ap, .int aq, .ref ahs, .ref aht])), (ahs, .inl (cI, 48, .inl af)), (aht, .inl (cI, 48, .inl ag))] → va_S A s.heap H locs → ∀ ls : Array Slot, lv_has ls 3 [(0, .ref mh), (1, .ref ah), (2, .int x2)] → W p l e (headSpec w_SectorMap_follow ({ frames := 2, cells := 0, slots := 0, locals := 41 })).room s m ([.ref mh, .ref ah] : List Value).toArray below meth c H locs 0 0 (MQ below (q_SectorMap_follow dC dI cI cZ mh ah mx my mz mu ahs aht mk mo mp ml mi av ac ap aq af ag A post) ([.ref mh, .ref ah] : List Value).toArray s 0 0 A) (F0 m 14 ls []) := by
    intro mkM moM mpM mlM n14
    induction n14 with
    | zero =>
      intro x2 miM H locs hv
      exact absurd hv id
    | succ n14 ih14 =>
      intro x2 miM H locs hv hP hD hS ls hl
      have hv : vb_SectorMap_follow_14 mkM moM mpM mlM av ac ap aq af ag post (v_SectorMap_follow_14 mkM moM mpM mlM av ac ap aq af ag post n14) x2 miM := hv
      refine lv_iload_n hx hb d_SectorMap_follow_14 rfl (lv_at hl 2 rfl) ?_
      refine lv_aload_n hx hb d_SectorMap_follow_15 rfl (lv_at hl 1 rfl) ?_
      refine va_getN (D := (dC, dI)) (ci := 0) (v := .int ap) (C := R_Lists) (T := F_Lists) (N := 6) hx hb htb i_Lists hown hK hP 5 rfl rfl 2 (by decide) (va_Nw.use rfl (hN _ k_fl_SectorMap_43)) (fun _ h9 => h9) rfl d_SectorMap_follow_16 ?_
      refine lv_icmp_ge (tgt := 40) hx hb d_SectorMap_follow_19 (by decide) (fun c_6 => ?_) (fun c_6 => ?_)
      · have hv := hv.1 c_6
        refine lv_aload_n hx hb d_SectorMap_follow_40 rfl (lv_at hl 0 rfl) ?_
        have hPc := hP.sub (ws' := [(mh, .inr (2, [.int mkM, .ref mx, .ref my, .ref mz, .ref mu])), (mx, .inl (cI, 143, .inl moM)), (my, .inl (cI, 143, .inl mpM)), (mz, .inl (cI, 192, .inl mlM)), (mu, .inl (cZ, 192, .inl miM))]) [0, 1, 2, 3, 4] rfl
        have hDc := hD.sub (ws' := [(mh, .inr (2, [.int mkM, .ref mx, .ref my, .ref mz, .ref mu])), (mx, .inl (cI, 143, .inl moM)), (my, .inl (cI, 143, .inl mpM)), (mz, .inl (cI, 192, .inl mlM)), (mu, .inl (cZ, 192, .inl miM))]) [0, 1, 2, 3, 4] (by decide) rfl
        refine cz_v (wr := [(ah, .inr (0, [.int av, .int ac, .int ap, .int aq, .ref ahs, .ref aht])), (ahs, .inl (cI, 48, .inl af)), (aht, .inl (cI, 48, .inl ag))]) (va_runV (As := []) (rest := []) ⟨hx, hb, hml, hown, htb⟩ (m_SectorMap_numberSectors l dC dI cI cZ mh mx my mz mu _ mkM moM mpM mlM miM _ hv) (cwV 0 htb (gz_V k_ml_SectorMap_49 k_inst_SectorMap_numberSectors k_sel_SectorMap_numberSectors k_init_SectorMap k_code_SectorMap_numberSectors) rfl rfl rfl (by decide +kernel) ⟨Nat.le_of_ble_eq_true rfl, Nat.le_of_ble_eq_true rfl⟩) (pz_V (ci := 2) (q0 := 0) hPc hK hN hDc rfl rfl) rfl rfl hl.1 rfl (lv_room (Nat.le_of_ble_eq_true rfl)) d_SectorMap_follow_41 ⟨Nat.le_of_ble_eq_true rfl, Nat.le_of_ble_eq_true rfl⟩) hP hD hS hA [0, 1, 2, 3, 4] [5, 6, 7] rfl rfl (by decide) (by decide) (fun u H locs hv hP hD hS => ?_)
        obtain ⟨mk_8, mo_9, mp_10, ml_11⟩ := u
        have hP : va_P (dC, dI) classes [(mh, .inr (2, [.int mk_8, .ref mx, .ref my, .ref mz, .ref mu])), (mx, .inl (cI, 143, .inl mo_9)), (my, .inl (cI, 143, .inl mp_10)), (mz, .inl (cI, 192, .inl ml_11)), (mu, .inl (cZ, 192, .inl miM)), (ah, .inr (0, [.int av, .int ac, .int ap, .int aq, .ref ahs, .ref aht])), (ahs, .inl (cI, 48, .inl af)), (aht, .inl (cI, 48, .inl ag))] H := hP.sub [3, 4, 5, 6, 7, 0, 1, 2] rfl
        have hD : va_D A [(mh, .inr (2, [.int mk_8, .ref mx, .ref my, .ref mz, .ref mu])), (mx, .inl (cI, 143, .inl mo_9)), (my, .inl (cI, 143, .inl mp_10)), (mz, .inl (cI, 192, .inl ml_11)), (mu, .inl (cZ, 192, .inl miM)), (ah, .inr (0, [.int av, .int ac, .int ap, .int aq, .ref ahs, .ref aht])), (ahs, .inl (cI, 48, .inl af)), (aht, .inl (cI, 48, .inl ag))] := hD.sub [3, 4, 5, 6, 7, 0, 1, 2] (by decide) rfl
        refine lv_aload_n hx hb d_SectorMap_follow_44 rfl (lv_at hl 1 rfl) ?_
        refine va_getN (D := (dC, dI)) (ci := 0) (v := .int ap) (C := R_Lists) (T := F_Lists) (N := 6) hx hb htb i_Lists hown hK hP 5 rfl rfl 2 (by decide) (va_Nw.use rfl (hN _ k_fl_SectorMap_43)) (fun _ h9 => h9) rfl d_SectorMap_follow_45 ?_
        refine lv_istore_n (lv' := [(2, .int ap), (0, .ref mh), (1, .ref ah)]) hx hb d_SectorMap_follow_48 rfl hl (by decide) rfl (fun ls hl => ?_)
        obtain ⟨n_49, hv⟩ := hv
        exact J49 mk_8 mo_9 miM n_49 ap mp_10 ml_11 _ _ hv hP hD hS ls (lv_sub hl [1, 2, 0] rfl)
      · have hv := hv.2 c_6
        refine lv_aload_n hx hb d_SectorMap_follow_22 rfl (lv_at hl 0 rfl) ?_
        refine va_get (D := (dC, dI)) (ci := 2) (v := .ref mu) (C := R_SectorMap) (T := F_SectorMap) (N := 5) hx hb htb i_SectorMap hown hK hP 0 rfl rfl 4 (by decide) (htb _ k_fl_SectorMap_21) (fun _ h9 => h9) rfl d_SectorMap_follow_23 ?_
        refine lv_aload_n hx hb d_SectorMap_follow_26 rfl (lv_at hl 1 rfl) ?_
        refine va_getN (D := (dC, dI)) (ci := 0) (v := .ref ahs) (C := R_Lists) (T := F_Lists) (N := 6) hx hb htb i_Lists hown hK hP 5 rfl rfl 4 (by decide) (va_Nw.use rfl (hN _ k_fl_SectorMap_46)) (fun _ h9 => h9) rfl d_SectorMap_follow_27 ?_
        refine lv_iload_n hx hb d_SectorMap_follow_30 rfl (lv_at hl 2 rfl) ?_
        obtain ⟨h_19, hv⟩ := hv
        refine va_iald hx hb hK hP 6 0 rfl rfl h_19 d_SectorMap_follow_31 ?_
        refine lv_iconst (v := 1) hx hb d_SectorMap_follow_32 (by decide) ?_
        obtain ⟨h_20, hv⟩ := hv
        refine va_zast hx hb hK hP hD hS 4 1 rfl rfl h_20 d_SectorMap_follow_33 (fun H locs hP hD hS => ?_)
        have hP : va_P (dC, dI) classes [(mh, .inr (2, [.int mkM, .ref mx, .ref my, .ref mz, .ref mu])), (mx, .inl (cI, 143, .inl moM)), (my, .inl (cI, 143, .inl mpM)), (mz, .inl (cI, 192, .inl mlM)), (mu, .inl (cZ, 192, .inl (upd miM (af x2.toNatClampNeg).toNatClampNeg (vp_nar .boolean 1)))), (ah, .inr (0, [.int av, .int ac, .int ap, .int aq, .ref ahs, .ref aht])), (ahs, .inl (cI, 48, .inl af)), (aht, .inl (cI, 48, .inl ag))] H := hP
        have hD : va_D A [(mh, .inr (2, [.int mkM, .ref mx, .ref my, .ref mz, .ref mu])), (mx, .inl (cI, 143, .inl moM)), (my, .inl (cI, 143, .inl mpM)), (mz, .inl (cI, 192, .inl mlM)), (mu, .inl (cZ, 192, .inl (upd miM (af x2.toNatClampNeg).toNatClampNeg (vp_nar .boolean 1)))), (ah, .inr (0, [.int av, .int ac, .int ap, .int aq, .ref ahs, .ref aht])), (ahs, .inl (cI, 48, .inl af)), (aht, .inl (cI, 48, .inl ag))] := hD
        refine lv_iinc (v := x2 + 1) (lv' := [(2, .int (x2 + 1)), (0, .ref mh), (1, .ref ah)]) hx hb d_SectorMap_follow_34 hl (k := 2) rfl rfl (by decide) rfl (fun ls hl => ?_)
        refine lv_goto (tgt := 14) hx hb d_SectorMap_follow_37 (by decide) ?_
        exact ih14 (x2 + 1) (upd miM (af x2.toNatClampNeg).toNatClampNeg (vp_nar .boolean 1)) _ _ hv hP hD hS ls (lv_sub hl [1, 2, 0] rfl)
  refine lv_aload_n hx hb d_SectorMap_follow_0 rfl (lv_at hl 0 rfl) ?_
  have hPc := hP.sub (ws' := [(mh, .inr (2, [.int mk, .ref mx, .ref my, .ref mz, .ref mu])), (mx, .inl (cI, 143, .inl mo)), (my, .inl (cI, 143, .inl mp)), (mz, .inl (cI, 192, .inl ml)), (mu, .inl (cZ, 192, .inl mi))]) [0, 1, 2, 3, 4] rfl
  have hDc := hD.sub (ws' := [(mh, .inr (2, [.int mk, .ref mx, .ref my, .ref mz, .ref mu])), (mx, .inl (cI, 143, .inl mo)), (my, .inl (cI, 143, .inl mp)), (mz, .inl (cI, 192, .inl ml)), (mu, .inl (cZ, 192, .inl mi))]) [0, 1, 2, 3, 4] (by decide) rfl
  refine cz_v (wr := [(ah, .inr (0, [.int av, .int ac, .int ap, .int aq, .ref ahs, .ref aht])), (ahs, .inl (cI, 48, .inl af)), (aht, .inl (cI, 48, .inl ag))]) (va_runV (As := []) (rest := []) ⟨hx, hb, hml, hown, htb⟩ (m_SectorMap_forget l dC dI cI cZ mh mx my mz mu _ mk mo mp ml mi _ hv) (cwV 0 htb (gz_V k_ml_SectorMap_35 k_inst_SectorMap_forget k_sel_SectorMap_forget k_init_SectorMap k_code_SectorMap_forget) rfl rfl rfl (by decide +kernel) ⟨Nat.le_of_ble_eq_true rfl, Nat.le_of_ble_eq_true rfl⟩) (pz_V (ci := 2) (q0 := 0) hPc hK hN hDc rfl rfl) rfl rfl hl.1 rfl (lv_room (Nat.le_of_ble_eq_true rfl)) d_SectorMap_follow_1 ⟨Nat.le_of_ble_eq_true rfl, Nat.le_of_ble_eq_true rfl⟩) hP hD hS hA [0, 1, 2, 3, 4] [5, 6, 7] rfl rfl (by decide) (by decide) (fun u H locs hv hP hD hS => ?_)
  obtain ⟨mk_2, ml_3, mi_4⟩ := u
  have hP : va_P (dC, dI) classes [(mh, .inr (2, [.int mk_2, .ref mx, .ref my, .ref mz, .ref mu])), (mx, .inl (cI, 143, .inl mo)), (my, .inl (cI, 143, .inl mp)), (mz, .inl (cI, 192, .inl ml_3)), (mu, .inl (cZ, 192, .inl mi_4)), (ah, .inr (0, [.int av, .int ac, .int ap, .int aq, .ref ahs, .ref aht])), (ahs, .inl (cI, 48, .inl af)), (aht, .inl (cI, 48, .inl ag))] H := hP.sub [3, 4, 5, 6, 7, 0, 1, 2] rfl
  have hD : va_D A [(mh, .inr (2, [.int mk_2, .ref mx, .ref my, .ref mz, .ref mu])), (mx, .inl (cI, 143, .inl mo)), (my, .inl (cI, 143, .inl mp)), (mz, .inl (cI, 192, .inl ml_3)), (mu, .inl (cZ, 192, .inl mi_4)), (ah, .inr (0, [.int av, .int ac, .int ap, .int aq, .ref ahs, .ref aht])), (ahs, .inl (cI, 48, .inl af)), (aht, .inl (cI, 48, .inl ag))] := hD.sub [3, 4, 5, 6, 7, 0, 1, 2] (by decide) rfl
  refine lv_aload_n hx hb d_SectorMap_follow_4 rfl (lv_at hl 1 rfl) ?_
  refine va_getN (D := (dC, dI)) (ci := 0) (v := .int av) (C := R_Lists) (T := F_Lists) (N := 6) hx hb htb i_Lists hown hK hP 5 rfl rfl 0 (by decide) (va_Nw.use rfl (hN _ k_fl_SectorMap_38)) (fun _ h9 => h9) rfl d_SectorMap_follow_5 ?_
  refine lv_if_ne (tgt := 12) hx hb d_SectorMap_follow_8 (by decide) (fun c_5 => ?_) (fun c_5 => ?_)
  · have hv := hv.1 c_5
    refine lv_iconst (v := 0) hx hb d_SectorMap_follow_12 (by decide) ?_
    refine lv_istore_n (lv' := [(2, .int 0), (0, .ref mh), (1, .ref ah)]) hx hb d_SectorMap_follow_13 rfl hl (by decide) rfl (fun ls hl => ?_)
    obtain ⟨n_14, hv⟩ := hv
    exact J14 mk_2 mo mp ml_3 n_14 0 mi_4 _ _ hv hP hD hS ls (lv_sub hl [1, 2, 0] rfl)
  · have hv := hv.2 c_5
    exact W.vret hx hb hr (fun t ht hW => ⟨⟨(mk_2, mo, mp, ml_3, mi_4), rfl, hv, by rw [ht]; exact hP, hD⟩, hS.F ht⟩) hS.2.2 d_SectorMap_follow_11
