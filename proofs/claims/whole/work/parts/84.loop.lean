/-! PURE: the loop over the script, and its start -/
theorem lp_all {nh ah bh : Nat} {nv np nq nc gc : Int32} {nf ng : Nat → Int32} {L : Nat} {zs : Nat → Int32} (hd : nh ≠ ah ∧ nh ≠ bh ∧ ah ≠ bh) (hL : L ≤ 2048) : ∀ (n B : Nat), B ≤ L / 4 → L / 4 < B + n → ∀ (di : Nat) (dn dz : Int32) (df : Nat → Int32) (ofv ol od : Int32) (sc sw sl : Nat → Int32) (mk : Int32) (mo mp ml mi : Nat → Int32) (av ac ap aq : Int32) (af ag : Nat → Int32) (bv bc bp bq : Int32) (bf bg : Nat → Int32) (gv gp gq : Int32) (gf gg : Nat → Int32) (kc kn kz ko kt kr : Int32) (fw fl fs ff fv fk fp fy fq fi fj fm : Nat → Int32) (fo : Nat → Int64), Inv nh ah bh nv np nq B di dn dz df ofv ol od sc sw sl mk mo mp ml mi av ac ap aq af ag bv bc bp bq bf bg gv gp gq gf gg kc kn kz ko kt kr fw fl fs ff fv fk fp fy fq fi fj fm fo → v_law_law_23 nv nc np nq nf ng gc nh ah bh L zs n (nI (4 * B)) di dn dz df ofv ol od sc sw sl mk mo mp ml mi av ac ap aq af ag bv bc bp bq bf bg gv gp gq gf gg kc kn kz ko kt kr fw fl fs ff fv fk fp fy fq fi fj fm fo := by
  intro n
  induction n with
  | zero => intro B h1 h2; omega
  | succ n ih =>
    intro B h1 h2 di dn dz df ofv ol od sc sw sl mk mo mp ml mi av ac ap aq af ag bv bc bp bq bf bg gv gp gq gf gg kc kn kz ko kt kr fw fl fs ff fv fk fp fy fq fi fj fm fo h
    show vb_law_law_23 nv nc np nq nf ng gc nh ah bh L zs (v_law_law_23 nv nc np nq nf ng gc nh ah bh L zs n) (nI (4 * B)) di dn dz df ofv ol od sc sw sl mk mo mp ml mi av ac ap aq af ag bv bc bp bq bf bg gv gp gq gf gg kc kn kz ko kt kr fw fl fs ff fv fk fp fy fq fi fj fm fo
    have hx : ((Int32.ofNat L) - 4).toInt = (L : Int) - (4 : Int) := sub_toInt (c := L) (j := 4) (by omega) (by omega)
    have hy : (nI (4 * B)).toInt = ((4 * B : Nat) : Int) := nI_toInt (by omega)
    refine ⟨fun _ => trivial, fun w => ?_⟩
    rw [Int32.lt_iff_toInt_lt, hx, hy] at w
    have hB4 : 4 * B + 4 ≤ L := by omega
    have hB6 : B < 600 := by omega
    have e4 : nI (4 * B) + 4 = nI (4 * (B + 1)) := by
      rw [show (4 : Int32) = nI 4 from rfl, nI_add, show 4 * B + 4 = 4 * (B + 1) by omega]
    have hK : ∀ (di : Nat) (dn dz : Int32) (df : Nat → Int32) (ofv ol od : Int32) (sc sw sl : Nat → Int32) (mk : Int32) (mo mp ml mi : Nat → Int32) (av ac ap aq : Int32) (af ag : Nat → Int32) (bv bc bp bq : Int32) (bf bg : Nat → Int32) (gv gp gq : Int32) (gf gg : Nat → Int32) (kc kn kz ko kt kr : Int32) (fw fl fs ff fv fk fp fy fq fi fj fm : Nat → Int32) (fo : Nat → Int64), Inv nh ah bh nv np nq (B + 1) di dn dz df ofv ol od sc sw sl mk mo mp ml mi av ac ap aq af ag bv bc bp bq bf bg gv gp gq gf gg kc kn kz ko kt kr fw fl fs ff fv fk fp fy fq fi fj fm fo → v_law_law_23 nv nc np nq nf ng gc nh ah bh L zs n (nI (4 * B) + 4) di dn dz df ofv ol od sc sw sl mk mo mp ml mi av ac ap aq af ag bv bc bp bq bf bg gv gp gq gf gg kc kn kz ko kt kr fw fl fs ff fv fk fp fy fq fi fj fm fo := by
      intro di dn dz df ofv ol od sc sw sl mk mo mp ml mi av ac ap aq af ag bv bc bp bq bf bg gv gp gq gf gg kc kn kz ko kt kr fw fl fs ff fv fk fp fy fq fi fj fm fo h
      rw [e4]
      exact ih (B + 1) (by omega) (by omega) di dn dz df ofv ol od sc sw sl mk mo mp ml mi av ac ap aq af ag bv bc bp bq bf bg gv gp gq gf gg kc kn kz ko kt kr fw fl fs ff fv fk fp fy fq fi fj fm fo h
    have i1 : vp_in (nI (4 * B) + 1) L := by rw [nI_1]; exact vp_in_nI (by omega) (by omega)
    have i2 : vp_in (nI (4 * B) + 2) L := by rw [show (2 : Int32) = nI 2 from rfl, nI_add]; exact vp_in_nI (by omega) (by omega)
    have i3 : vp_in (nI (4 * B) + 3) L := by rw [show (3 : Int32) = nI 3 from rfl, nI_add]; exact vp_in_nI (by omega) (by omega)
    have h9 : Inv nh ah bh nv np nq (B + 1) di dn dz df ofv ol od sc sw sl mk mo mp ml mi av ac ap aq af ag bv bc bp bq bf bg gv gp gq gf gg kc kn kz ko kt kr fw fl fs ff fv fk fp fy fq fi fj fm fo := by
      obtain ⟨ve, pa, pb, P, F, S, a, b⟩ := h
      exact ⟨ve, pa, pb, P, F, S, by omega, b⟩
    refine ⟨vp_in_nI (by omega) (by omega), fun _ => lc_factory (nc := nc) (gc := gc) (nf := nf) (ng := ng) (zs := zs) hK hB6 hd i1 i2 i3 h, fun _ => lc_format (nc := nc) (gc := gc) (nf := nf) (ng := ng) (zs := zs) hK hB6 hd i1 i2 i3 h, fun _ => lc_write (nc := nc) (gc := gc) (nf := nf) (ng := ng) (zs := zs) hK hB6 hd i1 i2 i3 h, fun _ => lc_read (nc := nc) (gc := gc) (nf := nf) (ng := ng) (zs := zs) hK hB6 hd i1 i2 i3 h, fun _ => lc_reassign (nc := nc) (gc := gc) (nf := nf) (ng := ng) (zs := zs) hK hB6 hd i1 i2 i3 h, fun _ => lc_spoil (nc := nc) (gc := gc) (nf := nf) (ng := ng) (zs := zs) hK hB6 hd i1 i2 i3 h, fun _ => lc_cutAfter (nc := nc) (gc := gc) (nf := nf) (ng := ng) (zs := zs) hK hB6 hd i1 i2 i3 h, fun _ => lc_start (nc := nc) (gc := gc) (nf := nf) (ng := ng) (zs := zs) hK hB6 hd i1 i2 i3 h, fun _ => lc_physical (nc := nc) (gc := gc) (nf := nf) (ng := ng) (zs := zs) hK hB6 hd i1 i2 i3 h, fun _ => lc_logical (nc := nc) (gc := gc) (nf := nf) (ng := ng) (zs := zs) hK hB6 hd i1 i2 i3 h, fun _ => lc_spares (nc := nc) (gc := gc) (nf := nf) (ng := ng) (zs := zs) hK hB6 hd i1 i2 i3 h, fun _ => lc_grown (nc := nc) (gc := gc) (nf := nf) (ng := ng) (zs := zs) hK hB6 hd i1 i2 i3 h, fun _ => lc_primary (nc := nc) (gc := gc) (nf := nf) (ng := ng) (zs := zs) hK hB6 hd i1 i2 i3 h, fun _ => lc_seeks (nc := nc) (gc := gc) (nf := nf) (ng := ng) (zs := zs) hK hB6 hd i1 i2 i3 h, fun _ => lc_state (nc := nc) (gc := gc) (nf := nf) (ng := ng) (zs := zs) hK hB6 hd i1 i2 i3 h, fun _ => lc_told (nc := nc) (gc := gc) (nf := nf) (ng := ng) (zs := zs) hK hB6 hd i1 i2 i3 h, fun _ _ _ _ _ _ _ _ _ _ _ _ _ _ _ _ => fin hK h9⟩
theorem s_fill {f : Nat → Int32} {post : (Nat → Int32) → Prop} (h : ∀ g : Nat → Int32, (∀ x, x < 192 → g x = -1) → post g) : v_Arrays_fill f (-1) post := by
  have K : ∀ (n i : Nat) (g : Nat → Int32), i ≤ 192 → 192 < i + n → (∀ x, x < i → g x = -1) → v_Arrays_fill_5 192 (-1) post n (nI i) g := by
    intro n
    induction n with
    | zero => intro i g h1 h2; omega
    | succ n ih =>
      intro i g h1 h2 h3
      show vb_Arrays_fill_5 192 (-1) post (v_Arrays_fill_5 192 (-1) post n) (nI i) g
      refine pk_le 192 i (fun w => h g (fun x hx => h3 x (by omega))) (fun w => ⟨vp_in_nI w (by omega), ?_⟩)
      rw [nI_1, nI_clamp (by omega)]
      exact ih (i + 1) _ (by omega) (by omega) (up_s h3)
  exact ⟨193, K 193 0 f (by omega) (by omega) (fun x hx => absurd hx (by omega))⟩
theorem law_vc {L : Nat} (hL : L ≤ 2048) (zs : Nat → Int32) : v_law_start L zs := by
  unfold v_law_start v_DefectDrive_init v_Power_init v_Surface_init v_SectorMap_init v_Lists_init v_Model_init
  refine s_fill (fun af haf => ?_)
  intro q1 q2 q3 n1 n2 n3
  refine ⟨L / 4 + 1, by omega, ?_⟩
  refine lp_all (nh := q1) (ah := q2) (bh := q3) ⟨n1, n2, n3⟩ hL (L / 4 + 1) 0 (by omega) (by omega) _ _ _ _ _ _ _ _ _ _ _ _ _ _ _ _ _ _ _ _ _ _ _ _ _ _ _ _ _ _ _ _ _ _ _ _ _ _ _ _ _ _ _ _ _ _ _ _ _ _ _ ?_
  refine ⟨0, 0, 0, fun _ => 0, fun _ => 0, fun _ => 0, Nat.le_refl _, ⟨⟨rfl, rfl, rfl⟩, Or.inl rfl, Or.inl rfl, by decide, fun _ _ => Or.inl rfl, fun _ _ => Or.inl rfl, fun _ _ => Or.inl rfl, okL_0, fun _ => ⟨rfl, rfl⟩, ⟨rfl, fun s _ z => absurd rfl z, fun x hx => ?_, fun s _ z => absurd rfl z, fun x hx _ => haf x hx⟩, Or.inl ⟨rfl, rfl, rfl, rfl⟩⟩, ⟨rfl, rfl, rfl, rfl, rfl, fun _ _ => rfl, fun _ _ => rfl, fun _ _ => rfl, fun _ _ _ => rfl, ⟨rfl, rfl, rfl, fun k hk => absurd hk (by omega), fun k hk => absurd hk (by omega)⟩, fun _ => ⟨rfl, rfl⟩, fun z => absurd rfl z⟩⟩
  simp [pr]
