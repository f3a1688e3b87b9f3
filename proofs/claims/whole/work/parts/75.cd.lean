theorem sub_toInt {c j : Nat} (hc : c < 2 ^ 31) (hj : j < 2 ^ 31) : (nI c - nI j).toInt = (c : Int) - (j : Int) := by
  rw [Int32.toInt_sub, nI_toInt hc, nI_toInt hj]
  exact Int.bmod_eq_of_le (by omega) (by omega)
theorem seek_out {c d : Nat} {p0 : Int32} (hc : c < 2 ^ 31) (h0 : ¬ p0 < 0) (q : ∀ j, j < c → p0 ≠ nI j) (hd1 : d < 2 ^ 31) (hd : 1 ≤ d) : nI c - p0 < nI d := by
  obtain ⟨j, hj, rfl⟩ := nI_of h0
  have : c ≤ j := by
    apply Nat.le_of_not_lt
    intro w
    exact q j w rfl
  rw [Int32.lt_iff_toInt_lt, sub_toInt hc hj, nI_toInt hd1]
  omega
theorem lc_spares {nh ah bh : Nat} {nv np nq : Int32} {nc gc : Int32} {nf ng : Nat → Int32} {B : Nat} {K23 : Int32 → Nat → Int32 → Int32 → (Nat → Int32) → Int32 → Int32 → Int32 → (Nat → Int32) → (Nat → Int32) → (Nat → Int32) → Int32 → (Nat → Int32) → (Nat → Int32) → (Nat → Int32) → (Nat → Int32) → Int32 → Int32 → Int32 → Int32 → (Nat → Int32) → (Nat → Int32) → Int32 → Int32 → Int32 → Int32 → (Nat → Int32) → (Nat → Int32) → Int32 → Int32 → Int32 → (Nat → Int32) → (Nat → Int32) → Int32 → Int32 → Int32 → Int32 → Int32 → Int32 → (Nat → Int32) → (Nat → Int32) → (Nat → Int32) → (Nat → Int32) → (Nat → Int32) → (Nat → Int32) → (Nat → Int32) → (Nat → Int32) → (Nat → Int32) → (Nat → Int32) → (Nat → Int32) → (Nat → Int32) → (Nat → Int64) → Prop} {x4 : Int32} {L : Nat} {zs : Nat → Int32} (hK : ∀ (di : Nat) (dn dz : Int32) (df : Nat → Int32) (ofv ol od : Int32) (sc sw sl : Nat → Int32) (mk : Int32) (mo mp ml mi : Nat → Int32) (av ac ap aq : Int32) (af ag : Nat → Int32) (bv bc bp bq : Int32) (bf bg : Nat → Int32) (gv gp gq : Int32) (gf gg : Nat → Int32) (kc kn kz ko kt kr : Int32) (fw fl fs ff fv fk fp fy fq fi fj fm : Nat → Int32) (fo : Nat → Int64), Inv nh ah bh nv np nq (B + 1) di dn dz df ofv ol od sc sw sl mk mo mp ml mi av ac ap aq af ag bv bc bp bq bf bg gv gp gq gf gg kc kn kz ko kt kr fw fl fs ff fv fk fp fy fq fi fj fm fo → K23 (x4 + 4) di dn dz df ofv ol od sc sw sl mk mo mp ml mi av ac ap aq af ag bv bc bp bq bf bg gv gp gq gf gg kc kn kz ko kt kr fw fl fs ff fv fk fp fy fq fi fj fm fo) (hB : B < 600) (hd : nh ≠ ah ∧ nh ≠ bh ∧ ah ≠ bh) (i1 : vp_in (x4 + 1) L) (i2 : vp_in (x4 + 2) L) (i3 : vp_in (x4 + 3) L) {di : Nat} {dn dz : Int32} {df : Nat → Int32} {ofv ol od : Int32} {sc sw sl : Nat → Int32} {mk : Int32} {mo mp ml mi : Nat → Int32} {av ac ap aq : Int32} {af ag : Nat → Int32} {bv bc bp bq : Int32} {bf bg : Nat → Int32} {gv gp gq : Int32} {gf gg : Nat → Int32} {kc kn kz ko kt kr : Int32} {fw fl fs ff fv fk fp fy fq fi fj fm : Nat → Int32} {fo : Nat → Int64} (h : Inv nh ah bh nv np nq B di dn dz df ofv ol od sc sw sl mk mo mp ml mi av ac ap aq af ag bv bc bp bq bf bg gv gp gq gf gg kc kn kz ko kt kr fw fl fs ff fv fk fp fy fq fi fj fm fo) : v_law_law_685 K23 x4 di dn dz df ofv ol od sc sw sl mk mo mp ml mi av ac ap aq af ag bv bc bp bq bf bg gv gp gq gf gg kc kn kz ko kt kr fw fl fs ff fv fk fp fy fq fi fj fm fo nh ah bh L zs := by
  obtain ⟨ve, pa, pb, P, F, S, hve, hc, hm⟩ := h
  obtain ⟨c0, cdz, cof, col, cdf, csc, csl, cok, c00, cmap, ccf⟩ := id hc
  obtain ⟨mkn, mkz, mko, mkt, mkr, mfs, mff, mfl, mfw, mrw, mk0, mkv⟩ := id hm
  have mo0 := rwR_0.mp mrw
  have hv31 : ve < 2 ^ 31 := by omega
  refine ⟨i1, ?_⟩
  generalize zs (x4 + 1).toNatClampNeg = p0
  refine s_lSpares cmap cok (fun z => (c00 z).2) (fun w => ⟨i1, s_mSpares0 w (cm_t (by decide) rfl (fin hK ⟨ve, pa, pb, P, F, S, by omega, hc, hm⟩))⟩) (fun c h1 h2 e => ?_)
  subst e
  exact ⟨i1, s_mSpares1 mo0 cok mfs h1 h2 (cm_r rfl rfl (fin hK ⟨ve, pa, pb, P, F, S, by omega, hc, hm⟩))⟩
theorem lc_seeks {nh ah bh : Nat} {nv np nq : Int32} {nc gc : Int32} {nf ng : Nat → Int32} {B : Nat} {K23 : Int32 → Nat → Int32 → Int32 → (Nat → Int32) → Int32 → Int32 → Int32 → (Nat → Int32) → (Nat → Int32) → (Nat → Int32) → Int32 → (Nat → Int32) → (Nat → Int32) → (Nat → Int32) → (Nat → Int32) → Int32 → Int32 → Int32 → Int32 → (Nat → Int32) → (Nat → Int32) → Int32 → Int32 → Int32 → Int32 → (Nat → Int32) → (Nat → Int32) → Int32 → Int32 → Int32 → (Nat → Int32) → (Nat → Int32) → Int32 → Int32 → Int32 → Int32 → Int32 → Int32 → (Nat → Int32) → (Nat → Int32) → (Nat → Int32) → (Nat → Int32) → (Nat → Int32) → (Nat → Int32) → (Nat → Int32) → (Nat → Int32) → (Nat → Int32) → (Nat → Int32) → (Nat → Int32) → (Nat → Int32) → (Nat → Int64) → Prop} {x4 : Int32} {L : Nat} {zs : Nat → Int32} (hK : ∀ (di : Nat) (dn dz : Int32) (df : Nat → Int32) (ofv ol od : Int32) (sc sw sl : Nat → Int32) (mk : Int32) (mo mp ml mi : Nat → Int32) (av ac ap aq : Int32) (af ag : Nat → Int32) (bv bc bp bq : Int32) (bf bg : Nat → Int32) (gv gp gq : Int32) (gf gg : Nat → Int32) (kc kn kz ko kt kr : Int32) (fw fl fs ff fv fk fp fy fq fi fj fm : Nat → Int32) (fo : Nat → Int64), Inv nh ah bh nv np nq (B + 1) di dn dz df ofv ol od sc sw sl mk mo mp ml mi av ac ap aq af ag bv bc bp bq bf bg gv gp gq gf gg kc kn kz ko kt kr fw fl fs ff fv fk fp fy fq fi fj fm fo → K23 (x4 + 4) di dn dz df ofv ol od sc sw sl mk mo mp ml mi av ac ap aq af ag bv bc bp bq bf bg gv gp gq gf gg kc kn kz ko kt kr fw fl fs ff fv fk fp fy fq fi fj fm fo) (hB : B < 600) (hd : nh ≠ ah ∧ nh ≠ bh ∧ ah ≠ bh) (i1 : vp_in (x4 + 1) L) (i2 : vp_in (x4 + 2) L) (i3 : vp_in (x4 + 3) L) {di : Nat} {dn dz : Int32} {df : Nat → Int32} {ofv ol od : Int32} {sc sw sl : Nat → Int32} {mk : Int32} {mo mp ml mi : Nat → Int32} {av ac ap aq : Int32} {af ag : Nat → Int32} {bv bc bp bq : Int32} {bf bg : Nat → Int32} {gv gp gq : Int32} {gf gg : Nat → Int32} {kc kn kz ko kt kr : Int32} {fw fl fs ff fv fk fp fy fq fi fj fm : Nat → Int32} {fo : Nat → Int64} (h : Inv nh ah bh nv np nq B di dn dz df ofv ol od sc sw sl mk mo mp ml mi av ac ap aq af ag bv bc bp bq bf bg gv gp gq gf gg kc kn kz ko kt kr fw fl fs ff fv fk fp fy fq fi fj fm fo) : v_law_law_881 K23 x4 di dn dz df ofv ol od sc sw sl mk mo mp ml mi av ac ap aq af ag bv bc bp bq bf bg gv gp gq gf gg kc kn kz ko kt kr fw fl fs ff fv fk fp fy fq fi fj fm fo nh ah bh L zs := by
  obtain ⟨ve, pa, pb, P, F, S, hve, hc, hm⟩ := h
  obtain ⟨c0, cdz, cof, col, cdf, csc, csl, cok, c00, cmap, ccf⟩ := id hc
  obtain ⟨mkn, mkz, mko, mkt, mkr, mfs, mff, mfl, mfw, mrw, mk0, mkv⟩ := id hm
  have mo0 := rwR_0.mp mrw
  have hv31 : ve < 2 ^ 31 := by omega
  refine ⟨i1, i2, ?_⟩
  generalize zs (x4 + 1).toNatClampNeg = p0
  generalize zs (x4 + 2).toNatClampNeg = p1
  have cmk : mk = nI (cp ve P pa) := cmap.1
  subst cmk
  have hcp := cp_le ve P pa
  unfold v_law_seeks v_DefectDrive_seeks
  refine ⟨fun w => ⟨rfl, i1, i2, ?_⟩, fun w => ?_⟩
  · exact ⟨fun _ => ⟨fun z => absurd z (by decide), fun _ => cm_t (by decide) rfl (fin hK ⟨ve, pa, pb, P, F, S, by omega, hc, hm⟩)⟩, fun z => absurd w z⟩
  · have w0 : ¬ p1 < 0 := fun z => w (Int32.lt_of_lt_of_le z (by decide))
    obtain ⟨d, hd1, rfl⟩ := nI_of w0
    have hd2 : 1 ≤ d := by
      rcases Nat.eq_zero_or_pos d with e | e
      · subst e; exact absurd (by decide) w
      · exact e
    refine s_holds (by omega) (fun q => ⟨fun _ => ⟨rfl, i1, i2, ?_⟩, fun z => absurd rfl z⟩) (fun j hj e => ⟨fun z => absurd z (by decide), fun _ => ?_⟩)
    · exact ⟨fun z => absurd z w, fun _ => ⟨fun z => ⟨fun z => absurd z (by decide), fun _ => cm_t (by decide) rfl (fin hK ⟨ve, pa, pb, P, F, S, by omega, hc, hm⟩)⟩, fun z => s_mCapacity mo0 cok hv31 ⟨fun _ => ⟨fun z => absurd z (by decide), fun _ => cm_t (by decide) rfl (fin hK ⟨ve, pa, pb, P, F, S, by omega, hc, hm⟩)⟩, fun z2 => absurd (seek_out (by omega) z q hd1 hd2) z2⟩⟩⟩
    · subst e
      rw [pk_sub (by omega)]
      have hg : ∀ s, s < 192 → ve ≠ 0 → lg P pa s = true → (fun j => (mp j).toNatClampNeg) (ct P pa s) = pl F S pb s := fun s s1 s2 s3 => by
        have := pl_data cok s1 s3
        show (mp (ct P pa s)).toNatClampNeg = _
        rw [(cmap.2.1 s s1 s2 s3).2, nI_clamp (by omega)]
      refine pk_le d (cp ve P pa - j) (fun w2 => s_lSeeks (g := fun j => (mp j).toNatClampNeg) hcp (fun j hj => ?_) hd2 (by omega) ⟨in01, i1, i2, ?_⟩) (fun w2 => ⟨rfl, i1, i2, ?_⟩)
      · obtain ⟨s, s1, s2, s3, s4, s5⟩ := has_s hj
        have g1 := hg s s1 s4 s2
        have d1 := pl_data cok s1 s2
        have cm := (cmap.2.1 s s1 s4 s2).2
        rw [s3] at g1 cm
        change (mp j).toNatClampNeg = _ at g1
        exact ⟨by rw [g1]; exact cm, by rw [g1]; exact d1.2⟩
      · exact ⟨fun z => absurd z w, fun _ => ⟨fun z => absurd z (nI_pos (by omega)), fun _ => s_mCapacity mo0 cok hv31 ⟨fun z => absurd z (by rw [pk_sub (by omega)]; exact nI_nlt w2 (by omega)), fun _ => ⟨fun _ => s_mSeeks mo0 cok hg hd2 (by omega) (cm_r rfl rfl (fin hK ⟨ve, pa, pb, P, F, S, by omega, hc, hm⟩)), fun z => absurd (by decide) z⟩⟩⟩⟩
      · exact ⟨fun z => absurd z w, fun _ => ⟨fun z => absurd z (nI_pos (by omega)), fun _ => s_mCapacity mo0 cok hv31 ⟨fun _ => ⟨fun z => absurd z (by decide), fun _ => cm_t (by decide) rfl (fin hK ⟨ve, pa, pb, P, F, S, by omega, hc, hm⟩)⟩, fun z => absurd (by rw [pk_sub (by omega)]; exact nI_lt w2 (by omega)) z⟩⟩⟩
theorem lc_start {nh ah bh : Nat} {nv np nq : Int32} {nc gc : Int32} {nf ng : Nat → Int32} {B : Nat} {K23 : Int32 → Nat → Int32 → Int32 → (Nat → Int32) → Int32 → Int32 → Int32 → (Nat → Int32) → (Nat → Int32) → (Nat → Int32) → Int32 → (Nat → Int32) → (Nat → Int32) → (Nat → Int32) → (Nat → Int32) → Int32 → Int32 → Int32 → Int32 → (Nat → Int32) → (Nat → Int32) → Int32 → Int32 → Int32 → Int32 → (Nat → Int32) → (Nat → Int32) → Int32 → Int32 → Int32 → (Nat → Int32) → (Nat → Int32) → Int32 → Int32 → Int32 → Int32 → Int32 → Int32 → (Nat → Int32) → (Nat → Int32) → (Nat → Int32) → (Nat → Int32) → (Nat → Int32) → (Nat → Int32) → (Nat → Int32) → (Nat → Int32) → (Nat → Int32) → (Nat → Int32) → (Nat → Int32) → (Nat → Int32) → (Nat → Int64) → Prop} {x4 : Int32} {L : Nat} {zs : Nat → Int32} (hK : ∀ (di : Nat) (dn dz : Int32) (df : Nat → Int32) (ofv ol od : Int32) (sc sw sl : Nat → Int32) (mk : Int32) (mo mp ml mi : Nat → Int32) (av ac ap aq : Int32) (af ag : Nat → Int32) (bv bc bp bq : Int32) (bf bg : Nat → Int32) (gv gp gq : Int32) (gf gg : Nat → Int32) (kc kn kz ko kt kr : Int32) (fw fl fs ff fv fk fp fy fq fi fj fm : Nat → Int32) (fo : Nat → Int64), Inv nh ah bh nv np nq (B + 1) di dn dz df ofv ol od sc sw sl mk mo mp ml mi av ac ap aq af ag bv bc bp bq bf bg gv gp gq gf gg kc kn kz ko kt kr fw fl fs ff fv fk fp fy fq fi fj fm fo → K23 (x4 + 4) di dn dz df ofv ol od sc sw sl mk mo mp ml mi av ac ap aq af ag bv bc bp bq bf bg gv gp gq gf gg kc kn kz ko kt kr fw fl fs ff fv fk fp fy fq fi fj fm fo) (hB : B < 600) (hd : nh ≠ ah ∧ nh ≠ bh ∧ ah ≠ bh) (i1 : vp_in (x4 + 1) L) (i2 : vp_in (x4 + 2) L) (i3 : vp_in (x4 + 3) L) {di : Nat} {dn dz : Int32} {df : Nat → Int32} {ofv ol od : Int32} {sc sw sl : Nat → Int32} {mk : Int32} {mo mp ml mi : Nat → Int32} {av ac ap aq : Int32} {af ag : Nat → Int32} {bv bc bp bq : Int32} {bf bg : Nat → Int32} {gv gp gq : Int32} {gf gg : Nat → Int32} {kc kn kz ko kt kr : Int32} {fw fl fs ff fv fk fp fy fq fi fj fm : Nat → Int32} {fo : Nat → Int64} (h : Inv nh ah bh nv np nq B di dn dz df ofv ol od sc sw sl mk mo mp ml mi av ac ap aq af ag bv bc bp bq bf bg gv gp gq gf gg kc kn kz ko kt kr fw fl fs ff fv fk fp fy fq fi fj fm fo) : v_law_law_560 K23 x4 di dn dz df ofv ol od sc sw sl mk mo mp ml mi av ac ap aq af ag bv bc bp bq bf bg gv gp gq gf gg kc kn kz ko kt kr fw fl fs ff fv fk fp fy fq fi fj fm fo nv nc np nq nf ng nh ah bh := by
  obtain ⟨ve, pa, pb, P, F, S, hve, hc, hm⟩ := h
  obtain ⟨c0, cdz, cof, col, cdf, csc, csl, cok, c00, cmap, ccf⟩ := id hc
  obtain ⟨mkn, mkz, mko, mkt, mkr, mfs, mff, mfl, mfw, mrw, mk0, mkv⟩ := id hm
  have mo0 := rwR_0.mp mrw
  have hv31 : ve < 2 ^ 31 := by omega
  have hF := inF (nf := nf) (ng := ng) hd hc
  have hn0 : nv = nI 0 := c0.1
  rcases id ccf with ⟨h1, h2, h3, h4⟩ | ⟨h1, h2, h3, h4, h5⟩ | ⟨h1, h2, h3, h4, h5, h6⟩
  · have r := (hF.1 h2).2
    have k0 := mk0 h1
    refine ⟨fun _ => ⟨fun _ => ?_, fun z => absurd h4 z⟩, fun z => absurd h3 z⟩
    refine s_follow (mk := mk) r cok hv31 (fun z => (c00 z).1) (fun mk mo mp ml mi cmap => ?_)
    refine ⟨in14, fun _ => ⟨in24, fun _ => ⟨fun _ => ⟨in04, ?_⟩, fun z => absurd (by decide) z⟩, fun z => ?_⟩, fun z => ?_⟩
    · refine ⟨fun _ => fin hK ⟨ve, pa, pb, P, F, S, by omega, ⟨c0, cdz, Or.inl rfl, by decide, cdf, csc, csl, cok, c00, cmap, Or.inl ⟨h1, rfl, h3, h4⟩⟩, ⟨mkn, mkz, rfl, rfl, mkr, mfs, mff, mfl, mfw, mrw, mk0, mkv⟩⟩, fun z => z ?_⟩
      rw [sb_cl0, mo0.1, h1]; exact hn0
    · exact absurd (by rw [cl2]; exact k0.2) z
    · exact absurd (by rw [cl1]; exact k0.1) z
  · have r := (hF.2.1 h2).2
    have hv0 : ve ≠ 0 := by omega
    obtain ⟨k1, k2, k3⟩ := mkv hv0
    have hrc : rc ve = 1 := by unfold rc; rw [if_pos h1]
    rw [hrc] at k1 k2 k3
    have hA : v_DefectDrive_start_65_c 0 (-1) mk mo mp ml mi dn dz df av ac ap aq af ag ah (fun r_393 di_394 of_395 ol_396 mk_397 mo_398 mp_399 ml_400 mi_401 => v_Model_start kc kn kz ko kt kr fw fl fs ff fv fk fp fy fq fi fj fm (fun r_402 kc_403 ko_404 kt_405 fv_406 fp_407 fy_408 fq_409 fi_410 fj_411 => ((r_393 = r_402 → v_law_law_1030 K23 x4 di_394 dn dz df of_395 ol_396 od sc sw sl mk_397 mo_398 mp_399 ml_400 mi_401 av ac ap aq af ag bv bc bp bq bf bg gv gp gq gf gg kc_403 kn kz ko_404 kt_405 kr fw fl fs ff fv_406 fk fp_407 fy_408 fq_409 fi_410 fj_411 fm fo nh ah bh) ∧ (¬ r_393 = r_402 → False)))) := by
      refine s_follow (mk := mk) r cok hv31 (fun z => (c00 z).1) (fun mk mo mp ml mi cmap => ?_)
      have h48 : v_Model_start_48 0 0 (-1) fv fp fy fq fi fj kn kz kr fw fl fs ff fk fm (fun r_402 kc_403 ko_404 kt_405 fv_406 fp_407 fy_408 fq_409 fi_410 fj_411 => ((av = r_402 → v_law_law_1030 K23 x4 ah dn dz df 0 (-1) od sc sw sl mk mo mp ml mi av ac ap aq af ag bv bc bp bq bf bg gv gp gq gf gg kc_403 kn kz ko_404 kt_405 kr fw fl fs ff fv_406 fk fp_407 fy_408 fq_409 fi_410 fj_411 fm fo nh ah bh) ∧ (¬ av = r_402 → False))) := by
        refine ⟨fun z => absurd z (by decide), fun _ => s_mCopyR (a := 1) (b := 0) (by omega) (by omega) (by omega) k1 (by have := cok.1; omega) cok.2.1 (fun fv' fp' fy' fq' fi' fj' q1 q2 => ⟨in04, ?_⟩)⟩
        refine ⟨fun _ => fin hK ⟨ve, pa, pb, P, F, S, by omega, ⟨c0, cdz, Or.inl rfl, by decide, cdf, csc, csl, cok, c00, cmap, Or.inr (Or.inl ⟨h1, rfl, h3, h4, h5⟩)⟩, ⟨mkn, mkz, rfl, rfl, mkr, mfs, mff, mfl, mfw, q1, mk0, fun _ => ⟨by rw [hrc]; exact (q2 1 (by omega) (by omega)).2 _ _ _ _ _ _ (by have := cok.1; omega) cok.2.1 k1, by rw [hrc]; exact k2, fun d d1 d2 => ?_⟩⟩⟩, fun z => z ?_⟩
        · rw [hrc] at d2
          rw [(q2 d (by omega) (by omega)).1]
          exact k3 d d1 d2
        · rw [sb_cl0, q1.1]; exact h3.1
      refine ⟨in14, fun z => absurd z (by rw [cl1, k2]; decide), fun _ => ⟨in24, fun _ => h48, fun z => ⟨in14, in24, fun z2 => ?_, fun _ => h48⟩⟩⟩
      rw [cl2] at z
      rw [cl1, cl2] at z2
      rcases k3 2 (Or.inr rfl) (by omega) with e | ⟨w, e1, e2⟩
      · exact absurd e z
      · rw [e2, k1.1] at z2
        exact absurd z2 (nI_ge e1 (by omega))
    refine ⟨fun z => absurd z (by rw [h4]; decide), fun _ => ⟨fun _ => hA, fun z => ⟨fun _ => hA, fun z2 => absurd ?_ z2⟩⟩⟩
    rcases h5 with e | ⟨w, e1, e2⟩
    · exact absurd e z
    · rw [e2, h3.1]; exact nI_le (by omega) (by omega)
  · have r := (hF.2.2 h3).2.2
    obtain ⟨k1, k2, k3⟩ := mkv h2
    have hrc : rc ve = 2 := by unfold rc; rw [if_neg (by omega)]
    rw [hrc] at k1 k2 k3
    have hA : v_DefectDrive_start_65_b 0 (-1) mk mo mp ml mi dn dz df bv bc bp bq bf bg bh (fun r_393 di_394 of_395 ol_396 mk_397 mo_398 mp_399 ml_400 mi_401 => v_Model_start kc kn kz ko kt kr fw fl fs ff fv fk fp fy fq fi fj fm (fun r_402 kc_403 ko_404 kt_405 fv_406 fp_407 fy_408 fq_409 fi_410 fj_411 => ((r_393 = r_402 → v_law_law_1030 K23 x4 di_394 dn dz df of_395 ol_396 od sc sw sl mk_397 mo_398 mp_399 ml_400 mi_401 av ac ap aq af ag bv bc bp bq bf bg gv gp gq gf gg kc_403 kn kz ko_404 kt_405 kr fw fl fs ff fv_406 fk fp_407 fy_408 fq_409 fi_410 fj_411 fm fo nh ah bh) ∧ (¬ r_393 = r_402 → False)))) := by
      refine s_follow (mk := mk) r cok hv31 (fun z => (c00 z).1) (fun mk mo mp ml mi cmap => ?_)
      have h52 : v_Model_start_52 0 0 (-1) fv fp fy fq fi fj kn kz kr fw fl fs ff fk fm (fun r_402 kc_403 ko_404 kt_405 fv_406 fp_407 fy_408 fq_409 fi_410 fj_411 => ((bv = r_402 → v_law_law_1030 K23 x4 bh dn dz df 0 (-1) od sc sw sl mk mo mp ml mi av ac ap aq af ag bv bc bp bq bf bg gv gp gq gf gg kc_403 kn kz ko_404 kt_405 kr fw fl fs ff fv_406 fk fp_407 fy_408 fq_409 fi_410 fj_411 fm fo nh ah bh) ∧ (¬ bv = r_402 → False))) := by
        refine ⟨in24, fun z => absurd z (by rw [cl2, k2]; decide), fun _ => ⟨fun z => absurd z (by decide), fun _ => s_mCopyR (a := 2) (b := 0) (by omega) (by omega) (by omega) k1 (by have := cok.1; omega) cok.2.1 (fun fv' fp' fy' fq' fi' fj' q1 q2 => ⟨in04, ?_⟩)⟩⟩
        refine ⟨fun _ => fin hK ⟨ve, pa, pb, P, F, S, by omega, ⟨c0, cdz, Or.inl rfl, by decide, cdf, csc, csl, cok, c00, cmap, Or.inr (Or.inr ⟨h1, h2, rfl, h4, h5, h6⟩)⟩, ⟨mkn, mkz, rfl, rfl, mkr, mfs, mff, mfl, mfw, q1, mk0, fun _ => ⟨by rw [hrc]; exact (q2 2 (by omega) (by omega)).2 _ _ _ _ _ _ (by have := cok.1; omega) cok.2.1 k1, by rw [hrc]; exact k2, fun d d1 d2 => ?_⟩⟩⟩, fun z => z ?_⟩
        · rw [hrc] at d2
          rw [(q2 d (by omega) (by omega)).1]
          exact k3 d d1 d2
        · rw [sb_cl0, q1.1]; exact h4.1
      refine ⟨in14, fun _ => h52, fun z => ⟨in24, fun z2 => absurd z2 (by rw [cl2, k2]; decide), fun _ => ⟨in14, in24, fun _ => h52, fun z2 => absurd ?_ z2⟩⟩⟩
      rw [cl1] at z
      rw [cl1, cl2]
      rcases k3 1 (Or.inl rfl) (by omega) with e | ⟨w, e1, e2⟩
      · exact absurd e z
      · rw [e2, k1.1]; exact nI_le (by omega) (by omega)
    refine ⟨fun _ => ⟨fun z => absurd z (by rw [h5]; decide), fun _ => ⟨fun z => absurd z ?_, fun _ => hA⟩⟩, fun z => ⟨fun z2 => absurd z2 (by rw [h5]; decide), fun _ => ⟨fun z3 => absurd z3 ?_, fun _ => hA⟩⟩⟩
    · rw [hn0, h4.1]; exact nI_ge (by omega) (by omega)
    · rcases h6 with e | ⟨w, e1, e2⟩
      · exact absurd e z
      · rw [e2, h4.1]; exact nI_ge e1 (by omega)
