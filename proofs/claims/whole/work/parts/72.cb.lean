theorem lc_physical {nh ah bh : Nat} {nv np nq : Int32} {nc gc : Int32} {nf ng : Nat → Int32} {B : Nat} {K23 : Int32 → Nat → Int32 → Int32 → (Nat → Int32) → Int32 → Int32 → Int32 → (Nat → Int32) → (Nat → Int32) → (Nat → Int32) → Int32 → (Nat → Int32) → (Nat → Int32) → (Nat → Int32) → (Nat → Int32) → Int32 → Int32 → Int32 → Int32 → (Nat → Int32) → (Nat → Int32) → Int32 → Int32 → Int32 → Int32 → (Nat → Int32) → (Nat → Int32) → Int32 → Int32 → Int32 → (Nat → Int32) → (Nat → Int32) → Int32 → Int32 → Int32 → Int32 → Int32 → Int32 → (Nat → Int32) → (Nat → Int32) → (Nat → Int32) → (Nat → Int32) → (Nat → Int32) → (Nat → Int32) → (Nat → Int32) → (Nat → Int32) → (Nat → Int32) → (Nat → Int32) → (Nat → Int32) → (Nat → Int32) → (Nat → Int64) → Prop} {x4 : Int32} {L : Nat} {zs : Nat → Int32} (hK : ∀ (di : Nat) (dn dz : Int32) (df : Nat → Int32) (ofv ol od : Int32) (sc sw sl : Nat → Int32) (mk : Int32) (mo mp ml mi : Nat → Int32) (av ac ap aq : Int32) (af ag : Nat → Int32) (bv bc bp bq : Int32) (bf bg : Nat → Int32) (gv gp gq : Int32) (gf gg : Nat → Int32) (kc kn kz ko kt kr : Int32) (fw fl fs ff fv fk fp fy fq fi fj fm : Nat → Int32) (fo : Nat → Int64), Inv nh ah bh nv np nq (B + 1) di dn dz df ofv ol od sc sw sl mk mo mp ml mi av ac ap aq af ag bv bc bp bq bf bg gv gp gq gf gg kc kn kz ko kt kr fw fl fs ff fv fk fp fy fq fi fj fm fo → K23 (x4 + 4) di dn dz df ofv ol od sc sw sl mk mo mp ml mi av ac ap aq af ag bv bc bp bq bf bg gv gp gq gf gg kc kn kz ko kt kr fw fl fs ff fv fk fp fy fq fi fj fm fo) (hB : B < 600) (hd : nh ≠ ah ∧ nh ≠ bh ∧ ah ≠ bh) (i1 : vp_in (x4 + 1) L) (i2 : vp_in (x4 + 2) L) (i3 : vp_in (x4 + 3) L) {di : Nat} {dn dz : Int32} {df : Nat → Int32} {ofv ol od : Int32} {sc sw sl : Nat → Int32} {mk : Int32} {mo mp ml mi : Nat → Int32} {av ac ap aq : Int32} {af ag : Nat → Int32} {bv bc bp bq : Int32} {bf bg : Nat → Int32} {gv gp gq : Int32} {gf gg : Nat → Int32} {kc kn kz ko kt kr : Int32} {fw fl fs ff fv fk fp fy fq fi fj fm : Nat → Int32} {fo : Nat → Int64} (h : Inv nh ah bh nv np nq B di dn dz df ofv ol od sc sw sl mk mo mp ml mi av ac ap aq af ag bv bc bp bq bf bg gv gp gq gf gg kc kn kz ko kt kr fw fl fs ff fv fk fp fy fq fi fj fm fo) : v_law_law_573 K23 x4 di dn dz df ofv ol od sc sw sl mk mo mp ml mi av ac ap aq af ag bv bc bp bq bf bg gv gp gq gf gg kc kn kz ko kt kr fw fl fs ff fv fk fp fy fq fi fj fm fo nh ah bh L zs := by
  obtain ⟨ve, pa, pb, P, F, S, hve, hc, hm⟩ := h
  obtain ⟨c0, cdz, cof, col, cdf, csc, csl, cok, c00, cmap, ccf⟩ := id hc
  obtain ⟨mkn, mkz, mko, mkt, mkr, mfs, mff, mfl, mfw, mrw, mk0, mkv⟩ := id hm
  have mo0 := rwR_0.mp mrw
  have hv31 : ve < 2 ^ 31 := by omega
  refine ⟨i1, ?_⟩
  generalize zs (x4 + 1).toNatClampNeg = p0
  have cmk : mk = nI (cp ve P pa) := cmap.1
  subst cmk
  have hcp := cp_le ve P pa
  unfold v_law_physical v_DefectDrive_physical
  refine s_holds (by omega) (fun w => ⟨fun z => absurd rfl z, fun _ => ⟨rfl, i1, ?_⟩⟩) (fun j hj e => ⟨fun _ => ?_, fun z => absurd z (by decide)⟩)
  · exact s_mHas0 mo0 cok hv31 w ⟨fun _ => ⟨fun z => absurd z (by decide), fun _ => cm_t (by decide) rfl (fin hK ⟨ve, pa, pb, P, F, S, by omega, hc, hm⟩)⟩, fun z => absurd rfl z⟩
  · subst e
    obtain ⟨s, s1, s2, s3, s4, s5⟩ := has_s hj
    have cm := (cmap.2.1 s s1 s4 s2).2
    rw [s3] at cm
    refine ⟨vp_in_nI (by omega) (by omega), in01, i1, s_mHas1 mo0 cok hv31 hj ⟨fun z => absurd z (by decide), fun _ => ⟨fun _ => ?_, fun z => absurd (by decide) z⟩⟩⟩
    rw [nI_clamp (by omega), cm]
    subst s3
    exact s_mPlaceOf mo0 cok s1 s2 (cm_r rfl rfl (fin hK ⟨ve, pa, pb, P, F, S, by omega, hc, hm⟩))
theorem lc_logical {nh ah bh : Nat} {nv np nq : Int32} {nc gc : Int32} {nf ng : Nat → Int32} {B : Nat} {K23 : Int32 → Nat → Int32 → Int32 → (Nat → Int32) → Int32 → Int32 → Int32 → (Nat → Int32) → (Nat → Int32) → (Nat → Int32) → Int32 → (Nat → Int32) → (Nat → Int32) → (Nat → Int32) → (Nat → Int32) → Int32 → Int32 → Int32 → Int32 → (Nat → Int32) → (Nat → Int32) → Int32 → Int32 → Int32 → Int32 → (Nat → Int32) → (Nat → Int32) → Int32 → Int32 → Int32 → (Nat → Int32) → (Nat → Int32) → Int32 → Int32 → Int32 → Int32 → Int32 → Int32 → (Nat → Int32) → (Nat → Int32) → (Nat → Int32) → (Nat → Int32) → (Nat → Int32) → (Nat → Int32) → (Nat → Int32) → (Nat → Int32) → (Nat → Int32) → (Nat → Int32) → (Nat → Int32) → (Nat → Int32) → (Nat → Int64) → Prop} {x4 : Int32} {L : Nat} {zs : Nat → Int32} (hK : ∀ (di : Nat) (dn dz : Int32) (df : Nat → Int32) (ofv ol od : Int32) (sc sw sl : Nat → Int32) (mk : Int32) (mo mp ml mi : Nat → Int32) (av ac ap aq : Int32) (af ag : Nat → Int32) (bv bc bp bq : Int32) (bf bg : Nat → Int32) (gv gp gq : Int32) (gf gg : Nat → Int32) (kc kn kz ko kt kr : Int32) (fw fl fs ff fv fk fp fy fq fi fj fm : Nat → Int32) (fo : Nat → Int64), Inv nh ah bh nv np nq (B + 1) di dn dz df ofv ol od sc sw sl mk mo mp ml mi av ac ap aq af ag bv bc bp bq bf bg gv gp gq gf gg kc kn kz ko kt kr fw fl fs ff fv fk fp fy fq fi fj fm fo → K23 (x4 + 4) di dn dz df ofv ol od sc sw sl mk mo mp ml mi av ac ap aq af ag bv bc bp bq bf bg gv gp gq gf gg kc kn kz ko kt kr fw fl fs ff fv fk fp fy fq fi fj fm fo) (hB : B < 600) (hd : nh ≠ ah ∧ nh ≠ bh ∧ ah ≠ bh) (i1 : vp_in (x4 + 1) L) (i2 : vp_in (x4 + 2) L) (i3 : vp_in (x4 + 3) L) {di : Nat} {dn dz : Int32} {df : Nat → Int32} {ofv ol od : Int32} {sc sw sl : Nat → Int32} {mk : Int32} {mo mp ml mi : Nat → Int32} {av ac ap aq : Int32} {af ag : Nat → Int32} {bv bc bp bq : Int32} {bf bg : Nat → Int32} {gv gp gq : Int32} {gf gg : Nat → Int32} {kc kn kz ko kt kr : Int32} {fw fl fs ff fv fk fp fy fq fi fj fm : Nat → Int32} {fo : Nat → Int64} (h : Inv nh ah bh nv np nq B di dn dz df ofv ol od sc sw sl mk mo mp ml mi av ac ap aq af ag bv bc bp bq bf bg gv gp gq gf gg kc kn kz ko kt kr fw fl fs ff fv fk fp fy fq fi fj fm fo) : v_law_law_629 K23 x4 di dn dz df ofv ol od sc sw sl mk mo mp ml mi av ac ap aq af ag bv bc bp bq bf bg gv gp gq gf gg kc kn kz ko kt kr fw fl fs ff fv fk fp fy fq fi fj fm fo nh ah bh L zs := by
  obtain ⟨ve, pa, pb, P, F, S, hve, hc, hm⟩ := h
  obtain ⟨c0, cdz, cof, col, cdf, csc, csl, cok, c00, cmap, ccf⟩ := id hc
  obtain ⟨mkn, mkz, mko, mkt, mkr, mfs, mff, mfl, mfw, mrw, mk0, mkv⟩ := id hm
  have mo0 := rwR_0.mp mrw
  have hv31 : ve < 2 ^ 31 := by omega
  refine ⟨i1, ?_⟩
  generalize zs (x4 + 1).toNatClampNeg = p0
  unfold v_law_logical v_DefectDrive_logical
  refine s_isSector (fun q => ⟨fun z => absurd rfl z, fun _ => ⟨rfl, i1, ?_⟩⟩) (fun q1 q2 => ⟨fun _ => ?_, fun z => absurd z (by decide)⟩)
  · exact s_mIsSector (fun _ => ⟨fun _ => ⟨fun z => absurd z (by decide), fun _ => cm_t (by decide) rfl (fin hK ⟨ve, pa, pb, P, F, S, by omega, hc, hm⟩)⟩, fun z => absurd rfl z⟩) (fun a b => (q.elim a b).elim)
  · obtain ⟨k, hk, rfl⟩ := sec_ix q1 q2
    have ck : (nI k).toNatClampNeg = k := nI_clamp (by omega)
    refine ⟨vp_in_nI hk (by omega), in01, i1, ?_⟩
    rw [ck]
    refine s_mLogical mo0 cok hv31 hk (fun s s1 s2 s3 s4 => ?_) (fun w => ?_)
    · subst s4
      exact cm_r (cmap.2.2.2.1 s s1 s2 s3).symm rfl (fin hK ⟨ve, pa, pb, P, F, S, by omega, hc, hm⟩)
    · exact cm_r (cmap.2.2.2.2 k hk w).symm rfl (fin hK ⟨ve, pa, pb, P, F, S, by omega, hc, hm⟩)
theorem lc_primary {nh ah bh : Nat} {nv np nq : Int32} {nc gc : Int32} {nf ng : Nat → Int32} {B : Nat} {K23 : Int32 → Nat → Int32 → Int32 → (Nat → Int32) → Int32 → Int32 → Int32 → (Nat → Int32) → (Nat → Int32) → (Nat → Int32) → Int32 → (Nat → Int32) → (Nat → Int32) → (Nat → Int32) → (Nat → Int32) → Int32 → Int32 → Int32 → Int32 → (Nat → Int32) → (Nat → Int32) → Int32 → Int32 → Int32 → Int32 → (Nat → Int32) → (Nat → Int32) → Int32 → Int32 → Int32 → (Nat → Int32) → (Nat → Int32) → Int32 → Int32 → Int32 → Int32 → Int32 → Int32 → (Nat → Int32) → (Nat → Int32) → (Nat → Int32) → (Nat → Int32) → (Nat → Int32) → (Nat → Int32) → (Nat → Int32) → (Nat → Int32) → (Nat → Int32) → (Nat → Int32) → (Nat → Int32) → (Nat → Int32) → (Nat → Int64) → Prop} {x4 : Int32} {L : Nat} {zs : Nat → Int32} (hK : ∀ (di : Nat) (dn dz : Int32) (df : Nat → Int32) (ofv ol od : Int32) (sc sw sl : Nat → Int32) (mk : Int32) (mo mp ml mi : Nat → Int32) (av ac ap aq : Int32) (af ag : Nat → Int32) (bv bc bp bq : Int32) (bf bg : Nat → Int32) (gv gp gq : Int32) (gf gg : Nat → Int32) (kc kn kz ko kt kr : Int32) (fw fl fs ff fv fk fp fy fq fi fj fm : Nat → Int32) (fo : Nat → Int64), Inv nh ah bh nv np nq (B + 1) di dn dz df ofv ol od sc sw sl mk mo mp ml mi av ac ap aq af ag bv bc bp bq bf bg gv gp gq gf gg kc kn kz ko kt kr fw fl fs ff fv fk fp fy fq fi fj fm fo → K23 (x4 + 4) di dn dz df ofv ol od sc sw sl mk mo mp ml mi av ac ap aq af ag bv bc bp bq bf bg gv gp gq gf gg kc kn kz ko kt kr fw fl fs ff fv fk fp fy fq fi fj fm fo) (hB : B < 600) (hd : nh ≠ ah ∧ nh ≠ bh ∧ ah ≠ bh) (i1 : vp_in (x4 + 1) L) (i2 : vp_in (x4 + 2) L) (i3 : vp_in (x4 + 3) L) {di : Nat} {dn dz : Int32} {df : Nat → Int32} {ofv ol od : Int32} {sc sw sl : Nat → Int32} {mk : Int32} {mo mp ml mi : Nat → Int32} {av ac ap aq : Int32} {af ag : Nat → Int32} {bv bc bp bq : Int32} {bf bg : Nat → Int32} {gv gp gq : Int32} {gf gg : Nat → Int32} {kc kn kz ko kt kr : Int32} {fw fl fs ff fv fk fp fy fq fi fj fm : Nat → Int32} {fo : Nat → Int64} (h : Inv nh ah bh nv np nq B di dn dz df ofv ol od sc sw sl mk mo mp ml mi av ac ap aq af ag bv bc bp bq bf bg gv gp gq gf gg kc kn kz ko kt kr fw fl fs ff fv fk fp fy fq fi fj fm fo) : v_law_law_825 K23 x4 di dn dz df ofv ol od sc sw sl mk mo mp ml mi av ac ap aq af ag bv bc bp bq bf bg gv gp gq gf gg kc kn kz ko kt kr fw fl fs ff fv fk fp fy fq fi fj fm fo nv nc np nq nf ng nh ah bh L zs := by
  obtain ⟨ve, pa, pb, P, F, S, hve, hc, hm⟩ := h
  obtain ⟨c0, cdz, cof, col, cdf, csc, csl, cok, c00, cmap, ccf⟩ := id hc
  obtain ⟨mkn, mkz, mko, mkt, mkr, mfs, mff, mfl, mfw, mrw, mk0, mkv⟩ := id hm
  have mo0 := rwR_0.mp mrw
  have hv31 : ve < 2 ^ 31 := by omega
  refine ⟨i1, ?_⟩
  generalize zs (x4 + 1).toNatClampNeg = p0
  have hF := inF (nf := nf) (ng := ng) hd hc
  refine ⟨fun e => ?_, fun e => ?_, fun e => ?_⟩
  · have r := (hF.1 e).2
    subst e
    refine s_lPrimary r cok (fun w => ⟨i1, s_mPrimary0 mo0 cok w (cm_t (by decide) rfl (fin hK ⟨ve, pa, pb, P, F, S, by omega, hc, hm⟩))⟩) (fun k hk e => ?_)
    subst e
    exact ⟨i1, s_mPrimary1 mo0 cok hk (cm_r rfl rfl (fin hK ⟨ve, pa, pb, P, F, S, by omega, hc, hm⟩))⟩
  · have r := (hF.2.1 e).2
    subst e
    refine s_lPrimary r cok (fun w => ⟨i1, s_mPrimary0 mo0 cok w (cm_t (by decide) rfl (fin hK ⟨ve, pa, pb, P, F, S, by omega, hc, hm⟩))⟩) (fun k hk e => ?_)
    subst e
    exact ⟨i1, s_mPrimary1 mo0 cok hk (cm_r rfl rfl (fin hK ⟨ve, pa, pb, P, F, S, by omega, hc, hm⟩))⟩
  · have r := (hF.2.2 e).2.2
    subst e
    refine s_lPrimary r cok (fun w => ⟨i1, s_mPrimary0 mo0 cok w (cm_t (by decide) rfl (fin hK ⟨ve, pa, pb, P, F, S, by omega, hc, hm⟩))⟩) (fun k hk e => ?_)
    subst e
    exact ⟨i1, s_mPrimary1 mo0 cok hk (cm_r rfl rfl (fin hK ⟨ve, pa, pb, P, F, S, by omega, hc, hm⟩))⟩
theorem lc_grown {nh ah bh : Nat} {nv np nq : Int32} {nc gc : Int32} {nf ng : Nat → Int32} {B : Nat} {K23 : Int32 → Nat → Int32 → Int32 → (Nat → Int32) → Int32 → Int32 → Int32 → (Nat → Int32) → (Nat → Int32) → (Nat → Int32) → Int32 → (Nat → Int32) → (Nat → Int32) → (Nat → Int32) → (Nat → Int32) → Int32 → Int32 → Int32 → Int32 → (Nat → Int32) → (Nat → Int32) → Int32 → Int32 → Int32 → Int32 → (Nat → Int32) → (Nat → Int32) → Int32 → Int32 → Int32 → (Nat → Int32) → (Nat → Int32) → Int32 → Int32 → Int32 → Int32 → Int32 → Int32 → (Nat → Int32) → (Nat → Int32) → (Nat → Int32) → (Nat → Int32) → (Nat → Int32) → (Nat → Int32) → (Nat → Int32) → (Nat → Int32) → (Nat → Int32) → (Nat → Int32) → (Nat → Int32) → (Nat → Int32) → (Nat → Int64) → Prop} {x4 : Int32} {L : Nat} {zs : Nat → Int32} (hK : ∀ (di : Nat) (dn dz : Int32) (df : Nat → Int32) (ofv ol od : Int32) (sc sw sl : Nat → Int32) (mk : Int32) (mo mp ml mi : Nat → Int32) (av ac ap aq : Int32) (af ag : Nat → Int32) (bv bc bp bq : Int32) (bf bg : Nat → Int32) (gv gp gq : Int32) (gf gg : Nat → Int32) (kc kn kz ko kt kr : Int32) (fw fl fs ff fv fk fp fy fq fi fj fm : Nat → Int32) (fo : Nat → Int64), Inv nh ah bh nv np nq (B + 1) di dn dz df ofv ol od sc sw sl mk mo mp ml mi av ac ap aq af ag bv bc bp bq bf bg gv gp gq gf gg kc kn kz ko kt kr fw fl fs ff fv fk fp fy fq fi fj fm fo → K23 (x4 + 4) di dn dz df ofv ol od sc sw sl mk mo mp ml mi av ac ap aq af ag bv bc bp bq bf bg gv gp gq gf gg kc kn kz ko kt kr fw fl fs ff fv fk fp fy fq fi fj fm fo) (hB : B < 600) (hd : nh ≠ ah ∧ nh ≠ bh ∧ ah ≠ bh) (i1 : vp_in (x4 + 1) L) (i2 : vp_in (x4 + 2) L) (i3 : vp_in (x4 + 3) L) {di : Nat} {dn dz : Int32} {df : Nat → Int32} {ofv ol od : Int32} {sc sw sl : Nat → Int32} {mk : Int32} {mo mp ml mi : Nat → Int32} {av ac ap aq : Int32} {af ag : Nat → Int32} {bv bc bp bq : Int32} {bf bg : Nat → Int32} {gv gp gq : Int32} {gf gg : Nat → Int32} {kc kn kz ko kt kr : Int32} {fw fl fs ff fv fk fp fy fq fi fj fm : Nat → Int32} {fo : Nat → Int64} (h : Inv nh ah bh nv np nq B di dn dz df ofv ol od sc sw sl mk mo mp ml mi av ac ap aq af ag bv bc bp bq bf bg gv gp gq gf gg kc kn kz ko kt kr fw fl fs ff fv fk fp fy fq fi fj fm fo) : v_law_law_741 K23 x4 di dn dz df ofv ol od sc sw sl mk mo mp ml mi av ac ap aq af ag bv bc bp bq bf bg gv gp gq gf gg kc kn kz ko kt kr fw fl fs ff fv fk fp fy fq fi fj fm fo nv nc np nq nf ng nh ah bh L zs := by
  obtain ⟨ve, pa, pb, P, F, S, hve, hc, hm⟩ := h
  obtain ⟨c0, cdz, cof, col, cdf, csc, csl, cok, c00, cmap, ccf⟩ := id hc
  obtain ⟨mkn, mkz, mko, mkt, mkr, mfs, mff, mfl, mfw, mrw, mk0, mkv⟩ := id hm
  have mo0 := rwR_0.mp mrw
  have hv31 : ve < 2 ^ 31 := by omega
  have hF := inF (nf := nf) (ng := ng) hd hc
  refine ⟨i1, i2, fun z0 => ⟨fun e => ?_, fun e => ?_, fun e => ?_⟩, fun z0 => ⟨fun e => ?_, fun e => ?_, fun e => ?_⟩⟩
  · have r := (hF.1 e).2
    subst e
    refine s_lGrown r cok (fun w => ⟨i1, i2, fun _ => ?_, fun z => absurd z0 z⟩) (fun k hk e => ⟨fun _ => ⟨i1, i2, fun _ => ?_, fun z => absurd z0 z⟩, fun z => absurd rfl z⟩)
    · exact s_mGrown0 mo0 cok w (cm_t (by decide) rfl (fin hK ⟨ve, pa, pb, P, F, S, by omega, hc, hm⟩))
    · rw [e]
      exact s_mGrown1 mo0 cok hk (fun _ => cm_r rfl rfl (fin hK ⟨ve, pa, pb, P, F, S, by omega, hc, hm⟩)) (fun z => absurd rfl z)
  · have r := (hF.2.1 e).2
    subst e
    refine s_lGrown r cok (fun w => ⟨i1, i2, fun _ => ?_, fun z => absurd z0 z⟩) (fun k hk e => ⟨fun _ => ⟨i1, i2, fun _ => ?_, fun z => absurd z0 z⟩, fun z => absurd rfl z⟩)
    · exact s_mGrown0 mo0 cok w (cm_t (by decide) rfl (fin hK ⟨ve, pa, pb, P, F, S, by omega, hc, hm⟩))
    · rw [e]
      exact s_mGrown1 mo0 cok hk (fun _ => cm_r rfl rfl (fin hK ⟨ve, pa, pb, P, F, S, by omega, hc, hm⟩)) (fun z => absurd rfl z)
  · have r := (hF.2.2 e).2.2
    subst e
    refine s_lGrown r cok (fun w => ⟨i1, i2, fun _ => ?_, fun z => absurd z0 z⟩) (fun k hk e => ⟨fun _ => ⟨i1, i2, fun _ => ?_, fun z => absurd z0 z⟩, fun z => absurd rfl z⟩)
    · exact s_mGrown0 mo0 cok w (cm_t (by decide) rfl (fin hK ⟨ve, pa, pb, P, F, S, by omega, hc, hm⟩))
    · rw [e]
      exact s_mGrown1 mo0 cok hk (fun _ => cm_r rfl rfl (fin hK ⟨ve, pa, pb, P, F, S, by omega, hc, hm⟩)) (fun z => absurd rfl z)
  · have r := (hF.1 e).2
    subst e
    refine s_lGrown r cok (fun w => ⟨i1, i2, fun z => absurd z z0, fun _ => ?_⟩) (fun k hk e => ⟨fun z => absurd z (by decide), fun _ => ⟨i1, i2, fun z => absurd z z0, fun _ => ?_⟩⟩)
    · exact s_mGrown0 mo0 cok w (cm_t (by decide) rfl (fin hK ⟨ve, pa, pb, P, F, S, by omega, hc, hm⟩))
    · rw [e]
      exact s_mGrown1 mo0 cok hk (fun z => absurd z (by decide)) (fun _ => cm_r rfl rfl (fin hK ⟨ve, pa, pb, P, F, S, by omega, hc, hm⟩))
  · have r := (hF.2.1 e).2
    subst e
    refine s_lGrown r cok (fun w => ⟨i1, i2, fun z => absurd z z0, fun _ => ?_⟩) (fun k hk e => ⟨fun z => absurd z (by decide), fun _ => ⟨i1, i2, fun z => absurd z z0, fun _ => ?_⟩⟩)
    · exact s_mGrown0 mo0 cok w (cm_t (by decide) rfl (fin hK ⟨ve, pa, pb, P, F, S, by omega, hc, hm⟩))
    · rw [e]
      exact s_mGrown1 mo0 cok hk (fun z => absurd z (by decide)) (fun _ => cm_r rfl rfl (fin hK ⟨ve, pa, pb, P, F, S, by omega, hc, hm⟩))
  · have r := (hF.2.2 e).2.2
    subst e
    refine s_lGrown r cok (fun w => ⟨i1, i2, fun z => absurd z z0, fun _ => ?_⟩) (fun k hk e => ⟨fun z => absurd z (by decide), fun _ => ⟨i1, i2, fun z => absurd z z0, fun _ => ?_⟩⟩)
    · exact s_mGrown0 mo0 cok w (cm_t (by decide) rfl (fin hK ⟨ve, pa, pb, P, F, S, by omega, hc, hm⟩))
    · rw [e]
      exact s_mGrown1 mo0 cok hk (fun z => absurd z (by decide)) (fun _ => cm_r rfl rfl (fin hK ⟨ve, pa, pb, P, F, S, by omega, hc, hm⟩))
theorem lc_told {nh ah bh : Nat} {nv np nq : Int32} {nc gc : Int32} {nf ng : Nat → Int32} {B : Nat} {K23 : Int32 → Nat → Int32 → Int32 → (Nat → Int32) → Int32 → Int32 → Int32 → (Nat → Int32) → (Nat → Int32) → (Nat → Int32) → Int32 → (Nat → Int32) → (Nat → Int32) → (Nat → Int32) → (Nat → Int32) → Int32 → Int32 → Int32 → Int32 → (Nat → Int32) → (Nat → Int32) → Int32 → Int32 → Int32 → Int32 → (Nat → Int32) → (Nat → Int32) → Int32 → Int32 → Int32 → (Nat → Int32) → (Nat → Int32) → Int32 → Int32 → Int32 → Int32 → Int32 → Int32 → (Nat → Int32) → (Nat → Int32) → (Nat → Int32) → (Nat → Int32) → (Nat → Int32) → (Nat → Int32) → (Nat → Int32) → (Nat → Int32) → (Nat → Int32) → (Nat → Int32) → (Nat → Int32) → (Nat → Int32) → (Nat → Int64) → Prop} {x4 : Int32} {L : Nat} {zs : Nat → Int32} (hK : ∀ (di : Nat) (dn dz : Int32) (df : Nat → Int32) (ofv ol od : Int32) (sc sw sl : Nat → Int32) (mk : Int32) (mo mp ml mi : Nat → Int32) (av ac ap aq : Int32) (af ag : Nat → Int32) (bv bc bp bq : Int32) (bf bg : Nat → Int32) (gv gp gq : Int32) (gf gg : Nat → Int32) (kc kn kz ko kt kr : Int32) (fw fl fs ff fv fk fp fy fq fi fj fm : Nat → Int32) (fo : Nat → Int64), Inv nh ah bh nv np nq (B + 1) di dn dz df ofv ol od sc sw sl mk mo mp ml mi av ac ap aq af ag bv bc bp bq bf bg gv gp gq gf gg kc kn kz ko kt kr fw fl fs ff fv fk fp fy fq fi fj fm fo → K23 (x4 + 4) di dn dz df ofv ol od sc sw sl mk mo mp ml mi av ac ap aq af ag bv bc bp bq bf bg gv gp gq gf gg kc kn kz ko kt kr fw fl fs ff fv fk fp fy fq fi fj fm fo) (hB : B < 600) (hd : nh ≠ ah ∧ nh ≠ bh ∧ ah ≠ bh) (i1 : vp_in (x4 + 1) L) (i2 : vp_in (x4 + 2) L) (i3 : vp_in (x4 + 3) L) {di : Nat} {dn dz : Int32} {df : Nat → Int32} {ofv ol od : Int32} {sc sw sl : Nat → Int32} {mk : Int32} {mo mp ml mi : Nat → Int32} {av ac ap aq : Int32} {af ag : Nat → Int32} {bv bc bp bq : Int32} {bf bg : Nat → Int32} {gv gp gq : Int32} {gf gg : Nat → Int32} {kc kn kz ko kt kr : Int32} {fw fl fs ff fv fk fp fy fq fi fj fm : Nat → Int32} {fo : Nat → Int64} (h : Inv nh ah bh nv np nq B di dn dz df ofv ol od sc sw sl mk mo mp ml mi av ac ap aq af ag bv bc bp bq bf bg gv gp gq gf gg kc kn kz ko kt kr fw fl fs ff fv fk fp fy fq fi fj fm fo) : v_law_law_1005 K23 x4 di dn dz df ofv ol od sc sw sl mk mo mp ml mi av ac ap aq af ag bv bc bp bq bf bg gv gp gq gf gg kc kn kz ko kt kr fw fl fs ff fv fk fp fy fq fi fj fm fo nv nc np nq nf ng nh ah bh L zs := by
  obtain ⟨ve, pa, pb, P, F, S, hve, hc, hm⟩ := h
  obtain ⟨c0, cdz, cof, col, cdf, csc, csl, cok, c00, cmap, ccf⟩ := id hc
  obtain ⟨mkn, mkz, mko, mkt, mkr, mfs, mff, mfl, mfw, mrw, mk0, mkv⟩ := id hm
  have mo0 := rwR_0.mp mrw
  have hv31 : ve < 2 ^ 31 := by omega
  refine ⟨i1, ?_⟩
  generalize zs (x4 + 1).toNatClampNeg = p0
  have hF := inF (nf := nf) (ng := ng) hd hc
  refine ⟨fun e => ?_, fun e => ?_, fun e => ?_⟩
  · have r := (hF.1 e).2
    subst e
    exact t_told r mo0 cok hv31 cmap.1 mkr mko mkn mkt i1 (J := fun kc => v_law_law_1030 K23 x4 di dn dz df ofv ol od sc sw sl mk mo mp ml mi av ac ap aq af ag bv bc bp bq bf bg gv gp gq gf gg kc kn kz ko kt kr fw fl fs ff fv fk fp fy fq fi fj fm fo di ah bh) (fin hK ⟨ve, pa, pb, P, F, S, by omega, hc, hm⟩)
  · have r := (hF.2.1 e).2
    subst e
    exact t_told r mo0 cok hv31 cmap.1 mkr mko mkn mkt i1 (J := fun kc => v_law_law_1030 K23 x4 di dn dz df ofv ol od sc sw sl mk mo mp ml mi av ac ap aq af ag bv bc bp bq bf bg gv gp gq gf gg kc kn kz ko kt kr fw fl fs ff fv fk fp fy fq fi fj fm fo nh di bh) (fin hK ⟨ve, pa, pb, P, F, S, by omega, hc, hm⟩)
  · have r := (hF.2.2 e).2.2
    subst e
    exact t_told r mo0 cok hv31 cmap.1 mkr mko mkn mkt i1 (J := fun kc => v_law_law_1030 K23 x4 di dn dz df ofv ol od sc sw sl mk mo mp ml mi av ac ap aq af ag bv bc bp bq bf bg gv gp gq gf gg kc kn kz ko kt kr fw fl fs ff fv fk fp fy fq fi fj fm fo nh ah di) (fin hK ⟨ve, pa, pb, P, F, S, by omega, hc, hm⟩)
theorem lc_spoil {nh ah bh : Nat} {nv np nq : Int32} {nc gc : Int32} {nf ng : Nat → Int32} {B : Nat} {K23 : Int32 → Nat → Int32 → Int32 → (Nat → Int32) → Int32 → Int32 → Int32 → (Nat → Int32) → (Nat → Int32) → (Nat → Int32) → Int32 → (Nat → Int32) → (Nat → Int32) → (Nat → Int32) → (Nat → Int32) → Int32 → Int32 → Int32 → Int32 → (Nat → Int32) → (Nat → Int32) → Int32 → Int32 → Int32 → Int32 → (Nat → Int32) → (Nat → Int32) → Int32 → Int32 → Int32 → (Nat → Int32) → (Nat → Int32) → Int32 → Int32 → Int32 → Int32 → Int32 → Int32 → (Nat → Int32) → (Nat → Int32) → (Nat → Int32) → (Nat → Int32) → (Nat → Int32) → (Nat → Int32) → (Nat → Int32) → (Nat → Int32) → (Nat → Int32) → (Nat → Int32) → (Nat → Int32) → (Nat → Int32) → (Nat → Int64) → Prop} {x4 : Int32} {L : Nat} {zs : Nat → Int32} (hK : ∀ (di : Nat) (dn dz : Int32) (df : Nat → Int32) (ofv ol od : Int32) (sc sw sl : Nat → Int32) (mk : Int32) (mo mp ml mi : Nat → Int32) (av ac ap aq : Int32) (af ag : Nat → Int32) (bv bc bp bq : Int32) (bf bg : Nat → Int32) (gv gp gq : Int32) (gf gg : Nat → Int32) (kc kn kz ko kt kr : Int32) (fw fl fs ff fv fk fp fy fq fi fj fm : Nat → Int32) (fo : Nat → Int64), Inv nh ah bh nv np nq (B + 1) di dn dz df ofv ol od sc sw sl mk mo mp ml mi av ac ap aq af ag bv bc bp bq bf bg gv gp gq gf gg kc kn kz ko kt kr fw fl fs ff fv fk fp fy fq fi fj fm fo → K23 (x4 + 4) di dn dz df ofv ol od sc sw sl mk mo mp ml mi av ac ap aq af ag bv bc bp bq bf bg gv gp gq gf gg kc kn kz ko kt kr fw fl fs ff fv fk fp fy fq fi fj fm fo) (hB : B < 600) (hd : nh ≠ ah ∧ nh ≠ bh ∧ ah ≠ bh) (i1 : vp_in (x4 + 1) L) (i2 : vp_in (x4 + 2) L) (i3 : vp_in (x4 + 3) L) {di : Nat} {dn dz : Int32} {df : Nat → Int32} {ofv ol od : Int32} {sc sw sl : Nat → Int32} {mk : Int32} {mo mp ml mi : Nat → Int32} {av ac ap aq : Int32} {af ag : Nat → Int32} {bv bc bp bq : Int32} {bf bg : Nat → Int32} {gv gp gq : Int32} {gf gg : Nat → Int32} {kc kn kz ko kt kr : Int32} {fw fl fs ff fv fk fp fy fq fi fj fm : Nat → Int32} {fo : Nat → Int64} (h : Inv nh ah bh nv np nq B di dn dz df ofv ol od sc sw sl mk mo mp ml mi av ac ap aq af ag bv bc bp bq bf bg gv gp gq gf gg kc kn kz ko kt kr fw fl fs ff fv fk fp fy fq fi fj fm fo) : v_law_law_420 K23 x4 di dn dz df ofv ol od sc sw sl mk mo mp ml mi av ac ap aq af ag bv bc bp bq bf bg gv gp gq gf gg kc kn kz ko kt kr fw fl fs ff fv fk fp fy fq fi fj fm fo nh ah bh L zs := by
  obtain ⟨ve, pa, pb, P, F, S, hve, hc, hm⟩ := h
  obtain ⟨c0, cdz, cof, col, cdf, csc, csl, cok, c00, cmap, ccf⟩ := id hc
  obtain ⟨mkn, mkz, mko, mkt, mkr, mfs, mff, mfl, mfw, mrw, mk0, mkv⟩ := id hm
  have mo0 := rwR_0.mp mrw
  have hv31 : ve < 2 ^ 31 := by omega
  refine ⟨i1, i2, fun z0 => ?_, fun z0 => ?_⟩
  · unfold v_law_law_441 v_law_spoil v_DefectDrive_spoil
    generalize zs (x4 + 1).toNatClampNeg = p0
    refine s_isSector (fun q => ⟨fun z => absurd rfl z, fun _ => Or.inl ⟨rfl, i1, i2, fun _ => ?_, fun z => absurd z0 z⟩⟩) (fun q1 q2 => ⟨fun _ => ?_, fun z => absurd z (by decide)⟩)
    · unfold v_law_law_468 v_Model_spoil
      exact s_mIsSector (fun _ => ⟨fun z => absurd rfl z, fun _ => ⟨fun z => absurd z (by decide), fun _ => cm_t (by decide) rfl (fin hK ⟨ve, pa, pb, P, F, S, by omega, hc, hm⟩)⟩⟩) (fun a b => (q.elim a b).elim)
    · obtain ⟨k, hk, rfl⟩ := sec_ix q1 q2
      have ck : (nI k).toNatClampNeg = k := nI_clamp (by omega)
      have ik : vp_in (nI k) 192 := vp_in_nI hk (by omega)
      refine pk_le 16 k (fun w => ⟨ik, ?_⟩) (fun w => Or.inr ⟨rfl, i1, i2, fun _ => ?_, fun z => absurd z0 z⟩)
      · rw [ck]
        refine ⟨fun z => absurd rfl z, fun _ => ⟨ik, in01, i1, i2, fun _ => ?_, fun z => absurd z0 z⟩⟩
        unfold v_law_law_468 v_Model_spoil
        refine s_mIsSector (fun a => (a.elim q1 q2).elim) (fun _ _ => ⟨fun _ => pk_le 16 k (fun _ => ⟨fun _ => ⟨ik, ?_⟩, fun z => absurd (by decide) z⟩) (fun z => absurd w (by omega)), fun z => absurd z (by decide)⟩)
        rw [ck]
        refine ⟨fun z => absurd rfl z, fun _ => ⟨ik, ?_⟩⟩
        rw [ck]
        exact cm_r (mfs k hk) rfl (fin hK ⟨ve, pa, pb, P, F, S, by omega, ⟨c0, cdz, cof, col, cdf, upd_P (p := fun y => y = 0 ∨ y = 1 ∨ y = 2) csc (Or.inr (Or.inr rfl)), csl, cok, c00, cmap, ccf⟩, ⟨mkn, mkz, mko, mkt, mkr, upd_of mfs, mff, mfl, mfw, mrw, mk0, mkv⟩⟩)
      · unfold v_law_law_468 v_Model_spoil
        exact s_mIsSector (fun a => (a.elim q1 q2).elim) (fun _ _ => ⟨fun _ => pk_le 16 k (fun z => absurd z (by omega)) (fun _ => ⟨fun z => absurd z (by decide), fun _ => cm_t (by decide) rfl (fin hK ⟨ve, pa, pb, P, F, S, by omega, hc, hm⟩)⟩), fun z => absurd z (by decide)⟩)
  · unfold v_law_law_441 v_law_spoil v_DefectDrive_spoil
    generalize zs (x4 + 1).toNatClampNeg = p0
    refine s_isSector (fun q => ⟨fun z => absurd rfl z, fun _ => Or.inl ⟨rfl, i1, i2, fun z => absurd z z0, fun _ => ?_⟩⟩) (fun q1 q2 => ⟨fun _ => ?_, fun z => absurd z (by decide)⟩)
    · unfold v_law_law_468 v_Model_spoil
      exact s_mIsSector (fun _ => ⟨fun z => absurd rfl z, fun _ => ⟨fun z => absurd z (by decide), fun _ => cm_t (by decide) rfl (fin hK ⟨ve, pa, pb, P, F, S, by omega, hc, hm⟩)⟩⟩) (fun a b => (q.elim a b).elim)
    · obtain ⟨k, hk, rfl⟩ := sec_ix q1 q2
      have ck : (nI k).toNatClampNeg = k := nI_clamp (by omega)
      have ik : vp_in (nI k) 192 := vp_in_nI hk (by omega)
      refine pk_le 16 k (fun w => ⟨ik, ?_⟩) (fun w => Or.inr ⟨rfl, i1, i2, fun z => absurd z z0, fun _ => ?_⟩)
      · rw [ck]
        refine ⟨fun _ => ⟨fun e => ⟨in01, i1, i2, fun z => absurd z z0, fun _ => ?_⟩, fun e => ⟨ik, in01, i1, i2, fun z => absurd z z0, fun _ => ?_⟩⟩, fun z => absurd z (by decide)⟩
        · unfold v_law_law_468 v_Model_spoil
          refine s_mIsSector (fun a => (a.elim q1 q2).elim) (fun _ _ => ⟨fun _ => pk_le 16 k (fun _ => ⟨fun _ => ⟨ik, ?_⟩, fun z => absurd (by decide) z⟩) (fun z => absurd w (by omega)), fun z => absurd z (by decide)⟩)
          rw [ck]
          refine ⟨fun _ => ⟨fun e2 => ⟨ik, ?_⟩, fun e2 => absurd ((mfs k hk).symm.trans e2) e⟩, fun z => absurd z (by decide)⟩
          rw [ck]
          exact cm_r (mfs k hk) rfl (fin hK ⟨ve, pa, pb, P, F, S, by omega, hc, ⟨mkn, mkz, mko, mkt, mkr, upd_self mfs, mff, mfl, mfw, mrw, mk0, mkv⟩⟩)
        · unfold v_law_law_468 v_Model_spoil
          refine s_mIsSector (fun a => (a.elim q1 q2).elim) (fun _ _ => ⟨fun _ => pk_le 16 k (fun _ => ⟨fun _ => ⟨ik, ?_⟩, fun z => absurd (by decide) z⟩) (fun z => absurd w (by omega)), fun z => absurd z (by decide)⟩)
          rw [ck]
          refine ⟨fun _ => ⟨fun e2 => absurd ((mfs k hk).trans e) e2, fun e2 => ⟨ik, ?_⟩⟩, fun z => absurd z (by decide)⟩
          rw [ck]
          exact cm_r (mfs k hk) rfl (fin hK ⟨ve, pa, pb, P, F, S, by omega, ⟨c0, cdz, cof, col, cdf, upd_P (p := fun y => y = 0 ∨ y = 1 ∨ y = 2) csc (Or.inr (Or.inl rfl)), csl, cok, c00, cmap, ccf⟩, ⟨mkn, mkz, mko, mkt, mkr, upd_of mfs, mff, mfl, mfw, mrw, mk0, mkv⟩⟩)
      · unfold v_law_law_468 v_Model_spoil
        exact s_mIsSector (fun a => (a.elim q1 q2).elim) (fun _ _ => ⟨fun _ => pk_le 16 k (fun z => absurd z (by omega)) (fun _ => ⟨fun z => absurd z (by decide), fun _ => cm_t (by decide) rfl (fin hK ⟨ve, pa, pb, P, F, S, by omega, hc, hm⟩)⟩), fun z => absurd z (by decide)⟩)
