theorem lc_write {nh ah bh : Nat} {nv np nq : Int32} {nc gc : Int32} {nf ng : Nat → Int32} {B : Nat} {K23 : Int32 → Nat → Int32 → Int32 → (Nat → Int32) → Int32 → Int32 → Int32 → (Nat → Int32) → (Nat → Int32) → (Nat → Int32) → Int32 → (Nat → Int32) → (Nat → Int32) → (Nat → Int32) → (Nat → Int32) → Int32 → Int32 → Int32 → Int32 → (Nat → Int32) → (Nat → Int32) → Int32 → Int32 → Int32 → Int32 → (Nat → Int32) → (Nat → Int32) → Int32 → Int32 → Int32 → (Nat → Int32) → (Nat → Int32) → Int32 → Int32 → Int32 → Int32 → Int32 → Int32 → (Nat → Int32) → (Nat → Int32) → (Nat → Int32) → (Nat → Int32) → (Nat → Int32) → (Nat → Int32) → (Nat → Int32) → (Nat → Int32) → (Nat → Int32) → (Nat → Int32) → (Nat → Int32) → (Nat → Int32) → (Nat → Int64) → Prop} {x4 : Int32} {L : Nat} {zs : Nat → Int32} (hK : ∀ (di : Nat) (dn dz : Int32) (df : Nat → Int32) (ofv ol od : Int32) (sc sw sl : Nat → Int32) (mk : Int32) (mo mp ml mi : Nat → Int32) (av ac ap aq : Int32) (af ag : Nat → Int32) (bv bc bp bq : Int32) (bf bg : Nat → Int32) (gv gp gq : Int32) (gf gg : Nat → Int32) (kc kn kz ko kt kr : Int32) (fw fl fs ff fv fk fp fy fq fi fj fm : Nat → Int32) (fo : Nat → Int64), Inv nh ah bh nv np nq (B + 1) di dn dz df ofv ol od sc sw sl mk mo mp ml mi av ac ap aq af ag bv bc bp bq bf bg gv gp gq gf gg kc kn kz ko kt kr fw fl fs ff fv fk fp fy fq fi fj fm fo → K23 (x4 + 4) di dn dz df ofv ol od sc sw sl mk mo mp ml mi av ac ap aq af ag bv bc bp bq bf bg gv gp gq gf gg kc kn kz ko kt kr fw fl fs ff fv fk fp fy fq fi fj fm fo) (hB : B < 600) (hd : nh ≠ ah ∧ nh ≠ bh ∧ ah ≠ bh) (i1 : vp_in (x4 + 1) L) (i2 : vp_in (x4 + 2) L) (i3 : vp_in (x4 + 3) L) {di : Nat} {dn dz : Int32} {df : Nat → Int32} {ofv ol od : Int32} {sc sw sl : Nat → Int32} {mk : Int32} {mo mp ml mi : Nat → Int32} {av ac ap aq : Int32} {af ag : Nat → Int32} {bv bc bp bq : Int32} {bf bg : Nat → Int32} {gv gp gq : Int32} {gf gg : Nat → Int32} {kc kn kz ko kt kr : Int32} {fw fl fs ff fv fk fp fy fq fi fj fm : Nat → Int32} {fo : Nat → Int64} (h : Inv nh ah bh nv np nq B di dn dz df ofv ol od sc sw sl mk mo mp ml mi av ac ap aq af ag bv bc bp bq bf bg gv gp gq gf gg kc kn kz ko kt kr fw fl fs ff fv fk fp fy fq fi fj fm fo) : v_law_law_216 K23 x4 di dn dz df ofv ol od sc sw sl mk mo mp ml mi av ac ap aq af ag bv bc bp bq bf bg gv gp gq gf gg kc kn kz ko kt kr fw fl fs ff fv fk fp fy fq fi fj fm fo nh ah bh L zs := by
  obtain ⟨ve, pa, pb, P, F, S, hve, hc, hm⟩ := h
  obtain ⟨c0, cdz, cof, col, cdf, csc, csl, cok, c00, cmap, ccf⟩ := id hc
  obtain ⟨mkn, mkz, mko, mkt, mkr, mfs, mff, mfl, mfw, mrw, mk0, mkv⟩ := id hm
  have mo0 := rwR_0.mp mrw
  have hv31 : ve < 2 ^ 31 := by omega
  refine ⟨i1, i2, i3, ?_⟩
  generalize zs (x4 + 1).toNatClampNeg = p0
  generalize zs (x4 + 2).toNatClampNeg = p1
  generalize zs (x4 + 3).toNatClampNeg = p2
  have cmk : mk = nI (cp ve P pa) := cmap.1
  subst cmk
  have hcp := cp_le ve P pa
  unfold v_law_write v_DefectDrive_write
  refine s_holds (by omega) (fun w => ⟨fun _ => ⟨rfl, i1, i2, i3, ?_⟩, fun z => absurd rfl z⟩) (fun j hj e => ⟨fun z => absurd z (by decide), fun _ => ?_⟩)
  · exact s_mHas0 mo0 cok hv31 w ⟨fun _ => ⟨fun z => absurd z (by decide), fun _ => cm_t (by decide) rfl (fin hK ⟨ve, pa, pb, P, F, S, by omega, hc, hm⟩)⟩, fun z => absurd rfl z⟩
  · subst e
    obtain ⟨s, s1, s2, s3, s4, s5⟩ := has_s hj
    have cm := (cmap.2.1 s s1 s4 s2).2
    have hdt := pl_data cok s1 s2
    have hwk : ∀ q, q < 192 → ∀ i, i < 2 → 2 * q + i < 384 := fun q hq i hi => by omega
    refine s_isWord (fun q => ⟨fun z => absurd rfl z, fun _ => ⟨rfl, i1, i2, i3, ?_⟩⟩) (fun q1 q2 => ⟨fun _ => ?_, fun z => absurd z (by decide)⟩)
    · exact s_mHas1 mo0 cok hv31 hj ⟨fun z => absurd z (by decide), fun _ => s_mWord0 q ⟨fun _ => ⟨fun z => absurd z (by decide), fun _ => cm_t (by decide) rfl (fin hK ⟨ve, pa, pb, P, F, S, by omega, hc, hm⟩)⟩, fun z => absurd rfl z⟩⟩
    · obtain ⟨i, hi, rfl⟩ := wrd_ix q1 q2
      refine ⟨fun ho => ⟨vp_in_nI (by omega) (by omega), ?_⟩, fun ho => ⟨in01, i1, i2, i3, ?_⟩⟩
      · subst s3
        rw [nI_clamp (by omega), cm, nI_clamp (by omega)]
        refine ⟨vp_in_nI (by omega) (by omega), fun hs0 => s_last (fun hl => ⟨fun z => absurd rfl z, fun _ => ⟨in01, i1, i2, i3, ?_⟩⟩) (fun hl => ⟨fun _ => s_put (by omega) hi ⟨in01, i1, i2, i3, ?_⟩, fun z => absurd z (by decide)⟩), fun hs0 => ⟨in01, i1, i2, i3, ?_⟩⟩
        · refine s_mWrite mo0 cok hv31 s4 s1 s2 hi (mko.trans ho) (by rw [mkt]; exact col) (fun z => absurd ((mfs _ (by omega)).trans hs0) z) (fun _ _ => ?_) (fun _ z => absurd (mkt.trans hl) z)
          exact cm_r rfl rfl (fin hK ⟨ve, pa, pb, P, F, S, by omega, ⟨c0, cdz, Or.inr rfl, col, cdf, csc, csl, cok, c00, cmap, ccf⟩, ⟨mkn, mkz, rfl, mkt, mkr, mfs, mff, mfl, mfw, mrw, mk0, mkv⟩⟩)
        · refine s_mWrite mo0 cok hv31 s4 s1 s2 hi (mko.trans ho) (by rw [mkt]; exact col) (fun z => absurd ((mfs _ (by omega)).trans hs0) z) (fun _ z => absurd (mkt.symm.trans z) hl) (fun _ _ => ?_)
          exact cm_r rfl rfl (fin hK ⟨ve, pa, pb, P, F, S, by omega, ⟨c0, cdz, cof, nl_ge col hl, cdf, csc, upd_P (p := fun y => y = 0 ∨ y = 1) csl (Or.inl rfl), cok, c00, cmap, ccf⟩, ⟨mkn, mkz, mko, by rw [mkt], by rw [mkr], mfs, mff, upd_of mfl, upd_w mfw, mrw, mk0, mkv⟩⟩)
        · refine s_mWrite mo0 cok hv31 s4 s1 s2 hi (mko.trans ho) (by rw [mkt]; exact col) (fun _ => ?_) (fun z _ => absurd ((mfs _ (by omega)).symm.trans z) hs0) (fun z _ => absurd ((mfs _ (by omega)).symm.trans z) hs0)
          exact cm_r rfl rfl (fin hK ⟨ve, pa, pb, P, F, S, by omega, hc, hm⟩)
      · exact s_mHas1 mo0 cok hv31 hj ⟨fun z => absurd z (by decide), fun _ => s_mWord1 hi ⟨fun z => absurd z (by decide), fun _ => ⟨fun _ => ⟨fun z => absurd (mko.symm.trans z) ho, fun _ => cm_r rfl rfl (fin hK ⟨ve, pa, pb, P, F, S, by omega, hc, hm⟩)⟩, fun z => absurd (by decide) z⟩⟩⟩
theorem lc_read {nh ah bh : Nat} {nv np nq : Int32} {nc gc : Int32} {nf ng : Nat → Int32} {B : Nat} {K23 : Int32 → Nat → Int32 → Int32 → (Nat → Int32) → Int32 → Int32 → Int32 → (Nat → Int32) → (Nat → Int32) → (Nat → Int32) → Int32 → (Nat → Int32) → (Nat → Int32) → (Nat → Int32) → (Nat → Int32) → Int32 → Int32 → Int32 → Int32 → (Nat → Int32) → (Nat → Int32) → Int32 → Int32 → Int32 → Int32 → (Nat → Int32) → (Nat → Int32) → Int32 → Int32 → Int32 → (Nat → Int32) → (Nat → Int32) → Int32 → Int32 → Int32 → Int32 → Int32 → Int32 → (Nat → Int32) → (Nat → Int32) → (Nat → Int32) → (Nat → Int32) → (Nat → Int32) → (Nat → Int32) → (Nat → Int32) → (Nat → Int32) → (Nat → Int32) → (Nat → Int32) → (Nat → Int32) → (Nat → Int32) → (Nat → Int64) → Prop} {x4 : Int32} {L : Nat} {zs : Nat → Int32} (hK : ∀ (di : Nat) (dn dz : Int32) (df : Nat → Int32) (ofv ol od : Int32) (sc sw sl : Nat → Int32) (mk : Int32) (mo mp ml mi : Nat → Int32) (av ac ap aq : Int32) (af ag : Nat → Int32) (bv bc bp bq : Int32) (bf bg : Nat → Int32) (gv gp gq : Int32) (gf gg : Nat → Int32) (kc kn kz ko kt kr : Int32) (fw fl fs ff fv fk fp fy fq fi fj fm : Nat → Int32) (fo : Nat → Int64), Inv nh ah bh nv np nq (B + 1) di dn dz df ofv ol od sc sw sl mk mo mp ml mi av ac ap aq af ag bv bc bp bq bf bg gv gp gq gf gg kc kn kz ko kt kr fw fl fs ff fv fk fp fy fq fi fj fm fo → K23 (x4 + 4) di dn dz df ofv ol od sc sw sl mk mo mp ml mi av ac ap aq af ag bv bc bp bq bf bg gv gp gq gf gg kc kn kz ko kt kr fw fl fs ff fv fk fp fy fq fi fj fm fo) (hB : B < 600) (hd : nh ≠ ah ∧ nh ≠ bh ∧ ah ≠ bh) (i1 : vp_in (x4 + 1) L) (i2 : vp_in (x4 + 2) L) (i3 : vp_in (x4 + 3) L) {di : Nat} {dn dz : Int32} {df : Nat → Int32} {ofv ol od : Int32} {sc sw sl : Nat → Int32} {mk : Int32} {mo mp ml mi : Nat → Int32} {av ac ap aq : Int32} {af ag : Nat → Int32} {bv bc bp bq : Int32} {bf bg : Nat → Int32} {gv gp gq : Int32} {gf gg : Nat → Int32} {kc kn kz ko kt kr : Int32} {fw fl fs ff fv fk fp fy fq fi fj fm : Nat → Int32} {fo : Nat → Int64} (h : Inv nh ah bh nv np nq B di dn dz df ofv ol od sc sw sl mk mo mp ml mi av ac ap aq af ag bv bc bp bq bf bg gv gp gq gf gg kc kn kz ko kt kr fw fl fs ff fv fk fp fy fq fi fj fm fo) : v_law_law_296 K23 x4 di dn dz df ofv ol od sc sw sl mk mo mp ml mi av ac ap aq af ag bv bc bp bq bf bg gv gp gq gf gg kc kn kz ko kt kr fw fl fs ff fv fk fp fy fq fi fj fm fo nh ah bh L zs := by
  obtain ⟨ve, pa, pb, P, F, S, hve, hc, hm⟩ := h
  obtain ⟨c0, cdz, cof, col, cdf, csc, csl, cok, c00, cmap, ccf⟩ := id hc
  obtain ⟨mkn, mkz, mko, mkt, mkr, mfs, mff, mfl, mfw, mrw, mk0, mkv⟩ := id hm
  have mo0 := rwR_0.mp mrw
  have hv31 : ve < 2 ^ 31 := by omega
  refine ⟨i1, i2, ?_⟩
  generalize zs (x4 + 1).toNatClampNeg = p0
  generalize zs (x4 + 2).toNatClampNeg = p1
  have cmk : mk = nI (cp ve P pa) := cmap.1
  subst cmk
  have hcp := cp_le ve P pa
  unfold v_law_read v_DefectDrive_read
  refine s_holds (by omega) (fun w => ⟨fun _ => Or.inl ⟨rfl, i1, i2, ?_⟩, fun z => absurd rfl z⟩) (fun j hj e => ⟨fun z => absurd z (by decide), fun _ => ?_⟩)
  · exact s_mHas0 mo0 cok hv31 w ⟨fun _ => ⟨fun z => absurd z (by decide), fun _ => cm_t (by decide) rfl (fin hK ⟨ve, pa, pb, P, F, S, by omega, hc, hm⟩)⟩, fun z => absurd rfl z⟩
  · subst e
    obtain ⟨s, s1, s2, s3, s4, s5⟩ := has_s hj
    have cm := (cmap.2.1 s s1 s4 s2).2
    have hdt := pl_data cok s1 s2
    have hwk : ∀ q, q < 192 → ∀ i, i < 2 → 2 * q + i < 384 := fun q hq i hi => by omega
    refine s_isWord (fun q => ⟨fun z => absurd rfl z, fun _ => Or.inl ⟨rfl, i1, i2, ?_⟩⟩) (fun q1 q2 => ⟨fun _ => ?_, fun z => absurd z (by decide)⟩)
    · exact s_mHas1 mo0 cok hv31 hj ⟨fun z => absurd z (by decide), fun _ => s_mWord0 q ⟨fun z => absurd rfl z, fun _ => ⟨fun z => absurd z (by decide), fun _ => cm_t (by decide) rfl (fin hK ⟨ve, pa, pb, P, F, S, by omega, hc, hm⟩)⟩⟩⟩
    · obtain ⟨i, hi, rfl⟩ := wrd_ix q1 q2
      refine ⟨fun ho => ⟨vp_in_nI (by omega) (by omega), ?_⟩, fun ho => Or.inr (Or.inl ⟨rfl, i1, i2, ?_⟩)⟩
      · subst s3
        rw [nI_clamp (by omega), cm, nI_clamp (by omega)]
        have hw := hwk _ hdt.2 i hi
        refine ⟨vp_in_nI (by omega) (by omega), fun hs0 => s_isLost (by omega) hi (csl _ hw) ⟨fun hl => s_wordOf (by omega) hi ⟨in01, i1, i2, ?_⟩, fun hl => Or.inr (Or.inr (Or.inr ⟨rfl, i1, i2, ?_⟩))⟩, fun hs0 => Or.inr (Or.inr (Or.inl ⟨rfl, i1, i2, ?_⟩))⟩
        · refine s_mRead mo0 cok hv31 s4 s1 s2 hi (mko.trans ho) (fun z => absurd ((mfs _ (by omega)).symm.trans z) hs0) (fun _ z => absurd ((mfl _ hw).trans hl) z) (fun _ _ => ?_)
          exact cm_r (mfw _ hw hl) rfl (fin hK ⟨ve, pa, pb, P, F, S, by omega, hc, hm⟩)
        · refine s_mRead mo0 cok hv31 s4 s1 s2 hi (mko.trans ho) (fun z => absurd ((mfs _ (by omega)).symm.trans z) hs0) (fun _ _ => ?_) (fun _ z => absurd ((mfl _ hw).symm.trans z) hl)
          exact cm_t (by decide) rfl (fin hK ⟨ve, pa, pb, P, F, S, by omega, hc, hm⟩)
        · refine s_mRead mo0 cok hv31 s4 s1 s2 hi (mko.trans ho) (fun _ => ?_) (fun z _ => absurd ((mfs _ (by omega)).trans hs0) z) (fun z _ => absurd ((mfs _ (by omega)).trans hs0) z)
          exact cm_t (by decide) rfl (fin hK ⟨ve, pa, pb, P, F, S, by omega, hc, hm⟩)
      · exact s_mHas1 mo0 cok hv31 hj ⟨fun z => absurd z (by decide), fun _ => s_mWord1 hi ⟨fun _ => ⟨fun z => absurd (mko.symm.trans z) ho, fun _ => ⟨fun z => absurd z (by decide), fun _ => cm_t (by decide) rfl (fin hK ⟨ve, pa, pb, P, F, S, by omega, hc, hm⟩)⟩⟩, fun z => absurd z (by decide)⟩⟩
