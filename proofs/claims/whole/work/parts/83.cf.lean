theorem lc_reassign {nh ah bh : Nat} {nv np nq : Int32} {nc gc : Int32} {nf ng : Nat → Int32} {B : Nat} {K23 : Int32 → Nat → Int32 → Int32 → (Nat → Int32) → Int32 → Int32 → Int32 → (Nat → Int32) → (Nat → Int32) → (Nat → Int32) → Int32 → (Nat → Int32) → (Nat → Int32) → (Nat → Int32) → (Nat → Int32) → Int32 → Int32 → Int32 → Int32 → (Nat → Int32) → (Nat → Int32) → Int32 → Int32 → Int32 → Int32 → (Nat → Int32) → (Nat → Int32) → Int32 → Int32 → Int32 → (Nat → Int32) → (Nat → Int32) → Int32 → Int32 → Int32 → Int32 → Int32 → Int32 → (Nat → Int32) → (Nat → Int32) → (Nat → Int32) → (Nat → Int32) → (Nat → Int32) → (Nat → Int32) → (Nat → Int32) → (Nat → Int32) → (Nat → Int32) → (Nat → Int32) → (Nat → Int32) → (Nat → Int32) → (Nat → Int64) → Prop} {x4 : Int32} {L : Nat} {zs : Nat → Int32} (hK : ∀ (di : Nat) (dn dz : Int32) (df : Nat → Int32) (ofv ol od : Int32) (sc sw sl : Nat → Int32) (mk : Int32) (mo mp ml mi : Nat → Int32) (av ac ap aq : Int32) (af ag : Nat → Int32) (bv bc bp bq : Int32) (bf bg : Nat → Int32) (gv gp gq : Int32) (gf gg : Nat → Int32) (kc kn kz ko kt kr : Int32) (fw fl fs ff fv fk fp fy fq fi fj fm : Nat → Int32) (fo : Nat → Int64), Inv nh ah bh nv np nq (B + 1) di dn dz df ofv ol od sc sw sl mk mo mp ml mi av ac ap aq af ag bv bc bp bq bf bg gv gp gq gf gg kc kn kz ko kt kr fw fl fs ff fv fk fp fy fq fi fj fm fo → K23 (x4 + 4) di dn dz df ofv ol od sc sw sl mk mo mp ml mi av ac ap aq af ag bv bc bp bq bf bg gv gp gq gf gg kc kn kz ko kt kr fw fl fs ff fv fk fp fy fq fi fj fm fo) (hB : B < 600) (hd : nh ≠ ah ∧ nh ≠ bh ∧ ah ≠ bh) (i1 : vp_in (x4 + 1) L) (i2 : vp_in (x4 + 2) L) (i3 : vp_in (x4 + 3) L) {di : Nat} {dn dz : Int32} {df : Nat → Int32} {ofv ol od : Int32} {sc sw sl : Nat → Int32} {mk : Int32} {mo mp ml mi : Nat → Int32} {av ac ap aq : Int32} {af ag : Nat → Int32} {bv bc bp bq : Int32} {bf bg : Nat → Int32} {gv gp gq : Int32} {gf gg : Nat → Int32} {kc kn kz ko kt kr : Int32} {fw fl fs ff fv fk fp fy fq fi fj fm : Nat → Int32} {fo : Nat → Int64} (h : Inv nh ah bh nv np nq B di dn dz df ofv ol od sc sw sl mk mo mp ml mi av ac ap aq af ag bv bc bp bq bf bg gv gp gq gf gg kc kn kz ko kt kr fw fl fs ff fv fk fp fy fq fi fj fm fo) : v_law_law_364 K23 x4 di dn dz df ofv ol od sc sw sl mk mo mp ml mi av ac ap aq af ag bv bc bp bq bf bg gv gp gq gf gg kc kn kz ko kt kr fw fl fs ff fv fk fp fy fq fi fj fm fo nv nc np nq nf ng gc nh ah bh L zs := by
  obtain ⟨ve, pa, pb, P, F, S, hve, hc, hm⟩ := h
  obtain ⟨c0, cdz, cof, col, cdf, csc, csl, cok, c00, cmap, ccf⟩ := id hc
  obtain ⟨mkn, mkz, mko, mkt, mkr, mfs, mff, mfl, mfw, mrw, mk0, mkv⟩ := id hm
  have mo0 := rwR_0.mp mrw
  have hv31 : ve < 2 ^ 31 := by omega
  refine ⟨i1, ?_⟩
  generalize zs (x4 + 1).toNatClampNeg = p0
  have hF := inF (nf := nf) (ng := ng) hd hc
  have hve1 : ve + 1 < 2 ^ 31 := by omega
  have hmf : MF fv fk fp fy fq fi fj ve pa pb P F S := ⟨mrw, mk0, mkv⟩
  have hcf : CF nh ah bh di av ac ap aq af ag bv bc bp bq bf bg ve pa pb P F S := ccf
  have hnl : (-1 : Int32) ≤ nl ol := by
    by_cases e : ol = 0
    · rw [e]; decide
    · exact nl_ge col e
  have cmk : mk = nI (cp ve P pa) := cmap.1
  subst cmk
  have hcp := cp_le ve P pa
  refine ⟨fun e => ?_, fun e => ?_, fun e => ?_⟩
  · have r := (hF.1 e).2
    subst e
    unfold v_law_reassignN v_DefectDrive_reassignN
    refine s_holds (by omega) (fun w => ⟨fun z => absurd rfl z, fun _ => ⟨rfl, i1, ?_⟩⟩) (fun j hj ej => ⟨fun _ => ?_, fun z => absurd z (by decide)⟩)
    · exact s_mHas0 mo0 cok hv31 w ⟨fun _ => ⟨fun z => absurd z (by decide), fun _ => cm_t (by decide) rfl (fin hK ⟨ve, pa, pb, P, F, S, by omega, hc, hm⟩)⟩, fun z => absurd rfl z⟩
    · subst ej
      obtain ⟨s, s1, s2, s3, s4, s5⟩ := has_s hj
      obtain ⟨cmo, cmp⟩ := cmap.2.1 s s1 s4 s2
      have hdt := pl_data cok s1 s2
      obtain ⟨k, n, hk⟩ := hk_ex F pb s
      obtain ⟨b1, o1, l1, d1, y1, y2, y3, y4⟩ := wk_rel (pt (pa + n) + 2) ofv (nl ol) (od + 1) hnl cof
      have hyM : wk (pt (pa + n) + 2) ko (nl kt) (kr + 1) = (b1, o1, l1, d1) := by rw [mko, mkt, mkr]; exact y1
      subst s3
      refine ⟨fun ho => ⟨vp_in_nI (by omega) (by omega), ?_⟩, fun ho => ⟨in01, i1, ?_⟩⟩
      · rw [nI_clamp (by omega), cmp, cmo, nI_clamp (by omega)]
        refine ⟨vp_in_nI (by omega) (by omega), fun hs0 => ⟨vp_in_nI (by omega) (by omega), s_nearest cmap cok (fun z => (c00 z).2) hdt.2 ?_⟩, fun hs0 => ⟨in01, i1, ?_⟩⟩
        · cases et : nr (fb sc P pa S pb) (pl F S pb s / 16) 176 16 none 12 with
          | none =>
            refine ⟨fun _ => ⟨in01, i1, ?_⟩, fun z => absurd rfl z⟩
            exact s_mReassign hmf cok hve1 s4 s1 s2 hk mfs (mko.trans ho) (by rw [mkt]; exact col) (fun z => absurd z hs0) (fun _ _ => cm_r rfl rfl (fin hK ⟨ve, pa, pb, P, F, S, by omega, hc, hm⟩)) (fun _ t' z => absurd (et.symm.trans z) (fun z => by cases z)) hyM (fun _ t' z => absurd (et.symm.trans z) (fun z => by cases z)) (fun _ t' z => absurd (et.symm.trans z) (fun z => by cases z))
          | some t =>
            have ht := nr_at et
            have hc12 : sc (pl F S pb s) = 1 ∨ sc (pl F S pb s) = 2 := (csc _ hdt.2).resolve_left hs0
            have tt : ∀ t', nr (fb sc P pa S pb) (pl F S pb s / 16) 176 16 none 12 = some t' → t' = t := fun t' z => Option.some.inj (z.symm.trans et)
            refine ⟨fun z => absurd z (oI_m1 (by omega)), fun _ => s_hasRoom r cok s1 hk (fun hr => ⟨fun z => absurd rfl z, fun _ => ⟨in01, i1, ?_⟩⟩) (fun hr => ⟨fun _ => s_last (fun hl => ⟨fun z => absurd rfl z, fun _ => ⟨in01, i1, ?_⟩⟩) (fun hl => ⟨fun _ => ?_, fun z => absurd z (by decide)⟩), fun z => absurd z (by decide)⟩)⟩
            · exact s_mReassign hmf cok hve1 s4 s1 s2 hk mfs (mko.trans ho) (by rw [mkt]; exact col) (fun z => absurd z hs0) (fun _ _ => cm_r rfl rfl (fin hK ⟨ve, pa, pb, P, F, S, by omega, hc, hm⟩)) (fun _ t' _ z => absurd z hr) hyM (fun _ t' _ z => absurd z hr) (fun _ t' _ z => absurd z hr)
            · exact s_mReassign hmf cok hve1 s4 s1 s2 hk mfs (mko.trans ho) (by rw [mkt]; exact col) (fun z => absurd z hs0) (fun _ w => w.elim (fun z => absurd (et.symm.trans z) (fun z => by cases z)) (fun z => absurd hr z)) (fun _ t' _ _ _ => cm_r rfl rfl (fin hK ⟨ve, pa, pb, P, F, S, by omega, ⟨c0, cdz, Or.inr rfl, col, cdf, csc, csl, cok, c00, cmap, ccf⟩, ⟨mkn, mkz, rfl, mkt, mkr, mfs, mff, mfl, mfw, mrw, mk0, mkv⟩⟩)) hyM (fun _ t' _ _ z => absurd (mkt.trans hl) z) (fun _ t' _ _ z => absurd (mkt.trans hl) z)
            · have hok' := okL_re cok s1 s2 ht.2.2 ht.2.1 hk hr
              have csl' : ∀ i, i < 384 → upd (upd sl (2 * t) (mvl (sc (pl F S pb s)) (sl (2 * pl F S pb s)))) (2 * t + 1) (mvl (sc (pl F S pb s)) (sl (2 * pl F S pb s + 1))) i = 0 ∨ upd (upd sl (2 * t) (mvl (sc (pl F S pb s)) (sl (2 * pl F S pb s)))) (2 * t + 1) (mvl (sc (pl F S pb s)) (sl (2 * pl F S pb s + 1))) i = 1 := upd_P (p := fun y => y = 0 ∨ y = 1) (upd_P (p := fun y => y = 0 ∨ y = 1) csl (mvl_01 _ _)) (mvl_01 _ _)
              refine s_move (t := t) hdt.2 ht.2.1 (s_becomeWithPair (t := t) r cok s1 hk hr (fun gv gp gq gf gg rl => ?_))
              refine s_wd hcf hve1 rl hok' _ y1 (fun e2 av ac ap aq af ag bv bc bp bq bf bg q => ⟨fun z => absurd rfl z, fun _ => ⟨in01, i1, ?_⟩⟩) (fun e2 di' mk mo mp ml mi av ac ap aq af ag bv bc bp bq bf bg m q => ⟨fun _ => ⟨fun e3 => ⟨in01, i1, ?_⟩, fun e3 => ⟨in01, i1, ?_⟩⟩, fun z => absurd z (by decide)⟩)
              · refine s_mReassign hmf cok hve1 s4 s1 s2 hk mfs (mko.trans ho) (by rw [mkt]; exact col) (fun z => absurd z hs0) (fun _ w => w.elim (fun z => absurd (et.symm.trans z) (fun z => by cases z)) (fun z => absurd hr z)) (fun _ t' _ _ z => absurd (mkt.symm.trans z) hl) hyM (fun _ t' et' _ _ _ x7 hx7 fv' fk' fp' fy' fq' fi' fj' q' => ?_) (fun _ t' _ _ _ z => absurd (e2.symm.trans z) (by decide))
                have tt' := tt t' et'
                subst tt'
                exact cm_r rfl rfl (fin hK ⟨ve, pa, pb, P, F, S, by omega, ⟨c0, cdz, y4, y3, cdf, csc, csl', cok, c00, cmap, q⟩, ⟨mkn, mkz, rfl, rfl, rfl, mfs, mff, re_fl hdt.2 mfl hc12 hx7, re_fw hdt.2 mfw hc12 hx7, q'.1, q'.2.1, q'.2.2⟩⟩)
              · refine s_mReassign hmf cok hve1 s4 s1 s2 hk mfs (mko.trans ho) (by rw [mkt]; exact col) (fun z => absurd z hs0) (fun _ w => w.elim (fun z => absurd (et.symm.trans z) (fun z => by cases z)) (fun z => absurd hr z)) (fun _ t' _ _ z => absurd (mkt.symm.trans z) hl) hyM (fun _ t' _ _ _ z => absurd (e2.symm.trans z) (by decide)) (fun _ t' et' _ _ _ x7 hx7 x fv' fk' fp' fy' fq' fi' fj' hx q' => ?_)
                have tt' := tt t' et'
                subst tt'
                have h71 : x7 = 1 := by
                  rcases hx7 with h | h
                  · exact h.2
                  · exact absurd (hc12.resolve_left h.1) e3
                have hx0 : x = 0 := by
                  rcases hx with h | h
                  · rw [h71] at h; exact absurd h.1 (by decide)
                  · exact h.2
                exact cm_r hx0 rfl (fin hK ⟨ve + 1, pa, n, P, _, _, by omega, ⟨c0, cdz, y4, y3, cdf, csc, csl', hok', fun z => absurd z (by omega), m, q⟩, ⟨mkn, mkz, rfl, rfl, rfl, mfs, mff, re_fl hdt.2 mfl hc12 hx7, re_fw hdt.2 mfw hc12 hx7, q'.1, q'.2.1, q'.2.2⟩⟩)
              · refine s_mReassign hmf cok hve1 s4 s1 s2 hk mfs (mko.trans ho) (by rw [mkt]; exact col) (fun z => absurd z hs0) (fun _ w => w.elim (fun z => absurd (et.symm.trans z) (fun z => by cases z)) (fun z => absurd hr z)) (fun _ t' _ _ z => absurd (mkt.symm.trans z) hl) hyM (fun _ t' _ _ _ z => absurd (e2.symm.trans z) (by decide)) (fun _ t' et' _ _ _ x7 hx7 x fv' fk' fp' fy' fq' fi' fj' hx q' => ?_)
                have tt' := tt t' et'
                subst tt'
                have h71 : x7 = 0 := by
                  rcases hx7 with h | h
                  · rw [h.1] at e3; exact absurd e3 (by decide)
                  · exact h.2
                have hx0 : x = 1 := by
                  rcases hx with h | h
                  · exact h.2
                  · exact absurd h71 h.1
                exact cm_r hx0 rfl (fin hK ⟨ve + 1, pa, n, P, _, _, by omega, ⟨c0, cdz, y4, y3, cdf, csc, csl', hok', fun z => absurd z (by omega), m, q⟩, ⟨mkn, mkz, rfl, rfl, rfl, mfs, mff, re_fl hdt.2 mfl hc12 hx7, re_fw hdt.2 mfw hc12 hx7, q'.1, q'.2.1, q'.2.2⟩⟩)
        · exact s_mReassign hmf cok hve1 s4 s1 s2 hk mfs (mko.trans ho) (by rw [mkt]; exact col) (fun _ => cm_r rfl rfl (fin hK ⟨ve, pa, pb, P, F, S, by omega, hc, hm⟩)) (fun z => absurd hs0 z) (fun z => absurd hs0 z) hyM (fun z => absurd hs0 z) (fun z => absurd hs0 z)
      · exact s_mHas1 mo0 cok hv31 hj ⟨fun z => absurd z (by decide), fun _ => ⟨fun _ => ⟨fun z => absurd (mko.symm.trans z) ho, fun _ => cm_r rfl rfl (fin hK ⟨ve, pa, pb, P, F, S, by omega, hc, hm⟩)⟩, fun z => absurd (by decide) z⟩⟩
  · have r := (hF.2.1 e).2
    subst e
    unfold v_law_reassignA v_DefectDrive_reassignA
    refine s_holds (by omega) (fun w => ⟨fun z => absurd rfl z, fun _ => ⟨rfl, i1, ?_⟩⟩) (fun j hj ej => ⟨fun _ => ?_, fun z => absurd z (by decide)⟩)
    · exact s_mHas0 mo0 cok hv31 w ⟨fun _ => ⟨fun z => absurd z (by decide), fun _ => cm_t (by decide) rfl (fin hK ⟨ve, pa, pb, P, F, S, by omega, hc, hm⟩)⟩, fun z => absurd rfl z⟩
    · subst ej
      obtain ⟨s, s1, s2, s3, s4, s5⟩ := has_s hj
      obtain ⟨cmo, cmp⟩ := cmap.2.1 s s1 s4 s2
      have hdt := pl_data cok s1 s2
      obtain ⟨k, n, hk⟩ := hk_ex F pb s
      obtain ⟨b1, o1, l1, d1, y1, y2, y3, y4⟩ := wk_rel (pt (pa + n) + 2) ofv (nl ol) (od + 1) hnl cof
      have hyM : wk (pt (pa + n) + 2) ko (nl kt) (kr + 1) = (b1, o1, l1, d1) := by rw [mko, mkt, mkr]; exact y1
      subst s3
      refine ⟨fun ho => ⟨vp_in_nI (by omega) (by omega), ?_⟩, fun ho => ⟨in01, i1, ?_⟩⟩
      · rw [nI_clamp (by omega), cmp, cmo, nI_clamp (by omega)]
        refine ⟨vp_in_nI (by omega) (by omega), fun hs0 => ⟨vp_in_nI (by omega) (by omega), s_nearest cmap cok (fun z => (c00 z).2) hdt.2 ?_⟩, fun hs0 => ⟨in01, i1, ?_⟩⟩
        · cases et : nr (fb sc P pa S pb) (pl F S pb s / 16) 176 16 none 12 with
          | none =>
            refine ⟨fun _ => ⟨in01, i1, ?_⟩, fun z => absurd rfl z⟩
            exact s_mReassign hmf cok hve1 s4 s1 s2 hk mfs (mko.trans ho) (by rw [mkt]; exact col) (fun z => absurd z hs0) (fun _ _ => cm_r rfl rfl (fin hK ⟨ve, pa, pb, P, F, S, by omega, hc, hm⟩)) (fun _ t' z => absurd (et.symm.trans z) (fun z => by cases z)) hyM (fun _ t' z => absurd (et.symm.trans z) (fun z => by cases z)) (fun _ t' z => absurd (et.symm.trans z) (fun z => by cases z))
          | some t =>
            have ht := nr_at et
            have hc12 : sc (pl F S pb s) = 1 ∨ sc (pl F S pb s) = 2 := (csc _ hdt.2).resolve_left hs0
            have tt : ∀ t', nr (fb sc P pa S pb) (pl F S pb s / 16) 176 16 none 12 = some t' → t' = t := fun t' z => Option.some.inj (z.symm.trans et)
            refine ⟨fun z => absurd z (oI_m1 (by omega)), fun _ => s_hasRoom r cok s1 hk (fun hr => ⟨fun z => absurd rfl z, fun _ => ⟨in01, i1, ?_⟩⟩) (fun hr => ⟨fun _ => s_last (fun hl => ⟨fun z => absurd rfl z, fun _ => ⟨in01, i1, ?_⟩⟩) (fun hl => ⟨fun _ => ?_, fun z => absurd z (by decide)⟩), fun z => absurd z (by decide)⟩)⟩
            · exact s_mReassign hmf cok hve1 s4 s1 s2 hk mfs (mko.trans ho) (by rw [mkt]; exact col) (fun z => absurd z hs0) (fun _ _ => cm_r rfl rfl (fin hK ⟨ve, pa, pb, P, F, S, by omega, hc, hm⟩)) (fun _ t' _ z => absurd z hr) hyM (fun _ t' _ z => absurd z hr) (fun _ t' _ z => absurd z hr)
            · exact s_mReassign hmf cok hve1 s4 s1 s2 hk mfs (mko.trans ho) (by rw [mkt]; exact col) (fun z => absurd z hs0) (fun _ w => w.elim (fun z => absurd (et.symm.trans z) (fun z => by cases z)) (fun z => absurd hr z)) (fun _ t' _ _ _ => cm_r rfl rfl (fin hK ⟨ve, pa, pb, P, F, S, by omega, ⟨c0, cdz, Or.inr rfl, col, cdf, csc, csl, cok, c00, cmap, ccf⟩, ⟨mkn, mkz, rfl, mkt, mkr, mfs, mff, mfl, mfw, mrw, mk0, mkv⟩⟩)) hyM (fun _ t' _ _ z => absurd (mkt.trans hl) z) (fun _ t' _ _ z => absurd (mkt.trans hl) z)
            · have hok' := okL_re cok s1 s2 ht.2.2 ht.2.1 hk hr
              have csl' : ∀ i, i < 384 → upd (upd sl (2 * t) (mvl (sc (pl F S pb s)) (sl (2 * pl F S pb s)))) (2 * t + 1) (mvl (sc (pl F S pb s)) (sl (2 * pl F S pb s + 1))) i = 0 ∨ upd (upd sl (2 * t) (mvl (sc (pl F S pb s)) (sl (2 * pl F S pb s)))) (2 * t + 1) (mvl (sc (pl F S pb s)) (sl (2 * pl F S pb s + 1))) i = 1 := upd_P (p := fun y => y = 0 ∨ y = 1) (upd_P (p := fun y => y = 0 ∨ y = 1) csl (mvl_01 _ _)) (mvl_01 _ _)
              refine s_move (t := t) hdt.2 ht.2.1 (s_becomeWithPair (t := t) r cok s1 hk hr (fun gv gp gq gf gg rl => ?_))
              refine s_wd hcf hve1 rl hok' _ y1 (fun e2 av ac ap aq af ag bv bc bp bq bf bg q => ⟨fun z => absurd rfl z, fun _ => ⟨in01, i1, ?_⟩⟩) (fun e2 di' mk mo mp ml mi av ac ap aq af ag bv bc bp bq bf bg m q => ⟨fun _ => ⟨fun e3 => ⟨in01, i1, ?_⟩, fun e3 => ⟨in01, i1, ?_⟩⟩, fun z => absurd z (by decide)⟩)
              · refine s_mReassign hmf cok hve1 s4 s1 s2 hk mfs (mko.trans ho) (by rw [mkt]; exact col) (fun z => absurd z hs0) (fun _ w => w.elim (fun z => absurd (et.symm.trans z) (fun z => by cases z)) (fun z => absurd hr z)) (fun _ t' _ _ z => absurd (mkt.symm.trans z) hl) hyM (fun _ t' et' _ _ _ x7 hx7 fv' fk' fp' fy' fq' fi' fj' q' => ?_) (fun _ t' _ _ _ z => absurd (e2.symm.trans z) (by decide))
                have tt' := tt t' et'
                subst tt'
                exact cm_r rfl rfl (fin hK ⟨ve, pa, pb, P, F, S, by omega, ⟨c0, cdz, y4, y3, cdf, csc, csl', cok, c00, cmap, q⟩, ⟨mkn, mkz, rfl, rfl, rfl, mfs, mff, re_fl hdt.2 mfl hc12 hx7, re_fw hdt.2 mfw hc12 hx7, q'.1, q'.2.1, q'.2.2⟩⟩)
              · refine s_mReassign hmf cok hve1 s4 s1 s2 hk mfs (mko.trans ho) (by rw [mkt]; exact col) (fun z => absurd z hs0) (fun _ w => w.elim (fun z => absurd (et.symm.trans z) (fun z => by cases z)) (fun z => absurd hr z)) (fun _ t' _ _ z => absurd (mkt.symm.trans z) hl) hyM (fun _ t' _ _ _ z => absurd (e2.symm.trans z) (by decide)) (fun _ t' et' _ _ _ x7 hx7 x fv' fk' fp' fy' fq' fi' fj' hx q' => ?_)
                have tt' := tt t' et'
                subst tt'
                have h71 : x7 = 1 := by
                  rcases hx7 with h | h
                  · exact h.2
                  · exact absurd (hc12.resolve_left h.1) e3
                have hx0 : x = 0 := by
                  rcases hx with h | h
                  · rw [h71] at h; exact absurd h.1 (by decide)
                  · exact h.2
                exact cm_r hx0 rfl (fin hK ⟨ve + 1, pa, n, P, _, _, by omega, ⟨c0, cdz, y4, y3, cdf, csc, csl', hok', fun z => absurd z (by omega), m, q⟩, ⟨mkn, mkz, rfl, rfl, rfl, mfs, mff, re_fl hdt.2 mfl hc12 hx7, re_fw hdt.2 mfw hc12 hx7, q'.1, q'.2.1, q'.2.2⟩⟩)
              · refine s_mReassign hmf cok hve1 s4 s1 s2 hk mfs (mko.trans ho) (by rw [mkt]; exact col) (fun z => absurd z hs0) (fun _ w => w.elim (fun z => absurd (et.symm.trans z) (fun z => by cases z)) (fun z => absurd hr z)) (fun _ t' _ _ z => absurd (mkt.symm.trans z) hl) hyM (fun _ t' _ _ _ z => absurd (e2.symm.trans z) (by decide)) (fun _ t' et' _ _ _ x7 hx7 x fv' fk' fp' fy' fq' fi' fj' hx q' => ?_)
                have tt' := tt t' et'
                subst tt'
                have h71 : x7 = 0 := by
                  rcases hx7 with h | h
                  · rw [h.1] at e3; exact absurd e3 (by decide)
                  · exact h.2
                have hx0 : x = 1 := by
                  rcases hx with h | h
                  · exact h.2
                  · exact absurd h71 h.1
                exact cm_r hx0 rfl (fin hK ⟨ve + 1, pa, n, P, _, _, by omega, ⟨c0, cdz, y4, y3, cdf, csc, csl', hok', fun z => absurd z (by omega), m, q⟩, ⟨mkn, mkz, rfl, rfl, rfl, mfs, mff, re_fl hdt.2 mfl hc12 hx7, re_fw hdt.2 mfw hc12 hx7, q'.1, q'.2.1, q'.2.2⟩⟩)
        · exact s_mReassign hmf cok hve1 s4 s1 s2 hk mfs (mko.trans ho) (by rw [mkt]; exact col) (fun _ => cm_r rfl rfl (fin hK ⟨ve, pa, pb, P, F, S, by omega, hc, hm⟩)) (fun z => absurd hs0 z) (fun z => absurd hs0 z) hyM (fun z => absurd hs0 z) (fun z => absurd hs0 z)
      · exact s_mHas1 mo0 cok hv31 hj ⟨fun z => absurd z (by decide), fun _ => ⟨fun _ => ⟨fun z => absurd (mko.symm.trans z) ho, fun _ => cm_r rfl rfl (fin hK ⟨ve, pa, pb, P, F, S, by omega, hc, hm⟩)⟩, fun z => absurd (by decide) z⟩⟩
  · have r := (hF.2.2 e).2.2
    subst e
    unfold v_law_reassignB v_DefectDrive_reassignB
    refine s_holds (by omega) (fun w => ⟨fun z => absurd rfl z, fun _ => ⟨rfl, i1, ?_⟩⟩) (fun j hj ej => ⟨fun _ => ?_, fun z => absurd z (by decide)⟩)
    · exact s_mHas0 mo0 cok hv31 w ⟨fun _ => ⟨fun z => absurd z (by decide), fun _ => cm_t (by decide) rfl (fin hK ⟨ve, pa, pb, P, F, S, by omega, hc, hm⟩)⟩, fun z => absurd rfl z⟩
    · subst ej
      obtain ⟨s, s1, s2, s3, s4, s5⟩ := has_s hj
      obtain ⟨cmo, cmp⟩ := cmap.2.1 s s1 s4 s2
      have hdt := pl_data cok s1 s2
      obtain ⟨k, n, hk⟩ := hk_ex F pb s
      obtain ⟨b1, o1, l1, d1, y1, y2, y3, y4⟩ := wk_rel (pt (pa + n) + 2) ofv (nl ol) (od + 1) hnl cof
      have hyM : wk (pt (pa + n) + 2) ko (nl kt) (kr + 1) = (b1, o1, l1, d1) := by rw [mko, mkt, mkr]; exact y1
      subst s3
      refine ⟨fun ho => ⟨vp_in_nI (by omega) (by omega), ?_⟩, fun ho => ⟨in01, i1, ?_⟩⟩
      · rw [nI_clamp (by omega), cmp, cmo, nI_clamp (by omega)]
        refine ⟨vp_in_nI (by omega) (by omega), fun hs0 => ⟨vp_in_nI (by omega) (by omega), s_nearest cmap cok (fun z => (c00 z).2) hdt.2 ?_⟩, fun hs0 => ⟨in01, i1, ?_⟩⟩
        · cases et : nr (fb sc P pa S pb) (pl F S pb s / 16) 176 16 none 12 with
          | none =>
            refine ⟨fun _ => ⟨in01, i1, ?_⟩, fun z => absurd rfl z⟩
            exact s_mReassign hmf cok hve1 s4 s1 s2 hk mfs (mko.trans ho) (by rw [mkt]; exact col) (fun z => absurd z hs0) (fun _ _ => cm_r rfl rfl (fin hK ⟨ve, pa, pb, P, F, S, by omega, hc, hm⟩)) (fun _ t' z => absurd (et.symm.trans z) (fun z => by cases z)) hyM (fun _ t' z => absurd (et.symm.trans z) (fun z => by cases z)) (fun _ t' z => absurd (et.symm.trans z) (fun z => by cases z))
          | some t =>
            have ht := nr_at et
            have hc12 : sc (pl F S pb s) = 1 ∨ sc (pl F S pb s) = 2 := (csc _ hdt.2).resolve_left hs0
            have tt : ∀ t', nr (fb sc P pa S pb) (pl F S pb s / 16) 176 16 none 12 = some t' → t' = t := fun t' z => Option.some.inj (z.symm.trans et)
            refine ⟨fun z => absurd z (oI_m1 (by omega)), fun _ => s_hasRoom r cok s1 hk (fun hr => ⟨fun z => absurd rfl z, fun _ => ⟨in01, i1, ?_⟩⟩) (fun hr => ⟨fun _ => s_last (fun hl => ⟨fun z => absurd rfl z, fun _ => ⟨in01, i1, ?_⟩⟩) (fun hl => ⟨fun _ => ?_, fun z => absurd z (by decide)⟩), fun z => absurd z (by decide)⟩)⟩
            · exact s_mReassign hmf cok hve1 s4 s1 s2 hk mfs (mko.trans ho) (by rw [mkt]; exact col) (fun z => absurd z hs0) (fun _ _ => cm_r rfl rfl (fin hK ⟨ve, pa, pb, P, F, S, by omega, hc, hm⟩)) (fun _ t' _ z => absurd z hr) hyM (fun _ t' _ z => absurd z hr) (fun _ t' _ z => absurd z hr)
            · exact s_mReassign hmf cok hve1 s4 s1 s2 hk mfs (mko.trans ho) (by rw [mkt]; exact col) (fun z => absurd z hs0) (fun _ w => w.elim (fun z => absurd (et.symm.trans z) (fun z => by cases z)) (fun z => absurd hr z)) (fun _ t' _ _ _ => cm_r rfl rfl (fin hK ⟨ve, pa, pb, P, F, S, by omega, ⟨c0, cdz, Or.inr rfl, col, cdf, csc, csl, cok, c00, cmap, ccf⟩, ⟨mkn, mkz, rfl, mkt, mkr, mfs, mff, mfl, mfw, mrw, mk0, mkv⟩⟩)) hyM (fun _ t' _ _ z => absurd (mkt.trans hl) z) (fun _ t' _ _ z => absurd (mkt.trans hl) z)
            · have hok' := okL_re cok s1 s2 ht.2.2 ht.2.1 hk hr
              have csl' : ∀ i, i < 384 → upd (upd sl (2 * t) (mvl (sc (pl F S pb s)) (sl (2 * pl F S pb s)))) (2 * t + 1) (mvl (sc (pl F S pb s)) (sl (2 * pl F S pb s + 1))) i = 0 ∨ upd (upd sl (2 * t) (mvl (sc (pl F S pb s)) (sl (2 * pl F S pb s)))) (2 * t + 1) (mvl (sc (pl F S pb s)) (sl (2 * pl F S pb s + 1))) i = 1 := upd_P (p := fun y => y = 0 ∨ y = 1) (upd_P (p := fun y => y = 0 ∨ y = 1) csl (mvl_01 _ _)) (mvl_01 _ _)
              refine s_move (t := t) hdt.2 ht.2.1 (s_becomeWithPair (t := t) r cok s1 hk hr (fun gv gp gq gf gg rl => ?_))
              refine s_wd hcf hve1 rl hok' _ y1 (fun e2 av ac ap aq af ag bv bc bp bq bf bg q => ⟨fun z => absurd rfl z, fun _ => ⟨in01, i1, ?_⟩⟩) (fun e2 di' mk mo mp ml mi av ac ap aq af ag bv bc bp bq bf bg m q => ⟨fun _ => ⟨fun e3 => ⟨in01, i1, ?_⟩, fun e3 => ⟨in01, i1, ?_⟩⟩, fun z => absurd z (by decide)⟩)
              · refine s_mReassign hmf cok hve1 s4 s1 s2 hk mfs (mko.trans ho) (by rw [mkt]; exact col) (fun z => absurd z hs0) (fun _ w => w.elim (fun z => absurd (et.symm.trans z) (fun z => by cases z)) (fun z => absurd hr z)) (fun _ t' _ _ z => absurd (mkt.symm.trans z) hl) hyM (fun _ t' et' _ _ _ x7 hx7 fv' fk' fp' fy' fq' fi' fj' q' => ?_) (fun _ t' _ _ _ z => absurd (e2.symm.trans z) (by decide))
                have tt' := tt t' et'
                subst tt'
                exact cm_r rfl rfl (fin hK ⟨ve, pa, pb, P, F, S, by omega, ⟨c0, cdz, y4, y3, cdf, csc, csl', cok, c00, cmap, q⟩, ⟨mkn, mkz, rfl, rfl, rfl, mfs, mff, re_fl hdt.2 mfl hc12 hx7, re_fw hdt.2 mfw hc12 hx7, q'.1, q'.2.1, q'.2.2⟩⟩)
              · refine s_mReassign hmf cok hve1 s4 s1 s2 hk mfs (mko.trans ho) (by rw [mkt]; exact col) (fun z => absurd z hs0) (fun _ w => w.elim (fun z => absurd (et.symm.trans z) (fun z => by cases z)) (fun z => absurd hr z)) (fun _ t' _ _ z => absurd (mkt.symm.trans z) hl) hyM (fun _ t' _ _ _ z => absurd (e2.symm.trans z) (by decide)) (fun _ t' et' _ _ _ x7 hx7 x fv' fk' fp' fy' fq' fi' fj' hx q' => ?_)
                have tt' := tt t' et'
                subst tt'
                have h71 : x7 = 1 := by
                  rcases hx7 with h | h
                  · exact h.2
                  · exact absurd (hc12.resolve_left h.1) e3
                have hx0 : x = 0 := by
                  rcases hx with h | h
                  · rw [h71] at h; exact absurd h.1 (by decide)
                  · exact h.2
                exact cm_r hx0 rfl (fin hK ⟨ve + 1, pa, n, P, _, _, by omega, ⟨c0, cdz, y4, y3, cdf, csc, csl', hok', fun z => absurd z (by omega), m, q⟩, ⟨mkn, mkz, rfl, rfl, rfl, mfs, mff, re_fl hdt.2 mfl hc12 hx7, re_fw hdt.2 mfw hc12 hx7, q'.1, q'.2.1, q'.2.2⟩⟩)
              · refine s_mReassign hmf cok hve1 s4 s1 s2 hk mfs (mko.trans ho) (by rw [mkt]; exact col) (fun z => absurd z hs0) (fun _ w => w.elim (fun z => absurd (et.symm.trans z) (fun z => by cases z)) (fun z => absurd hr z)) (fun _ t' _ _ z => absurd (mkt.symm.trans z) hl) hyM (fun _ t' _ _ _ z => absurd (e2.symm.trans z) (by decide)) (fun _ t' et' _ _ _ x7 hx7 x fv' fk' fp' fy' fq' fi' fj' hx q' => ?_)
                have tt' := tt t' et'
                subst tt'
                have h71 : x7 = 0 := by
                  rcases hx7 with h | h
                  · rw [h.1] at e3; exact absurd e3 (by decide)
                  · exact h.2
                have hx0 : x = 1 := by
                  rcases hx with h | h
                  · exact h.2
                  · exact absurd h71 h.1
                exact cm_r hx0 rfl (fin hK ⟨ve + 1, pa, n, P, _, _, by omega, ⟨c0, cdz, y4, y3, cdf, csc, csl', hok', fun z => absurd z (by omega), m, q⟩, ⟨mkn, mkz, rfl, rfl, rfl, mfs, mff, re_fl hdt.2 mfl hc12 hx7, re_fw hdt.2 mfw hc12 hx7, q'.1, q'.2.1, q'.2.2⟩⟩)
        · exact s_mReassign hmf cok hve1 s4 s1 s2 hk mfs (mko.trans ho) (by rw [mkt]; exact col) (fun _ => cm_r rfl rfl (fin hK ⟨ve, pa, pb, P, F, S, by omega, hc, hm⟩)) (fun z => absurd hs0 z) (fun z => absurd hs0 z) hyM (fun z => absurd hs0 z) (fun z => absurd hs0 z)
      · exact s_mHas1 mo0 cok hv31 hj ⟨fun z => absurd z (by decide), fun _ => ⟨fun _ => ⟨fun z => absurd (mko.symm.trans z) ho, fun _ => cm_r rfl rfl (fin hK ⟨ve, pa, pb, P, F, S, by omega, hc, hm⟩)⟩, fun z => absurd (by decide) z⟩⟩
