theorem s_wdB {ah bh di : Nat} {dn dz : Int32} {df : Nat → Int32} {ofv ol od mk : Int32} {mo mp ml mi : Nat → Int32} {gv gc gp gq : Int32} {gf gg : Nat → Int32} {av ac ap aq : Int32} {af ag : Nat → Int32} {bv bc bp bq : Int32} {bf bg : Nat → Int32} {ver np nq : Nat} {P F S : Nat → Nat} (r : lsR gv gp gq gf gg ver np nq P F S) (ok : okL np nq P F S) (hver : ver < 2 ^ 31) (hv0 : ver ≠ 0) (hpar : ver % 2 = 0) {post : Int32 → Nat → Int32 → Int32 → Int32 → Int32 → (Nat → Int32) → (Nat → Int32) → (Nat → Int32) → (Nat → Int32) → Int32 → Int32 → Int32 → Int32 → (Nat → Int32) → (Nat → Int32) → Int32 → Int32 → Int32 → Int32 → (Nat → Int32) → (Nat → Int32) → Prop} (z : Int32 × Int32 × Int32 × Int32) (hz : wk (pt (np + nq) + 2) ofv ol od = z)
    (hfail : z.1 = 0 → ∀ (tv' tc' tp' tq' : Int32) (tf' tg' : Nat → Int32), ((tv' = bv ∧ tc' = bc ∧ tp' = bp ∧ tq' = bq ∧ tf' = bf ∧ tg' = bg) ∨ tc' = 0) → post 0 di z.2.1 z.2.2.1 z.2.2.2 mk mo mp ml mi av ac ap aq af ag tv' tc' tp' tq' tf' tg')
    (hok : z.1 = 1 → ∀ (mk : Int32) (mo mp ml mi tf' tg' : Nat → Int32), mapR ver np nq P F S mk mo mp ml mi → lsR gv gp gq tf' tg' ver np nq P F S → post 1 bh z.2.1 z.2.2.1 z.2.2.2 mk mo mp ml mi av ac ap aq af ag gv 1 gp gq tf' tg') :
    v_DefectDrive_writeDraft ah bh di dn dz df ofv ol od mk mo mp ml mi gv gc gp gq gf gg av ac ap aq af ag bv bc bp bq bf bg post := by
  have hg : gv &&& 1 = nI (ver % 2) := by rw [r.1]; exact pk_andN (by omega) 1 rfl
  have hn := ok.1
  have hL : ∀ (j i : Nat) (o l d : Int32) (tf' tg' : Nat → Int32), i ≤ pt (np + nq) → pt (np + nq) < i + j → (∀ k, k < 8 * i → k < np + nq → tf' k = gf k ∧ tg' k = gg k) → wk (pt (np + nq) - i + 1) o l d = z → v_DefectDrive_writeDraft_47 di mk mo mp ml mi av ac ap aq gv 0 gp gq dn dz df gv gc gp gq gf gg bh post j (nI (8 * i)) o l d af ag tf' tg' := by
    intro j
    induction j with
    | zero => intro i o l d tf' tg' h1 h2; omega
    | succ j ih =>
      intro i o l d tf' tg' h1 h2 h3 h4
      show vb_DefectDrive_writeDraft_47 di mk mo mp ml mi av ac ap aq gv 0 gp gq dn dz df gv gc gp gq gf gg bh post (v_DefectDrive_writeDraft_47 di mk mo mp ml mi av ac ap aq gv 0 gp gq dn dz df gv gc gp gq gf gg bh post j) (nI (8 * i)) o l d af ag tf' tg'
      show (gp + gq ≤ nI (8 * i) → _) ∧ (¬ gp + gq ≤ nI (8 * i) → _)
      rw [show gp + gq = nI (np + nq) by rw [r.2.1, r.2.2.1, nI_add]]
      unfold pt at h1 h2 h4 ih
      refine pk_le (np + nq) (8 * i) (fun w => ?_) (fun w => ?_)
      · rw [show (np + nq + 7) / 8 - i + 1 = 0 + 1 by omega] at h4
        simp only [wk] at h4
        refine s_last (fun e => ⟨fun q => absurd rfl q, fun _ => ?_⟩) (fun e => ⟨fun _ => ?_, fun q => absurd q (by decide)⟩)
        · rw [if_pos e] at h4
          subst h4
          exact hfail rfl _ _ _ _ _ _ (Or.inr rfl)
        · rw [if_neg e] at h4
          subst h4
          have r2 := lsR_of r (fun k hk => h3 k (by omega) hk)
          exact s_follow r2 ok hver (fun e2 => absurd e2 hv0) (fun mk mo mp ml mi m => hok rfl mk mo mp ml mi _ _ m r2)
      · rw [show (np + nq + 7) / 8 - i + 1 = ((np + nq + 7) / 8 - (i + 1) + 1) + 1 by omega] at h4
        simp only [wk] at h4
        refine s_last (fun e => ⟨fun q => absurd rfl q, fun _ => ?_⟩) (fun e => ⟨fun _ => ?_, fun q => absurd q (by decide)⟩)
        · rw [if_pos e] at h4
          subst h4
          exact hfail rfl _ _ _ _ _ _ (Or.inr rfl)
        · rw [if_neg e] at h4
          obtain ⟨r0, r1, r2, r3, r4⟩ := id r
          have goal2 : ∀ (post2 : (Nat → Int32) → (Nat → Int32) → Prop), (∀ af ag : Nat → Int32, (∀ k, k < 8 * i + 8 → k < np + nq → af k = gf k ∧ ag k = gg k) → post2 af ag) → v_Lists_takePart gv 0 gp gq tf' tg' gv gc gp gq gf gg (nI (8 * i)) post2 := by
            intro post2 hp2
            rw [r1, r2]
            exact s_takePart (by omega) (by omega) (fun k hk => h3 k hk (by omega)) hp2
          refine goal2 _ (fun f2 g2 h5 => ?_)
          show v_DefectDrive_writeDraft_47 di mk mo mp ml mi av ac ap aq gv 0 gp gq dn dz df gv gc gp gq gf gg bh post j (nI (8 * i) + 8) o (nl l) (d + 1) af ag f2 g2
          rw [show nI (8 * i) + 8 = nI (8 * (i + 1)) from nI_add (8 * i) 8]
          exact ih (i + 1) o _ _ f2 g2 (by omega) (by omega) (fun k hk hk2 => h5 k (by omega) hk2) h4
  have hmain : v_DefectDrive_writeDraft_24 di ofv ol od mk mo mp ml mi av ac ap aq af ag bv bc bp bq bf bg dn dz df gv gc gp gq gf gg bh post := by
    simp only [wk] at hz
    refine s_last (fun e => ⟨fun q => absurd rfl q, fun _ => ?_⟩) (fun e => ⟨fun _ => ?_, fun q => absurd q (by decide)⟩)
    · rw [if_pos e] at hz
      subst hz
      exact hfail rfl _ _ _ _ _ _ (Or.inl ⟨rfl, rfl, rfl, rfl, rfl, rfl⟩)
    · rw [if_neg e] at hz
      refine ⟨pt (np + nq) + 1, ?_⟩
      refine hL (pt (np + nq) + 1) 0 ofv _ _ bf bg (by omega) (by omega) (fun k hk => by omega) ?_
      rw [← hz]
      simp only [wk, Nat.sub_zero]
  exact ⟨fun _ => hmain, fun e => absurd e (by rw [hg, hpar]; decide)⟩
theorem s_wdA {ah bh di : Nat} {dn dz : Int32} {df : Nat → Int32} {ofv ol od mk : Int32} {mo mp ml mi : Nat → Int32} {gv gc gp gq : Int32} {gf gg : Nat → Int32} {av ac ap aq : Int32} {af ag : Nat → Int32} {bv bc bp bq : Int32} {bf bg : Nat → Int32} {ver np nq : Nat} {P F S : Nat → Nat} (r : lsR gv gp gq gf gg ver np nq P F S) (ok : okL np nq P F S) (hver : ver < 2 ^ 31) (hv0 : ver ≠ 0) (hpar : ver % 2 = 1) {post : Int32 → Nat → Int32 → Int32 → Int32 → Int32 → (Nat → Int32) → (Nat → Int32) → (Nat → Int32) → (Nat → Int32) → Int32 → Int32 → Int32 → Int32 → (Nat → Int32) → (Nat → Int32) → Int32 → Int32 → Int32 → Int32 → (Nat → Int32) → (Nat → Int32) → Prop} (z : Int32 × Int32 × Int32 × Int32) (hz : wk (pt (np + nq) + 2) ofv ol od = z)
    (hfail : z.1 = 0 → ∀ (tv' tc' tp' tq' : Int32) (tf' tg' : Nat → Int32), ((tv' = av ∧ tc' = ac ∧ tp' = ap ∧ tq' = aq ∧ tf' = af ∧ tg' = ag) ∨ tc' = 0) → post 0 di z.2.1 z.2.2.1 z.2.2.2 mk mo mp ml mi tv' tc' tp' tq' tf' tg' bv bc bp bq bf bg)
    (hok : z.1 = 1 → ∀ (mk : Int32) (mo mp ml mi tf' tg' : Nat → Int32), mapR ver np nq P F S mk mo mp ml mi → lsR gv gp gq tf' tg' ver np nq P F S → post 1 ah z.2.1 z.2.2.1 z.2.2.2 mk mo mp ml mi gv 1 gp gq tf' tg' bv bc bp bq bf bg) :
    v_DefectDrive_writeDraft ah bh di dn dz df ofv ol od mk mo mp ml mi gv gc gp gq gf gg av ac ap aq af ag bv bc bp bq bf bg post := by
  have hg : gv &&& 1 = nI (ver % 2) := by rw [r.1]; exact pk_andN (by omega) 1 rfl
  have hn := ok.1
  have hL : ∀ (j i : Nat) (o l d : Int32) (tf' tg' : Nat → Int32), i ≤ pt (np + nq) → pt (np + nq) < i + j → (∀ k, k < 8 * i → k < np + nq → tf' k = gf k ∧ tg' k = gg k) → wk (pt (np + nq) - i + 1) o l d = z → v_DefectDrive_writeDraft_47_b di mk mo mp ml mi gv 0 gp gq bv bc bp bq dn dz df gv gc gp gq gf gg ah post j (nI (8 * i)) o l d tf' tg' bf bg := by
    intro j
    induction j with
    | zero => intro i o l d tf' tg' h1 h2; omega
    | succ j ih =>
      intro i o l d tf' tg' h1 h2 h3 h4
      show vb_DefectDrive_writeDraft_47_b di mk mo mp ml mi gv 0 gp gq bv bc bp bq dn dz df gv gc gp gq gf gg ah post (v_DefectDrive_writeDraft_47_b di mk mo mp ml mi gv 0 gp gq bv bc bp bq dn dz df gv gc gp gq gf gg ah post j) (nI (8 * i)) o l d tf' tg' bf bg
      show (gp + gq ≤ nI (8 * i) → _) ∧ (¬ gp + gq ≤ nI (8 * i) → _)
      rw [show gp + gq = nI (np + nq) by rw [r.2.1, r.2.2.1, nI_add]]
      unfold pt at h1 h2 h4 ih
      refine pk_le (np + nq) (8 * i) (fun w => ?_) (fun w => ?_)
      · rw [show (np + nq + 7) / 8 - i + 1 = 0 + 1 by omega] at h4
        simp only [wk] at h4
        refine s_last (fun e => ⟨fun q => absurd rfl q, fun _ => ?_⟩) (fun e => ⟨fun _ => ?_, fun q => absurd q (by decide)⟩)
        · rw [if_pos e] at h4
          subst h4
          exact hfail rfl _ _ _ _ _ _ (Or.inr rfl)
        · rw [if_neg e] at h4
          subst h4
          have r2 := lsR_of r (fun k hk => h3 k (by omega) hk)
          exact s_follow r2 ok hver (fun e2 => absurd e2 hv0) (fun mk mo mp ml mi m => hok rfl mk mo mp ml mi _ _ m r2)
      · rw [show (np + nq + 7) / 8 - i + 1 = ((np + nq + 7) / 8 - (i + 1) + 1) + 1 by omega] at h4
        simp only [wk] at h4
        refine s_last (fun e => ⟨fun q => absurd rfl q, fun _ => ?_⟩) (fun e => ⟨fun _ => ?_, fun q => absurd q (by decide)⟩)
        · rw [if_pos e] at h4
          subst h4
          exact hfail rfl _ _ _ _ _ _ (Or.inr rfl)
        · rw [if_neg e] at h4
          obtain ⟨r0, r1, r2, r3, r4⟩ := id r
          have goal2 : ∀ (post2 : (Nat → Int32) → (Nat → Int32) → Prop), (∀ af ag : Nat → Int32, (∀ k, k < 8 * i + 8 → k < np + nq → af k = gf k ∧ ag k = gg k) → post2 af ag) → v_Lists_takePart gv 0 gp gq tf' tg' gv gc gp gq gf gg (nI (8 * i)) post2 := by
            intro post2 hp2
            rw [r1, r2]
            exact s_takePart (by omega) (by omega) (fun k hk => h3 k hk (by omega)) hp2
          refine goal2 _ (fun f2 g2 h5 => ?_)
          show v_DefectDrive_writeDraft_47_b di mk mo mp ml mi gv 0 gp gq bv bc bp bq dn dz df gv gc gp gq gf gg ah post j (nI (8 * i) + 8) o (nl l) (d + 1) f2 g2 bf bg
          rw [show nI (8 * i) + 8 = nI (8 * (i + 1)) from nI_add (8 * i) 8]
          exact ih (i + 1) o _ _ f2 g2 (by omega) (by omega) (fun k hk hk2 => h5 k (by omega) hk2) h4
  have hmain : v_DefectDrive_writeDraft_24_b di ofv ol od mk mo mp ml mi av ac ap aq af ag bv bc bp bq bf bg dn dz df gv gc gp gq gf gg ah post := by
    simp only [wk] at hz
    refine s_last (fun e => ⟨fun q => absurd rfl q, fun _ => ?_⟩) (fun e => ⟨fun _ => ?_, fun q => absurd q (by decide)⟩)
    · rw [if_pos e] at hz
      subst hz
      exact hfail rfl _ _ _ _ _ _ (Or.inl ⟨rfl, rfl, rfl, rfl, rfl, rfl⟩)
    · rw [if_neg e] at hz
      refine ⟨pt (np + nq) + 1, ?_⟩
      refine hL (pt (np + nq) + 1) 0 ofv _ _ af ag (by omega) (by omega) (fun k hk => by omega) ?_
      rw [← hz]
      simp only [wk, Nat.sub_zero]
  exact ⟨fun e => absurd (by rw [hg, hpar]; rfl) e, fun _ => hmain⟩
