/-! PURE: the map that the class works out -/
theorem up_s {f : Nat → Int32} {v : Int32} {i : Nat} (h : ∀ x, x < i → f x = v) : ∀ x, x < i + 1 → upd f i v x = v := fun x hx => by
  by_cases e : x = i
  · rw [e, pk_us]
  · rw [pk_un e]; exact h x (by omega)
theorem s_holds {mo mp ml mi : Nat → Int32} {c : Nat} (hc : c < 2 ^ 31) {p0 : Int32} {post : Int32 → Prop} (h0 : (∀ j, j < c → p0 ≠ nI j) → post 0) (h1 : ∀ j, j < c → p0 = nI j → post 1) : v_SectorMap_holds (nI c) mo mp ml mi p0 post := by
  refine ⟨fun h => h0 ?_, fun h => ⟨fun g => h0 ?_, fun g => ?_⟩⟩
  · intro j hj e
    rw [e] at h
    exact nI_pos (by omega) h
  · intro j hj e
    rw [e] at g
    exact nI_ge hj hc g
  · rcases pk_ix p0 hc with e | e | ⟨j, hj, e⟩
    · exact absurd e h
    · exact absurd e g
    · exact h1 j hj e
theorem s_forget {mk : Int32} {mo mp ml mi : Nat → Int32} {post : Int32 → (Nat → Int32) → (Nat → Int32) → Prop} (h : ∀ L I : Nat → Int32, (∀ x, x < 192 → L x = -1) → (∀ x, x < 192 → I x = 0) → post 0 L I) : v_SectorMap_forget mk mo mp ml mi post := by
  have K : ∀ (n i : Nat) (L I : Nat → Int32), i ≤ 192 → 192 < i + n → (∀ x, x < i → L x = -1) → (∀ x, x < i → I x = 0) → v_SectorMap_forget_7 0 post n (nI i) L I := by
    intro n
    induction n with
    | zero => intro i L I h1 h2; omega
    | succ n ih =>
      intro i L I h1 h2 hL hI
      show vb_SectorMap_forget_7 0 post (v_SectorMap_forget_7 0 post n) (nI i) L I
      refine pk_le 192 i (fun g => h L I (fun x hx => hL x (by omega)) (fun x hx => hI x (by omega))) (fun g => ⟨vp_in_nI g (by omega), vp_in_nI g (by omega), ?_⟩)
      rw [nI_clamp (by omega), nI_1]
      exact ih (i + 1) _ _ (by omega) (by omega) (up_s hL) (up_s hI)
  exact ⟨193, K 193 0 ml mi (by omega) (by omega) (fun x hx => by omega) (fun x hx => by omega)⟩
/-- the table of the primaries -/
def miR (mi : Nat → Int32) (P : Nat → Nat) (np : Nat) : Prop := ∀ x, x < 192 → mi x = if pr P np x = true then 1 else 0
theorem s_number {mk : Int32} {mo mp ml mi : Nat → Int32} {P : Nat → Nat} {np : Nat} (hmi : miR mi P np) (hml : ∀ x, x < 192 → ml x = -1) (hmk : mk = 0) {post : Int32 → (Nat → Int32) → (Nat → Int32) → (Nat → Int32) → Prop}
    (h : ∀ mo' mp' ml' : Nat → Int32, (∀ s, s < 192 → lg P np s = true → mo' (ct P np s) = nI s ∧ mp' (ct P np s) = nI s) → (∀ x, x < 192 → ml' x = if lg P np x = true then nI (ct P np x) else -1) → post (nI (ct P np 192)) mo' mp' ml') : v_SectorMap_numberSectors mk mo mp ml mi post := by
  have K : ∀ (n i : Nat) (mo mp ml : Nat → Int32), 16 ≤ i → i ≤ 192 → 192 < i + n → (∀ s, s < i → lg P np s = true → mo (ct P np s) = nI s ∧ mp (ct P np s) = nI s) → (∀ x, x < 192 → ml x = if lg P np x = true ∧ x < i then nI (ct P np x) else -1) → v_SectorMap_numberSectors_3 mi post n (nI i) (nI (ct P np i)) mo mp ml := by
    intro n
    induction n with
    | zero => intro i mo mp ml h0 h1 h2; omega
    | succ n ih =>
      intro i mo mp ml h0 h1 h2 hA hB
      show vb_SectorMap_numberSectors_3 mi post (v_SectorMap_numberSectors_3 mi post n) (nI i) (nI (ct P np i)) mo mp ml
      refine pk_le 192 i (fun g => ?_) (fun g => ?_)
      · have e : i = 192 := by omega
        subst e
        refine h mo mp ml hA (fun x hx => ?_)
        rw [hB x hx]
        by_cases q : lg P np x = true
        · rw [if_pos q, if_pos ⟨q, hx⟩]
        · rw [if_neg q, if_neg (fun z => q z.1)]
      · have skip : ¬ lg P np i = true → v_SectorMap_numberSectors_76 (v_SectorMap_numberSectors_3 mi post n) (nI i) (nI (ct P np i)) mo mp ml := by
          intro q
          show v_SectorMap_numberSectors_3 mi post n (nI i + 1) (nI (ct P np i)) mo mp ml
          have e : ct P np (i + 1) = ct P np i := by simp only [ct, if_neg q]; omega
          rw [nI_1, ← e]
          refine ih (i + 1) mo mp ml (by omega) (by omega) (by omega) (fun s hs q2 => ?_) (fun x hx => ?_)
          · by_cases w : s = i
            · rw [w] at q2; exact absurd q2 q
            · exact hA s (by omega) q2
          · rw [hB x hx]
            by_cases w : lg P np x = true ∧ x < i
            · rw [if_pos w, if_pos ⟨w.1, by omega⟩]
            · rw [if_neg w, if_neg]
              rintro ⟨w1, w2⟩
              by_cases w3 : x = i
              · rw [w3] at w1; exact q w1
              · exact w ⟨w1, by omega⟩
        refine s_isSpare g (fun q => ⟨fun z => absurd rfl z, fun _ => ?_⟩) (fun q1 q2 => ⟨fun _ => skip (fun z => ?_), fun z => absurd z (by decide)⟩)
        · refine ⟨vp_in_nI g (by omega), ?_⟩
          rw [nI_clamp (show i < 2 ^ 31 by omega), hmi i g]
          by_cases w : pr P np i = true
          · rw [if_pos w]
            exact ⟨fun _ => skip (fun z => by rw [((lg_iff P np i).mp z).2.2] at w; cases w), fun z => absurd z (by decide)⟩
          · rw [if_neg w]
            refine ⟨fun z => absurd rfl z, fun _ => ?_⟩
            have hl : lg P np i = true := (lg_iff P np i).mpr ⟨h0, by omega, by simpa using w⟩
            have hc := ct_143 P np g hl
            refine pk_le 143 (ct P np i) (fun z => absurd z (by omega)) (fun _ => ⟨vp_in_nI hc (by omega), vp_in_nI hc (by omega), vp_in_nI g (by omega), ?_⟩)
            show v_SectorMap_numberSectors_3 mi post n (nI i + 1) (nI (ct P np i) + 1) _ _ _
            have e : ct P np (i + 1) = ct P np i + 1 := by simp only [ct, if_pos hl]
            rw [nI_clamp (show ct P np i < 2 ^ 31 by omega), nI_1, nI_1, ← e]
            refine ih (i + 1) _ _ _ (by omega) (by omega) (by omega) (fun s hs q2 => ?_) (fun x hx => ?_)
            · by_cases w2 : s = i
              · rw [w2, pk_us, pk_us]; exact ⟨rfl, rfl⟩
              · have w3 := ct_lt P np (show s < i by omega) q2
                rw [pk_un (by omega), pk_un (by omega)]
                exact hA s (by omega) q2
            · by_cases w2 : x = i
              · rw [w2, pk_us, if_pos ⟨hl, by omega⟩]
              · rw [pk_un w2, hB x hx]
                by_cases w3 : lg P np x = true ∧ x < i
                · rw [if_pos w3, if_pos ⟨w3.1, by omega⟩]
                · rw [if_neg w3, if_neg (fun w4 => w3 ⟨w4.1, by omega⟩)]
        · have := ((lg_iff P np i).mp z).2.1
          omega
  refine ⟨177, ?_⟩
  rw [hmk]
  have := K 177 16 mo mp ml (by omega) (by omega) (by omega) (fun s hs q => by have := ((lg_iff P np s).mp q).1; omega) (fun x hx => by
    rw [hml x hx, if_neg]
    rintro ⟨q1, q2⟩
    have := ((lg_iff P np x).mp q1).1
    omega)
  rw [ct_16 P np 16 (by omega)] at this
  exact this
theorem pl_step (F S : Nat → Nat) (k s : Nat) : pl F S (k + 1) s = if F k = s then S k else pl F S k s := by
  by_cases e : F k = s
  · rw [if_pos e]; exact pl_some (by simp [lf, e])
  · rw [if_neg e]
    unfold pl
    simp only [lf, if_neg e]
/-- the map read: capacity, own sectors, places, numbers, primaries -/
def mapR (ver np nq : Nat) (P F S : Nat → Nat) (mk : Int32) (mo mp ml mi : Nat → Int32) : Prop :=
  mk = nI (if ver = 0 then 0 else ct P np 192) ∧ (∀ s, s < 192 → ver ≠ 0 → lg P np s = true → mo (ct P np s) = nI s ∧ mp (ct P np s) = nI (pl F S nq s)) ∧ miR mi P np ∧
  (∀ s, s < 192 → ver ≠ 0 → lg P np s = true → ml (pl F S nq s) = nI (ct P np s)) ∧ ∀ x, x < 192 → (∀ s, s < 192 → ver ≠ 0 → lg P np s = true → pl F S nq s ≠ x) → ml x = -1
theorem s_follow {mk : Int32} {mo mp ml mi : Nat → Int32} {v c p q : Int32} {f g : Nat → Int32} {ver np nq : Nat} {P F S : Nat → Nat} (r : lsR v p q f g ver np nq P F S) (ok : okL np nq P F S) (hver : ver < 2 ^ 31) (h00 : ver = 0 → np = 0) {post : Int32 → (Nat → Int32) → (Nat → Int32) → (Nat → Int32) → (Nat → Int32) → Prop}
    (h : ∀ (mk : Int32) (mo mp ml mi : Nat → Int32), mapR ver np nq P F S mk mo mp ml mi → post mk mo mp ml mi) : v_SectorMap_follow mk mo mp ml mi v c p q f g post := by
  obtain ⟨rfl, rfl, rfl, r1, r2⟩ := r
  obtain ⟨o1, o2, oP, oF, oS, iF, iS⟩ := id ok
  refine s_forget (fun L I hL hI => ⟨fun hz => ?_, fun hz => ?_⟩)
  · have hv0 : ver ≠ 0 := fun e => hz (by rw [e]; rfl)
    -- the pairs
    have R : ∀ (n k : Nat) (mo : Nat → Int32) (mi : Nat → Int32) (mp ml : Nat → Int32), miR mi P np → (∀ s, s < 192 → lg P np s = true → mo (ct P np s) = nI s) → k ≤ nq → nq < k + n → (∀ s, s < 192 → lg P np s = true → mp (ct P np s) = nI (pl F S k s)) → (∀ s, s < 192 → lg P np s = true → ml (pl F S k s) = nI (ct P np s)) → (∀ x, x < 192 → (∀ s, s < 192 → lg P np s = true → pl F S k s ≠ x) → ml x = -1) →
        v_SectorMap_follow_49 (nI (ct P np 192)) mo mi (nI ver) c (nI np) (nI nq) f g post n (nI (np + k)) mp ml := by
      intro n
      induction n with
      | zero => intro k mo mi mp ml a1 a2 h1 h2; omega
      | succ n ih =>
        intro k mo mi mp ml a1 a2 h1 h2 b1 b2 b3
        show vb_SectorMap_follow_49 (nI (ct P np 192)) mo mi (nI ver) c (nI np) (nI nq) f g post (v_SectorMap_follow_49 (nI (ct P np 192)) mo mi (nI ver) c (nI np) (nI nq) f g post n) (nI (np + k)) mp ml
        show (nI np + nI nq ≤ nI (np + k) → _) ∧ (¬ nI np + nI nq ≤ nI (np + k) → _)
        rw [nI_add]
        refine pk_le (np + nq) (np + k) (fun w => ?_) (fun w => ⟨vp_in_nI (by omega) (by omega), vp_in_nI (by omega) (by omega), ?_⟩)
        · have e : k = nq := by omega
          subst e
          refine h _ _ _ _ _ ⟨by rw [if_neg hv0], fun s hs _ hl => ⟨a2 s hs hl, b1 s hs hl⟩, a1, fun s hs _ hl => b2 s hs hl, fun x hx hn => b3 x hx (fun s hs hl => hn s hs hv0 hl)⟩
        · have hk : k < nq := by omega
          rw [nI_clamp (show np + k < 2 ^ 31 by omega), (r2 k hk).1, (r2 k hk).2]
          obtain ⟨f1, f2⟩ := oF k hk
          obtain ⟨s0, s1, s2, s3⟩ := oS k hk
          have f3 := ((lg_iff P np (F k)).mp f2).2.1
          have e0 : lf F k (F k) = none := lf_none.mpr (fun j hj e => by have := iF j k (by omega) hk e; omega)
          have e1 : pl F S k (F k) = F k := pl_none e0
          have e2 : ml (F k) = nI (ct P np (F k)) := by have := b2 (F k) f1 f2; rw [e1] at this; exact this
          have hc := ct_143 P np f1 f2
          show vp_in (nI (F k)) 192 ∧ _
          rw [nI_clamp (show F k < 2 ^ 31 by omega), e2, nI_clamp (show ct P np (F k) < 2 ^ 31 by omega), nI_clamp (show S k < 2 ^ 31 by omega), nI_1]
          refine ⟨vp_in_nI f1 (by omega), fun z => ?_, fun _ => ⟨vp_in_nI hc (by omega), vp_in_nI f1 (by omega), vp_in_nI s1 (by omega), ?_⟩⟩
          · have z2 := nI_pos (show ct P np (F k) < 2 ^ 31 by omega)
            rw [z] at z2
            exact absurd (by decide) z2
          · have far : ∀ s, s < 192 → lg P np s = true → s ≠ F k → pl F S k s ≠ S k ∧ pl F S k s ≠ F k := by
              intro s hs hl hne
              have l3 := ((lg_iff P np s).mp hl).2.1
              cases e3 : lf F k s with
              | none => rw [pl_none e3]; exact ⟨fun z => by omega, hne⟩
              | some j =>
                rw [pl_some e3]
                have j1 := lf_some e3
                have j2 := (oS j (by omega)).2.2.1
                exact ⟨fun z => by have := iS j k (by omega) hk z; omega, fun z => by omega⟩
            rw [Nat.add_assoc]
            refine ih (k + 1) mo mi _ _ a1 a2 (by omega) (by omega) (fun s hs hl => ?_) (fun s hs hl => ?_) (fun x hx hn => ?_)
            · rw [pl_step]
              by_cases w2 : F k = s
              · rw [if_pos w2, ← w2, pk_us]
              · rw [if_neg w2, pk_un (fun z => w2 (ct_inj P np hl f2 z).symm)]
                exact b1 s hs hl
            · rw [pl_step]
              by_cases w2 : F k = s
              · rw [if_pos w2, ← w2, pk_us]
              · obtain ⟨d1, d2⟩ := far s hs hl (fun z => w2 z.symm)
                rw [if_neg w2, pk_un d1, pk_un d2]
                exact b2 s hs hl
            · have n1 := hn (F k) f1 f2
              rw [pl_step, if_pos rfl] at n1
              rw [pk_un (fun z => n1 z.symm)]
              by_cases w2 : x = F k
              · rw [w2, pk_us]
              · rw [pk_un w2]
                refine b3 x hx (fun s hs hl => ?_)
                by_cases w3 : F k = s
                · rw [← w3, e1]; exact fun z => w2 z.symm
                · have := hn s hs hl
                  rw [pl_step, if_neg w3] at this
                  exact this
    -- the primaries
    have Q : ∀ (n k : Nat) (mi : Nat → Int32), k ≤ np → np < k + n → miR mi P k → v_SectorMap_follow_14 0 mo mp L (nI ver) c (nI np) (nI nq) f g post n (nI k) mi := by
      intro n
      induction n with
      | zero => intro k mi h1 h2; omega
      | succ n ih =>
        intro k mi h1 h2 a1
        show vb_SectorMap_follow_14 0 mo mp L (nI ver) c (nI np) (nI nq) f g post (v_SectorMap_follow_14 0 mo mp L (nI ver) c (nI np) (nI nq) f g post n) (nI k) mi
        refine pk_le np k (fun w => ?_) (fun w => ⟨vp_in_nI (by omega) (by omega), ?_⟩)
        · have e : k = np := by omega
          subst e
          refine s_number a1 hL rfl (fun mo' mp' ml' c1 c2 => ⟨nq + 1, ?_⟩)
          refine R (nq + 1) 0 mo' mi mp' ml' a1 (fun s hs hl => (c1 s hs hl).1) (by omega) (by omega) (fun s hs hl => (c1 s hs hl).2) (fun s hs hl => ?_) (fun x hx hn => ?_)
          · show ml' s = _
            rw [c2 s hs, if_pos hl]
          · rw [c2 x hx, if_neg (fun z => hn x hx z rfl)]
        · obtain ⟨p1, p2⟩ := oP k w
          rw [nI_clamp (show k < 2 ^ 31 by omega), r1 k w, nI_clamp (show P k < 2 ^ 31 by omega), nI_1]
          refine ⟨vp_in_nI p2 (by omega), ih (k + 1) _ (by omega) (by omega) (fun x hx => ?_)⟩
          show upd mi (P k) 1 x = _
          simp only [pr, Bool.or_eq_true, decide_eq_true_eq]
          by_cases e : x = P k
          · rw [e, pk_us, if_pos (Or.inr rfl)]
          · rw [pk_un e, a1 x hx]
            by_cases e2 : pr P k x = true
            · rw [if_pos e2, if_pos (Or.inl e2)]
            · rw [if_neg e2, if_neg]
              rintro (z | z)
              · exact e2 z
              · exact e z.symm
    exact ⟨np + 1, Q (np + 1) 0 I (by omega) (by omega) (fun x hx => by rw [hI x hx]; simp [pr])⟩
  · have hv0 : ver = 0 := by
      rw [show (0 : Int32) = nI 0 from rfl, nI_eq hver (by omega)] at hz
      exact hz
    have hnp := h00 hv0
    subst hnp
    refine h _ _ _ _ _ ⟨by rw [if_pos hv0]; rfl, fun s _ hn => absurd hv0 hn, fun x hx => by rw [hI x hx]; simp [pr], fun s _ hn => absurd hv0 hn, fun x hx _ => hL x hx⟩
