/-! 07: recover -/
variable {ca el ge gk gt gp we wt ws wp sd cr bu vk rs : Int32} {lg rc : Nat → Int32}
/-! zeros behind p -/
def sa_zr : Nat → Nat → (Nat → Int32) → (Nat → Int32)
  | 0, _, L => L
  | n + 1, q, L => sa_zr n (q + 1) (upd L q (vp_nar .byte 0))
theorem sa_xzt {post : SX → Prop} {C : Nat} (hC : C ≤ 256) : ∀ d q : Nat, q + d = C → ∀ L : Nat → Int32, post ((nI C), el, ge, gk, gt, gp, we, wt, ws, wp, sd, cr, bu, vk, rs, (sa_zr d q L)) → wX_zeroTail_5 post (nI C) el ge gk gt gp we wt ws wp sd cr bu vk rs (d + 1) (nI q) L := by
  intro d
  induction d with
  | zero =>
    intro q hq L hp
    exact br_t (nI_le (by omega) (by omega)) hp
  | succ d ih =>
    intro q hq L hp
    refine br_f (nI_ge (by omega) (by omega)) ?_
    refine And.intro (pk_in q 256 (by omega) rfl) ?_
    refine nm_r (congrArg (fun x => upd L x (vp_nar .byte 0)) (nI_clamp (n := q) (by omega))) ?_
    refine nm_r (nI_1 q) ?_
    exact ih (q + 1) (by omega) _ hp
theorem sa_yz2 {post : Int32 → SY → Prop} {x3 x4 x5 : Int32} {P C : Nat} (hC : C ≤ 256) (F : (Nat → Int32) → Prop) (hF : ∀ L, F L → ∀ n, wY_recover_325 post (nI P) x3 x4 x5 (nI C) el ge gk gt gp we wt ws wp bu vk rs sd cr (n + 1) (nI C) L rc) : ∀ d q : Nat, q + d = C → P ≤ q → ∀ L : Nat → Int32, F (sa_zr d q L) → wY_recover_325 post (nI P) x3 x4 x5 (nI C) el ge gk gt gp we wt ws wp bu vk rs sd cr (d + 1) (nI q) L rc := by
  intro d
  induction d with
  | zero =>
    intro q hq hP L hp
    have e : q = C := by omega
    subst e
    exact hF L hp 0
  | succ d ih =>
    intro q hq hP L hp
    refine br_f (nI_ge (by omega) (by omega)) ?_
    refine br_f (nI_nlt (a := q) (b := P) hP (by omega)) ?_
    refine And.intro (pk_in q 256 (by omega) rfl) ?_
    refine nm_r (congrArg (fun x => upd L x (vp_nar .byte 0)) (nI_clamp (n := q) (by omega))) ?_
    refine nm_r (nI_1 q) ?_
    exact ih (q + 1) (by omega) (by omega) _ hp
theorem sa_yz1 {post : Int32 → SY → Prop} {x3 x4 x5 : Int32} {P C : Nat} (hC : C ≤ 256) (hP : P ≤ C) (F : (Nat → Int32) → Prop) (hF : ∀ L, F L → ∀ n, wY_recover_325 post (nI P) x3 x4 x5 (nI C) el ge gk gt gp we wt ws wp bu vk rs sd cr (n + 1) (nI C) L rc) (hp : F (sa_zr (C - P) P lg)) : ∀ d q : Nat, q + d = C → q ≤ P → wY_recover_325 post (nI P) x3 x4 x5 (nI C) el ge gk gt gp we wt ws wp bu vk rs sd cr (d + 1) (nI q) lg rc := by
  intro d
  induction d with
  | zero =>
    intro q hq hqP
    have e1 : q = C := by omega
    have e2 : P = C := by omega
    subst e1
    subst e2
    rw [Nat.sub_self] at hp
    exact hF lg hp 0
  | succ d ih =>
    intro q hq hqP
    by_cases c : q < P
    · refine br_f (nI_ge (by omega) (by omega)) ?_
      refine br_t (nI_lt c (by omega)) ?_
      refine nm_r (nI_1 q) ?_
      exact ih (q + 1) (by omega) (by omega)
    · have e : q = P := by omega
      have e2 : d + 1 = C - P := by omega
      rw [← e2, ← e] at hp
      exact sa_yz2 hC F hF (d + 1) q hq (by omega) lg hp
/-! the reference's judgement of one record -/
theorem sa_y210 {post : Int32 → SY → Prop} {J : Int32 → Int32 → Int32 → Int32 → Int32 → Int32 → Int32 → Int32 → Int32 → Int32 → Prop} {i : Nat} {x2 x3 x4 x5 x6 b0 b1 b2 b3 f : Int32} (hi : 8 * i + 8 ≤ 256) (h1 : sa_st lg (8 * i) = sa_tag x2 x3 b0 b1 b2 b3 → wY_recover_239 post J (nI (8 * i)) x2 x3 x4 x5 x6 b0 f (sa_st lg (8 * i)) ca el ge gk gt gp we wt ws wp bu vk rs sd cr lg rc) (h0 : ¬ sa_st lg (8 * i) = sa_tag x2 x3 b0 b1 b2 b3 → wY_recover_239 post J (nI (8 * i)) x2 x3 x4 x5 x6 b0 0 (sa_st lg (8 * i)) ca el ge gk gt gp we wt ws wp bu vk rs sd cr lg rc) : wY_recover_210 post J (nI (8 * i)) x2 x3 x4 x5 x6 b0 b1 b2 b3 f ca el ge gk gt gp we wt ws wp bu vk rs sd cr lg rc := by
  unfold wY_recover_210
  refine sa_ystag hi ?_
  refine sa_ytag ?_
  exact br_c h1 h0
theorem sa_y182z {post : Int32 → SY → Prop} {J : Int32 → Int32 → Int32 → Int32 → Int32 → Int32 → Int32 → Int32 → Int32 → Int32 → Prop} {i : Nat} {x2 x3 x4 x5 x6 b0 b1 b2 b3 : Int32} (hi : 8 * i + 8 ≤ 256) (h0 : wY_recover_239 post J (nI (8 * i)) x2 x3 x4 x5 x6 b0 0 (sa_st lg (8 * i)) ca el ge gk gt gp we wt ws wp bu vk rs sd cr lg rc) : wY_recover_182 post J (nI (8 * i)) x2 x3 x4 x5 x6 b0 b1 b2 b3 0 ca el ge gk gt gp we wt ws wp bu vk rs sd cr lg rc := by
  have y : wY_recover_210 post J (nI (8 * i)) x2 x3 x4 x5 x6 b0 b1 b2 b3 0 ca el ge gk gt gp we wt ws wp bu vk rs sd cr lg rc := sa_y210 hi (fun _ => h0) (fun _ => h0)
  unfold wY_recover_182
  exact br_c (fun _ => br_c (fun _ => y) (fun _ => y)) (fun _ => y)
theorem sa_y166z {post : Int32 → SY → Prop} {J : Int32 → Int32 → Int32 → Int32 → Int32 → Int32 → Int32 → Int32 → Int32 → Int32 → Prop} {i : Nat} {x2 x3 x4 x5 x6 b0 b1 b2 b3 : Int32} (hi : 8 * i + 8 ≤ 256) (h0 : wY_recover_239 post J (nI (8 * i)) x2 x3 x4 x5 x6 b0 0 (sa_st lg (8 * i)) ca el ge gk gt gp we wt ws wp bu vk rs sd cr lg rc) : wY_recover_166 post J (nI (8 * i)) x2 x3 x4 x5 x6 b0 b1 b2 b3 0 ca el ge gk gt gp we wt ws wp bu vk rs sd cr lg rc := by
  unfold wY_recover_166
  exact And.intro sa_80 (br_c (fun _ => sa_y182z hi h0) (fun _ => sa_y182z hi h0))
theorem sa_y131z {post : Int32 → SY → Prop} {J : Int32 → Int32 → Int32 → Int32 → Int32 → Int32 → Int32 → Int32 → Int32 → Int32 → Prop} {i : Nat} {x2 x3 x4 x5 x6 b0 b1 b2 b3 : Int32} (hi : 8 * i + 8 ≤ 256) (h0 : wY_recover_239 post J (nI (8 * i)) x2 x3 x4 x5 x6 b0 0 (sa_st lg (8 * i)) ca el ge gk gt gp we wt ws wp bu vk rs sd cr lg rc) : wY_recover_131 post J (nI (8 * i)) x2 x3 x4 x5 x6 b0 b1 b2 b3 0 ca el ge gk gt gp we wt ws wp bu vk rs sd cr lg rc := by
  unfold wY_recover_131 wY_recover_146 wY_recover_160
  exact br_c (fun _ => br_c (fun _ => br_c (fun _ => sa_y166z hi h0) (fun _ => sa_y166z hi h0)) (fun _ => br_c (fun _ => sa_y166z hi h0) (fun _ => sa_y166z hi h0))) (fun _ => br_c (fun _ => br_c (fun _ => sa_y166z hi h0) (fun _ => sa_y166z hi h0)) (fun _ => br_c (fun _ => sa_y166z hi h0) (fun _ => sa_y166z hi h0)))
theorem sa_y131 {post : Int32 → SY → Prop} {J : Int32 → Int32 → Int32 → Int32 → Int32 → Int32 → Int32 → Int32 → Int32 → Int32 → Prop} {i : Nat} {x2 x3 x4 x5 x6 b0 b1 b2 b3 : Int32} (hi : 8 * i + 8 ≤ 256) (h1 : sa_ck (nI i &&& 255) x5 el x4 b0 b1 b2 b3 (sa_T (sa_st lg (8 * i)) (sa_tag x2 x3 b0 b1 b2 b3)) = 0 → wY_recover_239 post J (nI (8 * i)) x2 x3 x4 x5 x6 b0 1 (sa_st lg (8 * i)) ca el ge gk gt gp we wt ws wp bu vk rs sd cr lg rc) (h0 : ¬ sa_ck (nI i &&& 255) x5 el x4 b0 b1 b2 b3 (sa_T (sa_st lg (8 * i)) (sa_tag x2 x3 b0 b1 b2 b3)) = 0 → wY_recover_239 post J (nI (8 * i)) x2 x3 x4 x5 x6 b0 0 (sa_st lg (8 * i)) ca el ge gk gt gp we wt ws wp bu vk rs sd cr lg rc) : (b0 = 0 → wY_recover_131 post J (nI (8 * i)) x2 x3 x4 x5 x6 b0 b1 b2 b3 0 ca el ge gk gt gp we wt ws wp bu vk rs sd cr lg rc) ∧ (¬ b0 = 0 → wY_recover_131 post J (nI (8 * i)) x2 x3 x4 x5 x6 b0 b1 b2 b3 1 ca el ge gk gt gp we wt ws wp bu vk rs sd cr lg rc) := by
  have d8 : nI (8 * i) / 8 = nI i := sa_d8 (by omega)
  unfold sa_ck sa_T at h1 h0
  refine br_c (fun c2 => ?_) (fun c2 => ?_)
  · refine sa_y131z hi (h0 ?_)
    rw [if_pos c2]
    decide
  · rw [if_neg c2] at h1 h0
    unfold wY_recover_131
    refine br_c (fun c3 => ?_) (fun c3 => ?_)
    · unfold wY_recover_146
      refine br_c (fun c1 => ?_) (fun c1 => ?_)
      · rw [if_pos c1, if_pos c3] at h1 h0
        unfold wY_recover_160
        refine br_t rfl ?_
        unfold wY_recover_166
        rw [d8]
        refine And.intro sa_80 (br_c (fun c4 => ?_) (fun c4 => ?_))
        · rw [if_pos c4] at h1 h0
          unfold wY_recover_182
          refine br_t c3 (br_c (fun c5 => ?_) (fun c5 => ?_))
          · rw [if_pos c5] at h1 h0
            refine sa_y210 hi (fun c6 => h1 ?_) (fun c6 => h0 ?_)
            · rw [if_pos c6]
            · rw [if_neg c6]
              decide
          · rw [if_neg c5] at h0
            have y := h0 (by decide)
            exact sa_y210 hi (fun _ => y) (fun _ => y)
        · rw [if_neg c4] at h0
          exact sa_y182z hi (h0 (by decide))
      · rw [if_neg c1, if_pos c3] at h0
        unfold wY_recover_160
        refine br_f sa_10 ?_
        exact sa_y166z hi (h0 (by decide))
    · unfold wY_recover_146
      refine br_c (fun c1 => ?_) (fun c1 => ?_)
      · rw [if_pos c1, if_neg c3] at h0
        unfold wY_recover_160
        refine br_f sa_01 ?_
        exact sa_y166z hi (h0 (by decide))
      · rw [if_neg c1, if_neg c3] at h1 h0
        unfold wY_recover_160
        refine br_t rfl ?_
        unfold wY_recover_166
        rw [d8]
        refine And.intro sa_80 (br_c (fun c4 => ?_) (fun c4 => ?_))
        · rw [if_pos c4] at h1 h0
          unfold wY_recover_182
          refine br_f c3 ?_
          refine sa_y210 hi (fun c6 => h1 ?_) (fun c6 => h0 ?_)
          · rw [if_pos c6]
          · rw [if_neg c6]
            decide
        · rw [if_neg c4] at h0
          exact sa_y182z hi (h0 (by decide))
/-! the scan, both sides -/
theorem sa_ybod {post : Int32 → SY → Prop} {i c n R : Nat} (hi : i < R) (hR : R ≤ 32) (hc : c < 40) {k pv ep s : Int32} (h1 : sa_rf lg el i s ep k pv = 0 → wY_recover_239 post (wY_recover_42 post (nI (8 * R)) el we wt ws wp bu vk rs sd cr lg rc n) (nI (8 * i)) k pv ep s (nI c) (lg (8 * i) &&& 255) 1 (sa_st lg (8 * i)) (nI (8 * R)) el ge gk gt gp we wt ws wp bu vk rs sd cr lg rc) (h0 : ¬ sa_rf lg el i s ep k pv = 0 → wY_recover_239 post (wY_recover_42 post (nI (8 * R)) el we wt ws wp bu vk rs sd cr lg rc n) (nI (8 * i)) k pv ep s (nI c) (lg (8 * i) &&& 255) 0 (sa_st lg (8 * i)) (nI (8 * R)) el ge gk gt gp we wt ws wp bu vk rs sd cr lg rc) : wY_recover_42 post (nI (8 * R)) el we wt ws wp bu vk rs sd cr lg rc (n + 1) (nI (8 * i)) k pv ep s (nI c) ge gk gt gp := by
  refine br_f (nI_ge (a := c) (b := 40) hc (by decide)) ?_
  refine br_f (nI_pos (n := 8 * i) (by omega)) ?_
  refine br_t ((sa_le8 (a := 8 * i) (b := 8 * R) (by omega) (by omega)).mpr (by omega)) ?_
  refine And.intro (pk_in (8 * i) 256 (by omega) rfl) ?_
  refine nm_r (sa_by (q := 8 * i) rfl (by omega)) ?_
  refine And.intro (pk_in (8 * i + 1) 256 (by omega) (nI_1 (8 * i))) ?_
  refine nm_r (sa_by (nI_1 (8 * i)) (by omega)) ?_
  refine And.intro (pk_in (8 * i + 2) 256 (by omega) (nI_add (8 * i) 2)) ?_
  refine nm_r (sa_by (nI_add (8 * i) 2) (by omega)) ?_
  refine And.intro (pk_in (8 * i + 3) 256 (by omega) (nI_add (8 * i) 3)) ?_
  refine nm_r (sa_by (nI_add (8 * i) 3) (by omega)) ?_
  exact sa_y131 (by omega) h1 h0
theorem sa_acc {R : Nat} {we0 wt0 ws0 wp0 : Int32} (hR : R ≤ 32) : ∀ d i : Nat, i + d = R → ∀ c : Nat, c + d < 40 → ∀ ge gk gt gp wt ws wp : Int32, (∃ h, h ≤ R ∧ ge = nI (8 * h)) → ∃ (j : Nat) (ge' gk' gt' gp' wt' ws' wp' : Int32), j ≤ R ∧ (∃ h, h ≤ R ∧ ge' = nI (8 * h)) ∧ (∀ post : SX → Prop, post ((nI (8 * R)), el, ge', gk', gt', gp', (nI (8 * j)), wt', ws', wp', sd, cr, bu, vk, rs, lg) → wX_acceptStoredRecords_45 post (nI R) (d + 1) (nI i) (nI (8 * R)) el ge gk gt gp (nI (8 * i)) wt ws wp sd cr bu vk rs lg) ∧ (∀ post : Int32 → SY → Prop, (∃ n, wY_recover_325 post (nI (8 * j)) wt' wp' ws' (nI (8 * R)) el ge' gk' gt' gp' we0 wt0 ws0 wp0 bu vk rs sd cr n 0 lg rc) → wY_recover_42 post (nI (8 * R)) el we0 wt0 ws0 wp0 bu vk rs sd cr lg rc (d + 1) (nI (8 * i)) gk wt wp ws (nI c) ge gk gt gp) := by
  intro d
  induction d with
  | zero =>
    intro i hd c hc ge gk gt gp wt ws wp hh
    refine ⟨i, ge, gk, gt, gp, wt, ws, wp, by omega, hh, fun post hp => ?_, fun post hp => ?_⟩
    · exact br_t (nI_le (by omega) (by omega)) hp
    · refine br_f (nI_ge (a := c) (b := 40) (by omega) (by decide)) ?_
      refine br_f (nI_pos (n := 8 * i) (by omega)) ?_
      exact br_f (fun z => absurd ((sa_le8 (a := 8 * i) (b := 8 * R) (by omega) (by omega)).mp z) (by omega)) hp
  | succ d ih =>
    intro i hd c hc ge gk gt gp wt ws wp hh
    have hi : 8 * i + 8 ≤ 256 := by omega
    have hl : i < R := by omega
    have cX : ¬ nI R ≤ nI i := nI_ge hl (by omega)
    have e8 : 8 * (nI i + 1) = nI (8 * (i + 1)) := by
      rw [nI_1]
      exact sa_8m (i + 1)
    have p8 : nI (8 * i) + 8 = nI (8 * (i + 1)) := nI_add (8 * i) 8
    by_cases hf : sa_rf lg el i ws wp gk wt = 0
    · have hb : ws = el ↔ lg (8 * i) &&& 255 = 255 := sa_ck0 hf
      by_cases hs : ws = el
      · obtain ⟨j, ge', gk', gt', gp', wt', ws', wp', j1, j2, hX, hY⟩ := ih (i + 1) (by omega) (c + 1) (by omega) (nI (8 * (i + 1))) (sa_rat gk) (sa_st lg (8 * i)) (wp + 1) (sa_st lg (8 * i)) 0 (wp + 1) ⟨i + 1, by omega, rfl⟩
        refine ⟨j, ge', gk', gt', gp', wt', ws', wp', j1, j2, fun post hp => ?_, fun post hp => ?_⟩
        · refine br_f cX ?_
          refine sa_xrf hi ?_
          rw [hf]
          refine br_t rfl ?_
          refine nm_r e8 ?_
          refine sa_xstag hi ?_
          refine br_t hs ?_
          refine sa_xclose ?_
          refine nm_r (nI_1 i) ?_
          exact hX post hp
        · refine sa_ybod hl hR (by omega) (fun _ => ?_) (fun z => absurd hf z)
          unfold wY_recover_239
          refine br_f sa_10 (br_t (hb.mp hs) ?_)
          refine nm_r p8 ?_
          refine sa_yrat ?_
          refine nm_e ?_
          refine nm_e ?_
          refine nm_r p8 ?_
          refine nm_r (nI_1 c) ?_
          exact hY post hp
      · obtain ⟨j, ge', gk', gt', gp', wt', ws', wp', j1, j2, hX, hY⟩ := ih (i + 1) (by omega) (c + 1) (by omega) ge gk gt gp (sa_st lg (8 * i)) (ws + 1) wp hh
        refine ⟨j, ge', gk', gt', gp', wt', ws', wp', j1, j2, fun post hp => ?_, fun post hp => ?_⟩
        · refine br_f cX ?_
          refine sa_xrf hi ?_
          rw [hf]
          refine br_t rfl ?_
          refine nm_r e8 ?_
          refine sa_xstag hi ?_
          refine br_f hs ?_
          refine nm_e ?_
          refine nm_r (nI_1 i) ?_
          exact hX post hp
        · refine sa_ybod hl hR (by omega) (fun _ => ?_) (fun z => absurd hf z)
          unfold wY_recover_239
          refine br_f sa_10 (br_f (fun z => hs (hb.mpr z)) ?_)
          refine nm_e ?_
          refine nm_r p8 ?_
          refine nm_r (nI_1 c) ?_
          exact hY post hp
    · refine ⟨i, ge, gk, gt, gp, wt, ws, wp, by omega, hh, fun post hp => ?_, fun post hp => ?_⟩
      · refine br_f cX ?_
        refine sa_xrf hi ?_
        exact br_f hf hp
      · refine sa_ybod hl hR (by omega) (fun z => absurd z hf) (fun _ => ?_)
        unfold wY_recover_239
        exact br_t rfl hp
theorem i_vc_recover {k : Nat} {u : SX} {v : SY} (I : i_Rel k u v) (hk : k + 3 ≤ 1538) : wpX_recover (fun r u' => wpY_recover (fun r' v' => r' = r ∧ i_Rel (k + 3) u' v') v) u := by
  obtain ⟨ca, el, ge, gk, gt, gp, we, wt, ws, wp, sd, cr, bu, vk, rs, lg, rc, rfl, rfl, J⟩ := I
  obtain ⟨R, e, h, w, a1, a2, a3, a4, b1, b2, b3, b4, b5, b6⟩ := id J
  unfold wpX_recover
  by_cases c1 : cr = 0
  · refine br_t c1 ?_
    unfold wpY_recover
    exact br_t c1 (And.intro rfl (sa_mk J))
  subst a1 a3
  obtain ⟨j, ge', gk', gt', gp', wt', ws', wp', j1, ⟨h', h1, eh⟩, hX, hY⟩ := sa_acc (R := R) (we0 := we) (wt0 := wt) (ws0 := ws) (wp0 := wp) (el := el) (sd := sd) (cr := cr) (bu := -1) (vk := vk) (rs := rs) (lg := lg) (rc := rc) b2 (R - h) h (by omega) 0 (by omega) (nI (8 * h)) gk gt gp gt 0 gp ⟨h, b5, rfl⟩
  have J1 : sa_I (nI (8 * R)) el ge' (nI (8 * j)) := ⟨R, e, h', j, rfl, a2, eh, rfl, b1, b2, b3, b4, h1, j1⟩
  refine br_f c1 ?_
  unfold wpX_acceptStoredRecords
  refine And.intro sa_80 ?_
  refine nm_r (sa_d8 (by omega)) ?_
  refine And.intro sa_80 ?_
  refine nm_r (sa_d8 (by omega)) ?_
  refine Exists.intro (R - h + 1) (hX _ ?_)
  unfold wpX_zeroTail
  refine Exists.intro (8 * R - 8 * j + 1) (sa_xzt (by omega) (8 * R - 8 * j) (8 * j) (by omega) lg ?_)
  by_cases c2 : ws' = el
  · by_cases c3 : R < j + 1
    · have d3 : nI (8 * R) < nI (8 * j) + 8 := (sa_lt8 (by omega) (by omega)).mpr (by omega)
      refine br_t c2 (br_t d3 ?_)
      refine And.intro sa_80 ?_
      unfold wpY_recover
      refine br_f c1 ?_
      refine Exists.intro (R - h + 1) (hY _ ?_)
      refine Exists.intro (8 * R + 1) ?_
      refine sa_yz1 (P := 8 * j) (C := 8 * R) (by omega) (by omega) (fun L => L = sa_zr (8 * R - 8 * j) (8 * j) lg) ?_ rfl (8 * R) 0 (by omega) (by omega)
      intro L eL n
      have eL' : L = sa_zr (8 * R - 8 * j) (8 * j) lg := eL
      rw [eL']
      refine br_t (nI_le (Nat.le_refl _) (by omega)) ?_
      refine br_t c2 (br_t d3 ?_)
      exact And.intro sa_80 (And.intro rfl (sa_mk J1))
    · have d3 : ¬ nI (8 * R) < nI (8 * j) + 8 := fun z => absurd ((sa_lt8 (by omega) (by omega)).mp z) (by omega)
      have J2 : sa_I (nI (8 * R)) el (nI (8 * j + 8)) (nI (8 * j + 8)) := ⟨R, e, j + 1, j + 1, rfl, a2, congrArg nI (by omega), congrArg nI (by omega), b1, b2, b3, b4, by omega, by omega⟩
      refine br_t c2 (br_f d3 ?_)
      refine sa_xcomp (w := j) (Z := fun _ _ => False) (K := fun b L => b = -1 ∧ L = sa_wa (sa_li j 255 (wp' &&& 65535) (sa_tg gk' wt' 255 (nI (8 * j)) (wp' &&& 65535))) (sa_zr (8 * R - 8 * j) (8 * j) lg)) (by omega) rfl rfl (fun _ _ z => False.elim z) (fun _ _ z => False.elim z) ?_ (sa_Wm ⟨fun z => absurd z (by decide), fun _ => ⟨sa_dec_m1, rfl⟩⟩)
      intro b L z
      obtain ⟨z1, z2⟩ : b = -1 ∧ L = sa_wa (sa_li j 255 (wp' &&& 65535) (sa_tg gk' wt' 255 (nI (8 * j)) (wp' &&& 65535))) (sa_zr (8 * R - 8 * j) (8 * j) lg) := z
      rw [z1, z2]
      refine And.intro sa_80 ?_
      unfold wpY_recover
      refine br_f c1 ?_
      refine Exists.intro (R - h + 1) (hY _ ?_)
      refine Exists.intro (8 * R + 1) ?_
      refine sa_yz1 (P := 8 * j) (C := 8 * R) (by omega) (by omega) (fun L => L = sa_zr (8 * R - 8 * j) (8 * j) lg) ?_ rfl (8 * R) 0 (by omega) (by omega)
      intro L eL n
      have eL' : L = sa_zr (8 * R - 8 * j) (8 * j) lg := eL
      rw [eL']
      refine br_t (nI_le (Nat.le_refl _) (by omega)) ?_
      refine br_t c2 (br_f d3 ?_)
      refine sa_ycomp0 (w := j) (R := R) (by omega) b2 rfl rfl rfl ?_
      intro rc'
      exact And.intro sa_80 (And.intro rfl (sa_mk J2))
  · refine br_f c2 ?_
    refine And.intro sa_80 ?_
    unfold wpY_recover
    refine br_f c1 ?_
    refine Exists.intro (R - h + 1) (hY _ ?_)
    refine Exists.intro (8 * R + 1) ?_
    refine sa_yz1 (P := 8 * j) (C := 8 * R) (by omega) (by omega) (fun L => L = sa_zr (8 * R - 8 * j) (8 * j) lg) ?_ rfl (8 * R) 0 (by omega) (by omega)
    intro L eL n
    have eL' : L = sa_zr (8 * R - 8 * j) (8 * j) lg := eL
    rw [eL']
    refine br_t (nI_le (Nat.le_refl _) (by omega)) ?_
    refine br_f c2 ?_
    exact And.intro sa_80 (And.intro rfl (sa_mk J1))
