/-! 06: one record judged; verify -/
variable {ca el ge gk gt gp we wt ws wp sd cr bu vk rs : Int32} {lg rc : Nat → Int32}
def sa_T (a b : Int32) : Int32 := if a = b then 0 else 5
def sa_ck (x sl E ep b0 b1 b2 b3 T : Int32) : Int32 :=
  if b0 = 0 then 1 else
  if sl = E then (if b0 = 255 then (if b1 = x then (if b2 * 256 + b3 = ep &&& 65535 then T else 4) else 3) else 2)
  else (if b0 = 255 then 2 else (if b1 = x then T else 3))
def sa_rf (L : Nat → Int32) (E : Int32) (i : Nat) (sl ep k pv : Int32) : Int32 :=
  sa_ck (nI i &&& 255) sl E ep (L (8 * i) &&& 255) (L (8 * i + 1) &&& 255) (L (8 * i + 2) &&& 255) (L (8 * i + 3) &&& 255) (sa_T (sa_st L (8 * i)) (sa_tag k pv (L (8 * i) &&& 255) (L (8 * i + 1) &&& 255) (L (8 * i + 2) &&& 255) (L (8 * i + 3) &&& 255)))
theorem sa_ck0 {x sl E ep b0 b1 b2 b3 T : Int32} (h : sa_ck x sl E ep b0 b1 b2 b3 T = 0) : sl = E ↔ b0 = 255 := by
  unfold sa_ck at h
  by_cases c0 : b0 = 0
  · rw [if_pos c0] at h
    exact absurd h (by decide)
  · rw [if_neg c0] at h
    by_cases c1 : sl = E
    · rw [if_pos c1] at h
      by_cases c2 : b0 = 255
      · exact ⟨fun _ => c2, fun _ => c1⟩
      · rw [if_neg c2] at h
        exact absurd h (by decide)
    · rw [if_neg c1] at h
      by_cases c2 : b0 = 255
      · rw [if_pos c2] at h
        exact absurd h (by decide)
      · exact ⟨fun y => absurd y c1, fun y => absurd y c2⟩
theorem sa_x121 {post : Int32 → Prop} {i : Nat} {x4 x5 x7 x8 x9 x10 : Int32} (hi : 8 * i + 8 ≤ 256) (h : post (sa_T (sa_st lg (8 * i)) (sa_tag x4 x5 x7 x8 x9 x10))) : wX_recordFault_121 post (nI i) x4 x5 x7 x8 x9 x10 ca el ge gk gt gp we wt ws wp sd cr bu vk rs lg := by
  unfold wX_recordFault_121
  refine sa_xtag ?_
  refine sa_xstag hi ?_
  unfold sa_T at h
  refine br_c (fun y => ?_) (fun y => ?_)
  · rw [if_pos y] at h
    exact h
  · rw [if_neg y] at h
    exact h
theorem sa_xck {post : Int32 → Prop} {i : Nat} {sl ep k pv b0 b1 b2 b3 : Int32} (hi : 8 * i + 8 ≤ 256) (h : post (sa_ck (nI i &&& 255) sl el ep b0 b1 b2 b3 (sa_T (sa_st lg (8 * i)) (sa_tag k pv b0 b1 b2 b3)))) : (sl = el → wX_recordFault_57 post (nI i) ep k pv b0 b1 b2 b3 1 ca el ge gk gt gp we wt ws wp sd cr bu vk rs lg) ∧ (¬ sl = el → wX_recordFault_57 post (nI i) ep k pv b0 b1 b2 b3 0 ca el ge gk gt gp we wt ws wp sd cr bu vk rs lg) := by
  unfold sa_ck at h
  unfold wX_recordFault_57 wX_recordFault_81
  refine br_c (fun c1 => ?_) (fun c1 => ?_)
  · refine br_c (fun c2 => ?_) (fun c2 => ?_)
    · rw [if_pos c2] at h
      exact h
    · rw [if_neg c2, if_pos c1] at h
      refine br_c (fun c3 => ?_) (fun c3 => ?_)
      · rw [if_pos c3] at h
        refine br_t rfl ?_
        refine br_c (fun c4 => ?_) (fun c4 => ?_)
        · rw [if_pos c4] at h
          refine br_f sa_10 ?_
          refine br_c (fun c5 => ?_) (fun c5 => ?_)
          · rw [if_pos c5] at h
            exact sa_x121 hi h
          · rw [if_neg c5] at h
            exact h
        · rw [if_neg c4] at h
          exact h
      · rw [if_neg c3] at h
        exact br_f sa_10 h
  · refine br_c (fun c2 => ?_) (fun c2 => ?_)
    · rw [if_pos c2] at h
      exact h
    · rw [if_neg c2, if_neg c1] at h
      refine br_c (fun c3 => ?_) (fun c3 => ?_)
      · rw [if_pos c3] at h
        exact br_f sa_01 h
      · rw [if_neg c3] at h
        refine br_t rfl ?_
        refine br_c (fun c4 => ?_) (fun c4 => ?_)
        · rw [if_pos c4] at h
          exact br_t rfl (sa_x121 hi h)
        · rw [if_neg c4] at h
          exact h
theorem sa_xrf {post : Int32 → Prop} {i : Nat} {sl ep k pv : Int32} (hi : 8 * i + 8 ≤ 256) (h : post (sa_rf lg el i sl ep k pv)) : wpX_recordFault post (ca, el, ge, gk, gt, gp, we, wt, ws, wp, sd, cr, bu, vk, rs, lg) (nI i) sl ep k pv := by
  unfold wpX_recordFault
  refine nm_r (sa_8m i) ?_
  refine sa_xbyte (q := 8 * i) (by omega) rfl ?_
  refine sa_xbyte (q := 8 * i + 1) (by omega) (nI_1 (8 * i)) ?_
  refine sa_xbyte (q := 8 * i + 2) (by omega) (nI_add (8 * i) 2) ?_
  refine sa_xbyte (q := 8 * i + 3) (by omega) (nI_add (8 * i) 3) ?_
  exact sa_xck hi h
/-! the reference's verify -/
theorem sa_y265 {post : Int32 → SY → Prop} {J : Int32 → Int32 → Int32 → Prop} {x1 x2 x3 x4 x6 x8 x9 x10 x11 x12 : Int32} (h : wY_verify_287 post J x1 x3 x4 x6 x12 (sa_T x12 (sa_tag x1 x2 x8 x9 x10 x11)) ca el ge gk gt gp we wt ws wp bu vk rs sd cr lg rc) : wY_verify_265 post J x1 x2 x3 x4 x6 x8 x9 x10 x11 x12 0 ca el ge gk gt gp we wt ws wp bu vk rs sd cr lg rc := by
  unfold wY_verify_265
  refine sa_ytag ?_
  unfold sa_T at h
  refine br_c (fun y => ?_) (fun y => ?_)
  · rw [if_pos y] at h
    exact h
  · rw [if_neg y] at h
    exact h
theorem sa_yck {post : Int32 → SY → Prop} {J : Int32 → Int32 → Int32 → Prop} {i : Nat} {x1 x2 x3 x6 x7 b0 b1 b2 b3 s0 : Int32} (h : wY_verify_287 post J x1 x3 (nI i) x6 s0 (sa_ck (nI i &&& 255) x6 el x7 b0 b1 b2 b3 (sa_T s0 (sa_tag x1 x2 b0 b1 b2 b3))) ca el ge gk gt gp we wt ws wp bu vk rs sd cr lg rc) : (b0 = 0 → wY_verify_287 post J x1 x3 (nI i) x6 s0 1 ca el ge gk gt gp we wt ws wp bu vk rs sd cr lg rc) ∧ (¬ b0 = 0 → (x6 = el → wY_verify_194 post J x1 x2 x3 (nI i) x6 x7 b0 b1 b2 b3 s0 0 1 ca el ge gk gt gp we wt ws wp bu vk rs sd cr lg rc) ∧ (¬ x6 = el → wY_verify_194 post J x1 x2 x3 (nI i) x6 x7 b0 b1 b2 b3 s0 0 0 ca el ge gk gt gp we wt ws wp bu vk rs sd cr lg rc)) := by
  unfold sa_ck at h
  unfold wY_verify_194 wY_verify_207
  refine br_c (fun c2 => ?_) (fun c2 => ?_)
  · rw [if_pos c2] at h
    exact h
  · rw [if_neg c2] at h
    refine br_c (fun c1 => ?_) (fun c1 => ?_)
    · rw [if_pos c1] at h
      refine br_c (fun c3 => ?_) (fun c3 => ?_)
      · rw [if_pos c3] at h
        refine br_t rfl ?_
        refine br_c (fun c4 => ?_) (fun c4 => ?_)
        · rw [if_pos c4] at h
          refine br_t c1 ?_
          refine br_c (fun c5 => ?_) (fun c5 => ?_)
          · rw [if_pos c5] at h
            exact sa_y265 h
          · rw [if_neg c5] at h
            exact h
        · rw [if_neg c4] at h
          exact h
      · rw [if_neg c3] at h
        exact br_f sa_10 h
    · rw [if_neg c1] at h
      refine br_c (fun c3 => ?_) (fun c3 => ?_)
      · rw [if_pos c3] at h
        exact br_f sa_01 h
      · rw [if_neg c3] at h
        refine br_t rfl ?_
        refine br_c (fun c4 => ?_) (fun c4 => ?_)
        · rw [if_pos c4] at h
          exact br_f c1 (sa_y265 h)
        · rw [if_neg c4] at h
          exact h
theorem sa_ybody {post : Int32 → SY → Prop} {e R W i n : Nat} {k pv : Int32} (hi : i < W) (hW : W ≤ R) (hR : R ≤ 32) (he : e ≤ 8) (h : wY_verify_287 post (wY_verify_43 post (nI W) (nI (8 * R)) (nI e) ge gk gt gp we wt ws wp bu vk rs sd cr lg rc n) k (nI W) (nI i) (nI (i % (e + 1))) (sa_st lg (8 * i)) (sa_rf lg (nI e) i (nI (i % (e + 1))) (nI (i / (e + 1))) k pv) (nI (8 * R)) (nI e) ge gk gt gp we wt ws wp bu vk rs sd cr lg rc) : wY_verify_43 post (nI W) (nI (8 * R)) (nI e) ge gk gt gp we wt ws wp bu vk rs sd cr lg rc (n + 1) k pv (nI i) := by
  have z : ¬ nI e + 1 = 0 := by
    rw [nI_1]
    exact nI_ne0 (by omega) (by omega)
  have em : nI i - nI i / (nI e + 1) * (nI e + 1) = nI (i % (e + 1)) := by
    rw [nI_1]
    exact pk_rem (by omega) (by omega) (by omega)
  have ed : nI i / (nI e + 1) = nI (i / (e + 1)) := by
    rw [nI_1]
    exact pk_div (by omega) (by omega) (by omega)
  refine br_f (nI_ge hi (by omega)) ?_
  refine br_f (nI_ge (a := i) (b := 32) (by omega) (by decide)) ?_
  refine nm_r (sa_8m i) ?_
  refine br_t ((sa_le8 (a := 8 * i) (b := 8 * R) (by omega) (by omega)).mpr (by omega)) ?_
  refine And.intro z ?_
  refine nm_r em ?_
  refine And.intro z ?_
  refine nm_r ed ?_
  refine And.intro (pk_in (8 * i) 256 (by omega) rfl) ?_
  refine nm_r (sa_by (q := 8 * i) rfl (by omega)) ?_
  refine And.intro (pk_in (8 * i + 1) 256 (by omega) (nI_1 (8 * i))) ?_
  refine nm_r (sa_by (nI_1 (8 * i)) (by omega)) ?_
  refine And.intro (pk_in (8 * i + 2) 256 (by omega) (nI_add (8 * i) 2)) ?_
  refine nm_r (sa_by (nI_add (8 * i) 2) (by omega)) ?_
  refine And.intro (pk_in (8 * i + 3) 256 (by omega) (nI_add (8 * i) 3)) ?_
  refine nm_r (sa_by (nI_add (8 * i) 3) (by omega)) ?_
  refine sa_ystag (by omega) ?_
  exact sa_yck h
theorem sa_mod : ∀ e, e < 9 → ∀ i, i < 32 → (i % (e + 1) = e → (i + 1) % (e + 1) = 0 ∧ (i + 1) / (e + 1) = i / (e + 1) + 1) ∧ (¬ i % (e + 1) = e → (i + 1) % (e + 1) = i % (e + 1) + 1 ∧ (i + 1) / (e + 1) = i / (e + 1)) := by decide +kernel
theorem sa_ver {e R W : Nat} (hW : W ≤ R) (hR : R ≤ 32) (he : e ≤ 8) : ∀ d i : Nat, i + d = W → ∀ k pv : Int32, ∃ r z : Int32, (∀ post : Int32 → SX → Prop, post r ((nI (8 * R)), (nI e), ge, gk, gt, gp, we, wt, ws, wp, sd, cr, bu, vk, z, lg) → wX_verify_49 post (nI W) (nI (8 * R)) (nI e) ge gk gt gp we wt ws wp sd cr bu vk lg (d + 1) k pv (nI (i % (e + 1))) (nI (i / (e + 1))) (nI i) 0) ∧ (∀ post : Int32 → SY → Prop, post r ((nI (8 * R)), (nI e), ge, gk, gt, gp, we, wt, ws, wp, bu, vk, z, sd, cr, lg, rc) → wY_verify_43 post (nI W) (nI (8 * R)) (nI e) ge gk gt gp we wt ws wp bu vk 0 sd cr lg rc (d + 1) k pv (nI i)) := by
  intro d
  induction d with
  | zero =>
    intro i hd k pv
    have c : nI W ≤ nI i := nI_le (by omega) (by omega)
    exact ⟨-1, 0, fun _ hp => br_t c hp, fun _ hp => br_t c hp⟩
  | succ d ih =>
    intro i hd k pv
    have hi : 8 * i + 8 ≤ 256 := by omega
    have hl : i < W := by omega
    have c : ¬ nI W ≤ nI i := nI_ge hl (by omega)
    have hm := sa_mod e (by omega) i (by omega)
    by_cases hf : sa_rf lg (nI e) i (nI (i % (e + 1))) (nI (i / (e + 1))) k pv = 0
    · by_cases hs : i % (e + 1) = e
      · obtain ⟨m1, m2⟩ := hm.1 hs
        have es : nI (i % (e + 1)) = nI e := congrArg nI hs
        obtain ⟨r, z, hX, hY⟩ := ih (i + 1) (by omega) (sa_rat k) (sa_st lg (8 * i))
        refine ⟨r, z, fun post hp => ?_, fun post hp => ?_⟩
        · have y := hX post hp
          rw [m1, m2, nI_0] at y
          refine br_f c ?_
          refine sa_xrf hi ?_
          rw [hf]
          refine br_t rfl ?_
          refine sa_xstag hi ?_
          refine br_t es ?_
          refine sa_xrat ?_
          refine nm_r (nI_1 (i / (e + 1))) ?_
          refine nm_r (nI_1 i) ?_
          exact y
        · have y := hY post hp
          refine sa_ybody hl hW hR he ?_
          rw [hf]
          unfold wY_verify_287
          refine br_t rfl ?_
          refine br_t es ?_
          refine sa_yrat ?_
          refine nm_r (nI_1 i) ?_
          exact y
      · obtain ⟨m1, m2⟩ := hm.2 hs
        have es : ¬ nI (i % (e + 1)) = nI e := by
          have l : i % (e + 1) < e + 1 := Nat.mod_lt _ (by omega)
          intro q
          exact hs ((nI_eq (by omega) (by omega)).mp q)
        obtain ⟨r, z, hX, hY⟩ := ih (i + 1) (by omega) k (sa_st lg (8 * i))
        refine ⟨r, z, fun post hp => ?_, fun post hp => ?_⟩
        · have y := hX post hp
          rw [m1, m2] at y
          refine br_f c ?_
          refine sa_xrf hi ?_
          rw [hf]
          refine br_t rfl ?_
          refine sa_xstag hi ?_
          refine br_f es ?_
          refine nm_r (nI_1 (i % (e + 1))) ?_
          refine nm_r (nI_1 i) ?_
          exact y
        · have y := hY post hp
          refine sa_ybody hl hW hR he ?_
          rw [hf]
          unfold wY_verify_287
          refine br_t rfl ?_
          refine br_f es ?_
          refine nm_r (nI_1 i) ?_
          exact y
    · refine ⟨nI i, sa_rf lg (nI e) i (nI (i % (e + 1))) (nI (i / (e + 1))) k pv, fun post hp => ?_, fun post hp => ?_⟩
      · refine br_f c ?_
        refine sa_xrf hi ?_
        exact br_f hf hp
      · refine sa_ybody hl hW hR he ?_
        unfold wY_verify_287
        exact br_f hf hp
theorem i_vc_verify {k : Nat} {u : SX} {v : SY} (I : i_Rel k u v) (hk : k + 3 ≤ 1538) : wpX_verify (fun r u' => wpY_verify (fun r' v' => r' = r ∧ i_Rel (k + 3) u' v') v) u := by
  obtain ⟨ca, el, ge, gk, gt, gp, we, wt, ws, wp, sd, cr, bu, vk, rs, lg, rc, rfl, rfl, J⟩ := I
  obtain ⟨R, e, h, w, a1, a2, a3, a4, b1, b2, b3, b4, b5, b6⟩ := id J
  unfold wpX_verify wpY_verify
  by_cases c1 : sd = 0
  · exact br_t c1 (br_t c1 (And.intro rfl (sa_mk J)))
  by_cases c2 : cr = 0
  · subst a1 a2 a4
    obtain ⟨r, z, hX, hY⟩ := sa_ver (ge := ge) (gk := gk) (gt := gt) (gp := gp) (we := nI (8 * w)) (wt := wt) (ws := ws) (wp := wp) (sd := sd) (cr := cr) (bu := bu) (vk := vk) (lg := lg) (rc := rc) b6 b2 b4 w 0 (by omega) vk 0
    rw [Nat.zero_mod, Nat.zero_div, nI_0] at hX
    rw [nI_0] at hY
    refine br_f c1 (br_t c2 ?_)
    refine And.intro sa_80 ?_
    refine nm_r (sa_d8 (by omega)) ?_
    refine Exists.intro (w + 1) (hX _ ?_)
    refine br_f c1 (br_t c2 ?_)
    refine And.intro sa_80 ?_
    refine nm_r (sa_d8 (by omega)) ?_
    refine Exists.intro (w + 1) (hY _ ?_)
    exact And.intro rfl (sa_mk J)
  · exact br_f c1 (br_f c2 (br_f c1 (br_f c2 (And.intro rfl (sa_mk J)))))
