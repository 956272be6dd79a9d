/-! 03: the reference's seal and completion -/
variable {ca el ge gk gt gp we wt ws wp sd cr bu vk rs : Int32} {lg rc : Nat → Int32}
variable {Z K : Int32 → (Nat → Int32) → Prop}
theorem sa_ystep {post : Int32 → SY → Prop} (h0 : bu = 0 → post 0 (ca, el, ge, gk, gt, gp, 0, 0, 0, 0, (-1), vk, rs, sd, 1, lg, rc)) (h1 : ¬ bu = 0 → post 1 (ca, el, ge, gk, gt, gp, we, wt, ws, wp, (sa_dec bu), vk, rs, sd, cr, lg, rc)) : wpY_stepOk post (ca, el, ge, gk, gt, gp, we, wt, ws, wp, bu, vk, rs, sd, cr, lg, rc) 1 := by
  unfold wpY_stepOk
  refine br_f sa_10 (br_c (fun h => ?_) (fun h => br_c (fun g => ?_) (fun g => nm_e ?_)))
  · unfold wpY_doCrash
    exact h0 h
  · have y := h1 h
    unfold sa_dec at y
    rw [if_pos g] at y
    exact y
  · have y := h1 h
    unfold sa_dec at y
    rw [if_neg g] at y
    exact y
theorem sa_ystep0 {post : Int32 → SY → Prop} (h : post 1 (ca, el, ge, gk, gt, gp, we, wt, ws, wp, bu, vk, rs, sd, cr, lg, rc)) : wpY_stepOk post (ca, el, ge, gk, gt, gp, we, wt, ws, wp, bu, vk, rs, sd, cr, lg, rc) 0 := by
  unfold wpY_stepOk
  exact br_t rfl h
theorem sa_ye {q o : Nat} {b : Int32} (hq : q + 8 ≤ 256) (ho : o < 8) (hv : sa_B (rc o) = b) : upd lg (nI q + nI o).toNatClampNeg (vp_nar .byte ((rc (nI o).toNatClampNeg).toInt8.toInt32)) = upd lg (q + o) b := by
  rw [nI_add, nI_clamp (n := q + o) (by omega), nI_clamp (n := o) (by omega), ← hv]
  rfl
theorem sa_ys1 {post : Int32 → SY → Prop} {t b : Int32} {q n : Nat} {r : List (Nat × Int32)} (k o : Nat) (ho : k % 8 = o) (hk8 : k ≤ 8) (hq : q + 8 ≤ 256) (hv : sa_B (rc o) = b) (H : sa_W Z K ((q + o, b) :: r) bu lg) (h0 : Z bu lg → post 0 (ca, el, ge, gk, gt, gp, 0, 0, 0, 0, (-1), vk, rs, sd, 1, lg, rc)) (h1 : sa_W Z K r (sa_dec bu) (upd lg (q + o) b) → wY_seal_158 post (nI q) 1 t n (nI (k + 1)) ca el ge gk gt gp we wt ws wp (sa_dec bu) vk rs sd cr (upd lg (q + o) b) rc) : wY_seal_158 post (nI q) 1 t (n + 1) (nI k) ca el ge gk gt gp we wt ws wp bu vk rs sd cr lg rc := by
  have o8 : o < 8 := by omega
  refine br_f (nI_nlt (a := 8) (b := k) hk8 (by decide)) ?_
  refine And.intro sa_80 ?_
  refine nm_r (pk_rem (a := k) (d := 8) (by omega) (by decide) (by decide)) ?_
  rw [ho]
  refine sa_ystep ?_ ?_
  · intro z
    exact br_t rfl (h0 (sa_W1 H z))
  · intro z
    refine br_f sa_10 ?_
    refine And.intro (vp_in_nI o8 (by decide)) ?_
    refine And.intro (pk_in (q + o) 256 (by omega) (nI_add q o)) ?_
    refine nm_r (sa_ye hq o8 hv) ?_
    refine nm_r (nI_1 k) ?_
    exact h1 (sa_W2 H z)
theorem sa_ys0 {post : Int32 → SY → Prop} {t b : Int32} {q n : Nat} (k o : Nat) (ho : k % 8 = o) (hk8 : k ≤ 8) (hq : q + 8 ≤ 256) (hv : sa_B (rc o) = b) (h1 : wY_seal_158 post (nI q) 0 t n (nI (k + 1)) ca el ge gk gt gp we wt ws wp bu vk rs sd cr (upd lg (q + o) b) rc) : wY_seal_158 post (nI q) 0 t (n + 1) (nI k) ca el ge gk gt gp we wt ws wp bu vk rs sd cr lg rc := by
  have o8 : o < 8 := by omega
  refine br_f (nI_nlt (a := 8) (b := k) hk8 (by decide)) ?_
  refine And.intro sa_80 ?_
  refine nm_r (pk_rem (a := k) (d := 8) (by omega) (by decide) (by decide)) ?_
  rw [ho]
  refine sa_ystep0 ?_
  refine br_f sa_10 ?_
  refine And.intro (vp_in_nI o8 (by decide)) ?_
  refine And.intro (pk_in (q + o) 256 (by omega) (nI_add q o)) ?_
  refine nm_r (sa_ye hq o8 hv) ?_
  refine nm_r (nI_1 k) ?_
  exact h1
theorem sa_ys9 {post : Int32 → SY → Prop} {t x4 : Int32} {q n : Nat} (h : post 1 (ca, el, ge, gk, gt, gp, (nI (q + 8)), t, ws, wp, bu, vk, rs, sd, cr, lg, rc)) : wY_seal_158 post (nI q) x4 t (n + 1) (nI 9) ca el ge gk gt gp we wt ws wp bu vk rs sd cr lg rc := by
  refine br_t (nI_lt (a := 8) (b := 9) (by decide) (by decide)) ?_
  exact nm_r (nI_add q 8) h
/-! the reference's scratch record -/
def sa_rc (rc : Nat → Int32) (kd s hi lo t : Int32) : Nat → Int32 := upd (upd (upd (upd (upd (upd (upd (upd rc 0 kd) 1 s) 2 hi) 3 lo) 4 (sa_r24 t &&& 255)) 5 (sa_r16 t &&& 255)) 6 (sa_r8 t &&& 255)) 7 (t &&& 255)
theorem sa_rc0 {kd s hi lo t : Int32} : sa_rc rc kd s hi lo t 0 = kd := by simp [sa_rc, upd]
theorem sa_rc1 {kd s hi lo t : Int32} : sa_rc rc kd s hi lo t 1 = s := by simp [sa_rc, upd]
theorem sa_rc2 {kd s hi lo t : Int32} : sa_rc rc kd s hi lo t 2 = hi := by simp [sa_rc, upd]
theorem sa_rc3 {kd s hi lo t : Int32} : sa_rc rc kd s hi lo t 3 = lo := by simp [sa_rc, upd]
theorem sa_rc4 {kd s hi lo t : Int32} : sa_B (sa_rc rc kd s hi lo t 4) = sa_B (sa_r24 t) := by
  rw [show sa_rc rc kd s hi lo t 4 = sa_r24 t &&& 255 from by simp [sa_rc, upd]]
  exact sa_bB _
theorem sa_rc5 {kd s hi lo t : Int32} : sa_B (sa_rc rc kd s hi lo t 5) = sa_B (sa_r16 t) := by
  rw [show sa_rc rc kd s hi lo t 5 = sa_r16 t &&& 255 from by simp [sa_rc, upd]]
  exact sa_bB _
theorem sa_rc6 {kd s hi lo t : Int32} : sa_B (sa_rc rc kd s hi lo t 6) = sa_B (sa_r8 t) := by
  rw [show sa_rc rc kd s hi lo t 6 = sa_r8 t &&& 255 from by simp [sa_rc, upd]]
  exact sa_bB _
theorem sa_rc7 {kd s hi lo t : Int32} : sa_B (sa_rc rc kd s hi lo t 7) = sa_B t := by
  rw [show sa_rc rc kd s hi lo t 7 = t &&& 255 from by simp [sa_rc, upd]]
  exact sa_bB _
theorem sa_yopen {post : Int32 → SY → Prop} {kd v m : Int32} {w R : Nat} (hw : 8 * w + 8 ≤ 8 * R) (hR : R ≤ 32) (ec : ca = nI (8 * R)) (h : wY_seal_158 post (nI (8 * w)) m (sa_tg gk wt kd (nI (8 * w)) v) (8 + 1) (nI 1) ca el ge gk gt gp we wt ws wp bu vk rs sd cr lg (sa_rc rc kd (sa_sq (nI (8 * w))) (sa_hi v) (sa_lo v) (sa_tg gk wt kd (nI (8 * w)) v))) : wpY_seal post (ca, el, ge, gk, gt, gp, we, wt, ws, wp, bu, vk, rs, sd, cr, lg, rc) kd v (nI (8 * w)) m := by
  subst ec
  unfold wpY_seal
  refine br_f (nI_pos (n := 8 * w) (by omega)) ?_
  refine br_t ((sa_le8 (a := 8 * w) (b := 8 * R) (by omega) (by omega)).mpr hw) ?_
  refine And.intro sa_80 ?_
  refine nm_e ?_
  refine nm_e ?_
  refine nm_e ?_
  refine sa_ytag ?_
  refine nm_e ?_
  refine nm_e ?_
  refine nm_e ?_
  refine nm_e ?_
  refine nm_e ?_
  refine nm_e ?_
  refine nm_e ?_
  refine nm_e ?_
  exact Exists.intro (8 + 1) h
theorem sa_yseal {post : Int32 → SY → Prop} {kd v t : Int32} {w R : Nat} (hw : 8 * w + 8 ≤ 8 * R) (hR : R ≤ 32) (ec : ca = nI (8 * R)) (et : sa_tg gk wt kd (nI (8 * w)) v = t) (h0 : ∀ b L rc', Z b L → post 0 (ca, el, ge, gk, gt, gp, 0, 0, 0, 0, (-1), vk, rs, sd, 1, L, rc')) (h1 : ∀ b L rc', K b L → post 1 (ca, el, ge, gk, gt, gp, (nI (8 * w + 8)), t, ws, wp, b, vk, rs, sd, cr, L, rc')) (H : sa_W Z K (sa_li w kd v t) bu lg) : wpY_seal post (ca, el, ge, gk, gt, gp, we, wt, ws, wp, bu, vk, rs, sd, cr, lg, rc) kd v (nI (8 * w)) 1 := by
  have hq : 8 * w + 8 ≤ 256 := by omega
  subst et
  unfold sa_li at H
  refine sa_yopen hw hR ec ?_
  refine sa_ys1 1 1 rfl (by decide) hq (congrArg sa_B sa_rc1) H (fun z => h0 _ _ _ z) ?_
  intro H1
  refine sa_ys1 (n := 7) 2 2 rfl (by decide) hq (congrArg sa_B sa_rc2) H1 (fun z => h0 _ _ _ z) ?_
  intro H2
  refine sa_ys1 (n := 6) 3 3 rfl (by decide) hq (congrArg sa_B sa_rc3) H2 (fun z => h0 _ _ _ z) ?_
  intro H3
  refine sa_ys1 (n := 5) 4 4 rfl (by decide) hq sa_rc4 H3 (fun z => h0 _ _ _ z) ?_
  intro H4
  refine sa_ys1 (n := 4) 5 5 rfl (by decide) hq sa_rc5 H4 (fun z => h0 _ _ _ z) ?_
  intro H5
  refine sa_ys1 (n := 3) 6 6 rfl (by decide) hq sa_rc6 H5 (fun z => h0 _ _ _ z) ?_
  intro H6
  refine sa_ys1 (n := 2) 7 7 rfl (by decide) hq sa_rc7 H6 (fun z => h0 _ _ _ z) ?_
  intro H7
  refine sa_ys1 (n := 1) 8 0 rfl (by decide) hq (congrArg sa_B sa_rc0) H7 (fun z => h0 _ _ _ z) ?_
  intro H8
  refine sa_ys9 (n := 0) ?_
  exact h1 _ _ _ H8
theorem sa_yseal0 {post : Int32 → SY → Prop} {kd v t : Int32} {w R : Nat} (hw : 8 * w + 8 ≤ 8 * R) (hR : R ≤ 32) (ec : ca = nI (8 * R)) (et : sa_tg gk wt kd (nI (8 * w)) v = t) (h1 : ∀ rc', post 1 (ca, el, ge, gk, gt, gp, (nI (8 * w + 8)), t, ws, wp, bu, vk, rs, sd, cr, (sa_wa (sa_li w kd v t) lg), rc')) : wpY_seal post (ca, el, ge, gk, gt, gp, we, wt, ws, wp, bu, vk, rs, sd, cr, lg, rc) kd v (nI (8 * w)) 0 := by
  have hq : 8 * w + 8 ≤ 256 := by omega
  subst et
  refine sa_yopen hw hR ec ?_
  refine sa_ys0 1 1 rfl (by decide) hq (congrArg sa_B sa_rc1) ?_
  refine sa_ys0 (n := 7) 2 2 rfl (by decide) hq (congrArg sa_B sa_rc2) ?_
  refine sa_ys0 (n := 6) 3 3 rfl (by decide) hq (congrArg sa_B sa_rc3) ?_
  refine sa_ys0 (n := 5) 4 4 rfl (by decide) hq sa_rc4 ?_
  refine sa_ys0 (n := 4) 5 5 rfl (by decide) hq sa_rc5 ?_
  refine sa_ys0 (n := 3) 6 6 rfl (by decide) hq sa_rc6 ?_
  refine sa_ys0 (n := 2) 7 7 rfl (by decide) hq sa_rc7 ?_
  refine sa_ys0 (n := 1) 8 0 rfl (by decide) hq (congrArg sa_B sa_rc0) ?_
  refine sa_ys9 (n := 0) ?_
  exact h1 _
theorem sa_ycomp {post : Int32 → SY → Prop} {t : Int32} {w R : Nat} (hw : 8 * w + 8 ≤ 8 * R) (hR : R ≤ 32) (ec : ca = nI (8 * R)) (e : we = nI (8 * w)) (et : sa_tg gk wt 255 (nI (8 * w)) (wp &&& 65535) = t) (h0 : ∀ b L rc', Z b L → post 0 (ca, el, ge, gk, gt, gp, 0, 0, 0, 0, (-1), vk, rs, sd, 1, L, rc')) (h2 : ∀ b L rc', K b L → post 1 (ca, el, (nI (8 * w + 8)), (sa_rat gk), t, (wp + 1), (nI (8 * w + 8)), t, 0, (wp + 1), b, vk, rs, sd, cr, L, rc')) (H : sa_W Z (fun b L => (b = 0 → Z b L) ∧ (¬ b = 0 → K (sa_dec b) L)) (sa_li w 255 (wp &&& 65535) t) bu lg) : wpY_complete post (ca, el, ge, gk, gt, gp, we, wt, ws, wp, bu, vk, rs, sd, cr, lg, rc) 1 := by
  subst e
  unfold wpY_complete
  refine sa_yseal hw hR ec et ?_ ?_ H
  · intro b L rc' z
    exact br_t rfl (h0 b L rc' z)
  · intro b L rc' y
    refine br_f sa_10 ?_
    refine sa_ystep ?_ ?_
    · intro z
      exact br_t rfl (h0 b L rc' (y.1 z))
    · intro z
      refine br_f sa_10 ?_
      refine sa_yrat ?_
      exact nm_e (nm_e (h2 _ _ _ (y.2 z)))
theorem sa_ycomp0 {post : Int32 → SY → Prop} {t : Int32} {w R : Nat} (hw : 8 * w + 8 ≤ 8 * R) (hR : R ≤ 32) (ec : ca = nI (8 * R)) (e : we = nI (8 * w)) (et : sa_tg gk wt 255 (nI (8 * w)) (wp &&& 65535) = t) (h2 : ∀ rc', post 1 (ca, el, (nI (8 * w + 8)), (sa_rat gk), t, (wp + 1), (nI (8 * w + 8)), t, 0, (wp + 1), bu, vk, rs, sd, cr, (sa_wa (sa_li w 255 (wp &&& 65535) t) lg), rc')) : wpY_complete post (ca, el, ge, gk, gt, gp, we, wt, ws, wp, bu, vk, rs, sd, cr, lg, rc) 0 := by
  subst e
  unfold wpY_complete
  refine sa_yseal0 hw hR ec et ?_
  intro rc'
  refine br_f sa_10 ?_
  refine sa_ystep0 ?_
  refine br_f sa_10 ?_
  refine sa_yrat ?_
  exact nm_e (nm_e (h2 rc'))
