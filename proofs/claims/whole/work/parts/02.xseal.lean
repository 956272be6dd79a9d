/-! 02: runs of write steps, pure; the class's own seal and completion -/
variable {ca el ge gk gt gp we wt ws wp sd cr bu vk rs : Int32} {lg rc : Nat → Int32}
variable {Z K : Int32 → (Nat → Int32) → Prop}
def sa_ws : List (Nat × Int32) → Int32 → (Nat → Int32) → Bool × Int32 × (Nat → Int32)
  | [], b, L => (true, b, L)
  | w :: r, b, L => if b = 0 then (false, b, L) else sa_ws r (sa_dec b) (upd L w.1 w.2)
def sa_W (Z K : Int32 → (Nat → Int32) → Prop) : List (Nat × Int32) → Int32 → (Nat → Int32) → Prop
  | [], b, L => K b L
  | w :: r, b, L => (b = 0 → Z b L) ∧ (¬ b = 0 → sa_W Z K r (sa_dec b) (upd L w.1 w.2))
def sa_wa : List (Nat × Int32) → (Nat → Int32) → (Nat → Int32)
  | [], L => L
  | w :: r, L => sa_wa r (upd L w.1 w.2)
theorem sa_W1 {w : Nat × Int32} {r : List (Nat × Int32)} {b : Int32} {L : Nat → Int32} (H : sa_W Z K (w :: r) b L) : b = 0 → Z b L := And.left H
theorem sa_W2 {w : Nat × Int32} {r : List (Nat × Int32)} {b : Int32} {L : Nat → Int32} (H : sa_W Z K (w :: r) b L) : ¬ b = 0 → sa_W Z K r (sa_dec b) (upd L w.1 w.2) := And.right H
theorem sa_Wt {l : List (Nat × Int32)} {b b' : Int32} {L L' : Nat → Int32} (hr : sa_ws l b L = (true, b', L')) (hK : K b' L') : sa_W Z K l b L := by
  induction l generalizing b L with
  | nil =>
    have e : ((true, b, L) : Bool × Int32 × (Nat → Int32)) = (true, b', L') := hr
    cases e
    exact hK
  | cons w r ih =>
    have e : (if b = 0 then (false, b, L) else sa_ws r (sa_dec b) (upd L w.1 w.2)) = (true, b', L') := hr
    by_cases z : b = 0
    · rw [if_pos z] at e
      cases e
    · rw [if_neg z] at e
      exact And.intro (fun y => absurd y z) (fun _ => ih e)
theorem sa_Wf {l : List (Nat × Int32)} {b b' : Int32} {L L' : Nat → Int32} (hr : sa_ws l b L = (false, b', L')) (hZ : Z b' L') : sa_W Z K l b L := by
  induction l generalizing b L with
  | nil =>
    have e : ((true, b, L) : Bool × Int32 × (Nat → Int32)) = (false, b', L') := hr
    cases e
  | cons w r ih =>
    have e : (if b = 0 then (false, b, L) else sa_ws r (sa_dec b) (upd L w.1 w.2)) = (false, b', L') := hr
    by_cases z : b = 0
    · rw [if_pos z] at e
      cases e
      exact And.intro (fun _ => hZ) (fun y => absurd z y)
    · rw [if_neg z] at e
      exact And.intro (fun y => absurd y z) (fun _ => ih e)
theorem sa_Wm {l : List (Nat × Int32)} {L : Nat → Int32} (hK : K (-1) (sa_wa l L)) : sa_W Z K l (-1) L := by
  induction l generalizing L with
  | nil => exact hK
  | cons w r ih =>
    refine And.intro (fun y => absurd y (by decide)) (fun _ => ?_)
    rw [sa_dec_m1]
    exact ih hK
/-! what a seal writes -/
abbrev sa_r24 (t : Int32) : Int32 := (t.toUInt32 >>> ((24 : Int32).toUInt32 &&& Int32.toUInt32 31)).toInt32
abbrev sa_r16 (t : Int32) : Int32 := (t.toUInt32 >>> ((16 : Int32).toUInt32 &&& Int32.toUInt32 31)).toInt32
abbrev sa_r8 (t : Int32) : Int32 := (t.toUInt32 >>> ((8 : Int32).toUInt32 &&& Int32.toUInt32 31)).toInt32
abbrev sa_sq (p : Int32) : Int32 := (p / 8) &&& 255
abbrev sa_hi (p : Int32) : Int32 := sa_r8 p &&& 255
abbrev sa_lo (p : Int32) : Int32 := p &&& 255
def sa_tg (k pv kd p v : Int32) : Int32 := sa_tag k pv kd (sa_sq p) (sa_hi v) (sa_lo v)
def sa_li (w : Nat) (kd v t : Int32) : List (Nat × Int32) := [(8 * w + 1, sa_B (sa_sq (nI (8 * w)))), (8 * w + 2, sa_B (sa_hi v)), (8 * w + 3, sa_B (sa_lo v)), (8 * w + 4, sa_B (sa_r24 t)), (8 * w + 5, sa_B (sa_r16 t)), (8 * w + 6, sa_B (sa_r8 t)), (8 * w + 7, sa_B t), (8 * w, sa_B kd)]
/-! the class's steps -/
theorem sa_xtake {post : Int32 → SX → Prop} (h0 : bu = 0 → post 0 (ca, el, ge, gk, gt, gp, we, wt, ws, wp, sd, cr, bu, vk, rs, lg)) (h1 : ¬ bu = 0 → post 1 (ca, el, ge, gk, gt, gp, we, wt, ws, wp, sd, cr, (sa_dec bu), vk, rs, lg)) : wpX_takeStep post (ca, el, ge, gk, gt, gp, we, wt, ws, wp, sd, cr, bu, vk, rs, lg) := by
  unfold wpX_takeStep
  refine br_c h0 (fun h => br_c (fun g => ?_) (fun g => nm_e ?_))
  · have y := h1 h
    unfold sa_dec at y
    rw [if_pos g] at y
    exact y
  · have y := h1 h
    unfold sa_dec at y
    rw [if_neg g] at y
    exact y
theorem sa_xwrite {post : Int32 → SX → Prop} {pos val : Int32} (hp : vp_in pos 256) (h0 : bu = 0 → post 0 (ca, el, ge, gk, gt, gp, we, wt, ws, wp, sd, cr, bu, vk, rs, lg)) (h1 : ¬ bu = 0 → post 1 (ca, el, ge, gk, gt, gp, we, wt, ws, wp, sd, cr, (sa_dec bu), vk, rs, (upd lg pos.toNatClampNeg (sa_B val)))) : wpX_writeStep post (ca, el, ge, gk, gt, gp, we, wt, ws, wp, sd, cr, bu, vk, rs, lg) pos val := by
  unfold wpX_writeStep
  refine sa_xtake ?_ ?_
  · intro h
    exact br_t rfl (h0 h)
  · intro h
    exact br_f sa_10 (And.intro hp (nm_e (h1 h)))
theorem sa_xw {post : Int32 → SX → Prop} {r : List (Nat × Int32)} {pos val : Int32} {q : Nat} (e : pos = nI q) (hq : q < 256) (H : sa_W Z K ((q, sa_B val) :: r) bu lg) (h0 : Z bu lg → post 0 (ca, el, ge, gk, gt, gp, we, wt, ws, wp, sd, cr, bu, vk, rs, lg)) (h1 : sa_W Z K r (sa_dec bu) (upd lg q (sa_B val)) → post 1 (ca, el, ge, gk, gt, gp, we, wt, ws, wp, sd, cr, (sa_dec bu), vk, rs, (upd lg q (sa_B val)))) : wpX_writeStep post (ca, el, ge, gk, gt, gp, we, wt, ws, wp, sd, cr, bu, vk, rs, lg) pos val := by
  subst e
  refine sa_xwrite (vp_in_nI hq (by decide)) ?_ ?_
  · intro z
    exact h0 (sa_W1 H z)
  · intro z
    rw [nI_clamp (n := q) (by omega)]
    exact h1 (sa_W2 H z)
theorem sa_x160 {post : Int32 → SX → Prop} {x3 x7 : Int32} (h : post 0 (ca, el, ge, gk, gt, gp, we, wt, ws, wp, sd, cr, bu, vk, rs, lg)) : wX_seal_160 post x3 x7 ca el ge gk gt gp we wt ws wp sd cr bu vk rs lg := by
  unfold wX_seal_160 wX_seal_161
  exact br_t rfl (And.intro rfl h)
theorem sa_xseal {post : Int32 → SX → Prop} {kd v t : Int32} {w : Nat} (hw : 8 * w + 8 ≤ 256) (e : we = nI (8 * w)) (et : sa_tg gk wt kd (nI (8 * w)) v = t) (h0 : ∀ b L, Z b L → post 0 (ca, el, ge, gk, gt, gp, we, wt, ws, wp, sd, cr, b, vk, rs, L)) (h1 : ∀ b L, K b L → post 1 (ca, el, ge, gk, gt, gp, (nI (8 * w + 8)), t, ws, wp, sd, cr, b, vk, rs, L)) (H : sa_W Z K (sa_li w kd v t) bu lg) : wpX_seal post (ca, el, ge, gk, gt, gp, we, wt, ws, wp, sd, cr, bu, vk, rs, lg) kd v := by
  subst e
  subst et
  unfold sa_li at H
  unfold wpX_seal
  refine And.intro sa_80 ?_
  refine nm_e ?_
  refine nm_e ?_
  refine nm_e ?_
  refine sa_xtag ?_
  refine sa_xw (nI_1 (8 * w)) (by omega) H ?_ ?_
  · intro z
    exact br_t rfl (sa_x160 (h0 _ _ z))
  intro H1
  refine br_f sa_10 ?_
  refine sa_xw (nI_add (8 * w) 2) (by omega) H1 ?_ ?_
  · intro z
    exact br_t rfl (sa_x160 (h0 _ _ z))
  intro H2
  refine br_f sa_10 ?_
  refine sa_xw (nI_add (8 * w) 3) (by omega) H2 ?_ ?_
  · intro z
    exact br_t rfl (sa_x160 (h0 _ _ z))
  intro H3
  refine br_f sa_10 ?_
  refine sa_xw (nI_add (8 * w) 4) (by omega) H3 ?_ ?_
  · intro z
    exact br_t rfl (sa_x160 (h0 _ _ z))
  intro H4
  refine br_f sa_10 ?_
  refine sa_xw (nI_add (8 * w) 5) (by omega) H4 ?_ ?_
  · intro z
    exact br_t rfl (sa_x160 (h0 _ _ z))
  intro H5
  refine br_f sa_10 ?_
  refine sa_xw (nI_add (8 * w) 6) (by omega) H5 ?_ ?_
  · intro z
    exact br_t rfl (sa_x160 (h0 _ _ z))
  intro H6
  refine br_f sa_10 ?_
  refine sa_xw (nI_add (8 * w) 7) (by omega) H6 ?_ ?_
  · intro z
    exact br_t rfl (sa_x160 (h0 _ _ z))
  intro H7
  refine br_f sa_10 ?_
  refine sa_xw (q := 8 * w) rfl (by omega) H7 ?_ ?_
  · intro z
    exact br_t rfl (sa_x160 (h0 _ _ z))
  intro H8
  refine br_f sa_10 ?_
  unfold wX_seal_161
  refine br_f sa_10 ?_
  refine nm_r (nI_add (8 * w) 8) ?_
  exact And.intro rfl (h1 _ _ H8)
theorem sa_xclose {post : SX → Prop} (h : post (ca, el, we, (sa_rat gk), wt, (wp + 1), we, wt, 0, (wp + 1), sd, cr, bu, vk, rs, lg)) : wpX_closeEpoch post (ca, el, ge, gk, gt, gp, we, wt, ws, wp, sd, cr, bu, vk, rs, lg) := by
  unfold wpX_closeEpoch
  refine sa_xrat ?_
  exact nm_e (nm_e h)
theorem sa_x28 {post : Int32 → SX → Prop} (h : post 0 (ca, el, ge, gk, gt, gp, we, wt, ws, wp, sd, cr, bu, vk, rs, lg)) : wX_completeCheckpoint_28 post ca el ge gk gt gp we wt ws wp sd cr bu vk rs lg := by
  unfold wX_completeCheckpoint_28 wX_completeCheckpoint_29
  exact br_t rfl (And.intro rfl h)
theorem sa_xcomp {post : Int32 → SX → Prop} {t : Int32} {w : Nat} (hw : 8 * w + 8 ≤ 256) (e : we = nI (8 * w)) (et : sa_tg gk wt 255 (nI (8 * w)) (wp &&& 65535) = t) (h0 : ∀ b L, Z b L → post 0 (ca, el, ge, gk, gt, gp, we, wt, ws, wp, sd, cr, b, vk, rs, L)) (h1 : ∀ b L, Z b L → post 0 (ca, el, ge, gk, gt, gp, (nI (8 * w + 8)), t, ws, wp, sd, cr, b, vk, rs, L)) (h2 : ∀ b L, K b L → post 1 (ca, el, (nI (8 * w + 8)), (sa_rat gk), t, (wp + 1), (nI (8 * w + 8)), t, 0, (wp + 1), sd, cr, b, vk, rs, L)) (H : sa_W Z (fun b L => (b = 0 → Z b L) ∧ (¬ b = 0 → K (sa_dec b) L)) (sa_li w 255 (wp &&& 65535) t) bu lg) : wpX_completeCheckpoint post (ca, el, ge, gk, gt, gp, we, wt, ws, wp, sd, cr, bu, vk, rs, lg) := by
  unfold wpX_completeCheckpoint
  refine sa_xseal hw e et ?_ ?_ H
  · intro b L z
    exact br_t rfl (sa_x28 (h0 b L z))
  · intro b L y
    refine br_f sa_10 ?_
    refine sa_xtake ?_ ?_
    · intro z
      exact br_t rfl (sa_x28 (h1 b L (y.1 z)))
    · intro z
      refine br_f sa_10 ?_
      unfold wX_completeCheckpoint_29
      refine br_f sa_10 ?_
      refine sa_xclose ?_
      exact And.intro rfl (h2 _ _ (y.2 z))
