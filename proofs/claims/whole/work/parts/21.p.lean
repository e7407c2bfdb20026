/-! THE REFERENCE OVER ITS OWN STATE -/
def P_X7_thrown  : PX Int32 :=
  pgi 45
set_option maxRecDepth 100000 in
set_option maxHeartbeats 4000000 in
theorem sm_X7_thrown (mo : Nat)  : SIM mo (F_X7_thrown mo) (P_X7_thrown) := by
  unfold F_X7_thrown P_X7_thrown
  repeat' first
    | with_reducible exact sim_gi | with_reducible exact sim_si | with_reducible exact sim_ai rfl | with_reducible exact sim_al rfl | with_reducible exact sim_sai rfl | with_reducible exact sim_saz rfl | with_reducible exact sim_sal rfl
    | with_reducible exact sim_pz | with_reducible exact sim_pch | with_reducible exact sim_div | with_reducible exact sim_rem
    | with_reducible refine sim_pp ?_ | with_reducible refine sim_zb ?_ | with_reducible refine sim_zif ?_ ?_ ?_
    | with_reducible refine sim_assoc ?_ | with_reducible refine sim_pure ?_ | with_reducible refine sim_gr (by decide) ?_
    | with_reducible refine sim_pb ?_ (fun v => ?_) | with_reducible refine sim_if2 ?_ ?_ ?_ | with_reducible refine sim_xl ?_ (fun s => ?_) (fun s => ?_) | with_reducible refine sim_xo rfl rfl ?_
    | rfl | (simp only [b2ne, Bool.not_not]; done)
def P_X7_in (v_ : Int32) (low_ : Int32) (high_ : Int32) : PX Int32 :=
  pb (if (decide (low_ ≤ v_)) then pp (decide (v_ ≤ high_)) else pp false) (fun v6 => pp (b2i v6))
set_option maxRecDepth 100000 in
set_option maxHeartbeats 4000000 in
theorem sm_X7_in (mo : Nat) (v_ : Int32) (low_ : Int32) (high_ : Int32) : SIM mo (F_X7_in v_ low_ high_) (P_X7_in v_ low_ high_) := by
  unfold F_X7_in P_X7_in
  repeat' first
    | with_reducible exact sim_gi | with_reducible exact sim_si | with_reducible exact sim_ai rfl | with_reducible exact sim_al rfl | with_reducible exact sim_sai rfl | with_reducible exact sim_saz rfl | with_reducible exact sim_sal rfl
    | with_reducible exact sim_pz | with_reducible exact sim_pch | with_reducible exact sim_div | with_reducible exact sim_rem
    | with_reducible refine sim_pp ?_ | with_reducible refine sim_zb ?_ | with_reducible refine sim_zif ?_ ?_ ?_
    | with_reducible refine sim_assoc ?_ | with_reducible refine sim_pure ?_ | with_reducible refine sim_gr (by decide) ?_
    | with_reducible refine sim_pb ?_ (fun v => ?_) | with_reducible refine sim_if2 ?_ ?_ ?_ | with_reducible refine sim_xl ?_ (fun s => ?_) (fun s => ?_) | with_reducible refine sim_xo rfl rfl ?_
    | rfl | (simp only [b2ne, Bool.not_not]; done)
def P_X7_goes (one_ : Int32) (two_ : Int32) (three_ : Int32) : PX Int32 :=
  pb (if (!(decide (¬ one_ = 0))) then pp (1 : Int32) else if (!(decide (¬ two_ = 0))) then pp (2 : Int32) else if (!(decide (¬ three_ = 0))) then pp (3 : Int32) else pp (0 : Int32)) (fun v11 => pb (psi 45 v11) (fun _ => pb (pgi 45) (fun v13 => pp (b2i (decide (v13 = 0))))))
set_option maxRecDepth 100000 in
set_option maxHeartbeats 4000000 in
theorem sm_X7_goes (mo : Nat) (one_ : Int32) (two_ : Int32) (three_ : Int32) : SIM mo (F_X7_goes mo one_ two_ three_) (P_X7_goes one_ two_ three_) := by
  unfold F_X7_goes P_X7_goes
  repeat' first
    | with_reducible exact sim_gi | with_reducible exact sim_si | with_reducible exact sim_ai rfl | with_reducible exact sim_al rfl | with_reducible exact sim_sai rfl | with_reducible exact sim_saz rfl | with_reducible exact sim_sal rfl
    | with_reducible exact sim_pz | with_reducible exact sim_pch | with_reducible exact sim_div | with_reducible exact sim_rem
    | with_reducible refine sim_pp ?_ | with_reducible refine sim_zb ?_ | with_reducible refine sim_zif ?_ ?_ ?_
    | with_reducible refine sim_assoc ?_ | with_reducible refine sim_pure ?_ | with_reducible refine sim_gr (by decide) ?_
    | with_reducible refine sim_pb ?_ (fun v => ?_) | with_reducible refine sim_if2 ?_ ?_ ?_ | with_reducible refine sim_xl ?_ (fun s => ?_) (fun s => ?_) | with_reducible refine sim_xo rfl rfl ?_
    | rfl | (simp only [b2ne, Bool.not_not]; done)
def P_X7_tells (v_ : Int32) : PX Int32 :=
  pb (psi 45 (0 : Int32)) (fun _ => pp v_)
set_option maxRecDepth 100000 in
set_option maxHeartbeats 4000000 in
theorem sm_X7_tells (mo : Nat) (v_ : Int32) : SIM mo (F_X7_tells mo v_) (P_X7_tells v_) := by
  unfold F_X7_tells P_X7_tells
  repeat' first
    | with_reducible exact sim_gi | with_reducible exact sim_si | with_reducible exact sim_ai rfl | with_reducible exact sim_al rfl | with_reducible exact sim_sai rfl | with_reducible exact sim_saz rfl | with_reducible exact sim_sal rfl
    | with_reducible exact sim_pz | with_reducible exact sim_pch | with_reducible exact sim_div | with_reducible exact sim_rem
    | with_reducible refine sim_pp ?_ | with_reducible refine sim_zb ?_ | with_reducible refine sim_zif ?_ ?_ ?_
    | with_reducible refine sim_assoc ?_ | with_reducible refine sim_pure ?_ | with_reducible refine sim_gr (by decide) ?_
    | with_reducible refine sim_pb ?_ (fun v => ?_) | with_reducible refine sim_if2 ?_ ?_ ?_ | with_reducible refine sim_xl ?_ (fun s => ?_) (fun s => ?_) | with_reducible refine sim_xo rfl rfl ?_
    | rfl | (simp only [b2ne, Bool.not_not]; done)
def P_X7_isPerson (its_ : Int32) : PX Int32 :=
  pb (P_X7_in its_ (0 : Int32) (4 : Int32)) pz
set_option maxRecDepth 100000 in
set_option maxHeartbeats 4000000 in
theorem sm_X7_isPerson (mo : Nat) (its_ : Int32) : SIM mo (F_X7_isPerson its_) (P_X7_isPerson its_) := by
  unfold F_X7_isPerson P_X7_isPerson
  repeat' first
    | with_reducible exact sim_gi | with_reducible exact sim_si | with_reducible exact sim_ai rfl | with_reducible exact sim_al rfl | with_reducible exact sim_sai rfl | with_reducible exact sim_saz rfl | with_reducible exact sim_sal rfl
    | with_reducible exact sim_pz | with_reducible exact sim_pch | with_reducible exact sim_div | with_reducible exact sim_rem
    | with_reducible refine sim_pp ?_ | with_reducible refine sim_zb ?_ | with_reducible refine sim_zif ?_ ?_ ?_
    | with_reducible refine sim_assoc ?_ | with_reducible refine sim_pure ?_ | with_reducible refine sim_gr (by decide) ?_
    | with_reducible refine sim_pb ?_ (fun v => ?_) | with_reducible refine sim_if2 ?_ ?_ ?_ | with_reducible refine sim_xl ?_ (fun s => ?_) (fun s => ?_) | with_reducible refine sim_xo rfl rfl ?_
    | with_reducible exact sm_X7_in mo _ _ _
    | rfl | (simp only [b2ne, Bool.not_not]; done)
def P_X7_isZone (its_ : Int32) : PX Int32 :=
  pb (P_X7_in its_ (0 : Int32) (2 : Int32)) pz
set_option maxRecDepth 100000 in
set_option maxHeartbeats 4000000 in
theorem sm_X7_isZone (mo : Nat) (its_ : Int32) : SIM mo (F_X7_isZone its_) (P_X7_isZone its_) := by
  unfold F_X7_isZone P_X7_isZone
  repeat' first
    | with_reducible exact sim_gi | with_reducible exact sim_si | with_reducible exact sim_ai rfl | with_reducible exact sim_al rfl | with_reducible exact sim_sai rfl | with_reducible exact sim_saz rfl | with_reducible exact sim_sal rfl
    | with_reducible exact sim_pz | with_reducible exact sim_pch | with_reducible exact sim_div | with_reducible exact sim_rem
    | with_reducible refine sim_pp ?_ | with_reducible refine sim_zb ?_ | with_reducible refine sim_zif ?_ ?_ ?_
    | with_reducible refine sim_assoc ?_ | with_reducible refine sim_pure ?_ | with_reducible refine sim_gr (by decide) ?_
    | with_reducible refine sim_pb ?_ (fun v => ?_) | with_reducible refine sim_if2 ?_ ?_ ?_ | with_reducible refine sim_xl ?_ (fun s => ?_) (fun s => ?_) | with_reducible refine sim_xo rfl rfl ?_
    | with_reducible exact sm_X7_in mo _ _ _
    | rfl | (simp only [b2ne, Bool.not_not]; done)
def P_X7_isDay (its_ : Int32) : PX Int32 :=
  pb (P_X7_in its_ (0 : Int32) (59 : Int32)) pz
set_option maxRecDepth 100000 in
set_option maxHeartbeats 4000000 in
theorem sm_X7_isDay (mo : Nat) (its_ : Int32) : SIM mo (F_X7_isDay its_) (P_X7_isDay its_) := by
  unfold F_X7_isDay P_X7_isDay
  repeat' first
    | with_reducible exact sim_gi | with_reducible exact sim_si | with_reducible exact sim_ai rfl | with_reducible exact sim_al rfl | with_reducible exact sim_sai rfl | with_reducible exact sim_saz rfl | with_reducible exact sim_sal rfl
    | with_reducible exact sim_pz | with_reducible exact sim_pch | with_reducible exact sim_div | with_reducible exact sim_rem
    | with_reducible refine sim_pp ?_ | with_reducible refine sim_zb ?_ | with_reducible refine sim_zif ?_ ?_ ?_
    | with_reducible refine sim_assoc ?_ | with_reducible refine sim_pure ?_ | with_reducible refine sim_gr (by decide) ?_
    | with_reducible refine sim_pb ?_ (fun v => ?_) | with_reducible refine sim_if2 ?_ ?_ ?_ | with_reducible refine sim_xl ?_ (fun s => ?_) (fun s => ?_) | with_reducible refine sim_xo rfl rfl ?_
    | with_reducible exact sm_X7_in mo _ _ _
    | rfl | (simp only [b2ne, Bool.not_not]; done)
def P_X7_isMeeting (its_ : Int32) : PX Int32 :=
  pb (pgi 3) (fun v2 => pb (P_X7_in its_ (0 : Int32) (v2 - (1 : Int32))) pz)
set_option maxRecDepth 100000 in
set_option maxHeartbeats 4000000 in
theorem sm_X7_isMeeting (mo : Nat) (its_ : Int32) : SIM mo (F_X7_isMeeting mo its_) (P_X7_isMeeting its_) := by
  unfold F_X7_isMeeting P_X7_isMeeting
  repeat' first
    | with_reducible exact sim_gi | with_reducible exact sim_si | with_reducible exact sim_ai rfl | with_reducible exact sim_al rfl | with_reducible exact sim_sai rfl | with_reducible exact sim_saz rfl | with_reducible exact sim_sal rfl
    | with_reducible exact sim_pz | with_reducible exact sim_pch | with_reducible exact sim_div | with_reducible exact sim_rem
    | with_reducible refine sim_pp ?_ | with_reducible refine sim_zb ?_ | with_reducible refine sim_zif ?_ ?_ ?_
    | with_reducible refine sim_assoc ?_ | with_reducible refine sim_pure ?_ | with_reducible refine sim_gr (by decide) ?_
    | with_reducible refine sim_pb ?_ (fun v => ?_) | with_reducible refine sim_if2 ?_ ?_ ?_ | with_reducible refine sim_xl ?_ (fun s => ?_) (fun s => ?_) | with_reducible refine sim_xo rfl rfl ?_
    | with_reducible exact sm_X7_in mo _ _ _
    | rfl | (simp only [b2ne, Bool.not_not]; done)
def P_X7_isMessage (its_ : Int32) : PX Int32 :=
  pb (pgi 29) (fun v2 => pb (P_X7_in its_ (0 : Int32) (v2 - (1 : Int32))) pz)
set_option maxRecDepth 100000 in
set_option maxHeartbeats 4000000 in
theorem sm_X7_isMessage (mo : Nat) (its_ : Int32) : SIM mo (F_X7_isMessage mo its_) (P_X7_isMessage its_) := by
  unfold F_X7_isMessage P_X7_isMessage
  repeat' first
    | with_reducible exact sim_gi | with_reducible exact sim_si | with_reducible exact sim_ai rfl | with_reducible exact sim_al rfl | with_reducible exact sim_sai rfl | with_reducible exact sim_saz rfl | with_reducible exact sim_sal rfl
    | with_reducible exact sim_pz | with_reducible exact sim_pch | with_reducible exact sim_div | with_reducible exact sim_rem
    | with_reducible refine sim_pp ?_ | with_reducible refine sim_zb ?_ | with_reducible refine sim_zif ?_ ?_ ?_
    | with_reducible refine sim_assoc ?_ | with_reducible refine sim_pure ?_ | with_reducible refine sim_gr (by decide) ?_
    | with_reducible refine sim_pb ?_ (fun v => ?_) | with_reducible refine sim_if2 ?_ ?_ ?_ | with_reducible refine sim_xl ?_ (fun s => ?_) (fun s => ?_) | with_reducible refine sim_xo rfl rfl ?_
    | with_reducible exact sm_X7_in mo _ _ _
    | rfl | (simp only [b2ne, Bool.not_not]; done)
def P_X7_at (person_ : Int32) (its_ : Int32) : PX Int32 :=
  pp (((8 : Int32) * person_) + its_)
set_option maxRecDepth 100000 in
set_option maxHeartbeats 4000000 in
theorem sm_X7_at (mo : Nat) (person_ : Int32) (its_ : Int32) : SIM mo (F_X7_at person_ its_) (P_X7_at person_ its_) := by
  unfold F_X7_at P_X7_at
  repeat' first
    | with_reducible exact sim_gi | with_reducible exact sim_si | with_reducible exact sim_ai rfl | with_reducible exact sim_al rfl | with_reducible exact sim_sai rfl | with_reducible exact sim_saz rfl | with_reducible exact sim_sal rfl
    | with_reducible exact sim_pz | with_reducible exact sim_pch | with_reducible exact sim_div | with_reducible exact sim_rem
    | with_reducible refine sim_pp ?_ | with_reducible refine sim_zb ?_ | with_reducible refine sim_zif ?_ ?_ ?_
    | with_reducible refine sim_assoc ?_ | with_reducible refine sim_pure ?_ | with_reducible refine sim_gr (by decide) ?_
    | with_reducible refine sim_pb ?_ (fun v => ?_) | with_reducible refine sim_if2 ?_ ?_ ?_ | with_reducible refine sim_xl ?_ (fun s => ?_) (fun s => ?_) | with_reducible refine sim_xo rfl rfl ?_
    | rfl | (simp only [b2ne, Bool.not_not]; done)
def P_X7_has (set_ : Int64) (its_ : Int32) : PX Int32 :=
  pp (b2i (decide (((set_ >>> (its_.toInt64 &&& 63)) &&& (1 : Int64)) = (1 : Int64))))
set_option maxRecDepth 100000 in
set_option maxHeartbeats 4000000 in
theorem sm_X7_has (mo : Nat) (set_ : Int64) (its_ : Int32) : SIM mo (F_X7_has set_ its_) (P_X7_has set_ its_) := by
  unfold F_X7_has P_X7_has
  repeat' first
    | with_reducible exact sim_gi | with_reducible exact sim_si | with_reducible exact sim_ai rfl | with_reducible exact sim_al rfl | with_reducible exact sim_sai rfl | with_reducible exact sim_saz rfl | with_reducible exact sim_sal rfl
    | with_reducible exact sim_pz | with_reducible exact sim_pch | with_reducible exact sim_div | with_reducible exact sim_rem
    | with_reducible refine sim_pp ?_ | with_reducible refine sim_zb ?_ | with_reducible refine sim_zif ?_ ?_ ?_
    | with_reducible refine sim_assoc ?_ | with_reducible refine sim_pure ?_ | with_reducible refine sim_gr (by decide) ?_
    | with_reducible refine sim_pb ?_ (fun v => ?_) | with_reducible refine sim_if2 ?_ ?_ ?_ | with_reducible refine sim_xl ?_ (fun s => ?_) (fun s => ?_) | with_reducible refine sim_xo rfl rfl ?_
    | rfl | (simp only [b2ne, Bool.not_not]; done)
def P_X7_setOffset (its_ : Int32) (hours_ : Int32) : PX Int32 :=
  pb (P_X7_isZone its_) (fun v6 => pb (P_X7_in hours_ (-12 : Int32) (12 : Int32)) (fun v7 => pb (P_X7_goes v6 v7 (1 : Int32)) (fun v9 => if (!(decide (¬ v9 = 0))) then pp (0 : Int32) else pb (pai 0 its_) (fun before_14 => pb (psai 0 its_ hours_) (fun _ => pp before_14)))))
set_option maxRecDepth 100000 in
set_option maxHeartbeats 4000000 in
theorem sm_X7_setOffset (mo : Nat) (its_ : Int32) (hours_ : Int32) : SIM mo (F_X7_setOffset mo its_ hours_) (P_X7_setOffset its_ hours_) := by
  unfold F_X7_setOffset P_X7_setOffset
  repeat' first
    | with_reducible exact sim_gi | with_reducible exact sim_si | with_reducible exact sim_ai rfl | with_reducible exact sim_al rfl | with_reducible exact sim_sai rfl | with_reducible exact sim_saz rfl | with_reducible exact sim_sal rfl
    | with_reducible exact sim_pz | with_reducible exact sim_pch | with_reducible exact sim_div | with_reducible exact sim_rem
    | with_reducible refine sim_pp ?_ | with_reducible refine sim_zb ?_ | with_reducible refine sim_zif ?_ ?_ ?_
    | with_reducible refine sim_assoc ?_ | with_reducible refine sim_pure ?_ | with_reducible refine sim_gr (by decide) ?_
    | with_reducible refine sim_pb ?_ (fun v => ?_) | with_reducible refine sim_if2 ?_ ?_ ?_ | with_reducible refine sim_xl ?_ (fun s => ?_) (fun s => ?_) | with_reducible refine sim_xo rfl rfl ?_
    | with_reducible exact sm_X7_isZone mo _
    | with_reducible exact sm_X7_in mo _ _ _
    | with_reducible exact sm_X7_goes mo _ _ _
    | rfl | (simp only [b2ne, Bool.not_not]; done)
def P_X7_setSummer (its_ : Int32) (from_ : Int32) (to_ : Int32) : PX Int32 :=
  pb (P_X7_isZone its_) (fun v16 => pb (if (decide (from_ = (-1 : Int32))) then pp true else pb (P_X7_isDay from_) (fun v5 => if (decide (¬ v5 = 0)) then pb (P_X7_in to_ (from_ + (1 : Int32)) (60 : Int32)) (fun v11 => pp (decide (¬ v11 = 0))) else pp false)) (fun v14 => pb (P_X7_goes v16 (b2i v14) (1 : Int32)) (fun v19 => if (!(decide (¬ v19 = 0))) then pp (0 : Int32) else pb (pai 1 its_) (fun before_24 => pb (psai 1 its_ from_) (fun _ => pb (psai 2 its_ to_) (fun _ => pp before_24))))))
set_option maxRecDepth 100000 in
set_option maxHeartbeats 4000000 in
theorem sm_X7_setSummer (mo : Nat) (its_ : Int32) (from_ : Int32) (to_ : Int32) : SIM mo (F_X7_setSummer mo its_ from_ to_) (P_X7_setSummer its_ from_ to_) := by
  unfold F_X7_setSummer P_X7_setSummer
  repeat' first
    | with_reducible exact sim_gi | with_reducible exact sim_si | with_reducible exact sim_ai rfl | with_reducible exact sim_al rfl | with_reducible exact sim_sai rfl | with_reducible exact sim_saz rfl | with_reducible exact sim_sal rfl
    | with_reducible exact sim_pz | with_reducible exact sim_pch | with_reducible exact sim_div | with_reducible exact sim_rem
    | with_reducible refine sim_pp ?_ | with_reducible refine sim_zb ?_ | with_reducible refine sim_zif ?_ ?_ ?_
    | with_reducible refine sim_assoc ?_ | with_reducible refine sim_pure ?_ | with_reducible refine sim_gr (by decide) ?_
    | with_reducible refine sim_pb ?_ (fun v => ?_) | with_reducible refine sim_if2 ?_ ?_ ?_ | with_reducible refine sim_xl ?_ (fun s => ?_) (fun s => ?_) | with_reducible refine sim_xo rfl rfl ?_
    | with_reducible exact sm_X7_isZone mo _
    | with_reducible exact sm_X7_isDay mo _
    | with_reducible exact sm_X7_in mo _ _ _
    | with_reducible exact sm_X7_goes mo _ _ _
    | rfl | (simp only [b2ne, Bool.not_not]; done)
def P_X7_isSummer (its_ : Int32) (when_ : Int32) : PX Int32 :=
  pb (pai 1 its_) (fun v4 => pb (if (decide (¬ v4 = (-1 : Int32))) then pb (pai 0 its_) (fun v10 => pb (pai 1 its_) (fun v15 => pb (pai 2 its_) (fun v22 => pb (P_X7_in (when_ + v10) (((24 : Int32) * v15) + (2 : Int32)) (((24 : Int32) * v22) + (1 : Int32))) (fun v28 => pp (decide (¬ v28 = 0)))))) else pp false) (fun v30 => pp (b2i v30)))
set_option maxRecDepth 100000 in
set_option maxHeartbeats 4000000 in
theorem sm_X7_isSummer (mo : Nat) (its_ : Int32) (when_ : Int32) : SIM mo (F_X7_isSummer mo its_ when_) (P_X7_isSummer its_ when_) := by
  unfold F_X7_isSummer P_X7_isSummer
  repeat' first
    | with_reducible exact sim_gi | with_reducible exact sim_si | with_reducible exact sim_ai rfl | with_reducible exact sim_al rfl | with_reducible exact sim_sai rfl | with_reducible exact sim_saz rfl | with_reducible exact sim_sal rfl
    | with_reducible exact sim_pz | with_reducible exact sim_pch | with_reducible exact sim_div | with_reducible exact sim_rem
    | with_reducible refine sim_pp ?_ | with_reducible refine sim_zb ?_ | with_reducible refine sim_zif ?_ ?_ ?_
    | with_reducible refine sim_assoc ?_ | with_reducible refine sim_pure ?_ | with_reducible refine sim_gr (by decide) ?_
    | with_reducible refine sim_pb ?_ (fun v => ?_) | with_reducible refine sim_if2 ?_ ?_ ?_ | with_reducible refine sim_xl ?_ (fun s => ?_) (fun s => ?_) | with_reducible refine sim_xo rfl rfl ?_
    | with_reducible exact sm_X7_in mo _ _ _
    | rfl | (simp only [b2ne, Bool.not_not]; done)
def P_X7_localOf (its_ : Int32) (when_ : Int32) : PX Int32 :=
  pb (pai 0 its_) (fun v5 => pb (P_X7_isSummer its_ when_) (fun v9 => pb (if (decide (¬ v9 = 0)) then pp (1 : Int32) else pp (0 : Int32)) (fun v12 => pp ((when_ + v5) + v12))))
set_option maxRecDepth 100000 in
set_option maxHeartbeats 4000000 in
theorem sm_X7_localOf (mo : Nat) (its_ : Int32) (when_ : Int32) : SIM mo (F_X7_localOf mo its_ when_) (P_X7_localOf its_ when_) := by
  unfold F_X7_localOf P_X7_localOf
  repeat' first
    | with_reducible exact sim_gi | with_reducible exact sim_si | with_reducible exact sim_ai rfl | with_reducible exact sim_al rfl | with_reducible exact sim_sai rfl | with_reducible exact sim_saz rfl | with_reducible exact sim_sal rfl
    | with_reducible exact sim_pz | with_reducible exact sim_pch | with_reducible exact sim_div | with_reducible exact sim_rem
    | with_reducible refine sim_pp ?_ | with_reducible refine sim_zb ?_ | with_reducible refine sim_zif ?_ ?_ ?_
    | with_reducible refine sim_assoc ?_ | with_reducible refine sim_pure ?_ | with_reducible refine sim_gr (by decide) ?_
    | with_reducible refine sim_pb ?_ (fun v => ?_) | with_reducible refine sim_if2 ?_ ?_ ?_ | with_reducible refine sim_xl ?_ (fun s => ?_) (fun s => ?_) | with_reducible refine sim_xo rfl rfl ?_
    | with_reducible exact sm_X7_isSummer mo _ _
    | rfl | (simp only [b2ne, Bool.not_not]; done)
def P_X7_commonOf (its_ : Int32) (clock_ : Int32) : PX Int32 :=
  pb (pai 0 its_) (fun v5 => pb (P_X7_isSummer its_ ((clock_ - v5) - (1 : Int32))) (fun early_12 => if (decide (¬ early_12 = 0)) then pp ((clock_ - v5) - (1 : Int32)) else pp (clock_ - v5)))
set_option maxRecDepth 100000 in
set_option maxHeartbeats 4000000 in
theorem sm_X7_commonOf (mo : Nat) (its_ : Int32) (clock_ : Int32) : SIM mo (F_X7_commonOf mo its_ clock_) (P_X7_commonOf its_ clock_) := by
  unfold F_X7_commonOf P_X7_commonOf
  repeat' first
    | with_reducible exact sim_gi | with_reducible exact sim_si | with_reducible exact sim_ai rfl | with_reducible exact sim_al rfl | with_reducible exact sim_sai rfl | with_reducible exact sim_saz rfl | with_reducible exact sim_sal rfl
    | with_reducible exact sim_pz | with_reducible exact sim_pch | with_reducible exact sim_div | with_reducible exact sim_rem
    | with_reducible refine sim_pp ?_ | with_reducible refine sim_zb ?_ | with_reducible refine sim_zif ?_ ?_ ?_
    | with_reducible refine sim_assoc ?_ | with_reducible refine sim_pure ?_ | with_reducible refine sim_gr (by decide) ?_
    | with_reducible refine sim_pb ?_ (fun v => ?_) | with_reducible refine sim_if2 ?_ ?_ ?_ | with_reducible refine sim_xl ?_ (fun s => ?_) (fun s => ?_) | with_reducible refine sim_xo rfl rfl ?_
    | with_reducible exact sm_X7_isSummer mo _ _
    | rfl | (simp only [b2ne, Bool.not_not]; done)
def P_X7_common (its_ : Int32) (clock_ : Int32) : PX Int32 :=
  pb (P_X7_isZone its_) (fun v6 => pb (P_X7_in clock_ (-100 : Int32) (2000 : Int32)) (fun v7 => pb (P_X7_goes v6 v7 (1 : Int32)) (fun v9 => if (decide (¬ v9 = 0)) then P_X7_commonOf its_ clock_ else pp (0 : Int32))))
set_option maxRecDepth 100000 in
set_option maxHeartbeats 4000000 in
theorem sm_X7_common (mo : Nat) (its_ : Int32) (clock_ : Int32) : SIM mo (F_X7_common mo its_ clock_) (P_X7_common its_ clock_) := by
  unfold F_X7_common P_X7_common
  repeat' first
    | with_reducible exact sim_gi | with_reducible exact sim_si | with_reducible exact sim_ai rfl | with_reducible exact sim_al rfl | with_reducible exact sim_sai rfl | with_reducible exact sim_saz rfl | with_reducible exact sim_sal rfl
    | with_reducible exact sim_pz | with_reducible exact sim_pch | with_reducible exact sim_div | with_reducible exact sim_rem
    | with_reducible refine sim_pp ?_ | with_reducible refine sim_zb ?_ | with_reducible refine sim_zif ?_ ?_ ?_
    | with_reducible refine sim_assoc ?_ | with_reducible refine sim_pure ?_ | with_reducible refine sim_gr (by decide) ?_
    | with_reducible refine sim_pb ?_ (fun v => ?_) | with_reducible refine sim_if2 ?_ ?_ ?_ | with_reducible refine sim_xl ?_ (fun s => ?_) (fun s => ?_) | with_reducible refine sim_xo rfl rfl ?_
    | with_reducible exact sm_X7_isZone mo _
    | with_reducible exact sm_X7_in mo _ _ _
    | with_reducible exact sm_X7_goes mo _ _ _
    | with_reducible exact sm_X7_commonOf mo _ _
    | rfl | (simp only [b2ne, Bool.not_not]; done)
def P_X7_local (its_ : Int32) (when_ : Int32) : PX Int32 :=
  pb (P_X7_isZone its_) (fun v6 => pb (P_X7_in when_ (-100 : Int32) (2000 : Int32)) (fun v7 => pb (P_X7_goes v6 v7 (1 : Int32)) (fun v9 => if (decide (¬ v9 = 0)) then P_X7_localOf its_ when_ else pp (0 : Int32))))
set_option maxRecDepth 100000 in
set_option maxHeartbeats 4000000 in
theorem sm_X7_local (mo : Nat) (its_ : Int32) (when_ : Int32) : SIM mo (F_X7_local mo its_ when_) (P_X7_local its_ when_) := by
  unfold F_X7_local P_X7_local
  repeat' first
    | with_reducible exact sim_gi | with_reducible exact sim_si | with_reducible exact sim_ai rfl | with_reducible exact sim_al rfl | with_reducible exact sim_sai rfl | with_reducible exact sim_saz rfl | with_reducible exact sim_sal rfl
    | with_reducible exact sim_pz | with_reducible exact sim_pch | with_reducible exact sim_div | with_reducible exact sim_rem
    | with_reducible refine sim_pp ?_ | with_reducible refine sim_zb ?_ | with_reducible refine sim_zif ?_ ?_ ?_
    | with_reducible refine sim_assoc ?_ | with_reducible refine sim_pure ?_ | with_reducible refine sim_gr (by decide) ?_
    | with_reducible refine sim_pb ?_ (fun v => ?_) | with_reducible refine sim_if2 ?_ ?_ ?_ | with_reducible refine sim_xl ?_ (fun s => ?_) (fun s => ?_) | with_reducible refine sim_xo rfl rfl ?_
    | with_reducible exact sm_X7_isZone mo _
    | with_reducible exact sm_X7_in mo _ _ _
    | with_reducible exact sm_X7_goes mo _ _ _
    | with_reducible exact sm_X7_localOf mo _ _
    | rfl | (simp only [b2ne, Bool.not_not]; done)
def P_X7_isHere (person_ : Int32) (its_ : Int32) : PX Int32 :=
  pb (pai 4 its_) (fun v4 => if (decide (v4 = person_)) then pb (pai 5 its_) (fun v11 => pb (pai 19 v11) (fun v12 => pp (b2i (!(decide (¬ v12 = 0)))))) else pb (P_X7_at person_ its_) (fun v19 => pb (pai 25 v19) (fun own_20 => pb (if (decide (¬ own_20 = (-1 : Int32))) then pb (pai 19 own_20) (fun v26 => pp (!(decide (¬ v26 = 0)))) else pp false) (fun v37 => pb (if v37 then pb (pai 18 own_20) (fun v32 => pp (decide (((v32 >>> (person_ &&& 31)) &&& (1 : Int32)) = 0))) else pp false) (fun v38 => pp (b2i v38))))))
set_option maxRecDepth 100000 in
set_option maxHeartbeats 4000000 in
theorem sm_X7_isHere (mo : Nat) (person_ : Int32) (its_ : Int32) : SIM mo (F_X7_isHere mo person_ its_) (P_X7_isHere person_ its_) := by
  unfold F_X7_isHere P_X7_isHere
  repeat' first
    | with_reducible exact sim_gi | with_reducible exact sim_si | with_reducible exact sim_ai rfl | with_reducible exact sim_al rfl | with_reducible exact sim_sai rfl | with_reducible exact sim_saz rfl | with_reducible exact sim_sal rfl
    | with_reducible exact sim_pz | with_reducible exact sim_pch | with_reducible exact sim_div | with_reducible exact sim_rem
    | with_reducible refine sim_pp ?_ | with_reducible refine sim_zb ?_ | with_reducible refine sim_zif ?_ ?_ ?_
    | with_reducible refine sim_assoc ?_ | with_reducible refine sim_pure ?_ | with_reducible refine sim_gr (by decide) ?_
    | with_reducible refine sim_pb ?_ (fun v => ?_) | with_reducible refine sim_if2 ?_ ?_ ?_ | with_reducible refine sim_xl ?_ (fun s => ?_) (fun s => ?_) | with_reducible refine sim_xo rfl rfl ?_
    | with_reducible exact sm_X7_at mo _ _
    | rfl | (simp only [b2ne, Bool.not_not]; done)
def P_X7_marks (person_ : Int32) (its_ : Int32) : PX Unit :=
  pb (pai 27 person_) (fun v4 => pb (psai 27 person_ (v4 + (1 : Int32))) (fun _ => pb (P_X7_at person_ its_) (fun v14 => pb (pai 27 person_) (fun v15 => pb (psai 26 v14 v15) (fun _ => pb (pl 2000 (fun (s19 : Int32 × Int32 × Int32) => pb (pgi 3) (fun v22 => pp (decide (s19.2.2 < v22)))) (fun (s19 : Int32 × Int32 × Int32) => pb (P_X7_at person_ s19.2.2) (fun v27 => pb (pai 26 v27) (fun v28 => pb (if (decide (0 < v28)) then pb (P_X7_isHere person_ s19.2.2) (fun v32 => pp (!(decide (¬ v32 = 0)))) else pp false) (fun v52 => pb (if v52 then pb (if (decide (s19.2.1 = (-1 : Int32))) then pp true else pb (P_X7_at person_ s19.2.2) (fun v41 => pb (pai 26 v41) (fun v42 => pb (P_X7_at person_ s19.2.1) (fun v47 => pb (pai 26 v47) (fun v48 => pp (decide (v42 < v48))))))) (fun v50 => pb (if v50 then pp s19.2.2 else pp s19.2.1) (fun lowest_51 => pp ((s19.1 + 1), lowest_51))) else pp (s19.1, s19.2.1)) (fun s53 => pp (s53.1, s53.2, (s19.2.2 + 1))))))) ((0 : Int32), (-1 : Int32), (0 : Int32))) (fun s54 => pb (if (decide ((3 : Int32) < s54.1)) then pb (P_X7_at person_ s54.2.1) (fun v62 => pb (pai 26 v62) (fun v65 => pb (psai 28 person_ v65) (fun _ => pb (P_X7_at person_ s54.2.1) (fun v70 => pb (psai 26 v70 (0 : Int32)) (fun _ => pp ()))))) else pp ()) (fun s73 => pp ())))))))
set_option maxRecDepth 100000 in
set_option maxHeartbeats 4000000 in
theorem sm_X7_marks (mo : Nat) (person_ : Int32) (its_ : Int32) : SIM mo (F_X7_marks mo person_ its_) (P_X7_marks person_ its_) := by
  unfold F_X7_marks P_X7_marks
  repeat' first
    | with_reducible exact sim_gi | with_reducible exact sim_si | with_reducible exact sim_ai rfl | with_reducible exact sim_al rfl | with_reducible exact sim_sai rfl | with_reducible exact sim_saz rfl | with_reducible exact sim_sal rfl
    | with_reducible exact sim_pz | with_reducible exact sim_pch | with_reducible exact sim_div | with_reducible exact sim_rem
    | with_reducible refine sim_pp ?_ | with_reducible refine sim_zb ?_ | with_reducible refine sim_zif ?_ ?_ ?_
    | with_reducible refine sim_assoc ?_ | with_reducible refine sim_pure ?_ | with_reducible refine sim_gr (by decide) ?_
    | with_reducible refine sim_pb ?_ (fun v => ?_) | with_reducible refine sim_if2 ?_ ?_ ?_ | with_reducible refine sim_xl ?_ (fun s => ?_) (fun s => ?_) | with_reducible refine sim_xo rfl rfl ?_
    | with_reducible exact sm_X7_at mo _ _
    | with_reducible exact sm_X7_isHere mo _ _
    | rfl | (simp only [b2ne, Bool.not_not]; done)
def P_X7_isOfRule (its_ : Int32) (when_ : Int32) : PX Int32 :=
  pb (pai 11 its_) (fun v5 => pb (if (decide (0 ≤ (when_ - v5))) then pb (pai 14 its_) (fun v12 => pb (prem (when_ - v5) v12) (fun v13 => pp (decide (v13 = 0)))) else pp false) (fun v26 => pb (if v26 then pb (pai 15 its_) (fun v20 => pb (prem when_ (7 : Int32)) (fun v21 => pp (decide (((v20 >>> (v21 &&& 31)) &&& (1 : Int32)) = (1 : Int32))))) else pp false) (fun v27 => pp (b2i v27))))
set_option maxRecDepth 100000 in
set_option maxHeartbeats 4000000 in
theorem sm_X7_isOfRule (mo : Nat) (its_ : Int32) (when_ : Int32) : SIM mo (F_X7_isOfRule mo its_ when_) (P_X7_isOfRule its_ when_) := by
  unfold F_X7_isOfRule P_X7_isOfRule
  repeat' first
    | with_reducible exact sim_gi | with_reducible exact sim_si | with_reducible exact sim_ai rfl | with_reducible exact sim_al rfl | with_reducible exact sim_sai rfl | with_reducible exact sim_saz rfl | with_reducible exact sim_sal rfl
    | with_reducible exact sim_pz | with_reducible exact sim_pch | with_reducible exact sim_div | with_reducible exact sim_rem
    | with_reducible refine sim_pp ?_ | with_reducible refine sim_zb ?_ | with_reducible refine sim_zif ?_ ?_ ?_
    | with_reducible refine sim_assoc ?_ | with_reducible refine sim_pure ?_ | with_reducible refine sim_gr (by decide) ?_
    | with_reducible refine sim_pb ?_ (fun v => ?_) | with_reducible refine sim_if2 ?_ ?_ ?_ | with_reducible refine sim_xl ?_ (fun s => ?_) (fun s => ?_) | with_reducible refine sim_xo rfl rfl ?_
    | rfl | (simp only [b2ne, Bool.not_not]; done)
def P_X7_laysDates (its_ : Int32) : PX Unit :=
  pb (pal 20 its_) (fun v7 => pb (psal 23 its_ v7) (fun _ => pb (pl 2000 (fun (s10 : Int32 × Int32) => pp (decide (s10.2 < (60 : Int32)))) (fun (s10 : Int32 × Int32) => pb (P_X7_isOfRule its_ s10.2) (fun v16 => pb (if (decide (¬ v16 = 0)) then pb (pai 16 its_) (fun v21 => pp (decide (s10.1 < v21))) else pp false) (fun v23 => pb (if v23 then pp (1 : Int32) else pp (0 : Int32)) (fun v28 => pb (pal 23 its_) (fun v45 => pb (if v23 then pb (pal 21 its_) (fun v35 => pb (P_X7_has v35 s10.2) (fun v37 => pp (!(decide (¬ v37 = 0))))) else pp false) (fun v42 => pb (if v42 then pp ((1 : Int64) <<< (s10.2.toInt64 &&& 63)) else pp (0 : Int64)) (fun v46 => pb (psal 23 its_ (v45 ||| v46)) (fun _ => pp ((s10.1 + v28), (s10.2 + 1)))))))))) ((0 : Int32), (0 : Int32))) (fun s48 => pp ())))
set_option maxRecDepth 100000 in
set_option maxHeartbeats 4000000 in
theorem sm_X7_laysDates (mo : Nat) (its_ : Int32) : SIM mo (F_X7_laysDates mo its_) (P_X7_laysDates its_) := by
  unfold F_X7_laysDates P_X7_laysDates
  repeat' first
    | with_reducible exact sim_gi | with_reducible exact sim_si | with_reducible exact sim_ai rfl | with_reducible exact sim_al rfl | with_reducible exact sim_sai rfl | with_reducible exact sim_saz rfl | with_reducible exact sim_sal rfl
    | with_reducible exact sim_pz | with_reducible exact sim_pch | with_reducible exact sim_div | with_reducible exact sim_rem
    | with_reducible refine sim_pp ?_ | with_reducible refine sim_zb ?_ | with_reducible refine sim_zif ?_ ?_ ?_
    | with_reducible refine sim_assoc ?_ | with_reducible refine sim_pure ?_ | with_reducible refine sim_gr (by decide) ?_
    | with_reducible refine sim_pb ?_ (fun v => ?_) | with_reducible refine sim_if2 ?_ ?_ ?_ | with_reducible refine sim_xl ?_ (fun s => ?_) (fun s => ?_) | with_reducible refine sim_xo rfl rfl ?_
    | with_reducible exact sm_X7_isOfRule mo _ _
    | with_reducible exact sm_X7_has mo _ _
    | rfl | (simp only [b2ne, Bool.not_not]; done)
def P_X7_next (its_ : Int32) : PX Int32 :=
  pb (pai 5 its_) (fun from_4 => pb (pai 8 from_4) (fun v8 => pb (if (decide (¬ v8 = 0)) then pgi 7 else pp from_4) (fun to_11 => pb (pgi 7) (fun v18 => pb (pai 8 from_4) (fun v15 => pb (if (decide (¬ v15 = 0)) then pp (1 : Int32) else pp (0 : Int32)) (fun v19 => pb (psi 7 (v18 + v19)) (fun _ => pb (pai 9 from_4) (fun v25 => pb (psai 9 to_11 (v25 + (1 : Int32))) (fun _ => pb (pai 10 from_4) (fun v36 => pb (psai 10 to_11 v36) (fun _ => pb (pai 11 from_4) (fun v43 => pb (psai 11 to_11 v43) (fun _ => pb (pai 12 from_4) (fun v50 => pb (psai 12 to_11 v50) (fun _ => pb (pai 13 from_4) (fun v57 => pb (psai 13 to_11 v57) (fun _ => pb (pai 14 from_4) (fun v64 => pb (psai 14 to_11 v64) (fun _ => pb (pai 15 from_4) (fun v71 => pb (psai 15 to_11 v71) (fun _ => pb (pai 16 from_4) (fun v78 => pb (psai 16 to_11 v78) (fun _ => pb (pai 17 from_4) (fun v85 => pb (psai 17 to_11 v85) (fun _ => pb (pai 18 from_4) (fun v92 => pb (psai 18 to_11 v92) (fun _ => pb (pai 19 from_4) (fun v99 => pb (psaz 19 to_11 v99) (fun _ => pb (pal 20 from_4) (fun v106 => pb (psal 20 to_11 v106) (fun _ => pb (pal 21 from_4) (fun v113 => pb (psal 21 to_11 v113) (fun _ => pb (pal 22 from_4) (fun v120 => pb (psal 22 to_11 v120) (fun _ => pb (pl 2000 (fun (s122 : Int32) => pp (decide (s122 < (60 : Int32)))) (fun (s122 : Int32) => pb (pai 24 (((60 : Int32) * from_4) + s122)) (fun v139 => pb (psai 24 (((60 : Int32) * to_11) + s122) v139) (fun _ => pp (s122 + 1)))) (0 : Int32)) (fun s140 => pp to_11))))))))))))))))))))))))))))))))))))
set_option maxRecDepth 100000 in
set_option maxHeartbeats 4000000 in
theorem sm_X7_next (mo : Nat) (its_ : Int32) : SIM mo (F_X7_next mo its_) (P_X7_next its_) := by
  unfold F_X7_next P_X7_next
  repeat' first
    | with_reducible exact sim_gi | with_reducible exact sim_si | with_reducible exact sim_ai rfl | with_reducible exact sim_al rfl | with_reducible exact sim_sai rfl | with_reducible exact sim_saz rfl | with_reducible exact sim_sal rfl
    | with_reducible exact sim_pz | with_reducible exact sim_pch | with_reducible exact sim_div | with_reducible exact sim_rem
    | with_reducible refine sim_pp ?_ | with_reducible refine sim_zb ?_ | with_reducible refine sim_zif ?_ ?_ ?_
    | with_reducible refine sim_assoc ?_ | with_reducible refine sim_pure ?_ | with_reducible refine sim_gr (by decide) ?_
    | with_reducible refine sim_pb ?_ (fun v => ?_) | with_reducible refine sim_if2 ?_ ?_ ?_ | with_reducible refine sim_xl ?_ (fun s => ?_) (fun s => ?_) | with_reducible refine sim_xo rfl rfl ?_
    | rfl | (simp only [b2ne, Bool.not_not]; done)
def P_X7_holds (its_ : Int32) (which_ : Int32) : PX Int32 :=
  pb (P_X7_laysDates which_) (fun _ => pb (psai 5 its_ which_) (fun _ => pb (pai 4 its_) (fun v11 => pb (P_X7_marks v11 its_) (fun _ => pai 9 which_))))
set_option maxRecDepth 100000 in
set_option maxHeartbeats 4000000 in
theorem sm_X7_holds (mo : Nat) (its_ : Int32) (which_ : Int32) : SIM mo (F_X7_holds mo its_ which_) (P_X7_holds its_ which_) := by
  unfold F_X7_holds P_X7_holds
  repeat' first
    | with_reducible exact sim_gi | with_reducible exact sim_si | with_reducible exact sim_ai rfl | with_reducible exact sim_al rfl | with_reducible exact sim_sai rfl | with_reducible exact sim_saz rfl | with_reducible exact sim_sal rfl
    | with_reducible exact sim_pz | with_reducible exact sim_pch | with_reducible exact sim_div | with_reducible exact sim_rem
    | with_reducible refine sim_pp ?_ | with_reducible refine sim_zb ?_ | with_reducible refine sim_zif ?_ ?_ ?_
    | with_reducible refine sim_assoc ?_ | with_reducible refine sim_pure ?_ | with_reducible refine sim_gr (by decide) ?_
    | with_reducible refine sim_pb ?_ (fun v => ?_) | with_reducible refine sim_if2 ?_ ?_ ?_ | with_reducible refine sim_xl ?_ (fun s => ?_) (fun s => ?_) | with_reducible refine sim_xo rfl rfl ?_
    | with_reducible exact sm_X7_laysDates mo _
    | with_reducible exact sm_X7_marks mo _ _
    | rfl | (simp only [b2ne, Bool.not_not]; done)
def P_X7_stands (which_ : Int32) (when_ : Int32) (clock_ : Int32) : PX Unit :=
  pb (pai 9 which_) (fun v10 => pb (psai 24 (((60 : Int32) * which_) + when_) (clock_ + ((2048 : Int32) * v10))) (fun _ => pp ()))
set_option maxRecDepth 100000 in
set_option maxHeartbeats 4000000 in
theorem sm_X7_stands (mo : Nat) (which_ : Int32) (when_ : Int32) (clock_ : Int32) : SIM mo (F_X7_stands mo which_ when_ clock_) (P_X7_stands which_ when_ clock_) := by
  unfold F_X7_stands P_X7_stands
  repeat' first
    | with_reducible exact sim_gi | with_reducible exact sim_si | with_reducible exact sim_ai rfl | with_reducible exact sim_al rfl | with_reducible exact sim_sai rfl | with_reducible exact sim_saz rfl | with_reducible exact sim_sal rfl
    | with_reducible exact sim_pz | with_reducible exact sim_pch | with_reducible exact sim_div | with_reducible exact sim_rem
    | with_reducible refine sim_pp ?_ | with_reducible refine sim_zb ?_ | with_reducible refine sim_zif ?_ ?_ ?_
    | with_reducible refine sim_assoc ?_ | with_reducible refine sim_pure ?_ | with_reducible refine sim_gr (by decide) ?_
    | with_reducible refine sim_pb ?_ (fun v => ?_) | with_reducible refine sim_if2 ?_ ?_ ?_ | with_reducible refine sim_xl ?_ (fun s => ?_) (fun s => ?_) | with_reducible refine sim_xo rfl rfl ?_
    | rfl | (simp only [b2ne, Bool.not_not]; done)
def P_X7_goal (which_ : Int32) (when_ : Int32) : PX Int32 :=
  pb (pai 24 (((60 : Int32) * which_) + when_)) (fun v8 => prem v8 (2048 : Int32))
set_option maxRecDepth 100000 in
set_option maxHeartbeats 4000000 in
theorem sm_X7_goal (mo : Nat) (which_ : Int32) (when_ : Int32) : SIM mo (F_X7_goal mo which_ when_) (P_X7_goal which_ when_) := by
  unfold F_X7_goal P_X7_goal
  repeat' first
    | with_reducible exact sim_gi | with_reducible exact sim_si | with_reducible exact sim_ai rfl | with_reducible exact sim_al rfl | with_reducible exact sim_sai rfl | with_reducible exact sim_saz rfl | with_reducible exact sim_sal rfl
    | with_reducible exact sim_pz | with_reducible exact sim_pch | with_reducible exact sim_div | with_reducible exact sim_rem
    | with_reducible refine sim_pp ?_ | with_reducible refine sim_zb ?_ | with_reducible refine sim_zif ?_ ?_ ?_
    | with_reducible refine sim_assoc ?_ | with_reducible refine sim_pure ?_ | with_reducible refine sim_gr (by decide) ?_
    | with_reducible refine sim_pb ?_ (fun v => ?_) | with_reducible refine sim_if2 ?_ ?_ ?_ | with_reducible refine sim_xl ?_ (fun s => ?_) (fun s => ?_) | with_reducible refine sim_xo rfl rfl ?_
    | rfl | (simp only [b2ne, Bool.not_not]; done)
def P_X7_stand (which_ : Int32) (when_ : Int32) : PX Int32 :=
  pb (pai 24 (((60 : Int32) * which_) + when_)) (fun v8 => pdiv v8 (2048 : Int32))
set_option maxRecDepth 100000 in
set_option maxHeartbeats 4000000 in
theorem sm_X7_stand (mo : Nat) (which_ : Int32) (when_ : Int32) : SIM mo (F_X7_stand mo which_ when_) (P_X7_stand which_ when_) := by
  unfold F_X7_stand P_X7_stand
  repeat' first
    | with_reducible exact sim_gi | with_reducible exact sim_si | with_reducible exact sim_ai rfl | with_reducible exact sim_al rfl | with_reducible exact sim_sai rfl | with_reducible exact sim_saz rfl | with_reducible exact sim_sal rfl
    | with_reducible exact sim_pz | with_reducible exact sim_pch | with_reducible exact sim_div | with_reducible exact sim_rem
    | with_reducible refine sim_pp ?_ | with_reducible refine sim_zb ?_ | with_reducible refine sim_zif ?_ ?_ ?_
    | with_reducible refine sim_assoc ?_ | with_reducible refine sim_pure ?_ | with_reducible refine sim_gr (by decide) ?_
    | with_reducible refine sim_pb ?_ (fun v => ?_) | with_reducible refine sim_if2 ?_ ?_ ?_ | with_reducible refine sim_xl ?_ (fun s => ?_) (fun s => ?_) | with_reducible refine sim_xo rfl rfl ?_
    | rfl | (simp only [b2ne, Bool.not_not]; done)
def P_X7_standsAll (which_ : Int32) : PX Unit :=
  pb (pl 2000 (fun (s2 : Int32) => pp (decide (s2 < (60 : Int32)))) (fun (s2 : Int32) => pb (P_X7_goal which_ s2) (fun v11 => pb (P_X7_stands which_ s2 v11) (fun _ => pp (s2 + 1)))) (0 : Int32)) (fun s12 => pp ())
set_option maxRecDepth 100000 in
set_option maxHeartbeats 4000000 in
theorem sm_X7_standsAll (mo : Nat) (which_ : Int32) : SIM mo (F_X7_standsAll mo which_) (P_X7_standsAll which_) := by
  unfold F_X7_standsAll P_X7_standsAll
  repeat' first
    | with_reducible exact sim_gi | with_reducible exact sim_si | with_reducible exact sim_ai rfl | with_reducible exact sim_al rfl | with_reducible exact sim_sai rfl | with_reducible exact sim_saz rfl | with_reducible exact sim_sal rfl
    | with_reducible exact sim_pz | with_reducible exact sim_pch | with_reducible exact sim_div | with_reducible exact sim_rem
    | with_reducible refine sim_pp ?_ | with_reducible refine sim_zb ?_ | with_reducible refine sim_zif ?_ ?_ ?_
    | with_reducible refine sim_assoc ?_ | with_reducible refine sim_pure ?_ | with_reducible refine sim_gr (by decide) ?_
    | with_reducible refine sim_pb ?_ (fun v => ?_) | with_reducible refine sim_if2 ?_ ?_ ?_ | with_reducible refine sim_xl ?_ (fun s => ?_) (fun s => ?_) | with_reducible refine sim_xo rfl rfl ?_
    | with_reducible exact sm_X7_goal mo _ _
    | with_reducible exact sm_X7_stands mo _ _ _
    | rfl | (simp only [b2ne, Bool.not_not]; done)
def P_X7_isTime (when_ : Int32) (clock_ : Int32) (hours_ : Int32) : PX Int32 :=
  pb (P_X7_isDay when_) (fun v2 => pb (if (decide (¬ v2 = 0)) then pb (P_X7_in clock_ (0 : Int32) (23 : Int32)) (fun v6 => pp (decide (¬ v6 = 0))) else pp false) (fun v12 => pb (if v12 then pb (P_X7_in hours_ (1 : Int32) (23 : Int32)) (fun v11 => pp (decide (¬ v11 = 0))) else pp false) (fun v13 => pp (b2i v13))))
set_option maxRecDepth 100000 in
set_option maxHeartbeats 4000000 in
theorem sm_X7_isTime (mo : Nat) (when_ : Int32) (clock_ : Int32) (hours_ : Int32) : SIM mo (F_X7_isTime when_ clock_ hours_) (P_X7_isTime when_ clock_ hours_) := by
  unfold F_X7_isTime P_X7_isTime
  repeat' first
    | with_reducible exact sim_gi | with_reducible exact sim_si | with_reducible exact sim_ai rfl | with_reducible exact sim_al rfl | with_reducible exact sim_sai rfl | with_reducible exact sim_saz rfl | with_reducible exact sim_sal rfl
    | with_reducible exact sim_pz | with_reducible exact sim_pch | with_reducible exact sim_div | with_reducible exact sim_rem
    | with_reducible refine sim_pp ?_ | with_reducible refine sim_zb ?_ | with_reducible refine sim_zif ?_ ?_ ?_
    | with_reducible refine sim_assoc ?_ | with_reducible refine sim_pure ?_ | with_reducible refine sim_gr (by decide) ?_
    | with_reducible refine sim_pb ?_ (fun v => ?_) | with_reducible refine sim_if2 ?_ ?_ ?_ | with_reducible refine sim_xl ?_ (fun s => ?_) (fun s => ?_) | with_reducible refine sim_xo rfl rfl ?_
    | with_reducible exact sm_X7_isDay mo _
    | with_reducible exact sm_X7_in mo _ _ _
    | rfl | (simp only [b2ne, Bool.not_not]; done)
def P_X7_make (person_ : Int32) (its_ : Int32) (when_ : Int32) (clock_ : Int32) (hours_ : Int32) : PX Int32 :=
  pb (P_X7_isPerson person_) (fun v2 => pb (if (decide (¬ v2 = 0)) then pb (P_X7_isZone its_) (fun v4 => pp (decide (¬ v4 = 0))) else pp false) (fun v6 => pb (P_X7_isTime when_ clock_ hours_) (fun v17 => pb (pgi 3) (fun v12 => pb (P_X7_goes (b2i v6) v17 (b2i (decide (v12 < (8 : Int32))))) (fun v19 => if (!(decide (¬ v19 = 0))) then pp (0 : Int32) else pb (pgi 3) (fun v24 => pb (psai 4 v24 person_) (fun _ => pb (pgi 7) (fun v29 => pb (psai 10 v29 its_) (fun _ => pb (pgi 7) (fun v34 => pb (psai 11 v34 when_) (fun _ => pb (pgi 7) (fun v39 => pb (psai 12 v39 clock_) (fun _ => pb (pgi 7) (fun v44 => pb (psai 13 v44 hours_) (fun _ => pb (pgi 7) (fun v49 => pb (psai 14 v49 (1 : Int32)) (fun _ => pb (pgi 7) (fun v54 => pb (psai 15 v54 (127 : Int32)) (fun _ => pb (pgi 7) (fun v59 => pb (psai 16 v59 (1 : Int32)) (fun _ => pb (pgi 3) (fun v62 => pb (psi 3 (v62 + (1 : Int32))) (fun _ => pb (pgi 7) (fun v66 => pb (psi 7 (v66 + (1 : Int32))) (fun _ => pb (pgi 3) (fun v70 => pb (pgi 7) (fun v73 => pb (P_X7_holds (v70 - (1 : Int32)) (v73 - (1 : Int32))) (fun seq_78 => pb (pgi 3) (fun v80 => pp (v80 - (1 : Int32)))))))))))))))))))))))))))))))
set_option maxRecDepth 100000 in
set_option maxHeartbeats 4000000 in
theorem sm_X7_make (mo : Nat) (person_ : Int32) (its_ : Int32) (when_ : Int32) (clock_ : Int32) (hours_ : Int32) : SIM mo (F_X7_make mo person_ its_ when_ clock_ hours_) (P_X7_make person_ its_ when_ clock_ hours_) := by
  unfold F_X7_make P_X7_make
  repeat' first
    | with_reducible exact sim_gi | with_reducible exact sim_si | with_reducible exact sim_ai rfl | with_reducible exact sim_al rfl | with_reducible exact sim_sai rfl | with_reducible exact sim_saz rfl | with_reducible exact sim_sal rfl
    | with_reducible exact sim_pz | with_reducible exact sim_pch | with_reducible exact sim_div | with_reducible exact sim_rem
    | with_reducible refine sim_pp ?_ | with_reducible refine sim_zb ?_ | with_reducible refine sim_zif ?_ ?_ ?_
    | with_reducible refine sim_assoc ?_ | with_reducible refine sim_pure ?_ | with_reducible refine sim_gr (by decide) ?_
    | with_reducible refine sim_pb ?_ (fun v => ?_) | with_reducible refine sim_if2 ?_ ?_ ?_ | with_reducible refine sim_xl ?_ (fun s => ?_) (fun s => ?_) | with_reducible refine sim_xo rfl rfl ?_
    | with_reducible exact sm_X7_isPerson mo _
    | with_reducible exact sm_X7_isZone mo _
    | with_reducible exact sm_X7_isTime mo _ _ _
    | with_reducible exact sm_X7_goes mo _ _ _
    | with_reducible exact sm_X7_holds mo _ _
    | rfl | (simp only [b2ne, Bool.not_not]; done)
def P_X7_isHeld (its_ : Int32) : PX Int32 :=
  pb (P_X7_isMeeting its_) (fun v3 => pb (if (decide (¬ v3 = 0)) then pb (pai 5 its_) (fun v9 => pb (pai 19 v9) (fun v10 => pp (!(decide (¬ v10 = 0))))) else pp false) (fun v13 => pp (b2i v13)))
set_option maxRecDepth 100000 in
set_option maxHeartbeats 4000000 in
theorem sm_X7_isHeld (mo : Nat) (its_ : Int32) : SIM mo (F_X7_isHeld mo its_) (P_X7_isHeld its_) := by
  unfold F_X7_isHeld P_X7_isHeld
  repeat' first
    | with_reducible exact sim_gi | with_reducible exact sim_si | with_reducible exact sim_ai rfl | with_reducible exact sim_al rfl | with_reducible exact sim_sai rfl | with_reducible exact sim_saz rfl | with_reducible exact sim_sal rfl
    | with_reducible exact sim_pz | with_reducible exact sim_pch | with_reducible exact sim_div | with_reducible exact sim_rem
    | with_reducible refine sim_pp ?_ | with_reducible refine sim_zb ?_ | with_reducible refine sim_zif ?_ ?_ ?_
    | with_reducible refine sim_assoc ?_ | with_reducible refine sim_pure ?_ | with_reducible refine sim_gr (by decide) ?_
    | with_reducible refine sim_pb ?_ (fun v => ?_) | with_reducible refine sim_if2 ?_ ?_ ?_ | with_reducible refine sim_xl ?_ (fun s => ?_) (fun s => ?_) | with_reducible refine sim_xo rfl rfl ?_
    | with_reducible exact sm_X7_isMeeting mo _
    | rfl | (simp only [b2ne, Bool.not_not]; done)
def P_X7_time (its_ : Int32) (when_ : Int32) (clock_ : Int32) (hours_ : Int32) : PX Int32 :=
  pb (P_X7_isMeeting its_) (fun v9 => pb (P_X7_isTime when_ clock_ hours_) (fun v10 => pb (P_X7_isHeld its_) (fun v11 => pb (P_X7_goes v9 v10 v11) (fun v12 => if (!(decide (¬ v12 = 0))) then pp (0 : Int32) else pb (P_X7_next its_) (fun to_16 => pb (psai 11 to_16 when_) (fun _ => pb (psai 12 to_16 clock_) (fun _ => pb (psai 13 to_16 hours_) (fun _ => pb (P_X7_standsAll to_16) (fun _ => P_X7_holds its_ to_16)))))))))
set_option maxRecDepth 100000 in
set_option maxHeartbeats 4000000 in
theorem sm_X7_time (mo : Nat) (its_ : Int32) (when_ : Int32) (clock_ : Int32) (hours_ : Int32) : SIM mo (F_X7_time mo its_ when_ clock_ hours_) (P_X7_time its_ when_ clock_ hours_) := by
  unfold F_X7_time P_X7_time
  repeat' first
    | with_reducible exact sim_gi | with_reducible exact sim_si | with_reducible exact sim_ai rfl | with_reducible exact sim_al rfl | with_reducible exact sim_sai rfl | with_reducible exact sim_saz rfl | with_reducible exact sim_sal rfl
    | with_reducible exact sim_pz | with_reducible exact sim_pch | with_reducible exact sim_div | with_reducible exact sim_rem
    | with_reducible refine sim_pp ?_ | with_reducible refine sim_zb ?_ | with_reducible refine sim_zif ?_ ?_ ?_
    | with_reducible refine sim_assoc ?_ | with_reducible refine sim_pure ?_ | with_reducible refine sim_gr (by decide) ?_
    | with_reducible refine sim_pb ?_ (fun v => ?_) | with_reducible refine sim_if2 ?_ ?_ ?_ | with_reducible refine sim_xl ?_ (fun s => ?_) (fun s => ?_) | with_reducible refine sim_xo rfl rfl ?_
    | with_reducible exact sm_X7_isMeeting mo _
    | with_reducible exact sm_X7_isTime mo _ _ _
    | with_reducible exact sm_X7_isHeld mo _
    | with_reducible exact sm_X7_goes mo _ _ _
    | with_reducible exact sm_X7_next mo _
    | with_reducible exact sm_X7_standsAll mo _
    | with_reducible exact sm_X7_holds mo _ _
    | rfl | (simp only [b2ne, Bool.not_not]; done)
def P_X7_repeat (its_ : Int32) (days_ : Int32) (set_ : Int32) (many_ : Int32) : PX Int32 :=
  pb (P_X7_isMeeting its_) (fun v21 => pb (P_X7_in days_ (1 : Int32) (28 : Int32)) (fun v6 => pb (if (decide (¬ v6 = 0)) then pb (P_X7_in set_ (1 : Int32) (127 : Int32)) (fun v10 => pp (decide (¬ v10 = 0))) else pp false) (fun v16 => pb (if v16 then pb (P_X7_in many_ (1 : Int32) (10 : Int32)) (fun v15 => pp (decide (¬ v15 = 0))) else pp false) (fun v17 => pb (P_X7_isHeld its_) (fun v23 => pb (P_X7_goes v21 (b2i v17) v23) (fun v24 => if (!(decide (¬ v24 = 0))) then pp (0 : Int32) else pb (P_X7_next its_) (fun to_28 => pb (psai 14 to_28 days_) (fun _ => pb (psai 15 to_28 set_) (fun _ => pb (psai 16 to_28 many_) (fun _ => pb (P_X7_standsAll to_28) (fun _ => P_X7_holds its_ to_28)))))))))))
set_option maxRecDepth 100000 in
set_option maxHeartbeats 4000000 in
theorem sm_X7_repeat (mo : Nat) (its_ : Int32) (days_ : Int32) (set_ : Int32) (many_ : Int32) : SIM mo (F_X7_repeat mo its_ days_ set_ many_) (P_X7_repeat its_ days_ set_ many_) := by
  unfold F_X7_repeat P_X7_repeat
  repeat' first
    | with_reducible exact sim_gi | with_reducible exact sim_si | with_reducible exact sim_ai rfl | with_reducible exact sim_al rfl | with_reducible exact sim_sai rfl | with_reducible exact sim_saz rfl | with_reducible exact sim_sal rfl
    | with_reducible exact sim_pz | with_reducible exact sim_pch | with_reducible exact sim_div | with_reducible exact sim_rem
    | with_reducible refine sim_pp ?_ | with_reducible refine sim_zb ?_ | with_reducible refine sim_zif ?_ ?_ ?_
    | with_reducible refine sim_assoc ?_ | with_reducible refine sim_pure ?_ | with_reducible refine sim_gr (by decide) ?_
    | with_reducible refine sim_pb ?_ (fun v => ?_) | with_reducible refine sim_if2 ?_ ?_ ?_ | with_reducible refine sim_xl ?_ (fun s => ?_) (fun s => ?_) | with_reducible refine sim_xo rfl rfl ?_
    | with_reducible exact sm_X7_isMeeting mo _
    | with_reducible exact sm_X7_in mo _ _ _
    | with_reducible exact sm_X7_isHeld mo _
    | with_reducible exact sm_X7_goes mo _ _ _
    | with_reducible exact sm_X7_next mo _
    | with_reducible exact sm_X7_standsAll mo _
    | with_reducible exact sm_X7_holds mo _ _
    | rfl | (simp only [b2ne, Bool.not_not]; done)
def P_X7_drop (its_ : Int32) (when_ : Int32) : PX Int32 :=
  pb (P_X7_isMeeting its_) (fun is_3 => pb (P_X7_isDay when_) (fun can_5 => pb (if (decide (¬ is_3 = 0)) then pp (decide (¬ can_5 = 0)) else pp false) (fun v12 => pb (if v12 then pb (P_X7_isHeld its_) (fun v11 => pp (decide (¬ v11 = 0))) else pp false) (fun v22 => pb (if v22 then pb (pai 5 its_) (fun v18 => pb (pal 23 v18) (fun v19 => pb (P_X7_has v19 when_) (fun v21 => pp (decide (¬ v21 = 0))))) else pp false) (fun v23 => pb (P_X7_goes is_3 can_5 (b2i v23)) (fun v28 => if (!(decide (¬ v28 = 0))) then pp (0 : Int32) else pb (P_X7_next its_) (fun to_32 => pb (pal 21 to_32) (fun v38 => pb (psal 21 to_32 (v38 ||| ((1 : Int64) <<< (when_.toInt64 &&& 63)))) (fun _ => pb (pal 20 to_32) (fun v48 => pb (psal 20 to_32 (v48 &&& (((1 : Int64) <<< (when_.toInt64 &&& 63)) ^^^ (-1 : Int64)))) (fun _ => pb (pal 22 to_32) (fun v58 => pb (psal 22 to_32 (v58 &&& (((1 : Int64) <<< (when_.toInt64 &&& 63)) ^^^ (-1 : Int64)))) (fun _ => P_X7_holds its_ to_32)))))))))))))
set_option maxRecDepth 100000 in
set_option maxHeartbeats 4000000 in
theorem sm_X7_drop (mo : Nat) (its_ : Int32) (when_ : Int32) : SIM mo (F_X7_drop mo its_ when_) (P_X7_drop its_ when_) := by
  unfold F_X7_drop P_X7_drop
  repeat' first
    | with_reducible exact sim_gi | with_reducible exact sim_si | with_reducible exact sim_ai rfl | with_reducible exact sim_al rfl | with_reducible exact sim_sai rfl | with_reducible exact sim_saz rfl | with_reducible exact sim_sal rfl
    | with_reducible exact sim_pz | with_reducible exact sim_pch | with_reducible exact sim_div | with_reducible exact sim_rem
    | with_reducible refine sim_pp ?_ | with_reducible refine sim_zb ?_ | with_reducible refine sim_zif ?_ ?_ ?_
    | with_reducible refine sim_assoc ?_ | with_reducible refine sim_pure ?_ | with_reducible refine sim_gr (by decide) ?_
    | with_reducible refine sim_pb ?_ (fun v => ?_) | with_reducible refine sim_if2 ?_ ?_ ?_ | with_reducible refine sim_xl ?_ (fun s => ?_) (fun s => ?_) | with_reducible refine sim_xo rfl rfl ?_
    | with_reducible exact sm_X7_isMeeting mo _
    | with_reducible exact sm_X7_isDay mo _
    | with_reducible exact sm_X7_isHeld mo _
    | with_reducible exact sm_X7_has mo _ _
    | with_reducible exact sm_X7_goes mo _ _ _
    | with_reducible exact sm_X7_next mo _
    | with_reducible exact sm_X7_holds mo _ _
    | rfl | (simp only [b2ne, Bool.not_not]; done)
def P_X7_add (its_ : Int32) (when_ : Int32) : PX Int32 :=
  pb (P_X7_isMeeting its_) (fun is_3 => pb (P_X7_isDay when_) (fun can_5 => pb (if (decide (¬ is_3 = 0)) then pp (decide (¬ can_5 = 0)) else pp false) (fun v12 => pb (if v12 then pb (P_X7_isHeld its_) (fun v11 => pp (decide (¬ v11 = 0))) else pp false) (fun v23 => pb (if v23 then pb (pai 5 its_) (fun v18 => pb (pal 23 v18) (fun v19 => pb (P_X7_has v19 when_) (fun v21 => pp (!(decide (¬ v21 = 0)))))) else pp false) (fun v24 => pb (P_X7_goes is_3 can_5 (b2i v24)) (fun v29 => if (!(decide (¬ v29 = 0))) then pp (0 : Int32) else pb (P_X7_next its_) (fun to_33 => pb (pal 20 to_33) (fun v39 => pb (psal 20 to_33 (v39 ||| ((1 : Int64) <<< (when_.toInt64 &&& 63)))) (fun _ => pb (pal 21 to_33) (fun v49 => pb (psal 21 to_33 (v49 &&& (((1 : Int64) <<< (when_.toInt64 &&& 63)) ^^^ (-1 : Int64)))) (fun _ => pb (P_X7_goal to_33 when_) (fun v58 => pb (P_X7_stands to_33 when_ v58) (fun _ => P_X7_holds its_ to_33)))))))))))))
set_option maxRecDepth 100000 in
set_option maxHeartbeats 4000000 in
theorem sm_X7_add (mo : Nat) (its_ : Int32) (when_ : Int32) : SIM mo (F_X7_add mo its_ when_) (P_X7_add its_ when_) := by
  unfold F_X7_add P_X7_add
  repeat' first
    | with_reducible exact sim_gi | with_reducible exact sim_si | with_reducible exact sim_ai rfl | with_reducible exact sim_al rfl | with_reducible exact sim_sai rfl | with_reducible exact sim_saz rfl | with_reducible exact sim_sal rfl
    | with_reducible exact sim_pz | with_reducible exact sim_pch | with_reducible exact sim_div | with_reducible exact sim_rem
    | with_reducible refine sim_pp ?_ | with_reducible refine sim_zb ?_ | with_reducible refine sim_zif ?_ ?_ ?_
    | with_reducible refine sim_assoc ?_ | with_reducible refine sim_pure ?_ | with_reducible refine sim_gr (by decide) ?_
    | with_reducible refine sim_pb ?_ (fun v => ?_) | with_reducible refine sim_if2 ?_ ?_ ?_ | with_reducible refine sim_xl ?_ (fun s => ?_) (fun s => ?_) | with_reducible refine sim_xo rfl rfl ?_
    | with_reducible exact sm_X7_isMeeting mo _
    | with_reducible exact sm_X7_isDay mo _
    | with_reducible exact sm_X7_isHeld mo _
    | with_reducible exact sm_X7_has mo _ _
    | with_reducible exact sm_X7_goes mo _ _ _
    | with_reducible exact sm_X7_next mo _
    | with_reducible exact sm_X7_goal mo _ _
    | with_reducible exact sm_X7_stands mo _ _ _
    | with_reducible exact sm_X7_holds mo _ _
    | rfl | (simp only [b2ne, Bool.not_not]; done)
def P_X7_moves (its_ : Int32) (when_ : Int32) (clock_ : Int32) : PX Int32 :=
  pb (P_X7_next its_) (fun to_3 => pb (pal 22 to_3) (fun v9 => pb (psal 22 to_3 (v9 ||| ((1 : Int64) <<< (when_.toInt64 &&& 63)))) (fun _ => pb (P_X7_stands to_3 when_ clock_) (fun _ => P_X7_holds its_ to_3))))
set_option maxRecDepth 100000 in
set_option maxHeartbeats 4000000 in
theorem sm_X7_moves (mo : Nat) (its_ : Int32) (when_ : Int32) (clock_ : Int32) : SIM mo (F_X7_moves mo its_ when_ clock_) (P_X7_moves its_ when_ clock_) := by
  unfold F_X7_moves P_X7_moves
  repeat' first
    | with_reducible exact sim_gi | with_reducible exact sim_si | with_reducible exact sim_ai rfl | with_reducible exact sim_al rfl | with_reducible exact sim_sai rfl | with_reducible exact sim_saz rfl | with_reducible exact sim_sal rfl
    | with_reducible exact sim_pz | with_reducible exact sim_pch | with_reducible exact sim_div | with_reducible exact sim_rem
    | with_reducible refine sim_pp ?_ | with_reducible refine sim_zb ?_ | with_reducible refine sim_zif ?_ ?_ ?_
    | with_reducible refine sim_assoc ?_ | with_reducible refine sim_pure ?_ | with_reducible refine sim_gr (by decide) ?_
    | with_reducible refine sim_pb ?_ (fun v => ?_) | with_reducible refine sim_if2 ?_ ?_ ?_ | with_reducible refine sim_xl ?_ (fun s => ?_) (fun s => ?_) | with_reducible refine sim_xo rfl rfl ?_
    | with_reducible exact sm_X7_next mo _
    | with_reducible exact sm_X7_stands mo _ _ _
    | with_reducible exact sm_X7_holds mo _ _
    | rfl | (simp only [b2ne, Bool.not_not]; done)
def P_X7_isClock (clock_ : Int32) : PX Int32 :=
  pb (P_X7_in clock_ (0 : Int32) (1439 : Int32)) pz
set_option maxRecDepth 100000 in
set_option maxHeartbeats 4000000 in
theorem sm_X7_isClock (mo : Nat) (clock_ : Int32) : SIM mo (F_X7_isClock clock_) (P_X7_isClock clock_) := by
  unfold F_X7_isClock P_X7_isClock
  repeat' first
    | with_reducible exact sim_gi | with_reducible exact sim_si | with_reducible exact sim_ai rfl | with_reducible exact sim_al rfl | with_reducible exact sim_sai rfl | with_reducible exact sim_saz rfl | with_reducible exact sim_sal rfl
    | with_reducible exact sim_pz | with_reducible exact sim_pch | with_reducible exact sim_div | with_reducible exact sim_rem
    | with_reducible refine sim_pp ?_ | with_reducible refine sim_zb ?_ | with_reducible refine sim_zif ?_ ?_ ?_
    | with_reducible refine sim_assoc ?_ | with_reducible refine sim_pure ?_ | with_reducible refine sim_gr (by decide) ?_
    | with_reducible refine sim_pb ?_ (fun v => ?_) | with_reducible refine sim_if2 ?_ ?_ ?_ | with_reducible refine sim_xl ?_ (fun s => ?_) (fun s => ?_) | with_reducible refine sim_xo rfl rfl ?_
    | with_reducible exact sm_X7_in mo _ _ _
    | rfl | (simp only [b2ne, Bool.not_not]; done)
def P_X7_move (its_ : Int32) (when_ : Int32) (clock_ : Int32) : PX Int32 :=
  pb (P_X7_isMeeting its_) (fun is_3 => pb (P_X7_isDay when_) (fun v5 => pb (if (decide (¬ v5 = 0)) then pb (P_X7_isClock clock_) (fun v7 => pp (decide (¬ v7 = 0))) else pp false) (fun v9 => pb (if (decide (¬ is_3 = 0)) then pp v9 else pp false) (fun v17 => pb (if v17 then pb (P_X7_isHeld its_) (fun v16 => pp (decide (¬ v16 = 0))) else pp false) (fun v27 => pb (if v27 then pb (pai 5 its_) (fun v23 => pb (pal 23 v23) (fun v24 => pb (P_X7_has v24 when_) (fun v26 => pp (decide (¬ v26 = 0))))) else pp false) (fun v28 => pb (P_X7_goes is_3 (b2i v9) (b2i v28)) (fun v33 => if (!(decide (¬ v33 = 0))) then pp (0 : Int32) else P_X7_moves its_ when_ clock_)))))))
set_option maxRecDepth 100000 in
set_option maxHeartbeats 4000000 in
theorem sm_X7_move (mo : Nat) (its_ : Int32) (when_ : Int32) (clock_ : Int32) : SIM mo (F_X7_move mo its_ when_ clock_) (P_X7_move its_ when_ clock_) := by
  unfold F_X7_move P_X7_move
  repeat' first
    | with_reducible exact sim_gi | with_reducible exact sim_si | with_reducible exact sim_ai rfl | with_reducible exact sim_al rfl | with_reducible exact sim_sai rfl | with_reducible exact sim_saz rfl | with_reducible exact sim_sal rfl
    | with_reducible exact sim_pz | with_reducible exact sim_pch | with_reducible exact sim_div | with_reducible exact sim_rem
    | with_reducible refine sim_pp ?_ | with_reducible refine sim_zb ?_ | with_reducible refine sim_zif ?_ ?_ ?_
    | with_reducible refine sim_assoc ?_ | with_reducible refine sim_pure ?_ | with_reducible refine sim_gr (by decide) ?_
    | with_reducible refine sim_pb ?_ (fun v => ?_) | with_reducible refine sim_if2 ?_ ?_ ?_ | with_reducible refine sim_xl ?_ (fun s => ?_) (fun s => ?_) | with_reducible refine sim_xo rfl rfl ?_
    | with_reducible exact sm_X7_isMeeting mo _
    | with_reducible exact sm_X7_isDay mo _
    | with_reducible exact sm_X7_isClock mo _
    | with_reducible exact sm_X7_isHeld mo _
    | with_reducible exact sm_X7_has mo _ _
    | with_reducible exact sm_X7_goes mo _ _ _
    | with_reducible exact sm_X7_moves mo _ _ _
    | rfl | (simp only [b2ne, Bool.not_not]; done)
def P_X7_invite (its_ : Int32) (person_ : Int32) (isInvited_ : Int32) : PX Int32 :=
  pb (P_X7_isMeeting its_) (fun v3 => pb (if (decide (¬ v3 = 0)) then pb (P_X7_isPerson person_) (fun v5 => pp (decide (¬ v5 = 0))) else pp false) (fun v7 => pb (if (!v7) then pp (0 : Int32) else if (decide (¬ isInvited_ = 0)) then pb (pai 5 its_) (fun v17 => pai 17 v17) else pb (pai 5 its_) (fun v23 => pai 18 v23)) (fun set_26 => pb (if v7 then pb (pai 4 its_) (fun v31 => pp (decide (¬ v31 = person_))) else pp false) (fun v34 => pb (if v7 then pb (P_X7_isHeld its_) (fun v38 => pp (decide (¬ v38 = 0))) else pp false) (fun v45 => pb (if v45 then pp (decide (((set_26 >>> (person_ &&& 31)) &&& (1 : Int32)) = 0)) else pp false) (fun v46 => pb (P_X7_goes (b2i v7) (b2i v34) (b2i v46)) (fun v51 => if (!(decide (¬ v51 = 0))) then pp (0 : Int32) else pb (P_X7_next its_) (fun to_55 => pb (if (decide (¬ isInvited_ = 0)) then pb (pai 17 to_55) (fun v64 => pp (v64 ||| ((1 : Int32) <<< (person_ &&& 31)))) else pb (pai 17 to_55) (fun v71 => pp (v71 &&& (((1 : Int32) <<< (person_ &&& 31)) ^^^ (-1 : Int32))))) (fun v76 => pb (psai 17 to_55 v76) (fun _ => pb (if (decide (¬ isInvited_ = 0)) then pb (pai 18 to_55) (fun v84 => pp (v84 &&& (((1 : Int32) <<< (person_ &&& 31)) ^^^ (-1 : Int32)))) else pb (pai 18 to_55) (fun v89 => pp (v89 ||| ((1 : Int32) <<< (person_ &&& 31))))) (fun v94 => pb (psai 18 to_55 v94) (fun _ => P_X7_holds its_ to_55))))))))))))
set_option maxRecDepth 100000 in
set_option maxHeartbeats 4000000 in
theorem sm_X7_invite (mo : Nat) (its_ : Int32) (person_ : Int32) (isInvited_ : Int32) : SIM mo (F_X7_invite mo its_ person_ isInvited_) (P_X7_invite its_ person_ isInvited_) := by
  unfold F_X7_invite P_X7_invite
  repeat' first
    | with_reducible exact sim_gi | with_reducible exact sim_si | with_reducible exact sim_ai rfl | with_reducible exact sim_al rfl | with_reducible exact sim_sai rfl | with_reducible exact sim_saz rfl | with_reducible exact sim_sal rfl
    | with_reducible exact sim_pz | with_reducible exact sim_pch | with_reducible exact sim_div | with_reducible exact sim_rem
    | with_reducible refine sim_pp ?_ | with_reducible refine sim_zb ?_ | with_reducible refine sim_zif ?_ ?_ ?_
    | with_reducible refine sim_assoc ?_ | with_reducible refine sim_pure ?_ | with_reducible refine sim_gr (by decide) ?_
    | with_reducible refine sim_pb ?_ (fun v => ?_) | with_reducible refine sim_if2 ?_ ?_ ?_ | with_reducible refine sim_xl ?_ (fun s => ?_) (fun s => ?_) | with_reducible refine sim_xo rfl rfl ?_
    | with_reducible exact sm_X7_isMeeting mo _
    | with_reducible exact sm_X7_isPerson mo _
    | with_reducible exact sm_X7_isHeld mo _
    | with_reducible exact sm_X7_goes mo _ _ _
    | with_reducible exact sm_X7_next mo _
    | with_reducible exact sm_X7_holds mo _ _
    | rfl | (simp only [b2ne, Bool.not_not]; done)
def P_X7_cancel (its_ : Int32) : PX Int32 :=
  pb (P_X7_isMeeting its_) (fun v6 => pb (P_X7_isHeld its_) (fun v7 => pb (P_X7_goes v6 v7 (1 : Int32)) (fun v9 => if (!(decide (¬ v9 = 0))) then pp (0 : Int32) else pb (P_X7_next its_) (fun to_13 => pb (psaz 19 to_13 (1 : Int32)) (fun _ => P_X7_holds its_ to_13)))))
set_option maxRecDepth 100000 in
set_option maxHeartbeats 4000000 in
theorem sm_X7_cancel (mo : Nat) (its_ : Int32) : SIM mo (F_X7_cancel mo its_) (P_X7_cancel its_) := by
  unfold F_X7_cancel P_X7_cancel
  repeat' first
    | with_reducible exact sim_gi | with_reducible exact sim_si | with_reducible exact sim_ai rfl | with_reducible exact sim_al rfl | with_reducible exact sim_sai rfl | with_reducible exact sim_saz rfl | with_reducible exact sim_sal rfl
    | with_reducible exact sim_pz | with_reducible exact sim_pch | with_reducible exact sim_div | with_reducible exact sim_rem
    | with_reducible refine sim_pp ?_ | with_reducible refine sim_zb ?_ | with_reducible refine sim_zif ?_ ?_ ?_
    | with_reducible refine sim_assoc ?_ | with_reducible refine sim_pure ?_ | with_reducible refine sim_gr (by decide) ?_
    | with_reducible refine sim_pb ?_ (fun v => ?_) | with_reducible refine sim_if2 ?_ ?_ ?_ | with_reducible refine sim_xl ?_ (fun s => ?_) (fun s => ?_) | with_reducible refine sim_xo rfl rfl ?_
    | with_reducible exact sm_X7_isMeeting mo _
    | with_reducible exact sm_X7_isHeld mo _
    | with_reducible exact sm_X7_goes mo _ _ _
    | with_reducible exact sm_X7_next mo _
    | with_reducible exact sm_X7_holds mo _ _
    | rfl | (simp only [b2ne, Bool.not_not]; done)
def P_X7_isLater (one_ : Int32) (than_ : Int32) : PX Int32 :=
  pb (if (decide (than_ = (-1 : Int32))) then pp true else pb (pai 36 one_) (fun v6 => pb (pai 36 than_) (fun v10 => pp (decide (v10 < v6))))) (fun v29 => pb (if v29 then pp true else pb (pai 36 one_) (fun v15 => pb (pai 36 than_) (fun v19 => if (decide (v15 = v19)) then pb (pai 39 one_) (fun v23 => pb (pai 39 than_) (fun v27 => pp (decide (v27 < v23)))) else pp false))) (fun v30 => pp (b2i v30)))
set_option maxRecDepth 100000 in
set_option maxHeartbeats 4000000 in
theorem sm_X7_isLater (mo : Nat) (one_ : Int32) (than_ : Int32) : SIM mo (F_X7_isLater mo one_ than_) (P_X7_isLater one_ than_) := by
  unfold F_X7_isLater P_X7_isLater
  repeat' first
    | with_reducible exact sim_gi | with_reducible exact sim_si | with_reducible exact sim_ai rfl | with_reducible exact sim_al rfl | with_reducible exact sim_sai rfl | with_reducible exact sim_saz rfl | with_reducible exact sim_sal rfl
    | with_reducible exact sim_pz | with_reducible exact sim_pch | with_reducible exact sim_div | with_reducible exact sim_rem
    | with_reducible refine sim_pp ?_ | with_reducible refine sim_zb ?_ | with_reducible refine sim_zif ?_ ?_ ?_
    | with_reducible refine sim_assoc ?_ | with_reducible refine sim_pure ?_ | with_reducible refine sim_gr (by decide) ?_
    | with_reducible refine sim_pb ?_ (fun v => ?_) | with_reducible refine sim_if2 ?_ ?_ ?_ | with_reducible refine sim_xl ?_ (fun s => ?_) (fun s => ?_) | with_reducible refine sim_xo rfl rfl ?_
    | rfl | (simp only [b2ne, Bool.not_not]; done)
def P_X7_kept (its_ : Int32) (person_ : Int32) (when_ : Int32) : PX Int32 :=
  pb (pl 2000 (fun (s3 : Int32 × Int32) => pb (pgi 29) (fun v6 => pp (decide (s3.2 < v6)))) (fun (s3 : Int32 × Int32) => pb (pai 31 s3.2) (fun v10 => pb (if (decide (v10 = (1 : Int32))) then pb (pai 42 s3.2) (fun v15 => pp (decide (¬ v15 = 0))) else pp false) (fun v22 => pb (if v22 then pb (pai 34 s3.2) (fun v20 => pp (decide (v20 = its_))) else pp false) (fun v28 => pb (if v28 then pb (pai 32 s3.2) (fun v26 => pp (decide (v26 = person_))) else pp false) (fun v34 => pb (if v34 then pb (pai 37 s3.2) (fun v32 => pp (decide (v32 = when_))) else pp false) (fun v35 => pb (if v35 then pb (P_X7_isLater s3.2 s3.1) (fun v41 => pp (decide (¬ v41 = 0))) else pp false) (fun v43 => pb (if v43 then pp s3.2 else pp s3.1) (fun found_44 => pp (found_44, (s3.2 + 1)))))))))) ((-1 : Int32), (0 : Int32))) (fun s45 => pp s45.1)
set_option maxRecDepth 100000 in
set_option maxHeartbeats 4000000 in
theorem sm_X7_kept (mo : Nat) (its_ : Int32) (person_ : Int32) (when_ : Int32) : SIM mo (F_X7_kept mo its_ person_ when_) (P_X7_kept its_ person_ when_) := by
  unfold F_X7_kept P_X7_kept
  repeat' first
    | with_reducible exact sim_gi | with_reducible exact sim_si | with_reducible exact sim_ai rfl | with_reducible exact sim_al rfl | with_reducible exact sim_sai rfl | with_reducible exact sim_saz rfl | with_reducible exact sim_sal rfl
    | with_reducible exact sim_pz | with_reducible exact sim_pch | with_reducible exact sim_div | with_reducible exact sim_rem
    | with_reducible refine sim_pp ?_ | with_reducible refine sim_zb ?_ | with_reducible refine sim_zif ?_ ?_ ?_
    | with_reducible refine sim_assoc ?_ | with_reducible refine sim_pure ?_ | with_reducible refine sim_gr (by decide) ?_
    | with_reducible refine sim_pb ?_ (fun v => ?_) | with_reducible refine sim_if2 ?_ ?_ ?_ | with_reducible refine sim_xl ?_ (fun s => ?_) (fun s => ?_) | with_reducible refine sim_xo rfl rfl ?_
    | with_reducible exact sm_X7_isLater mo _ _
    | rfl | (simp only [b2ne, Bool.not_not]; done)
def P_X7_answers (its_ : Int32) (person_ : Int32) (when_ : Int32) (by_ : Int32) (all_ : Int32) : PX Int32 :=
  pb (pl 2000 (fun (s3 : Int32 × Int32) => pb (pgi 29) (fun v6 => pp (decide (s3.2 < v6)))) (fun (s3 : Int32 × Int32) => pb (pai 31 s3.2) (fun v10 => pb (if (decide (v10 = (1 : Int32))) then pb (pai 34 s3.2) (fun v15 => pp (decide (v15 = its_))) else pp false) (fun v23 => pb (if v23 then pb (pai 32 s3.2) (fun v21 => pp (decide (v21 = person_))) else pp false) (fun v35 => pb (if v35 then pb (pai 37 s3.2) (fun v27 => if (decide (v27 = when_)) then pp true else pb (pai 37 s3.2) (fun v32 => pp (decide (v32 = (-1 : Int32))))) else pp false) (fun v36 => pb (if v36 then if (decide (¬ all_ = 0)) then pp true else pb (pai 42 s3.2) (fun v43 => pp (decide (¬ v43 = 0))) else pp false) (fun v54 => pb (if v54 then pb (pai 36 s3.2) (fun v49 => pb (P_X7_stand by_ when_) (fun v53 => pp (decide (v53 ≤ v49)))) else pp false) (fun v55 => pb (if v55 then pb (P_X7_isLater s3.2 s3.1) (fun v61 => pp (decide (¬ v61 = 0))) else pp false) (fun v63 => pb (if v63 then pp s3.2 else pp s3.1) (fun found_64 => pp (found_64, (s3.2 + 1))))))))))) ((-1 : Int32), (0 : Int32))) (fun s65 => if (decide (s65.1 = (-1 : Int32))) then pp (0 : Int32) else pai 38 s65.1)
set_option maxRecDepth 100000 in
set_option maxHeartbeats 4000000 in
theorem sm_X7_answers (mo : Nat) (its_ : Int32) (person_ : Int32) (when_ : Int32) (by_ : Int32) (all_ : Int32) : SIM mo (F_X7_answers mo its_ person_ when_ by_ all_) (P_X7_answers its_ person_ when_ by_ all_) := by
  unfold F_X7_answers P_X7_answers
  repeat' first
    | with_reducible exact sim_gi | with_reducible exact sim_si | with_reducible exact sim_ai rfl | with_reducible exact sim_al rfl | with_reducible exact sim_sai rfl | with_reducible exact sim_saz rfl | with_reducible exact sim_sal rfl
    | with_reducible exact sim_pz | with_reducible exact sim_pch | with_reducible exact sim_div | with_reducible exact sim_rem
    | with_reducible refine sim_pp ?_ | with_reducible refine sim_zb ?_ | with_reducible refine sim_zif ?_ ?_ ?_
    | with_reducible refine sim_assoc ?_ | with_reducible refine sim_pure ?_ | with_reducible refine sim_gr (by decide) ?_
    | with_reducible refine sim_pb ?_ (fun v => ?_) | with_reducible refine sim_if2 ?_ ?_ ?_ | with_reducible refine sim_xl ?_ (fun s => ?_) (fun s => ?_) | with_reducible refine sim_xo rfl rfl ?_
    | with_reducible exact sm_X7_stand mo _ _
    | with_reducible exact sm_X7_isLater mo _ _
    | rfl | (simp only [b2ne, Bool.not_not]; done)
def P_X7_asked (its_ : Int32) : PX Int32 :=
  pb (pai 5 its_) (fun v6 => pb (pai 17 v6) (fun set_7 => pb (pl 2000 (fun (s9 : Int32 × Int32) => pp (decide (s9.2 < (5 : Int32)))) (fun (s9 : Int32 × Int32) => pb (pl 2000 (fun (s13 : Int32 × Int32) => pp (decide (s13.2 < (5 : Int32)))) (fun (s13 : Int32 × Int32) => pb (if (decide (((s13.1 >>> (s13.2 &&& 31)) &&& (1 : Int32)) = (1 : Int32))) then P_X7_kept its_ s13.2 (-1 : Int32) else pp (-1 : Int32)) (fun by_27 => pb (if (decide (¬ by_27 = (-1 : Int32))) then pb (pai 38 by_27) (fun v33 => pp (decide (v33 = (4 : Int32)))) else pp false) (fun v50 => pb (if v50 then pb (pai 5 its_) (fun v41 => pb (pai 18 v41) (fun v45 => pb (pai 40 by_27) (fun v46 => pp (decide (((v45 >>> (v46 &&& 31)) &&& (1 : Int32)) = 0))))) else pp false) (fun v51 => pb (if v51 then pb (pai 40 by_27) (fun v58 => pp ((1 : Int32) <<< (v58 &&& 31))) else pp (0 : Int32)) (fun v61 => pp ((s13.1 ||| v61), (s13.2 + 1))))))) (s9.1, (0 : Int32))) (fun s63 => pp (s63.1, (s9.2 + 1)))) (set_7, (0 : Int32))) (fun s64 => pp s64.1)))
set_option maxRecDepth 100000 in
set_option maxHeartbeats 4000000 in
theorem sm_X7_asked (mo : Nat) (its_ : Int32) : SIM mo (F_X7_asked mo its_) (P_X7_asked its_) := by
  unfold F_X7_asked P_X7_asked
  repeat' first
    | with_reducible exact sim_gi | with_reducible exact sim_si | with_reducible exact sim_ai rfl | with_reducible exact sim_al rfl | with_reducible exact sim_sai rfl | with_reducible exact sim_saz rfl | with_reducible exact sim_sal rfl
    | with_reducible exact sim_pz | with_reducible exact sim_pch | with_reducible exact sim_div | with_reducible exact sim_rem
    | with_reducible refine sim_pp ?_ | with_reducible refine sim_zb ?_ | with_reducible refine sim_zif ?_ ?_ ?_
    | with_reducible refine sim_assoc ?_ | with_reducible refine sim_pure ?_ | with_reducible refine sim_gr (by decide) ?_
    | with_reducible refine sim_pb ?_ (fun v => ?_) | with_reducible refine sim_if2 ?_ ?_ ?_ | with_reducible refine sim_xl ?_ (fun s => ?_) (fun s => ?_) | with_reducible refine sim_xo rfl rfl ?_
    | with_reducible exact sm_X7_kept mo _ _ _
    | rfl | (simp only [b2ne, Bool.not_not]; done)
def P_X7_adds (what_ : Int32) (from_ : Int32) (to_ : Int32) (its_ : Int32) : PX Int32 :=
  pb (pgi 29) (fun v4 => pb (psai 31 v4 what_) (fun _ => pb (pgi 29) (fun v9 => pb (psai 32 v9 from_) (fun _ => pb (pgi 29) (fun v14 => pb (psai 33 v14 to_) (fun _ => pb (pgi 29) (fun v19 => pb (psai 34 v19 its_) (fun _ => pb (pgi 29) (fun v24 => pb (psai 35 v24 (-1 : Int32)) (fun _ => pb (pgi 29) (fun v29 => pb (psai 37 v29 (-1 : Int32)) (fun _ => pb (pgi 29) (fun v32 => pb (psi 29 (v32 + (1 : Int32))) (fun _ => pb (pgi 29) (fun v36 => pp (v36 - (1 : Int32)))))))))))))))))
set_option maxRecDepth 100000 in
set_option maxHeartbeats 4000000 in
theorem sm_X7_adds (mo : Nat) (what_ : Int32) (from_ : Int32) (to_ : Int32) (its_ : Int32) : SIM mo (F_X7_adds mo what_ from_ to_ its_) (P_X7_adds what_ from_ to_ its_) := by
  unfold F_X7_adds P_X7_adds
  repeat' first
    | with_reducible exact sim_gi | with_reducible exact sim_si | with_reducible exact sim_ai rfl | with_reducible exact sim_al rfl | with_reducible exact sim_sai rfl | with_reducible exact sim_saz rfl | with_reducible exact sim_sal rfl
    | with_reducible exact sim_pz | with_reducible exact sim_pch | with_reducible exact sim_div | with_reducible exact sim_rem
    | with_reducible refine sim_pp ?_ | with_reducible refine sim_zb ?_ | with_reducible refine sim_zif ?_ ?_ ?_
    | with_reducible refine sim_assoc ?_ | with_reducible refine sim_pure ?_ | with_reducible refine sim_gr (by decide) ?_
    | with_reducible refine sim_pb ?_ (fun v => ?_) | with_reducible refine sim_if2 ?_ ?_ ?_ | with_reducible refine sim_xl ?_ (fun s => ?_) (fun s => ?_) | with_reducible refine sim_xo rfl rfl ?_
    | rfl | (simp only [b2ne, Bool.not_not]; done)
def P_X7_requests (from_ : Int32) (to_ : Int32) (its_ : Int32) (which_ : Int32) : PX Unit :=
  pb (P_X7_adds (0 : Int32) from_ to_ its_) (fun message_6 => pb (psai 35 message_6 which_) (fun _ => pb (psaz 8 which_ (1 : Int32)) (fun _ => pb (pai 9 which_) (fun v21 => pb (psai 36 message_6 v21) (fun _ => pp ())))))
set_option maxRecDepth 100000 in
set_option maxHeartbeats 4000000 in
theorem sm_X7_requests (mo : Nat) (from_ : Int32) (to_ : Int32) (its_ : Int32) (which_ : Int32) : SIM mo (F_X7_requests mo from_ to_ its_ which_) (P_X7_requests from_ to_ its_ which_) := by
  unfold F_X7_requests P_X7_requests
  repeat' first
    | with_reducible exact sim_gi | with_reducible exact sim_si | with_reducible exact sim_ai rfl | with_reducible exact sim_al rfl | with_reducible exact sim_sai rfl | with_reducible exact sim_saz rfl | with_reducible exact sim_sal rfl
    | with_reducible exact sim_pz | with_reducible exact sim_pch | with_reducible exact sim_div | with_reducible exact sim_rem
    | with_reducible refine sim_pp ?_ | with_reducible refine sim_zb ?_ | with_reducible refine sim_zif ?_ ?_ ?_
    | with_reducible refine sim_assoc ?_ | with_reducible refine sim_pure ?_ | with_reducible refine sim_gr (by decide) ?_
    | with_reducible refine sim_pb ?_ (fun v => ?_) | with_reducible refine sim_if2 ?_ ?_ ?_ | with_reducible refine sim_xl ?_ (fun s => ?_) (fun s => ?_) | with_reducible refine sim_xo rfl rfl ?_
    | with_reducible exact sm_X7_adds mo _ _ _ _
    | rfl | (simp only [b2ne, Bool.not_not]; done)
def P_X7_send (its_ : Int32) : PX Int32 :=
  pb (P_X7_isMeeting its_) (fun is_3 => pb (if (decide (¬ is_3 = 0)) then pb (P_X7_asked its_) (fun v13 => pb (pai 5 its_) (fun v12 => pb (pai 18 v12) (fun v14 => pb (pai 6 its_) (fun v19 => pp ((v13 ||| v14) ||| v19))))) else pp (0 : Int32)) (fun set_21 => pb (pl 2000 (fun (s24 : Int32 × Int32) => pp (decide (s24.2 < (5 : Int32)))) (fun (s24 : Int32 × Int32) => pp ((s24.1 + ((set_21 >>> (s24.2 &&& 31)) &&& (1 : Int32))), (s24.2 + 1))) ((0 : Int32), (0 : Int32))) (fun s34 => pb (pgi 29) (fun v36 => pb (P_X7_goes is_3 (b2i (decide ((v36 + s34.1) ≤ (150 : Int32)))) (1 : Int32)) (fun v45 => if (!(decide (¬ v45 = 0))) then pp (0 : Int32) else pb (pl 2000 (fun (s48 : Int32) => pp (decide (s48 < (5 : Int32)))) (fun (s48 : Int32) => pb (if (decide (((set_21 >>> (s48 &&& 31)) &&& (1 : Int32)) = (1 : Int32))) then pb (pai 4 its_) (fun v64 => pb (pai 5 its_) (fun v67 => pb (P_X7_requests v64 s48 its_ v67) (fun _ => pp ()))) else pp ()) (fun s69 => pp (s48 + 1))) (0 : Int32)) (fun s70 => pb (psai 6 its_ set_21) (fun _ => pp s34.1)))))))
set_option maxRecDepth 100000 in
set_option maxHeartbeats 4000000 in
theorem sm_X7_send (mo : Nat) (its_ : Int32) : SIM mo (F_X7_send mo its_) (P_X7_send its_) := by
  unfold F_X7_send P_X7_send
  repeat' first
    | with_reducible exact sim_gi | with_reducible exact sim_si | with_reducible exact sim_ai rfl | with_reducible exact sim_al rfl | with_reducible exact sim_sai rfl | with_reducible exact sim_saz rfl | with_reducible exact sim_sal rfl
    | with_reducible exact sim_pz | with_reducible exact sim_pch | with_reducible exact sim_div | with_reducible exact sim_rem
    | with_reducible refine sim_pp ?_ | with_reducible refine sim_zb ?_ | with_reducible refine sim_zif ?_ ?_ ?_
    | with_reducible refine sim_assoc ?_ | with_reducible refine sim_pure ?_ | with_reducible refine sim_gr (by decide) ?_
    | with_reducible refine sim_pb ?_ (fun v => ?_) | with_reducible refine sim_if2 ?_ ?_ ?_ | with_reducible refine sim_xl ?_ (fun s => ?_) (fun s => ?_) | with_reducible refine sim_xo rfl rfl ?_
    | with_reducible exact sm_X7_isMeeting mo _
    | with_reducible exact sm_X7_asked mo _
    | with_reducible exact sm_X7_goes mo _ _ _
    | with_reducible exact sm_X7_requests mo _ _ _ _
    | rfl | (simp only [b2ne, Bool.not_not]; done)
def P_X7_replies (person_ : Int32) (its_ : Int32) (when_ : Int32) (what_ : Int32) : PX Int32 :=
  pb (pai 4 its_) (fun v7 => pb (P_X7_adds (1 : Int32) person_ v7 its_) (fun message_9 => pb (P_X7_at person_ its_) (fun v16 => pb (pai 25 v16) (fun v18 => pb (pai 9 v18) (fun v21 => pb (psai 36 message_9 v21) (fun _ => pb (psai 37 message_9 when_) (fun _ => pb (psai 38 message_9 what_) (fun _ => pb (pgi 30) (fun v34 => pb (psai 39 message_9 v34) (fun _ => pb (pgi 30) (fun v36 => pb (psi 30 (v36 + (1 : Int32))) (fun _ => pb (P_X7_marks person_ its_) (fun _ => pp message_9)))))))))))))
set_option maxRecDepth 100000 in
set_option maxHeartbeats 4000000 in
theorem sm_X7_replies (mo : Nat) (person_ : Int32) (its_ : Int32) (when_ : Int32) (what_ : Int32) : SIM mo (F_X7_replies mo person_ its_ when_ what_) (P_X7_replies person_ its_ when_ what_) := by
  unfold F_X7_replies P_X7_replies
  repeat' first
    | with_reducible exact sim_gi | with_reducible exact sim_si | with_reducible exact sim_ai rfl | with_reducible exact sim_al rfl | with_reducible exact sim_sai rfl | with_reducible exact sim_saz rfl | with_reducible exact sim_sal rfl
    | with_reducible exact sim_pz | with_reducible exact sim_pch | with_reducible exact sim_div | with_reducible exact sim_rem
    | with_reducible refine sim_pp ?_ | with_reducible refine sim_zb ?_ | with_reducible refine sim_zif ?_ ?_ ?_
    | with_reducible refine sim_assoc ?_ | with_reducible refine sim_pure ?_ | with_reducible refine sim_gr (by decide) ?_
    | with_reducible refine sim_pb ?_ (fun v => ?_) | with_reducible refine sim_if2 ?_ ?_ ?_ | with_reducible refine sim_xl ?_ (fun s => ?_) (fun s => ?_) | with_reducible refine sim_xo rfl rfl ?_
    | with_reducible exact sm_X7_adds mo _ _ _ _
    | with_reducible exact sm_X7_at mo _ _
    | with_reducible exact sm_X7_marks mo _ _
    | rfl | (simp only [b2ne, Bool.not_not]; done)
def P_X7_hasCopy (person_ : Int32) (its_ : Int32) : PX Int32 :=
  pb (pai 4 its_) (fun v4 => pb (if (decide (¬ v4 = person_)) then pb (P_X7_isHere person_ its_) (fun v9 => pp (decide (¬ v9 = 0))) else pp false) (fun v11 => pp (b2i v11)))
set_option maxRecDepth 100000 in
set_option maxHeartbeats 4000000 in
theorem sm_X7_hasCopy (mo : Nat) (person_ : Int32) (its_ : Int32) : SIM mo (F_X7_hasCopy mo person_ its_) (P_X7_hasCopy person_ its_) := by
  unfold F_X7_hasCopy P_X7_hasCopy
  repeat' first
    | with_reducible exact sim_gi | with_reducible exact sim_si | with_reducible exact sim_ai rfl | with_reducible exact sim_al rfl | with_reducible exact sim_sai rfl | with_reducible exact sim_saz rfl | with_reducible exact sim_sal rfl
    | with_reducible exact sim_pz | with_reducible exact sim_pch | with_reducible exact sim_div | with_reducible exact sim_rem
    | with_reducible refine sim_pp ?_ | with_reducible refine sim_zb ?_ | with_reducible refine sim_zif ?_ ?_ ?_
    | with_reducible refine sim_assoc ?_ | with_reducible refine sim_pure ?_ | with_reducible refine sim_gr (by decide) ?_
    | with_reducible refine sim_pb ?_ (fun v => ?_) | with_reducible refine sim_if2 ?_ ?_ ?_ | with_reducible refine sim_xl ?_ (fun s => ?_) (fun s => ?_) | with_reducible refine sim_xo rfl rfl ?_
    | with_reducible exact sm_X7_isHere mo _ _
    | rfl | (simp only [b2ne, Bool.not_not]; done)
def P_X7_hasDate (person_ : Int32) (its_ : Int32) (when_ : Int32) : PX Int32 :=
  pb (P_X7_at person_ its_) (fun v6 => pb (pai 25 v6) (fun v8 => pb (pal 23 v8) (fun v9 => pb (P_X7_has v9 when_) pz)))
set_option maxRecDepth 100000 in
set_option maxHeartbeats 4000000 in
theorem sm_X7_hasDate (mo : Nat) (person_ : Int32) (its_ : Int32) (when_ : Int32) : SIM mo (F_X7_hasDate mo person_ its_ when_) (P_X7_hasDate person_ its_ when_) := by
  unfold F_X7_hasDate P_X7_hasDate
  repeat' first
    | with_reducible exact sim_gi | with_reducible exact sim_si | with_reducible exact sim_ai rfl | with_reducible exact sim_al rfl | with_reducible exact sim_sai rfl | with_reducible exact sim_saz rfl | with_reducible exact sim_sal rfl
    | with_reducible exact sim_pz | with_reducible exact sim_pch | with_reducible exact sim_div | with_reducible exact sim_rem
    | with_reducible refine sim_pp ?_ | with_reducible refine sim_zb ?_ | with_reducible refine sim_zif ?_ ?_ ?_
    | with_reducible refine sim_assoc ?_ | with_reducible refine sim_pure ?_ | with_reducible refine sim_gr (by decide) ?_
    | with_reducible refine sim_pb ?_ (fun v => ?_) | with_reducible refine sim_if2 ?_ ?_ ?_ | with_reducible refine sim_xl ?_ (fun s => ?_) (fun s => ?_) | with_reducible refine sim_xo rfl rfl ?_
    | with_reducible exact sm_X7_at mo _ _
    | with_reducible exact sm_X7_has mo _ _
    | rfl | (simp only [b2ne, Bool.not_not]; done)
def P_X7_answer (person_ : Int32) (its_ : Int32) (when_ : Int32) (what_ : Int32) : PX Int32 :=
  pb (P_X7_isPerson person_) (fun v2 => pb (if (decide (¬ v2 = 0)) then pb (P_X7_isMeeting its_) (fun v5 => pp (decide (¬ v5 = 0))) else pp false) (fun v7 => pb (if (decide (when_ = (-1 : Int32))) then pp true else pb (P_X7_isDay when_) (fun v12 => pp (decide (¬ v12 = 0)))) (fun v18 => pb (if v18 then pb (P_X7_in what_ (1 : Int32) (3 : Int32)) (fun v17 => pp (decide (¬ v17 = 0))) else pp false) (fun v19 => pb (if v7 then pp v19 else pp false) (fun v28 => pb (if v28 then pb (P_X7_hasCopy person_ its_) (fun v27 => pp (decide (¬ v27 = 0))) else pp false) (fun v37 => pb (if v37 then if (decide (when_ = (-1 : Int32))) then pp true else pb (P_X7_hasDate person_ its_ when_) (fun v35 => pp (decide (¬ v35 = 0))) else pp false) (fun v38 => pb (if v38 then pb (pgi 29) (fun v42 => pp (decide (v42 < (150 : Int32)))) else pp false) (fun v45 => pb (P_X7_goes (b2i v7) (b2i v19) (b2i v45)) (fun v50 => if (decide (¬ v50 = 0)) then P_X7_replies person_ its_ when_ what_ else pp (0 : Int32))))))))))
set_option maxRecDepth 100000 in
set_option maxHeartbeats 4000000 in
theorem sm_X7_answer (mo : Nat) (person_ : Int32) (its_ : Int32) (when_ : Int32) (what_ : Int32) : SIM mo (F_X7_answer mo person_ its_ when_ what_) (P_X7_answer person_ its_ when_ what_) := by
  unfold F_X7_answer P_X7_answer
  repeat' first
    | with_reducible exact sim_gi | with_reducible exact sim_si | with_reducible exact sim_ai rfl | with_reducible exact sim_al rfl | with_reducible exact sim_sai rfl | with_reducible exact sim_saz rfl | with_reducible exact sim_sal rfl
    | with_reducible exact sim_pz | with_reducible exact sim_pch | with_reducible exact sim_div | with_reducible exact sim_rem
    | with_reducible refine sim_pp ?_ | with_reducible refine sim_zb ?_ | with_reducible refine sim_zif ?_ ?_ ?_
    | with_reducible refine sim_assoc ?_ | with_reducible refine sim_pure ?_ | with_reducible refine sim_gr (by decide) ?_
    | with_reducible refine sim_pb ?_ (fun v => ?_) | with_reducible refine sim_if2 ?_ ?_ ?_ | with_reducible refine sim_xl ?_ (fun s => ?_) (fun s => ?_) | with_reducible refine sim_xo rfl rfl ?_
    | with_reducible exact sm_X7_isPerson mo _
    | with_reducible exact sm_X7_isMeeting mo _
    | with_reducible exact sm_X7_isDay mo _
    | with_reducible exact sm_X7_in mo _ _ _
    | with_reducible exact sm_X7_hasCopy mo _ _
    | with_reducible exact sm_X7_hasDate mo _ _ _
    | with_reducible exact sm_X7_goes mo _ _ _
    | with_reducible exact sm_X7_replies mo _ _ _ _
    | rfl | (simp only [b2ne, Bool.not_not]; done)
def P_X7_delegate (person_ : Int32) (its_ : Int32) (to_ : Int32) : PX Int32 :=
  pb (P_X7_isPerson person_) (fun v2 => pb (if (decide (¬ v2 = 0)) then pb (P_X7_isMeeting its_) (fun v5 => pp (decide (¬ v5 = 0))) else pp false) (fun v9 => pb (if v9 then pb (P_X7_isPerson to_) (fun v8 => pp (decide (¬ v8 = 0))) else pp false) (fun v10 => pb (if v10 then pp (decide (¬ to_ = person_)) else pp false) (fun v21 => pb (if v21 then pb (pai 4 its_) (fun v20 => pp (decide (¬ to_ = v20))) else pp false) (fun v22 => pb (if v10 then pb (P_X7_hasCopy person_ its_) (fun v27 => pp (decide (¬ v27 = 0))) else pp false) (fun v34 => pb (if v34 then pb (pgi 29) (fun v30 => pp (decide ((v30 + (2 : Int32)) ≤ (150 : Int32)))) else pp false) (fun v35 => pb (P_X7_goes (b2i v10) (b2i v22) (b2i v35)) (fun v40 => if (!(decide (¬ v40 = 0))) then pp (0 : Int32) else pb (P_X7_replies person_ its_ (-1 : Int32) (4 : Int32)) (fun message_47 => pb (psai 40 message_47 to_) (fun _ => pb (P_X7_at person_ its_) (fun v56 => pb (pai 25 v56) (fun v61 => pb (P_X7_requests person_ to_ its_ v61) (fun _ => pp message_47)))))))))))))
set_option maxRecDepth 100000 in
set_option maxHeartbeats 4000000 in
theorem sm_X7_delegate (mo : Nat) (person_ : Int32) (its_ : Int32) (to_ : Int32) : SIM mo (F_X7_delegate mo person_ its_ to_) (P_X7_delegate person_ its_ to_) := by
  unfold F_X7_delegate P_X7_delegate
  repeat' first
    | with_reducible exact sim_gi | with_reducible exact sim_si | with_reducible exact sim_ai rfl | with_reducible exact sim_al rfl | with_reducible exact sim_sai rfl | with_reducible exact sim_saz rfl | with_reducible exact sim_sal rfl
    | with_reducible exact sim_pz | with_reducible exact sim_pch | with_reducible exact sim_div | with_reducible exact sim_rem
    | with_reducible refine sim_pp ?_ | with_reducible refine sim_zb ?_ | with_reducible refine sim_zif ?_ ?_ ?_
    | with_reducible refine sim_assoc ?_ | with_reducible refine sim_pure ?_ | with_reducible refine sim_gr (by decide) ?_
    | with_reducible refine sim_pb ?_ (fun v => ?_) | with_reducible refine sim_if2 ?_ ?_ ?_ | with_reducible refine sim_xl ?_ (fun s => ?_) (fun s => ?_) | with_reducible refine sim_xo rfl rfl ?_
    | with_reducible exact sm_X7_isPerson mo _
    | with_reducible exact sm_X7_isMeeting mo _
    | with_reducible exact sm_X7_hasCopy mo _ _
    | with_reducible exact sm_X7_goes mo _ _ _
    | with_reducible exact sm_X7_replies mo _ _ _ _
    | with_reducible exact sm_X7_at mo _ _
    | with_reducible exact sm_X7_requests mo _ _ _ _
    | rfl | (simp only [b2ne, Bool.not_not]; done)
def P_X7_propose (person_ : Int32) (its_ : Int32) (when_ : Int32) (clock_ : Int32) : PX Int32 :=
  pb (P_X7_isPerson person_) (fun v2 => pb (if (decide (¬ v2 = 0)) then pb (P_X7_isMeeting its_) (fun v5 => pp (decide (¬ v5 = 0))) else pp false) (fun v7 => pb (P_X7_isDay when_) (fun v10 => pb (if (decide (¬ v10 = 0)) then pb (P_X7_isClock clock_) (fun v12 => pp (decide (¬ v12 = 0))) else pp false) (fun v14 => pb (if v7 then pp v14 else pp false) (fun v23 => pb (if v23 then pb (P_X7_hasCopy person_ its_) (fun v22 => pp (decide (¬ v22 = 0))) else pp false) (fun v29 => pb (if v29 then pb (P_X7_hasDate person_ its_ when_) (fun v28 => pp (decide (¬ v28 = 0))) else pp false) (fun v30 => pb (if v30 then pb (pgi 29) (fun v34 => pp (decide (v34 < (150 : Int32)))) else pp false) (fun v37 => pb (P_X7_goes (b2i v7) (b2i v14) (b2i v37)) (fun v42 => if (!(decide (¬ v42 = 0))) then pp (0 : Int32) else pb (pai 4 its_) (fun v50 => pb (P_X7_adds (2 : Int32) person_ v50 its_) (fun message_52 => pb (P_X7_at person_ its_) (fun v59 => pb (pai 25 v59) (fun v61 => pb (pai 9 v61) (fun v64 => pb (psai 36 message_52 v64) (fun _ => pb (psai 37 message_52 when_) (fun _ => pb (psai 41 message_52 clock_) (fun _ => pp message_52)))))))))))))))))
set_option maxRecDepth 100000 in
set_option maxHeartbeats 4000000 in
theorem sm_X7_propose (mo : Nat) (person_ : Int32) (its_ : Int32) (when_ : Int32) (clock_ : Int32) : SIM mo (F_X7_propose mo person_ its_ when_ clock_) (P_X7_propose person_ its_ when_ clock_) := by
  unfold F_X7_propose P_X7_propose
  repeat' first
    | with_reducible exact sim_gi | with_reducible exact sim_si | with_reducible exact sim_ai rfl | with_reducible exact sim_al rfl | with_reducible exact sim_sai rfl | with_reducible exact sim_saz rfl | with_reducible exact sim_sal rfl
    | with_reducible exact sim_pz | with_reducible exact sim_pch | with_reducible exact sim_div | with_reducible exact sim_rem
    | with_reducible refine sim_pp ?_ | with_reducible refine sim_zb ?_ | with_reducible refine sim_zif ?_ ?_ ?_
    | with_reducible refine sim_assoc ?_ | with_reducible refine sim_pure ?_ | with_reducible refine sim_gr (by decide) ?_
    | with_reducible refine sim_pb ?_ (fun v => ?_) | with_reducible refine sim_if2 ?_ ?_ ?_ | with_reducible refine sim_xl ?_ (fun s => ?_) (fun s => ?_) | with_reducible refine sim_xo rfl rfl ?_
    | with_reducible exact sm_X7_isPerson mo _
    | with_reducible exact sm_X7_isMeeting mo _
    | with_reducible exact sm_X7_isDay mo _
    | with_reducible exact sm_X7_isClock mo _
    | with_reducible exact sm_X7_hasCopy mo _ _
    | with_reducible exact sm_X7_hasDate mo _ _ _
    | with_reducible exact sm_X7_goes mo _ _ _
    | with_reducible exact sm_X7_adds mo _ _ _ _
    | with_reducible exact sm_X7_at mo _ _
    | rfl | (simp only [b2ne, Bool.not_not]; done)
def P_X7_isOpen (message_ : Int32) : PX Int32 :=
  pb (pai 34 message_) (fun v6 => pb (pai 5 v6) (fun by_7 => pb (pai 31 message_) (fun v11 => pb (if (decide (v11 = (2 : Int32))) then pb (pai 42 message_) (fun v16 => pp (decide (¬ v16 = 0))) else pp false) (fun v23 => pb (if v23 then pb (pai 43 message_) (fun v21 => pp (!(decide (¬ v21 = 0)))) else pp false) (fun v29 => pb (if v29 then pb (pai 19 by_7) (fun v27 => pp (!(decide (¬ v27 = 0)))) else pp false) (fun v30 => pb (if v30 then pb (pal 23 by_7) (fun v39 => pb (pai 37 message_) (fun v40 => pb (P_X7_has v39 v40) (fun v41 => pp (decide (¬ v41 = 0))))) else pp false) (fun v54 => pb (if v54 then pb (pai 37 message_) (fun v48 => pb (P_X7_stand by_7 v48) (fun v49 => pb (pai 36 message_) (fun v53 => pp (decide (v49 ≤ v53))))) else pp false) (fun v55 => pp (b2i v55)))))))))
set_option maxRecDepth 100000 in
set_option maxHeartbeats 4000000 in
theorem sm_X7_isOpen (mo : Nat) (message_ : Int32) : SIM mo (F_X7_isOpen mo message_) (P_X7_isOpen message_) := by
  unfold F_X7_isOpen P_X7_isOpen
  repeat' first
    | with_reducible exact sim_gi | with_reducible exact sim_si | with_reducible exact sim_ai rfl | with_reducible exact sim_al rfl | with_reducible exact sim_sai rfl | with_reducible exact sim_saz rfl | with_reducible exact sim_sal rfl
    | with_reducible exact sim_pz | with_reducible exact sim_pch | with_reducible exact sim_div | with_reducible exact sim_rem
    | with_reducible refine sim_pp ?_ | with_reducible refine sim_zb ?_ | with_reducible refine sim_zif ?_ ?_ ?_
    | with_reducible refine sim_assoc ?_ | with_reducible refine sim_pure ?_ | with_reducible refine sim_gr (by decide) ?_
    | with_reducible refine sim_pb ?_ (fun v => ?_) | with_reducible refine sim_if2 ?_ ?_ ?_ | with_reducible refine sim_xl ?_ (fun s => ?_) (fun s => ?_) | with_reducible refine sim_xo rfl rfl ?_
    | with_reducible exact sm_X7_has mo _ _
    | with_reducible exact sm_X7_stand mo _ _
    | rfl | (simp only [b2ne, Bool.not_not]; done)
def P_X7_opens (its_ : Int32) : PX Int32 :=
  pb (pl 2000 (fun (s3 : Int32 × Int32) => pb (pgi 29) (fun v6 => pp (decide (s3.2 < v6)))) (fun (s3 : Int32 × Int32) => pb (pai 34 s3.2) (fun v10 => pb (if (decide (v10 = its_)) then pb (P_X7_isOpen s3.2) (fun v14 => pp (decide (¬ v14 = 0))) else pp false) (fun v16 => pb (if v16 then pp (1 : Int32) else pp (0 : Int32)) (fun v18 => pp ((s3.1 + v18), (s3.2 + 1)))))) ((0 : Int32), (0 : Int32))) (fun s20 => pp s20.1)
set_option maxRecDepth 100000 in
set_option maxHeartbeats 4000000 in
theorem sm_X7_opens (mo : Nat) (its_ : Int32) : SIM mo (F_X7_opens mo its_) (P_X7_opens its_) := by
  unfold F_X7_opens P_X7_opens
  repeat' first
    | with_reducible exact sim_gi | with_reducible exact sim_si | with_reducible exact sim_ai rfl | with_reducible exact sim_al rfl | with_reducible exact sim_sai rfl | with_reducible exact sim_saz rfl | with_reducible exact sim_sal rfl
    | with_reducible exact sim_pz | with_reducible exact sim_pch | with_reducible exact sim_div | with_reducible exact sim_rem
    | with_reducible refine sim_pp ?_ | with_reducible refine sim_zb ?_ | with_reducible refine sim_zif ?_ ?_ ?_
    | with_reducible refine sim_assoc ?_ | with_reducible refine sim_pure ?_ | with_reducible refine sim_gr (by decide) ?_
    | with_reducible refine sim_pb ?_ (fun v => ?_) | with_reducible refine sim_if2 ?_ ?_ ?_ | with_reducible refine sim_xl ?_ (fun s => ?_) (fun s => ?_) | with_reducible refine sim_xo rfl rfl ?_
    | with_reducible exact sm_X7_isOpen mo _
    | rfl | (simp only [b2ne, Bool.not_not]; done)
def P_X7_take (message_ : Int32) : PX Int32 :=
  pb (P_X7_isMessage message_) (fun is_3 => pb (if (decide (¬ is_3 = 0)) then pb (P_X7_isOpen message_) (fun v7 => pp (decide (¬ v7 = 0))) else pp false) (fun v9 => pb (P_X7_goes is_3 (b2i v9) (1 : Int32)) (fun v14 => if (!(decide (¬ v14 = 0))) then pp (0 : Int32) else pb (psaz 43 message_ (1 : Int32)) (fun _ => pb (pai 34 message_) (fun v30 => pb (pai 37 message_) (fun v31 => pb (pai 41 message_) (fun v32 => P_X7_moves v30 v31 v32)))))))
set_option maxRecDepth 100000 in
set_option maxHeartbeats 4000000 in
theorem sm_X7_take (mo : Nat) (message_ : Int32) : SIM mo (F_X7_take mo message_) (P_X7_take message_) := by
  unfold F_X7_take P_X7_take
  repeat' first
    | with_reducible exact sim_gi | with_reducible exact sim_si | with_reducible exact sim_ai rfl | with_reducible exact sim_al rfl | with_reducible exact sim_sai rfl | with_reducible exact sim_saz rfl | with_reducible exact sim_sal rfl
    | with_reducible exact sim_pz | with_reducible exact sim_pch | with_reducible exact sim_div | with_reducible exact sim_rem
    | with_reducible refine sim_pp ?_ | with_reducible refine sim_zb ?_ | with_reducible refine sim_zif ?_ ?_ ?_
    | with_reducible refine sim_assoc ?_ | with_reducible refine sim_pure ?_ | with_reducible refine sim_gr (by decide) ?_
    | with_reducible refine sim_pb ?_ (fun v => ?_) | with_reducible refine sim_if2 ?_ ?_ ?_ | with_reducible refine sim_xl ?_ (fun s => ?_) (fun s => ?_) | with_reducible refine sim_xo rfl rfl ?_
    | with_reducible exact sm_X7_isMessage mo _
    | with_reducible exact sm_X7_isOpen mo _
    | with_reducible exact sm_X7_goes mo _ _ _
    | with_reducible exact sm_X7_moves mo _ _ _
    | rfl | (simp only [b2ne, Bool.not_not]; done)
def P_X7_refuse (message_ : Int32) : PX Int32 :=
  pb (P_X7_isMessage message_) (fun is_3 => pb (if (decide (¬ is_3 = 0)) then pb (P_X7_isOpen message_) (fun v7 => pp (decide (¬ v7 = 0))) else pp false) (fun v9 => pb (P_X7_goes is_3 (b2i v9) (1 : Int32)) (fun v14 => if (!(decide (¬ v14 = 0))) then pp (0 : Int32) else pb (psaz 43 message_ (1 : Int32)) (fun _ => pb (pai 34 message_) (fun v24 => P_X7_opens v24)))))
set_option maxRecDepth 100000 in
set_option maxHeartbeats 4000000 in
theorem sm_X7_refuse (mo : Nat) (message_ : Int32) : SIM mo (F_X7_refuse mo message_) (P_X7_refuse message_) := by
  unfold F_X7_refuse P_X7_refuse
  repeat' first
    | with_reducible exact sim_gi | with_reducible exact sim_si | with_reducible exact sim_ai rfl | with_reducible exact sim_al rfl | with_reducible exact sim_sai rfl | with_reducible exact sim_saz rfl | with_reducible exact sim_sal rfl
    | with_reducible exact sim_pz | with_reducible exact sim_pch | with_reducible exact sim_div | with_reducible exact sim_rem
    | with_reducible refine sim_pp ?_ | with_reducible refine sim_zb ?_ | with_reducible refine sim_zif ?_ ?_ ?_
    | with_reducible refine sim_assoc ?_ | with_reducible refine sim_pure ?_ | with_reducible refine sim_gr (by decide) ?_
    | with_reducible refine sim_pb ?_ (fun v => ?_) | with_reducible refine sim_if2 ?_ ?_ ?_ | with_reducible refine sim_xl ?_ (fun s => ?_) (fun s => ?_) | with_reducible refine sim_xo rfl rfl ?_
    | with_reducible exact sm_X7_isMessage mo _
    | with_reducible exact sm_X7_isOpen mo _
    | with_reducible exact sm_X7_goes mo _ _ _
    | with_reducible exact sm_X7_opens mo _
    | rfl | (simp only [b2ne, Bool.not_not]; done)
def P_X7_becomes (message_ : Int32) : PX Int32 :=
  pb (pai 33 message_) (fun v7 => pb (pai 34 message_) (fun v8 => pb (P_X7_at v7 v8) (fun place_9 => pb (pai 25 place_9) (fun v13 => pb (if (decide (v13 = (-1 : Int32))) then pp true else pb (pai 25 place_9) (fun v20 => pb (pai 9 v20) (fun v21 => pb (pai 36 message_) (fun v25 => pp (decide (v21 < v25)))))) (fun v27 => pb (if v27 then pb (pai 35 message_) (fun v36 => pb (psai 25 place_9 v36) (fun _ => pb (pai 33 message_) (fun v44 => pb (pai 34 message_) (fun v45 => pb (P_X7_marks v44 v45) (fun _ => pp ()))))) else pp ()) (fun s47 => pp (b2i v27)))))))
set_option maxRecDepth 100000 in
set_option maxHeartbeats 4000000 in
theorem sm_X7_becomes (mo : Nat) (message_ : Int32) : SIM mo (F_X7_becomes mo message_) (P_X7_becomes message_) := by
  unfold F_X7_becomes P_X7_becomes
  repeat' first
    | with_reducible exact sim_gi | with_reducible exact sim_si | with_reducible exact sim_ai rfl | with_reducible exact sim_al rfl | with_reducible exact sim_sai rfl | with_reducible exact sim_saz rfl | with_reducible exact sim_sal rfl
    | with_reducible exact sim_pz | with_reducible exact sim_pch | with_reducible exact sim_div | with_reducible exact sim_rem
    | with_reducible refine sim_pp ?_ | with_reducible refine sim_zb ?_ | with_reducible refine sim_zif ?_ ?_ ?_
    | with_reducible refine sim_assoc ?_ | with_reducible refine sim_pure ?_ | with_reducible refine sim_gr (by decide) ?_
    | with_reducible refine sim_pb ?_ (fun v => ?_) | with_reducible refine sim_if2 ?_ ?_ ?_ | with_reducible refine sim_xl ?_ (fun s => ?_) (fun s => ?_) | with_reducible refine sim_xo rfl rfl ?_
    | with_reducible exact sm_X7_at mo _ _
    | with_reducible exact sm_X7_marks mo _ _
    | rfl | (simp only [b2ne, Bool.not_not]; done)
def P_X7_deliver (message_ : Int32) : PX Int32 :=
  pb (P_X7_isMessage message_) (fun v4 => pb (P_X7_goes v4 (1 : Int32) (1 : Int32)) (fun v7 => if (!(decide (¬ v7 = 0))) then pz (0 : Int32) else pb (pai 42 message_) (fun before_12 => pb (pai 31 message_) (fun v16 => if (decide (v16 = 0)) then pb (P_X7_becomes message_) pz else pb (psaz 42 message_ (1 : Int32)) (fun _ => pb (if (!(decide (¬ before_12 = 0))) then pb (pai 31 message_) (fun v28 => if (decide (v28 = (2 : Int32))) then pp true else pb (pai 34 message_) (fun v40 => pb (pai 32 message_) (fun v41 => pb (pai 37 message_) (fun v42 => pb (P_X7_kept v40 v41 v42) (fun v43 => pp (decide (v43 = message_))))))) else pp false) (fun v47 => pb (if v47 then pb (pai 31 message_) (fun v53 => pp (decide (v53 = (1 : Int32)))) else pp false) (fun v65 => pb (if v65 then pb (pai 33 message_) (fun v63 => pb (pai 34 message_) (fun v64 => pb (P_X7_marks v63 v64) (fun _ => pp ()))) else pp ()) (fun s66 => pp (b2i v47)))))))))
set_option maxRecDepth 100000 in
set_option maxHeartbeats 4000000 in
theorem sm_X7_deliver (mo : Nat) (message_ : Int32) : SIM mo (F_X7_deliver mo message_) (P_X7_deliver message_) := by
  unfold F_X7_deliver P_X7_deliver
  repeat' first
    | with_reducible exact sim_gi | with_reducible exact sim_si | with_reducible exact sim_ai rfl | with_reducible exact sim_al rfl | with_reducible exact sim_sai rfl | with_reducible exact sim_saz rfl | with_reducible exact sim_sal rfl
    | with_reducible exact sim_pz | with_reducible exact sim_pch | with_reducible exact sim_div | with_reducible exact sim_rem
    | with_reducible refine sim_pp ?_ | with_reducible refine sim_zb ?_ | with_reducible refine sim_zif ?_ ?_ ?_
    | with_reducible refine sim_assoc ?_ | with_reducible refine sim_pure ?_ | with_reducible refine sim_gr (by decide) ?_
    | with_reducible refine sim_pb ?_ (fun v => ?_) | with_reducible refine sim_if2 ?_ ?_ ?_ | with_reducible refine sim_xl ?_ (fun s => ?_) (fun s => ?_) | with_reducible refine sim_xo rfl rfl ?_
    | with_reducible exact sm_X7_isMessage mo _
    | with_reducible exact sm_X7_goes mo _ _ _
    | with_reducible exact sm_X7_becomes mo _
    | with_reducible exact sm_X7_kept mo _ _ _
    | with_reducible exact sm_X7_marks mo _ _
    | rfl | (simp only [b2ne, Bool.not_not]; done)
def P_X7_messages  : PX Int32 :=
  pb (pgi 29) (fun v3 => P_X7_tells v3)
set_option maxRecDepth 100000 in
set_option maxHeartbeats 4000000 in
theorem sm_X7_messages (mo : Nat)  : SIM mo (F_X7_messages mo) (P_X7_messages) := by
  unfold F_X7_messages P_X7_messages
  repeat' first
    | with_reducible exact sim_gi | with_reducible exact sim_si | with_reducible exact sim_ai rfl | with_reducible exact sim_al rfl | with_reducible exact sim_sai rfl | with_reducible exact sim_saz rfl | with_reducible exact sim_sal rfl
    | with_reducible exact sim_pz | with_reducible exact sim_pch | with_reducible exact sim_div | with_reducible exact sim_rem
    | with_reducible refine sim_pp ?_ | with_reducible refine sim_zb ?_ | with_reducible refine sim_zif ?_ ?_ ?_
    | with_reducible refine sim_assoc ?_ | with_reducible refine sim_pure ?_ | with_reducible refine sim_gr (by decide) ?_
    | with_reducible refine sim_pb ?_ (fun v => ?_) | with_reducible refine sim_if2 ?_ ?_ ?_ | with_reducible refine sim_xl ?_ (fun s => ?_) (fun s => ?_) | with_reducible refine sim_xo rfl rfl ?_
    | with_reducible exact sm_X7_tells mo _
    | rfl | (simp only [b2ne, Bool.not_not]; done)
def P_X7_kindOf (message_ : Int32) : PX Int32 :=
  pb (P_X7_isMessage message_) (fun v4 => pb (P_X7_goes v4 (1 : Int32) (1 : Int32)) (fun v7 => if (decide (¬ v7 = 0)) then pai 31 message_ else pp (0 : Int32)))
set_option maxRecDepth 100000 in
set_option maxHeartbeats 4000000 in
theorem sm_X7_kindOf (mo : Nat) (message_ : Int32) : SIM mo (F_X7_kindOf mo message_) (P_X7_kindOf message_) := by
  unfold F_X7_kindOf P_X7_kindOf
  repeat' first
    | with_reducible exact sim_gi | with_reducible exact sim_si | with_reducible exact sim_ai rfl | with_reducible exact sim_al rfl | with_reducible exact sim_sai rfl | with_reducible exact sim_saz rfl | with_reducible exact sim_sal rfl
    | with_reducible exact sim_pz | with_reducible exact sim_pch | with_reducible exact sim_div | with_reducible exact sim_rem
    | with_reducible refine sim_pp ?_ | with_reducible refine sim_zb ?_ | with_reducible refine sim_zif ?_ ?_ ?_
    | with_reducible refine sim_assoc ?_ | with_reducible refine sim_pure ?_ | with_reducible refine sim_gr (by decide) ?_
    | with_reducible refine sim_pb ?_ (fun v => ?_) | with_reducible refine sim_if2 ?_ ?_ ?_ | with_reducible refine sim_xl ?_ (fun s => ?_) (fun s => ?_) | with_reducible refine sim_xo rfl rfl ?_
    | with_reducible exact sm_X7_isMessage mo _
    | with_reducible exact sm_X7_goes mo _ _ _
    | rfl | (simp only [b2ne, Bool.not_not]; done)
def P_X7_receiver (message_ : Int32) : PX Int32 :=
  pb (P_X7_isMessage message_) (fun v4 => pb (P_X7_goes v4 (1 : Int32) (1 : Int32)) (fun v7 => if (decide (¬ v7 = 0)) then pai 33 message_ else pp (0 : Int32)))
set_option maxRecDepth 100000 in
set_option maxHeartbeats 4000000 in
theorem sm_X7_receiver (mo : Nat) (message_ : Int32) : SIM mo (F_X7_receiver mo message_) (P_X7_receiver message_) := by
  unfold F_X7_receiver P_X7_receiver
  repeat' first
    | with_reducible exact sim_gi | with_reducible exact sim_si | with_reducible exact sim_ai rfl | with_reducible exact sim_al rfl | with_reducible exact sim_sai rfl | with_reducible exact sim_saz rfl | with_reducible exact sim_sal rfl
    | with_reducible exact sim_pz | with_reducible exact sim_pch | with_reducible exact sim_div | with_reducible exact sim_rem
    | with_reducible refine sim_pp ?_ | with_reducible refine sim_zb ?_ | with_reducible refine sim_zif ?_ ?_ ?_
    | with_reducible refine sim_assoc ?_ | with_reducible refine sim_pure ?_ | with_reducible refine sim_gr (by decide) ?_
    | with_reducible refine sim_pb ?_ (fun v => ?_) | with_reducible refine sim_if2 ?_ ?_ ?_ | with_reducible refine sim_xl ?_ (fun s => ?_) (fun s => ?_) | with_reducible refine sim_xo rfl rfl ?_
    | with_reducible exact sm_X7_isMessage mo _
    | with_reducible exact sm_X7_goes mo _ _ _
    | rfl | (simp only [b2ne, Bool.not_not]; done)
def P_X7_letters (word_ : Int64) : PX Int32 :=
  pb (pl 2000 (fun (s2 : Int32) => pp (decide (¬ (word_ >>> (((5 : Int32) * s2).toInt64 &&& 63)) = (0 : Int64)))) (fun (s2 : Int32) => pp (s2 + 1)) (0 : Int32)) (fun s9 => pp s9)
set_option maxRecDepth 100000 in
set_option maxHeartbeats 4000000 in
theorem sm_X7_letters (mo : Nat) (word_ : Int64) : SIM mo (F_X7_letters word_) (P_X7_letters word_) := by
  unfold F_X7_letters P_X7_letters
  repeat' first
    | with_reducible exact sim_gi | with_reducible exact sim_si | with_reducible exact sim_ai rfl | with_reducible exact sim_al rfl | with_reducible exact sim_sai rfl | with_reducible exact sim_saz rfl | with_reducible exact sim_sal rfl
    | with_reducible exact sim_pz | with_reducible exact sim_pch | with_reducible exact sim_div | with_reducible exact sim_rem
    | with_reducible refine sim_pp ?_ | with_reducible refine sim_zb ?_ | with_reducible refine sim_zif ?_ ?_ ?_
    | with_reducible refine sim_assoc ?_ | with_reducible refine sim_pure ?_ | with_reducible refine sim_gr (by decide) ?_
    | with_reducible refine sim_pb ?_ (fun v => ?_) | with_reducible refine sim_if2 ?_ ?_ ?_ | with_reducible refine sim_xl ?_ (fun s => ?_) (fun s => ?_) | with_reducible refine sim_xo rfl rfl ?_
    | rfl | (simp only [b2ne, Bool.not_not]; done)
def P_X7_letter (word_ : Int64) (place_ : Int32) : PX Int32 :=
  pch (((((97 : Int32) + ((word_ >>> (((5 : Int32) * place_).toInt64 &&& 63)) &&& (31 : Int64)).toInt32) - (1 : Int32)).toUInt32 % 65536).toInt32)
set_option maxRecDepth 100000 in
set_option maxHeartbeats 4000000 in
theorem sm_X7_letter (mo : Nat) (word_ : Int64) (place_ : Int32) : SIM mo (F_X7_letter word_ place_) (P_X7_letter word_ place_) := by
  unfold F_X7_letter P_X7_letter
  repeat' first
    | with_reducible exact sim_gi | with_reducible exact sim_si | with_reducible exact sim_ai rfl | with_reducible exact sim_al rfl | with_reducible exact sim_sai rfl | with_reducible exact sim_saz rfl | with_reducible exact sim_sal rfl
    | with_reducible exact sim_pz | with_reducible exact sim_pch | with_reducible exact sim_div | with_reducible exact sim_rem
    | with_reducible refine sim_pp ?_ | with_reducible refine sim_zb ?_ | with_reducible refine sim_zif ?_ ?_ ?_
    | with_reducible refine sim_assoc ?_ | with_reducible refine sim_pure ?_ | with_reducible refine sim_gr (by decide) ?_
    | with_reducible refine sim_pb ?_ (fun v => ?_) | with_reducible refine sim_if2 ?_ ?_ ?_ | with_reducible refine sim_xl ?_ (fun s => ?_) (fun s => ?_) | with_reducible refine sim_xo rfl rfl ?_
    | rfl | (simp only [b2ne, Bool.not_not]; done)
def P_X7_kindWord (message_ : Int32) : PX Int64 :=
  pb (pai 31 message_) (fun v4 => if (decide (v4 = 0)) then pp (22118319282 : Int64) else pb (pai 31 message_) (fun v8 => if (decide (v8 = (1 : Int32))) then pp (26624178 : Int64) else pp (414044405328 : Int64)))
set_option maxRecDepth 100000 in
set_option maxHeartbeats 4000000 in
theorem sm_X7_kindWord (mo : Nat) (message_ : Int32) : SIM mo (F_X7_kindWord mo message_) (P_X7_kindWord message_) := by
  unfold F_X7_kindWord P_X7_kindWord
  repeat' first
    | with_reducible exact sim_gi | with_reducible exact sim_si | with_reducible exact sim_ai rfl | with_reducible exact sim_al rfl | with_reducible exact sim_sai rfl | with_reducible exact sim_saz rfl | with_reducible exact sim_sal rfl
    | with_reducible exact sim_pz | with_reducible exact sim_pch | with_reducible exact sim_div | with_reducible exact sim_rem
    | with_reducible refine sim_pp ?_ | with_reducible refine sim_zb ?_ | with_reducible refine sim_zif ?_ ?_ ?_
    | with_reducible refine sim_assoc ?_ | with_reducible refine sim_pure ?_ | with_reducible refine sim_gr (by decide) ?_
    | with_reducible refine sim_pb ?_ (fun v => ?_) | with_reducible refine sim_if2 ?_ ?_ ?_ | with_reducible refine sim_xl ?_ (fun s => ?_) (fun s => ?_) | with_reducible refine sim_xo rfl rfl ?_
    | rfl | (simp only [b2ne, Bool.not_not]; done)
def P_X7_answerWord (message_ : Int32) : PX Int64 :=
  pb (pai 31 message_) (fun v4 => if (decide (¬ v4 = (1 : Int32))) then pp (0 : Int64) else pb (pai 38 message_) (fun what_9 => if (decide (what_9 = (1 : Int32))) then pp (143495695457 : Int64) else if (decide (what_9 = (2 : Int32))) then pp (6263808866484 : Int64) else if (decide (what_9 = (3 : Int32))) then pp (143287258276 : Int64) else pp (4591361110180 : Int64)))
set_option maxRecDepth 100000 in
set_option maxHeartbeats 4000000 in
theorem sm_X7_answerWord (mo : Nat) (message_ : Int32) : SIM mo (F_X7_answerWord mo message_) (P_X7_answerWord message_) := by
  unfold F_X7_answerWord P_X7_answerWord
  repeat' first
    | with_reducible exact sim_gi | with_reducible exact sim_si | with_reducible exact sim_ai rfl | with_reducible exact sim_al rfl | with_reducible exact sim_sai rfl | with_reducible exact sim_saz rfl | with_reducible exact sim_sal rfl
    | with_reducible exact sim_pz | with_reducible exact sim_pch | with_reducible exact sim_div | with_reducible exact sim_rem
    | with_reducible refine sim_pp ?_ | with_reducible refine sim_zb ?_ | with_reducible refine sim_zif ?_ ?_ ?_
    | with_reducible refine sim_assoc ?_ | with_reducible refine sim_pure ?_ | with_reducible refine sim_gr (by decide) ?_
    | with_reducible refine sim_pb ?_ (fun v => ?_) | with_reducible refine sim_if2 ?_ ?_ ?_ | with_reducible refine sim_xl ?_ (fun s => ?_) (fun s => ?_) | with_reducible refine sim_xo rfl rfl ?_
    | rfl | (simp only [b2ne, Bool.not_not]; done)
def P_X7_digits (v_ : Int32) : PX Int32 :=
  if (decide (v_ < (10 : Int32))) then pp (1 : Int32) else if (decide (v_ < (100 : Int32))) then pp (2 : Int32) else pp (3 : Int32)
set_option maxRecDepth 100000 in
set_option maxHeartbeats 4000000 in
theorem sm_X7_digits (mo : Nat) (v_ : Int32) : SIM mo (F_X7_digits v_) (P_X7_digits v_) := by
  unfold F_X7_digits P_X7_digits
  repeat' first
    | with_reducible exact sim_gi | with_reducible exact sim_si | with_reducible exact sim_ai rfl | with_reducible exact sim_al rfl | with_reducible exact sim_sai rfl | with_reducible exact sim_saz rfl | with_reducible exact sim_sal rfl
    | with_reducible exact sim_pz | with_reducible exact sim_pch | with_reducible exact sim_div | with_reducible exact sim_rem
    | with_reducible refine sim_pp ?_ | with_reducible refine sim_zb ?_ | with_reducible refine sim_zif ?_ ?_ ?_
    | with_reducible refine sim_assoc ?_ | with_reducible refine sim_pure ?_ | with_reducible refine sim_gr (by decide) ?_
    | with_reducible refine sim_pb ?_ (fun v => ?_) | with_reducible refine sim_if2 ?_ ?_ ?_ | with_reducible refine sim_xl ?_ (fun s => ?_) (fun s => ?_) | with_reducible refine sim_xo rfl rfl ?_
    | rfl | (simp only [b2ne, Bool.not_not]; done)
def P_X7_lineOf (message_ : Int32) : PX Int32 :=
  pb (P_X7_answerWord message_) (fun v3 => pb (P_X7_letters v3) (fun answers_4 => pb (P_X7_kindWord message_) (fun v7 => pb (P_X7_letters v7) (fun v8 => pb (pai 36 message_) (fun v13 => pb (P_X7_digits v13) (fun v15 => pb (if (decide (answers_4 = 0)) then pp (0 : Int32) else pp ((1 : Int32) + answers_4)) (fun v21 => pp (((v8 + (6 : Int32)) + v15) + v21))))))))
set_option maxRecDepth 100000 in
set_option maxHeartbeats 4000000 in
theorem sm_X7_lineOf (mo : Nat) (message_ : Int32) : SIM mo (F_X7_lineOf mo message_) (P_X7_lineOf message_) := by
  unfold F_X7_lineOf P_X7_lineOf
  repeat' first
    | with_reducible exact sim_gi | with_reducible exact sim_si | with_reducible exact sim_ai rfl | with_reducible exact sim_al rfl | with_reducible exact sim_sai rfl | with_reducible exact sim_saz rfl | with_reducible exact sim_sal rfl
    | with_reducible exact sim_pz | with_reducible exact sim_pch | with_reducible exact sim_div | with_reducible exact sim_rem
    | with_reducible refine sim_pp ?_ | with_reducible refine sim_zb ?_ | with_reducible refine sim_zif ?_ ?_ ?_
    | with_reducible refine sim_assoc ?_ | with_reducible refine sim_pure ?_ | with_reducible refine sim_gr (by decide) ?_
    | with_reducible refine sim_pb ?_ (fun v => ?_) | with_reducible refine sim_if2 ?_ ?_ ?_ | with_reducible refine sim_xl ?_ (fun s => ?_) (fun s => ?_) | with_reducible refine sim_xo rfl rfl ?_
    | with_reducible exact sm_X7_answerWord mo _
    | with_reducible exact sm_X7_letters mo _
    | with_reducible exact sm_X7_kindWord mo _
    | with_reducible exact sm_X7_digits mo _
    | rfl | (simp only [b2ne, Bool.not_not]; done)
def P_X7_lineLength (message_ : Int32) : PX Int32 :=
  pb (P_X7_isMessage message_) (fun v4 => pb (P_X7_goes v4 (1 : Int32) (1 : Int32)) (fun v7 => if (decide (¬ v7 = 0)) then P_X7_lineOf message_ else pp (0 : Int32)))
set_option maxRecDepth 100000 in
set_option maxHeartbeats 4000000 in
theorem sm_X7_lineLength (mo : Nat) (message_ : Int32) : SIM mo (F_X7_lineLength mo message_) (P_X7_lineLength message_) := by
  unfold F_X7_lineLength P_X7_lineLength
  repeat' first
    | with_reducible exact sim_gi | with_reducible exact sim_si | with_reducible exact sim_ai rfl | with_reducible exact sim_al rfl | with_reducible exact sim_sai rfl | with_reducible exact sim_saz rfl | with_reducible exact sim_sal rfl
    | with_reducible exact sim_pz | with_reducible exact sim_pch | with_reducible exact sim_div | with_reducible exact sim_rem
    | with_reducible refine sim_pp ?_ | with_reducible refine sim_zb ?_ | with_reducible refine sim_zif ?_ ?_ ?_
    | with_reducible refine sim_assoc ?_ | with_reducible refine sim_pure ?_ | with_reducible refine sim_gr (by decide) ?_
    | with_reducible refine sim_pb ?_ (fun v => ?_) | with_reducible refine sim_if2 ?_ ?_ ?_ | with_reducible refine sim_xl ?_ (fun s => ?_) (fun s => ?_) | with_reducible refine sim_xo rfl rfl ?_
    | with_reducible exact sm_X7_isMessage mo _
    | with_reducible exact sm_X7_goes mo _ _ _
    | with_reducible exact sm_X7_lineOf mo _
    | rfl | (simp only [b2ne, Bool.not_not]; done)
def P_X7_signAt (message_ : Int32) (place_ : Int32) : PX Int32 :=
  pb (pai 36 message_) (fun v4 => pb (P_X7_digits v4) (fun many_5 => pb (if (decide (place_ = (1 : Int32))) then pp true else pp (decide (place_ = (2 : Int32)))) (fun v82 => if v82 then pb (if (decide (place_ = (1 : Int32))) then pai 32 message_ else pai 33 message_) (fun v21 => pch ((((97 : Int32) + v21).toUInt32 % 65536).toInt32)) else if (decide (place_ = (4 : Int32))) then pb (pai 34 message_) (fun v29 => pch ((((48 : Int32) + v29).toUInt32 % 65536).toInt32)) else pb (if (decide ((5 : Int32) < place_)) then pp (decide (place_ < ((6 : Int32) + many_5))) else pp false) (fun v80 => if v80 then pb (if (decide ((((5 : Int32) + many_5) - place_) = 0)) then pai 36 message_ else if (decide ((((5 : Int32) + many_5) - place_) = (1 : Int32))) then pb (pai 36 message_) (fun v52 => pdiv v52 (10 : Int32)) else pb (pai 36 message_) (fun v57 => pdiv v57 (100 : Int32))) (fun part_61 => pb (prem part_61 (10 : Int32)) (fun v65 => pch ((((48 : Int32) + v65).toUInt32 % 65536).toInt32))) else pb (if (decide (((6 : Int32) + many_5) < place_)) then pb (P_X7_answerWord message_) (fun v77 => P_X7_letter v77 ((place_ - (7 : Int32)) - many_5)) else pp (32 : Int32)) pch))))
set_option maxRecDepth 100000 in
set_option maxHeartbeats 4000000 in
theorem sm_X7_signAt (mo : Nat) (message_ : Int32) (place_ : Int32) : SIM mo (F_X7_signAt mo message_ place_) (P_X7_signAt message_ place_) := by
  unfold F_X7_signAt P_X7_signAt
  repeat' first
    | with_reducible exact sim_gi | with_reducible exact sim_si | with_reducible exact sim_ai rfl | with_reducible exact sim_al rfl | with_reducible exact sim_sai rfl | with_reducible exact sim_saz rfl | with_reducible exact sim_sal rfl
    | with_reducible exact sim_pz | with_reducible exact sim_pch | with_reducible exact sim_div | with_reducible exact sim_rem
    | with_reducible refine sim_pp ?_ | with_reducible refine sim_zb ?_ | with_reducible refine sim_zif ?_ ?_ ?_
    | with_reducible refine sim_assoc ?_ | with_reducible refine sim_pure ?_ | with_reducible refine sim_gr (by decide) ?_
    | with_reducible refine sim_pb ?_ (fun v => ?_) | with_reducible refine sim_if2 ?_ ?_ ?_ | with_reducible refine sim_xl ?_ (fun s => ?_) (fun s => ?_) | with_reducible refine sim_xo rfl rfl ?_
    | with_reducible exact sm_X7_digits mo _
    | with_reducible exact sm_X7_answerWord mo _
    | with_reducible exact sm_X7_letter mo _ _
    | rfl | (simp only [b2ne, Bool.not_not]; done)
def P_X7_lineChar (message_ : Int32) (place_ : Int32) : PX Int32 :=
  pb (P_X7_isMessage message_) (fun is_3 => pb (if (decide (¬ is_3 = 0)) then pb (if (decide (¬ is_3 = 0)) then pp message_ else pp (0 : Int32)) (fun v8 => pb (P_X7_lineOf v8) (fun v9 => pb (P_X7_in place_ (0 : Int32) (v9 - (1 : Int32))) (fun v14 => pp (decide (¬ v14 = 0))))) else pp false) (fun v16 => pb (P_X7_goes (b2i v16) (1 : Int32) (1 : Int32)) (fun v21 => if (!(decide (¬ v21 = 0))) then pch (32 : Int32) else pb (P_X7_kindWord message_) (fun v25 => pb (P_X7_letters v25) (fun word_26 => pb (if (decide (place_ < word_26)) then pb (P_X7_kindWord message_) (fun v31 => P_X7_letter v31 place_) else P_X7_signAt message_ (place_ - word_26)) pch)))))
set_option maxRecDepth 100000 in
set_option maxHeartbeats 4000000 in
theorem sm_X7_lineChar (mo : Nat) (message_ : Int32) (place_ : Int32) : SIM mo (F_X7_lineChar mo message_ place_) (P_X7_lineChar message_ place_) := by
  unfold F_X7_lineChar P_X7_lineChar
  repeat' first
    | with_reducible exact sim_gi | with_reducible exact sim_si | with_reducible exact sim_ai rfl | with_reducible exact sim_al rfl | with_reducible exact sim_sai rfl | with_reducible exact sim_saz rfl | with_reducible exact sim_sal rfl
    | with_reducible exact sim_pz | with_reducible exact sim_pch | with_reducible exact sim_div | with_reducible exact sim_rem
    | with_reducible refine sim_pp ?_ | with_reducible refine sim_zb ?_ | with_reducible refine sim_zif ?_ ?_ ?_
    | with_reducible refine sim_assoc ?_ | with_reducible refine sim_pure ?_ | with_reducible refine sim_gr (by decide) ?_
    | with_reducible refine sim_pb ?_ (fun v => ?_) | with_reducible refine sim_if2 ?_ ?_ ?_ | with_reducible refine sim_xl ?_ (fun s => ?_) (fun s => ?_) | with_reducible refine sim_xo rfl rfl ?_
    | with_reducible exact sm_X7_isMessage mo _
    | with_reducible exact sm_X7_lineOf mo _
    | with_reducible exact sm_X7_in mo _ _ _
    | with_reducible exact sm_X7_goes mo _ _ _
    | with_reducible exact sm_X7_kindWord mo _
    | with_reducible exact sm_X7_letters mo _
    | with_reducible exact sm_X7_letter mo _ _
    | with_reducible exact sm_X7_signAt mo _ _
    | rfl | (simp only [b2ne, Bool.not_not]; done)
def P_X7_meetings  : PX Int32 :=
  pb (pgi 3) (fun v3 => P_X7_tells v3)
set_option maxRecDepth 100000 in
set_option maxHeartbeats 4000000 in
theorem sm_X7_meetings (mo : Nat)  : SIM mo (F_X7_meetings mo) (P_X7_meetings) := by
  unfold F_X7_meetings P_X7_meetings
  repeat' first
    | with_reducible exact sim_gi | with_reducible exact sim_si | with_reducible exact sim_ai rfl | with_reducible exact sim_al rfl | with_reducible exact sim_sai rfl | with_reducible exact sim_saz rfl | with_reducible exact sim_sal rfl
    | with_reducible exact sim_pz | with_reducible exact sim_pch | with_reducible exact sim_div | with_reducible exact sim_rem
    | with_reducible refine sim_pp ?_ | with_reducible refine sim_zb ?_ | with_reducible refine sim_zif ?_ ?_ ?_
    | with_reducible refine sim_assoc ?_ | with_reducible refine sim_pure ?_ | with_reducible refine sim_gr (by decide) ?_
    | with_reducible refine sim_pb ?_ (fun v => ?_) | with_reducible refine sim_if2 ?_ ?_ ?_ | with_reducible refine sim_xl ?_ (fun s => ?_) (fun s => ?_) | with_reducible refine sim_xo rfl rfl ?_
    | with_reducible exact sm_X7_tells mo _
    | rfl | (simp only [b2ne, Bool.not_not]; done)
def P_X7_versionOf (person_ : Int32) (its_ : Int32) : PX Int32 :=
  pb (pai 4 its_) (fun v4 => if (decide (v4 = person_)) then pai 5 its_ else pb (P_X7_at person_ its_) (fun v13 => pai 25 v13))
set_option maxRecDepth 100000 in
set_option maxHeartbeats 4000000 in
theorem sm_X7_versionOf (mo : Nat) (person_ : Int32) (its_ : Int32) : SIM mo (F_X7_versionOf mo person_ its_) (P_X7_versionOf person_ its_) := by
  unfold F_X7_versionOf P_X7_versionOf
  repeat' first
    | with_reducible exact sim_gi | with_reducible exact sim_si | with_reducible exact sim_ai rfl | with_reducible exact sim_al rfl | with_reducible exact sim_sai rfl | with_reducible exact sim_saz rfl | with_reducible exact sim_sal rfl
    | with_reducible exact sim_pz | with_reducible exact sim_pch | with_reducible exact sim_div | with_reducible exact sim_rem
    | with_reducible refine sim_pp ?_ | with_reducible refine sim_zb ?_ | with_reducible refine sim_zif ?_ ?_ ?_
    | with_reducible refine sim_assoc ?_ | with_reducible refine sim_pure ?_ | with_reducible refine sim_gr (by decide) ?_
    | with_reducible refine sim_pb ?_ (fun v => ?_) | with_reducible refine sim_if2 ?_ ?_ ?_ | with_reducible refine sim_xl ?_ (fun s => ?_) (fun s => ?_) | with_reducible refine sim_xo rfl rfl ?_
    | with_reducible exact sm_X7_at mo _ _
    | rfl | (simp only [b2ne, Bool.not_not]; done)
def P_X7_asks (person_ : Int32) (its_ : Int32) : PX Int32 :=
  pb (P_X7_isPerson person_) (fun v2 => pb (if (decide (¬ v2 = 0)) then pb (P_X7_isMeeting its_) (fun v5 => pp (decide (¬ v5 = 0))) else pp false) (fun v7 => pb (P_X7_goes (b2i v7) (1 : Int32) (1 : Int32)) pz))
set_option maxRecDepth 100000 in
set_option maxHeartbeats 4000000 in
theorem sm_X7_asks (mo : Nat) (person_ : Int32) (its_ : Int32) : SIM mo (F_X7_asks mo person_ its_) (P_X7_asks person_ its_) := by
  unfold F_X7_asks P_X7_asks
  repeat' first
    | with_reducible exact sim_gi | with_reducible exact sim_si | with_reducible exact sim_ai rfl | with_reducible exact sim_al rfl | with_reducible exact sim_sai rfl | with_reducible exact sim_saz rfl | with_reducible exact sim_sal rfl
    | with_reducible exact sim_pz | with_reducible exact sim_pch | with_reducible exact sim_div | with_reducible exact sim_rem
    | with_reducible refine sim_pp ?_ | with_reducible refine sim_zb ?_ | with_reducible refine sim_zif ?_ ?_ ?_
    | with_reducible refine sim_assoc ?_ | with_reducible refine sim_pure ?_ | with_reducible refine sim_gr (by decide) ?_
    | with_reducible refine sim_pb ?_ (fun v => ?_) | with_reducible refine sim_if2 ?_ ?_ ?_ | with_reducible refine sim_xl ?_ (fun s => ?_) (fun s => ?_) | with_reducible refine sim_xo rfl rfl ?_
    | with_reducible exact sm_X7_isPerson mo _
    | with_reducible exact sm_X7_isMeeting mo _
    | with_reducible exact sm_X7_goes mo _ _ _
    | rfl | (simp only [b2ne, Bool.not_not]; done)
def P_X7_isThere (person_ : Int32) (its_ : Int32) : PX Int32 :=
  pb (P_X7_asks person_ its_) (fun v4 => pb (if (decide (¬ v4 = 0)) then pb (P_X7_isHere person_ its_) (fun v8 => pp (decide (¬ v8 = 0))) else pp false) (fun v10 => pp (b2i v10)))
set_option maxRecDepth 100000 in
set_option maxHeartbeats 4000000 in
theorem sm_X7_isThere (mo : Nat) (person_ : Int32) (its_ : Int32) : SIM mo (F_X7_isThere mo person_ its_) (P_X7_isThere person_ its_) := by
  unfold F_X7_isThere P_X7_isThere
  repeat' first
    | with_reducible exact sim_gi | with_reducible exact sim_si | with_reducible exact sim_ai rfl | with_reducible exact sim_al rfl | with_reducible exact sim_sai rfl | with_reducible exact sim_saz rfl | with_reducible exact sim_sal rfl
    | with_reducible exact sim_pz | with_reducible exact sim_pch | with_reducible exact sim_div | with_reducible exact sim_rem
    | with_reducible refine sim_pp ?_ | with_reducible refine sim_zb ?_ | with_reducible refine sim_zif ?_ ?_ ?_
    | with_reducible refine sim_assoc ?_ | with_reducible refine sim_pure ?_ | with_reducible refine sim_gr (by decide) ?_
    | with_reducible refine sim_pb ?_ (fun v => ?_) | with_reducible refine sim_if2 ?_ ?_ ?_ | with_reducible refine sim_xl ?_ (fun s => ?_) (fun s => ?_) | with_reducible refine sim_xo rfl rfl ?_
    | with_reducible exact sm_X7_asks mo _ _
    | with_reducible exact sm_X7_isHere mo _ _
    | rfl | (simp only [b2ne, Bool.not_not]; done)
def P_X7_sequence (person_ : Int32) (its_ : Int32) : PX Int32 :=
  pb (P_X7_asks person_ its_) (fun v4 => if (!(decide (¬ v4 = 0))) then pp (0 : Int32) else pb (P_X7_versionOf person_ its_) (fun by_9 => if (decide (by_9 = (-1 : Int32))) then pp (-1 : Int32) else pai 9 by_9))
set_option maxRecDepth 100000 in
set_option maxHeartbeats 4000000 in
theorem sm_X7_sequence (mo : Nat) (person_ : Int32) (its_ : Int32) : SIM mo (F_X7_sequence mo person_ its_) (P_X7_sequence person_ its_) := by
  unfold F_X7_sequence P_X7_sequence
  repeat' first
    | with_reducible exact sim_gi | with_reducible exact sim_si | with_reducible exact sim_ai rfl | with_reducible exact sim_al rfl | with_reducible exact sim_sai rfl | with_reducible exact sim_saz rfl | with_reducible exact sim_sal rfl
    | with_reducible exact sim_pz | with_reducible exact sim_pch | with_reducible exact sim_div | with_reducible exact sim_rem
    | with_reducible refine sim_pp ?_ | with_reducible refine sim_zb ?_ | with_reducible refine sim_zif ?_ ?_ ?_
    | with_reducible refine sim_assoc ?_ | with_reducible refine sim_pure ?_ | with_reducible refine sim_gr (by decide) ?_
    | with_reducible refine sim_pb ?_ (fun v => ?_) | with_reducible refine sim_if2 ?_ ?_ ?_ | with_reducible refine sim_xl ?_ (fun s => ?_) (fun s => ?_) | with_reducible refine sim_xo rfl rfl ?_
    | with_reducible exact sm_X7_asks mo _ _
    | with_reducible exact sm_X7_versionOf mo _ _
    | rfl | (simp only [b2ne, Bool.not_not]; done)
def P_X7_many (set_ : Int64) : PX Int32 :=
  pb (pl 2000 (fun (s3 : Int32 × Int32) => pp (decide (s3.2 < (60 : Int32)))) (fun (s3 : Int32 × Int32) => pb (P_X7_has set_ s3.2) (fun v8 => pb (if (decide (¬ v8 = 0)) then pp (1 : Int32) else pp (0 : Int32)) (fun v11 => pp ((s3.1 + v11), (s3.2 + 1))))) ((0 : Int32), (0 : Int32))) (fun s13 => pp s13.1)
set_option maxRecDepth 100000 in
set_option maxHeartbeats 4000000 in
theorem sm_X7_many (mo : Nat) (set_ : Int64) : SIM mo (F_X7_many set_) (P_X7_many set_) := by
  unfold F_X7_many P_X7_many
  repeat' first
    | with_reducible exact sim_gi | with_reducible exact sim_si | with_reducible exact sim_ai rfl | with_reducible exact sim_al rfl | with_reducible exact sim_sai rfl | with_reducible exact sim_saz rfl | with_reducible exact sim_sal rfl
    | with_reducible exact sim_pz | with_reducible exact sim_pch | with_reducible exact sim_div | with_reducible exact sim_rem
    | with_reducible refine sim_pp ?_ | with_reducible refine sim_zb ?_ | with_reducible refine sim_zif ?_ ?_ ?_
    | with_reducible refine sim_assoc ?_ | with_reducible refine sim_pure ?_ | with_reducible refine sim_gr (by decide) ?_
    | with_reducible refine sim_pb ?_ (fun v => ?_) | with_reducible refine sim_if2 ?_ ?_ ?_ | with_reducible refine sim_xl ?_ (fun s => ?_) (fun s => ?_) | with_reducible refine sim_xo rfl rfl ?_
    | with_reducible exact sm_X7_has mo _ _
    | rfl | (simp only [b2ne, Bool.not_not]; done)
def P_X7_datesOf (person_ : Int32) (its_ : Int32) : PX Int64 :=
  pb (P_X7_isHere person_ its_) (fun v4 => if (decide (¬ v4 = 0)) then pb (P_X7_versionOf person_ its_) (fun v10 => pal 23 v10) else pp (0 : Int64))
set_option maxRecDepth 100000 in
set_option maxHeartbeats 4000000 in
theorem sm_X7_datesOf (mo : Nat) (person_ : Int32) (its_ : Int32) : SIM mo (F_X7_datesOf mo person_ its_) (P_X7_datesOf person_ its_) := by
  unfold F_X7_datesOf P_X7_datesOf
  repeat' first
    | with_reducible exact sim_gi | with_reducible exact sim_si | with_reducible exact sim_ai rfl | with_reducible exact sim_al rfl | with_reducible exact sim_sai rfl | with_reducible exact sim_saz rfl | with_reducible exact sim_sal rfl
    | with_reducible exact sim_pz | with_reducible exact sim_pch | with_reducible exact sim_div | with_reducible exact sim_rem
    | with_reducible refine sim_pp ?_ | with_reducible refine sim_zb ?_ | with_reducible refine sim_zif ?_ ?_ ?_
    | with_reducible refine sim_assoc ?_ | with_reducible refine sim_pure ?_ | with_reducible refine sim_gr (by decide) ?_
    | with_reducible refine sim_pb ?_ (fun v => ?_) | with_reducible refine sim_if2 ?_ ?_ ?_ | with_reducible refine sim_xl ?_ (fun s => ?_) (fun s => ?_) | with_reducible refine sim_xo rfl rfl ?_
    | with_reducible exact sm_X7_isHere mo _ _
    | with_reducible exact sm_X7_versionOf mo _ _
    | rfl | (simp only [b2ne, Bool.not_not]; done)
def P_X7_dates (person_ : Int32) (its_ : Int32) : PX Int32 :=
  pb (P_X7_asks person_ its_) (fun v4 => if (decide (¬ v4 = 0)) then pb (P_X7_datesOf person_ its_) (fun v8 => P_X7_many v8) else pp (0 : Int32))
set_option maxRecDepth 100000 in
set_option maxHeartbeats 4000000 in
theorem sm_X7_dates (mo : Nat) (person_ : Int32) (its_ : Int32) : SIM mo (F_X7_dates mo person_ its_) (P_X7_dates person_ its_) := by
  unfold F_X7_dates P_X7_dates
  repeat' first
    | with_reducible exact sim_gi | with_reducible exact sim_si | with_reducible exact sim_ai rfl | with_reducible exact sim_al rfl | with_reducible exact sim_sai rfl | with_reducible exact sim_saz rfl | with_reducible exact sim_sal rfl
    | with_reducible exact sim_pz | with_reducible exact sim_pch | with_reducible exact sim_div | with_reducible exact sim_rem
    | with_reducible refine sim_pp ?_ | with_reducible refine sim_zb ?_ | with_reducible refine sim_zif ?_ ?_ ?_
    | with_reducible refine sim_assoc ?_ | with_reducible refine sim_pure ?_ | with_reducible refine sim_gr (by decide) ?_
    | with_reducible refine sim_pb ?_ (fun v => ?_) | with_reducible refine sim_if2 ?_ ?_ ?_ | with_reducible refine sim_xl ?_ (fun s => ?_) (fun s => ?_) | with_reducible refine sim_xo rfl rfl ?_
    | with_reducible exact sm_X7_asks mo _ _
    | with_reducible exact sm_X7_datesOf mo _ _
    | with_reducible exact sm_X7_many mo _
    | rfl | (simp only [b2ne, Bool.not_not]; done)
def P_X7_dateAt (person_ : Int32) (its_ : Int32) (place_ : Int32) : PX Int32 :=
  pb (P_X7_isPerson person_) (fun v2 => pb (if (decide (¬ v2 = 0)) then pb (P_X7_isMeeting its_) (fun v5 => pp (decide (¬ v5 = 0))) else pp false) (fun v7 => pb (if v7 then P_X7_datesOf person_ its_ else pp (0 : Int64)) (fun set_14 => pb (if v7 then pb (P_X7_many set_14) (fun v17 => pb (P_X7_in place_ (0 : Int32) (v17 - (1 : Int32))) (fun v22 => pp (decide (¬ v22 = 0)))) else pp false) (fun v24 => pb (P_X7_goes (b2i v24) (1 : Int32) (1 : Int32)) (fun v29 => if (!(decide (¬ v29 = 0))) then pp (0 : Int32) else pb (pl 2000 (fun (s34 : Int32 × Int32 × Int32) => pp (decide (s34.2.2 < (60 : Int32)))) (fun (s34 : Int32 × Int32 × Int32) => pb (P_X7_has set_14 s34.2.2) (fun v39 => pb (if (decide (¬ v39 = 0)) then pb (if (decide (s34.2.1 = 0)) then pp s34.2.2 else pp s34.1) (fun found_42 => pp (found_42, (s34.2.1 + -1))) else pp (s34.1, s34.2.1)) (fun s44 => pp (s44.1, s44.2, (s34.2.2 + 1))))) ((-1 : Int32), place_, (0 : Int32))) (fun s45 => pp s45.1))))))
set_option maxRecDepth 100000 in
set_option maxHeartbeats 4000000 in
theorem sm_X7_dateAt (mo : Nat) (person_ : Int32) (its_ : Int32) (place_ : Int32) : SIM mo (F_X7_dateAt mo person_ its_ place_) (P_X7_dateAt person_ its_ place_) := by
  unfold F_X7_dateAt P_X7_dateAt
  repeat' first
    | with_reducible exact sim_gi | with_reducible exact sim_si | with_reducible exact sim_ai rfl | with_reducible exact sim_al rfl | with_reducible exact sim_sai rfl | with_reducible exact sim_saz rfl | with_reducible exact sim_sal rfl
    | with_reducible exact sim_pz | with_reducible exact sim_pch | with_reducible exact sim_div | with_reducible exact sim_rem
    | with_reducible refine sim_pp ?_ | with_reducible refine sim_zb ?_ | with_reducible refine sim_zif ?_ ?_ ?_
    | with_reducible refine sim_assoc ?_ | with_reducible refine sim_pure ?_ | with_reducible refine sim_gr (by decide) ?_
    | with_reducible refine sim_pb ?_ (fun v => ?_) | with_reducible refine sim_if2 ?_ ?_ ?_ | with_reducible refine sim_xl ?_ (fun s => ?_) (fun s => ?_) | with_reducible refine sim_xo rfl rfl ?_
    | with_reducible exact sm_X7_isPerson mo _
    | with_reducible exact sm_X7_isMeeting mo _
    | with_reducible exact sm_X7_datesOf mo _ _
    | with_reducible exact sm_X7_many mo _
    | with_reducible exact sm_X7_in mo _ _ _
    | with_reducible exact sm_X7_goes mo _ _ _
    | with_reducible exact sm_X7_has mo _ _
    | rfl | (simp only [b2ne, Bool.not_not]; done)
def P_X7_beginOf (by_ : Int32) (when_ : Int32) : PX Int32 :=
  pb (pai 10 by_) (fun v22 => pb (pal 22 by_) (fun v7 => pb (P_X7_has v7 when_) (fun v9 => pb (if (decide (¬ v9 = 0)) then P_X7_goal by_ when_ else pb (pai 12 by_) (fun v19 => pp (((24 : Int32) * when_) + v19))) (fun v23 => P_X7_commonOf v22 v23))))
set_option maxRecDepth 100000 in
set_option maxHeartbeats 4000000 in
theorem sm_X7_beginOf (mo : Nat) (by_ : Int32) (when_ : Int32) : SIM mo (F_X7_beginOf mo by_ when_) (P_X7_beginOf by_ when_) := by
  unfold F_X7_beginOf P_X7_beginOf
  repeat' first
    | with_reducible exact sim_gi | with_reducible exact sim_si | with_reducible exact sim_ai rfl | with_reducible exact sim_al rfl | with_reducible exact sim_sai rfl | with_reducible exact sim_saz rfl | with_reducible exact sim_sal rfl
    | with_reducible exact sim_pz | with_reducible exact sim_pch | with_reducible exact sim_div | with_reducible exact sim_rem
    | with_reducible refine sim_pp ?_ | with_reducible refine sim_zb ?_ | with_reducible refine sim_zif ?_ ?_ ?_
    | with_reducible refine sim_assoc ?_ | with_reducible refine sim_pure ?_ | with_reducible refine sim_gr (by decide) ?_
    | with_reducible refine sim_pb ?_ (fun v => ?_) | with_reducible refine sim_if2 ?_ ?_ ?_ | with_reducible refine sim_xl ?_ (fun s => ?_) (fun s => ?_) | with_reducible refine sim_xo rfl rfl ?_
    | with_reducible exact sm_X7_has mo _ _
    | with_reducible exact sm_X7_goal mo _ _
    | with_reducible exact sm_X7_commonOf mo _ _
    | rfl | (simp only [b2ne, Bool.not_not]; done)
def P_X7_asksDate (person_ : Int32) (its_ : Int32) (when_ : Int32) : PX Int32 :=
  pb (P_X7_isPerson person_) (fun v2 => pb (if (decide (¬ v2 = 0)) then pb (P_X7_isMeeting its_) (fun v5 => pp (decide (¬ v5 = 0))) else pp false) (fun v7 => pb (P_X7_isDay when_) (fun v24 => pb (if v7 then pb (P_X7_isDay when_) (fun v12 => pp (decide (¬ v12 = 0))) else pp false) (fun v20 => pb (if v20 then pb (P_X7_datesOf person_ its_) (fun v17 => pb (P_X7_has v17 when_) (fun v19 => pp (decide (¬ v19 = 0)))) else pp false) (fun v21 => pb (P_X7_goes (b2i v7) v24 (b2i v21)) pz)))))
set_option maxRecDepth 100000 in
set_option maxHeartbeats 4000000 in
theorem sm_X7_asksDate (mo : Nat) (person_ : Int32) (its_ : Int32) (when_ : Int32) : SIM mo (F_X7_asksDate mo person_ its_ when_) (P_X7_asksDate person_ its_ when_) := by
  unfold F_X7_asksDate P_X7_asksDate
  repeat' first
    | with_reducible exact sim_gi | with_reducible exact sim_si | with_reducible exact sim_ai rfl | with_reducible exact sim_al rfl | with_reducible exact sim_sai rfl | with_reducible exact sim_saz rfl | with_reducible exact sim_sal rfl
    | with_reducible exact sim_pz | with_reducible exact sim_pch | with_reducible exact sim_div | with_reducible exact sim_rem
    | with_reducible refine sim_pp ?_ | with_reducible refine sim_zb ?_ | with_reducible refine sim_zif ?_ ?_ ?_
    | with_reducible refine sim_assoc ?_ | with_reducible refine sim_pure ?_ | with_reducible refine sim_gr (by decide) ?_
    | with_reducible refine sim_pb ?_ (fun v => ?_) | with_reducible refine sim_if2 ?_ ?_ ?_ | with_reducible refine sim_xl ?_ (fun s => ?_) (fun s => ?_) | with_reducible refine sim_xo rfl rfl ?_
    | with_reducible exact sm_X7_isPerson mo _
    | with_reducible exact sm_X7_isMeeting mo _
    | with_reducible exact sm_X7_isDay mo _
    | with_reducible exact sm_X7_datesOf mo _ _
    | with_reducible exact sm_X7_has mo _ _
    | with_reducible exact sm_X7_goes mo _ _ _
    | rfl | (simp only [b2ne, Bool.not_not]; done)
def P_X7_begin (person_ : Int32) (its_ : Int32) (when_ : Int32) : PX Int32 :=
  pb (P_X7_asksDate person_ its_ when_) (fun v5 => if (decide (¬ v5 = 0)) then pb (P_X7_versionOf person_ its_) (fun v10 => P_X7_beginOf v10 when_) else pp (0 : Int32))
set_option maxRecDepth 100000 in
set_option maxHeartbeats 4000000 in
theorem sm_X7_begin (mo : Nat) (person_ : Int32) (its_ : Int32) (when_ : Int32) : SIM mo (F_X7_begin mo person_ its_ when_) (P_X7_begin person_ its_ when_) := by
  unfold F_X7_begin P_X7_begin
  repeat' first
    | with_reducible exact sim_gi | with_reducible exact sim_si | with_reducible exact sim_ai rfl | with_reducible exact sim_al rfl | with_reducible exact sim_sai rfl | with_reducible exact sim_saz rfl | with_reducible exact sim_sal rfl
    | with_reducible exact sim_pz | with_reducible exact sim_pch | with_reducible exact sim_div | with_reducible exact sim_rem
    | with_reducible refine sim_pp ?_ | with_reducible refine sim_zb ?_ | with_reducible refine sim_zif ?_ ?_ ?_
    | with_reducible refine sim_assoc ?_ | with_reducible refine sim_pure ?_ | with_reducible refine sim_gr (by decide) ?_
    | with_reducible refine sim_pb ?_ (fun v => ?_) | with_reducible refine sim_if2 ?_ ?_ ?_ | with_reducible refine sim_xl ?_ (fun s => ?_) (fun s => ?_) | with_reducible refine sim_xo rfl rfl ?_
    | with_reducible exact sm_X7_asksDate mo _ _ _
    | with_reducible exact sm_X7_versionOf mo _ _
    | with_reducible exact sm_X7_beginOf mo _ _
    | rfl | (simp only [b2ne, Bool.not_not]; done)
def P_X7_ownOf (person_ : Int32) (its_ : Int32) (when_ : Int32) : PX Int32 :=
  pb (pai 4 its_) (fun v4 => if (decide (v4 = person_)) then pp (1 : Int32) else pb (P_X7_at person_ its_) (fun v10 => pb (pai 25 v10) (fun v15 => P_X7_answers its_ person_ when_ v15 (1 : Int32))))
set_option maxRecDepth 100000 in
set_option maxHeartbeats 4000000 in
theorem sm_X7_ownOf (mo : Nat) (person_ : Int32) (its_ : Int32) (when_ : Int32) : SIM mo (F_X7_ownOf mo person_ its_ when_) (P_X7_ownOf person_ its_ when_) := by
  unfold F_X7_ownOf P_X7_ownOf
  repeat' first
    | with_reducible exact sim_gi | with_reducible exact sim_si | with_reducible exact sim_ai rfl | with_reducible exact sim_al rfl | with_reducible exact sim_sai rfl | with_reducible exact sim_saz rfl | with_reducible exact sim_sal rfl
    | with_reducible exact sim_pz | with_reducible exact sim_pch | with_reducible exact sim_div | with_reducible exact sim_rem
    | with_reducible refine sim_pp ?_ | with_reducible refine sim_zb ?_ | with_reducible refine sim_zif ?_ ?_ ?_
    | with_reducible refine sim_assoc ?_ | with_reducible refine sim_pure ?_ | with_reducible refine sim_gr (by decide) ?_
    | with_reducible refine sim_pb ?_ (fun v => ?_) | with_reducible refine sim_if2 ?_ ?_ ?_ | with_reducible refine sim_xl ?_ (fun s => ?_) (fun s => ?_) | with_reducible refine sim_xo rfl rfl ?_
    | with_reducible exact sm_X7_at mo _ _
    | with_reducible exact sm_X7_answers mo _ _ _ _ _
    | rfl | (simp only [b2ne, Bool.not_not]; done)
def P_X7_ownAnswer (person_ : Int32) (its_ : Int32) (when_ : Int32) : PX Int32 :=
  pb (P_X7_asksDate person_ its_ when_) (fun v5 => if (decide (¬ v5 = 0)) then P_X7_ownOf person_ its_ when_ else pp (0 : Int32))
set_option maxRecDepth 100000 in
set_option maxHeartbeats 4000000 in
theorem sm_X7_ownAnswer (mo : Nat) (person_ : Int32) (its_ : Int32) (when_ : Int32) : SIM mo (F_X7_ownAnswer mo person_ its_ when_) (P_X7_ownAnswer person_ its_ when_) := by
  unfold F_X7_ownAnswer P_X7_ownAnswer
  repeat' first
    | with_reducible exact sim_gi | with_reducible exact sim_si | with_reducible exact sim_ai rfl | with_reducible exact sim_al rfl | with_reducible exact sim_sai rfl | with_reducible exact sim_saz rfl | with_reducible exact sim_sal rfl
    | with_reducible exact sim_pz | with_reducible exact sim_pch | with_reducible exact sim_div | with_reducible exact sim_rem
    | with_reducible refine sim_pp ?_ | with_reducible refine sim_zb ?_ | with_reducible refine sim_zif ?_ ?_ ?_
    | with_reducible refine sim_assoc ?_ | with_reducible refine sim_pure ?_ | with_reducible refine sim_gr (by decide) ?_
    | with_reducible refine sim_pb ?_ (fun v => ?_) | with_reducible refine sim_if2 ?_ ?_ ?_ | with_reducible refine sim_xl ?_ (fun s => ?_) (fun s => ?_) | with_reducible refine sim_xo rfl rfl ?_
    | with_reducible exact sm_X7_asksDate mo _ _ _
    | with_reducible exact sm_X7_ownOf mo _ _ _
    | rfl | (simp only [b2ne, Bool.not_not]; done)
def P_X7_isAsked (its_ : Int32) (person_ : Int32) : PX Int32 :=
  pb (P_X7_asks person_ its_) (fun v4 => pb (if (decide (¬ v4 = 0)) then pb (P_X7_asked its_) (fun v7 => pp (decide (((v7 >>> (person_ &&& 31)) &&& (1 : Int32)) = (1 : Int32)))) else pp false) (fun v14 => pp (b2i v14)))
set_option maxRecDepth 100000 in
set_option maxHeartbeats 4000000 in
theorem sm_X7_isAsked (mo : Nat) (its_ : Int32) (person_ : Int32) : SIM mo (F_X7_isAsked mo its_ person_) (P_X7_isAsked its_ person_) := by
  unfold F_X7_isAsked P_X7_isAsked
  repeat' first
    | with_reducible exact sim_gi | with_reducible exact sim_si | with_reducible exact sim_ai rfl | with_reducible exact sim_al rfl | with_reducible exact sim_sai rfl | with_reducible exact sim_saz rfl | with_reducible exact sim_sal rfl
    | with_reducible exact sim_pz | with_reducible exact sim_pch | with_reducible exact sim_div | with_reducible exact sim_rem
    | with_reducible refine sim_pp ?_ | with_reducible refine sim_zb ?_ | with_reducible refine sim_zif ?_ ?_ ?_
    | with_reducible refine sim_assoc ?_ | with_reducible refine sim_pure ?_ | with_reducible refine sim_gr (by decide) ?_
    | with_reducible refine sim_pb ?_ (fun v => ?_) | with_reducible refine sim_if2 ?_ ?_ ?_ | with_reducible refine sim_xl ?_ (fun s => ?_) (fun s => ?_) | with_reducible refine sim_xo rfl rfl ?_
    | with_reducible exact sm_X7_asks mo _ _
    | with_reducible exact sm_X7_asked mo _
    | rfl | (simp only [b2ne, Bool.not_not]; done)
def P_X7_answerOf (its_ : Int32) (person_ : Int32) (when_ : Int32) : PX Int32 :=
  pb (P_X7_isPerson person_) (fun v2 => pb (if (decide (¬ v2 = 0)) then pb (P_X7_isMeeting its_) (fun v5 => pp (decide (¬ v5 = 0))) else pp false) (fun v7 => pb (P_X7_isDay when_) (fun v27 => pb (if v7 then pb (P_X7_isDay when_) (fun v12 => pp (decide (¬ v12 = 0))) else pp false) (fun v23 => pb (if v23 then pb (pai 5 its_) (fun v19 => pb (pal 23 v19) (fun v20 => pb (P_X7_has v20 when_) (fun v22 => pp (decide (¬ v22 = 0))))) else pp false) (fun v24 => pb (P_X7_goes (b2i v7) v27 (b2i v24)) (fun v29 => if (!(decide (¬ v29 = 0))) then pp (0 : Int32) else pb (P_X7_asked its_) (fun v33 => if (decide (((v33 >>> (person_ &&& 31)) &&& (1 : Int32)) = 0)) then pp (-1 : Int32) else pb (pai 5 its_) (fun v45 => P_X7_answers its_ person_ when_ v45 (0 : Int32)))))))))
set_option maxRecDepth 100000 in
set_option maxHeartbeats 4000000 in
theorem sm_X7_answerOf (mo : Nat) (its_ : Int32) (person_ : Int32) (when_ : Int32) : SIM mo (F_X7_answerOf mo its_ person_ when_) (P_X7_answerOf its_ person_ when_) := by
  unfold F_X7_answerOf P_X7_answerOf
  repeat' first
    | with_reducible exact sim_gi | with_reducible exact sim_si | with_reducible exact sim_ai rfl | with_reducible exact sim_al rfl | with_reducible exact sim_sai rfl | with_reducible exact sim_saz rfl | with_reducible exact sim_sal rfl
    | with_reducible exact sim_pz | with_reducible exact sim_pch | with_reducible exact sim_div | with_reducible exact sim_rem
    | with_reducible refine sim_pp ?_ | with_reducible refine sim_zb ?_ | with_reducible refine sim_zif ?_ ?_ ?_
    | with_reducible refine sim_assoc ?_ | with_reducible refine sim_pure ?_ | with_reducible refine sim_gr (by decide) ?_
    | with_reducible refine sim_pb ?_ (fun v => ?_) | with_reducible refine sim_if2 ?_ ?_ ?_ | with_reducible refine sim_xl ?_ (fun s => ?_) (fun s => ?_) | with_reducible refine sim_xo rfl rfl ?_
    | with_reducible exact sm_X7_isPerson mo _
    | with_reducible exact sm_X7_isMeeting mo _
    | with_reducible exact sm_X7_isDay mo _
    | with_reducible exact sm_X7_has mo _ _
    | with_reducible exact sm_X7_goes mo _ _ _
    | with_reducible exact sm_X7_asked mo _
    | with_reducible exact sm_X7_answers mo _ _ _ _ _
    | rfl | (simp only [b2ne, Bool.not_not]; done)
def P_X7_answerByLog (its_ : Int32) (person_ : Int32) (when_ : Int32) : PX Int32 :=
  P_X7_answerOf its_ person_ when_
set_option maxRecDepth 100000 in
set_option maxHeartbeats 4000000 in
theorem sm_X7_answerByLog (mo : Nat) (its_ : Int32) (person_ : Int32) (when_ : Int32) : SIM mo (F_X7_answerByLog mo its_ person_ when_) (P_X7_answerByLog its_ person_ when_) := by
  unfold F_X7_answerByLog P_X7_answerByLog
  repeat' first
    | with_reducible exact sim_gi | with_reducible exact sim_si | with_reducible exact sim_ai rfl | with_reducible exact sim_al rfl | with_reducible exact sim_sai rfl | with_reducible exact sim_saz rfl | with_reducible exact sim_sal rfl
    | with_reducible exact sim_pz | with_reducible exact sim_pch | with_reducible exact sim_div | with_reducible exact sim_rem
    | with_reducible refine sim_pp ?_ | with_reducible refine sim_zb ?_ | with_reducible refine sim_zif ?_ ?_ ?_
    | with_reducible refine sim_assoc ?_ | with_reducible refine sim_pure ?_ | with_reducible refine sim_gr (by decide) ?_
    | with_reducible refine sim_pb ?_ (fun v => ?_) | with_reducible refine sim_if2 ?_ ?_ ?_ | with_reducible refine sim_xl ?_ (fun s => ?_) (fun s => ?_) | with_reducible refine sim_xo rfl rfl ?_
    | with_reducible exact sm_X7_answerOf mo _ _ _
    | rfl | (simp only [b2ne, Bool.not_not]; done)
def P_X7_agrees (its_ : Int32) : PX Int32 :=
  pb (P_X7_isMeeting its_) (fun v4 => pb (P_X7_goes v4 (1 : Int32) (1 : Int32)) (fun v7 => pb (if (!(decide (¬ v7 = 0))) then pp true else pb (P_X7_isHeld its_) (fun v11 => pp (!(decide (¬ v11 = 0))))) (fun v90 => if v90 then pz (0 : Int32) else pb (P_X7_asked its_) (fun set_16 => pb (pl 2000 (fun (s19 : Int32 × Int32) => pp (decide (s19.2 < (5 : Int32)))) (fun (s19 : Int32 × Int32) => pb (if (decide (¬ s19.1 = 0)) then if (!(decide (((set_16 >>> (s19.2 &&& 31)) &&& (1 : Int32)) = (1 : Int32)))) then pp true else pb (P_X7_at s19.2 its_) (fun v37 => pb (pai 25 v37) (fun v38 => pb (pai 5 its_) (fun v42 => pp (decide (v38 = v42))))) else pp false) (fun v45 => pb (pl 2000 (fun (s48 : Int32 × Int32) => pb (if (decide (s48.2 < (60 : Int32))) then pp (decide (((set_16 >>> (s19.2 &&& 31)) &&& (1 : Int32)) = (1 : Int32))) else pp false) (fun v54 => if v54 then pp (decide (¬ s48.1 = 0)) else pp false)) (fun (s48 : Int32 × Int32) => pb (pai 5 its_) (fun v60 => pb (pal 23 v60) (fun v61 => pb (P_X7_has v61 s48.2) (fun v63 => pb (if (!(decide (¬ v63 = 0))) then pp true else pb (pai 5 its_) (fun v72 => pb (P_X7_answers its_ s19.2 s48.2 v72 (1 : Int32)) (fun v74 => pb (pai 5 its_) (fun v82 => pb (P_X7_answers its_ s19.2 s48.2 v82 (0 : Int32)) (fun v84 => pp (decide (v74 = v84))))))) (fun v86 => pp ((b2i v86), (s48.2 + 1))))))) ((b2i v45), (0 : Int32))) (fun s88 => pp (s88.1, (s19.2 + 1))))) ((1 : Int32), (0 : Int32))) (fun s89 => pz s89.1)))))
set_option maxRecDepth 100000 in
set_option maxHeartbeats 4000000 in
theorem sm_X7_agrees (mo : Nat) (its_ : Int32) : SIM mo (F_X7_agrees mo its_) (P_X7_agrees its_) := by
  unfold F_X7_agrees P_X7_agrees
  repeat' first
    | with_reducible exact sim_gi | with_reducible exact sim_si | with_reducible exact sim_ai rfl | with_reducible exact sim_al rfl | with_reducible exact sim_sai rfl | with_reducible exact sim_saz rfl | with_reducible exact sim_sal rfl
    | with_reducible exact sim_pz | with_reducible exact sim_pch | with_reducible exact sim_div | with_reducible exact sim_rem
    | with_reducible refine sim_pp ?_ | with_reducible refine sim_zb ?_ | with_reducible refine sim_zif ?_ ?_ ?_
    | with_reducible refine sim_assoc ?_ | with_reducible refine sim_pure ?_ | with_reducible refine sim_gr (by decide) ?_
    | with_reducible refine sim_pb ?_ (fun v => ?_) | with_reducible refine sim_if2 ?_ ?_ ?_ | with_reducible refine sim_xl ?_ (fun s => ?_) (fun s => ?_) | with_reducible refine sim_xo rfl rfl ?_
    | with_reducible exact sm_X7_isMeeting mo _
    | with_reducible exact sm_X7_goes mo _ _ _
    | with_reducible exact sm_X7_isHeld mo _
    | with_reducible exact sm_X7_asked mo _
    | with_reducible exact sm_X7_at mo _ _
    | with_reducible exact sm_X7_has mo _ _
    | with_reducible exact sm_X7_answers mo _ _ _ _ _
    | rfl | (simp only [b2ne, Bool.not_not]; done)
def P_X7_proposals (its_ : Int32) : PX Int32 :=
  pb (P_X7_isMeeting its_) (fun v4 => pb (P_X7_goes v4 (1 : Int32) (1 : Int32)) (fun v7 => if (decide (¬ v7 = 0)) then P_X7_opens its_ else pp (0 : Int32)))
set_option maxRecDepth 100000 in
set_option maxHeartbeats 4000000 in
theorem sm_X7_proposals (mo : Nat) (its_ : Int32) : SIM mo (F_X7_proposals mo its_) (P_X7_proposals its_) := by
  unfold F_X7_proposals P_X7_proposals
  repeat' first
    | with_reducible exact sim_gi | with_reducible exact sim_si | with_reducible exact sim_ai rfl | with_reducible exact sim_al rfl | with_reducible exact sim_sai rfl | with_reducible exact sim_saz rfl | with_reducible exact sim_sal rfl
    | with_reducible exact sim_pz | with_reducible exact sim_pch | with_reducible exact sim_div | with_reducible exact sim_rem
    | with_reducible refine sim_pp ?_ | with_reducible refine sim_zb ?_ | with_reducible refine sim_zif ?_ ?_ ?_
    | with_reducible refine sim_assoc ?_ | with_reducible refine sim_pure ?_ | with_reducible refine sim_gr (by decide) ?_
    | with_reducible refine sim_pb ?_ (fun v => ?_) | with_reducible refine sim_if2 ?_ ?_ ?_ | with_reducible refine sim_xl ?_ (fun s => ?_) (fun s => ?_) | with_reducible refine sim_xo rfl rfl ?_
    | with_reducible exact sm_X7_isMeeting mo _
    | with_reducible exact sm_X7_goes mo _ _ _
    | with_reducible exact sm_X7_opens mo _
    | rfl | (simp only [b2ne, Bool.not_not]; done)
def P_X7_proposalAt (its_ : Int32) (place_ : Int32) : PX Int32 :=
  pb (P_X7_isMeeting its_) (fun is_3 => pb (if (decide (¬ is_3 = 0)) then pb (P_X7_opens its_) (fun v7 => pb (P_X7_in place_ (0 : Int32) (v7 - (1 : Int32))) (fun v12 => pp (decide (¬ v12 = 0)))) else pp false) (fun v14 => pb (P_X7_goes (b2i v14) (1 : Int32) (1 : Int32)) (fun v19 => if (!(decide (¬ v19 = 0))) then pp (0 : Int32) else pb (pl 2000 (fun (s24 : Int32 × Int32 × Int32) => pb (pgi 29) (fun v27 => pp (decide (s24.2.2 < v27)))) (fun (s24 : Int32 × Int32 × Int32) => pb (pai 34 s24.2.2) (fun v31 => pb (if (decide (v31 = its_)) then pb (P_X7_isOpen s24.2.2) (fun v35 => pp (decide (¬ v35 = 0))) else pp false) (fun v40 => pb (if v40 then pb (if (decide (s24.2.1 = 0)) then pp s24.2.2 else pp s24.1) (fun found_39 => pp (found_39, (s24.2.1 + -1))) else pp (s24.1, s24.2.1)) (fun s41 => pp (s41.1, s41.2, (s24.2.2 + 1)))))) ((-1 : Int32), place_, (0 : Int32))) (fun s42 => pp s42.1))))
set_option maxRecDepth 100000 in
set_option maxHeartbeats 4000000 in
theorem sm_X7_proposalAt (mo : Nat) (its_ : Int32) (place_ : Int32) : SIM mo (F_X7_proposalAt mo its_ place_) (P_X7_proposalAt its_ place_) := by
  unfold F_X7_proposalAt P_X7_proposalAt
  repeat' first
    | with_reducible exact sim_gi | with_reducible exact sim_si | with_reducible exact sim_ai rfl | with_reducible exact sim_al rfl | with_reducible exact sim_sai rfl | with_reducible exact sim_saz rfl | with_reducible exact sim_sal rfl
    | with_reducible exact sim_pz | with_reducible exact sim_pch | with_reducible exact sim_div | with_reducible exact sim_rem
    | with_reducible refine sim_pp ?_ | with_reducible refine sim_zb ?_ | with_reducible refine sim_zif ?_ ?_ ?_
    | with_reducible refine sim_assoc ?_ | with_reducible refine sim_pure ?_ | with_reducible refine sim_gr (by decide) ?_
    | with_reducible refine sim_pb ?_ (fun v => ?_) | with_reducible refine sim_if2 ?_ ?_ ?_ | with_reducible refine sim_xl ?_ (fun s => ?_) (fun s => ?_) | with_reducible refine sim_xo rfl rfl ?_
    | with_reducible exact sm_X7_isMeeting mo _
    | with_reducible exact sm_X7_opens mo _
    | with_reducible exact sm_X7_in mo _ _ _
    | with_reducible exact sm_X7_goes mo _ _ _
    | with_reducible exact sm_X7_isOpen mo _
    | rfl | (simp only [b2ne, Bool.not_not]; done)
def P_X7_rankFor (person_ : Int32) (its_ : Int32) (when_ : Int32) : PX Int32 :=
  pb (P_X7_ownOf person_ its_ when_) (fun own_5 => if (decide (own_5 = (1 : Int32))) then pp (2 : Int32) else if (decide (own_5 = (2 : Int32))) then pp (1 : Int32) else pp (0 : Int32))
set_option maxRecDepth 100000 in
set_option maxHeartbeats 4000000 in
theorem sm_X7_rankFor (mo : Nat) (person_ : Int32) (its_ : Int32) (when_ : Int32) : SIM mo (F_X7_rankFor mo person_ its_ when_) (P_X7_rankFor person_ its_ when_) := by
  unfold F_X7_rankFor P_X7_rankFor
  repeat' first
    | with_reducible exact sim_gi | with_reducible exact sim_si | with_reducible exact sim_ai rfl | with_reducible exact sim_al rfl | with_reducible exact sim_sai rfl | with_reducible exact sim_saz rfl | with_reducible exact sim_sal rfl
    | with_reducible exact sim_pz | with_reducible exact sim_pch | with_reducible exact sim_div | with_reducible exact sim_rem
    | with_reducible refine sim_pp ?_ | with_reducible refine sim_zb ?_ | with_reducible refine sim_zif ?_ ?_ ?_
    | with_reducible refine sim_assoc ?_ | with_reducible refine sim_pure ?_ | with_reducible refine sim_gr (by decide) ?_
    | with_reducible refine sim_pb ?_ (fun v => ?_) | with_reducible refine sim_if2 ?_ ?_ ?_ | with_reducible refine sim_xl ?_ (fun s => ?_) (fun s => ?_) | with_reducible refine sim_xo rfl rfl ?_
    | with_reducible exact sm_X7_ownOf mo _ _ _
    | rfl | (simp only [b2ne, Bool.not_not]; done)
def P_X7_rankOf (person_ : Int32) (when_ : Int32) : PX Int32 :=
  pb (pl 2000 (fun (s3 : Int32 × Int32) => pb (pgi 3) (fun v6 => pp (decide (s3.2 < v6)))) (fun (s3 : Int32 × Int32) => pb (P_X7_datesOf person_ s3.2) (fun set_10 => pb (pl 2000 (fun (s12 : Int32 × Int32) => pp (decide (s12.2 < (60 : Int32)))) (fun (s12 : Int32 × Int32) => pb (P_X7_has set_10 s12.2) (fun v17 => pb (if (decide (¬ v17 = 0)) then pb (P_X7_versionOf person_ s3.2) (fun by_21 => pb (P_X7_beginOf by_21 s12.2) (fun from_25 => pb (pai 13 by_21) (fun v30 => pb (P_X7_in when_ from_25 ((from_25 + v30) - (1 : Int32))) (fun v36 => pb (if (decide (¬ v36 = 0)) then P_X7_rankFor person_ s3.2 s12.2 else pp (0 : Int32)) (fun rank_42 => pb (if (decide (s12.1 < rank_42)) then pp rank_42 else pp s12.1) (fun most_46 => pp most_46)))))) else pp s12.1) (fun s48 => pp (s48, (s12.2 + 1))))) (s3.1, (0 : Int32))) (fun s49 => pp (s49.1, (s3.2 + 1))))) ((0 : Int32), (0 : Int32))) (fun s50 => pp s50.1)
set_option maxRecDepth 100000 in
set_option maxHeartbeats 4000000 in
theorem sm_X7_rankOf (mo : Nat) (person_ : Int32) (when_ : Int32) : SIM mo (F_X7_rankOf mo person_ when_) (P_X7_rankOf person_ when_) := by
  unfold F_X7_rankOf P_X7_rankOf
  repeat' first
    | with_reducible exact sim_gi | with_reducible exact sim_si | with_reducible exact sim_ai rfl | with_reducible exact sim_al rfl | with_reducible exact sim_sai rfl | with_reducible exact sim_saz rfl | with_reducible exact sim_sal rfl
    | with_reducible exact sim_pz | with_reducible exact sim_pch | with_reducible exact sim_div | with_reducible exact sim_rem
    | with_reducible refine sim_pp ?_ | with_reducible refine sim_zb ?_ | with_reducible refine sim_zif ?_ ?_ ?_
    | with_reducible refine sim_assoc ?_ | with_reducible refine sim_pure ?_ | with_reducible refine sim_gr (by decide) ?_
    | with_reducible refine sim_pb ?_ (fun v => ?_) | with_reducible refine sim_if2 ?_ ?_ ?_ | with_reducible refine sim_xl ?_ (fun s => ?_) (fun s => ?_) | with_reducible refine sim_xo rfl rfl ?_
    | with_reducible exact sm_X7_datesOf mo _ _
    | with_reducible exact sm_X7_has mo _ _
    | with_reducible exact sm_X7_versionOf mo _ _
    | with_reducible exact sm_X7_beginOf mo _ _
    | with_reducible exact sm_X7_in mo _ _ _
    | with_reducible exact sm_X7_rankFor mo _ _ _
    | rfl | (simp only [b2ne, Bool.not_not]; done)
def P_X7_rank (person_ : Int32) (when_ : Int32) : PX Int32 :=
  pb (P_X7_isPerson person_) (fun v6 => pb (P_X7_in when_ (-48 : Int32) (1600 : Int32)) (fun v7 => pb (P_X7_goes v6 v7 (1 : Int32)) (fun v9 => if (decide (¬ v9 = 0)) then P_X7_rankOf person_ when_ else pp (0 : Int32))))
set_option maxRecDepth 100000 in
set_option maxHeartbeats 4000000 in
theorem sm_X7_rank (mo : Nat) (person_ : Int32) (when_ : Int32) : SIM mo (F_X7_rank mo person_ when_) (P_X7_rank person_ when_) := by
  unfold F_X7_rank P_X7_rank
  repeat' first
    | with_reducible exact sim_gi | with_reducible exact sim_si | with_reducible exact sim_ai rfl | with_reducible exact sim_al rfl | with_reducible exact sim_sai rfl | with_reducible exact sim_saz rfl | with_reducible exact sim_sal rfl
    | with_reducible exact sim_pz | with_reducible exact sim_pch | with_reducible exact sim_div | with_reducible exact sim_rem
    | with_reducible refine sim_pp ?_ | with_reducible refine sim_zb ?_ | with_reducible refine sim_zif ?_ ?_ ?_
    | with_reducible refine sim_assoc ?_ | with_reducible refine sim_pure ?_ | with_reducible refine sim_gr (by decide) ?_
    | with_reducible refine sim_pb ?_ (fun v => ?_) | with_reducible refine sim_if2 ?_ ?_ ?_ | with_reducible refine sim_xl ?_ (fun s => ?_) (fun s => ?_) | with_reducible refine sim_xo rfl rfl ?_
    | with_reducible exact sm_X7_isPerson mo _
    | with_reducible exact sm_X7_in mo _ _ _
    | with_reducible exact sm_X7_goes mo _ _ _
    | with_reducible exact sm_X7_rankOf mo _ _
    | rfl | (simp only [b2ne, Bool.not_not]; done)
def P_X7_laysBusy (person_ : Int32) (its_ : Int32) : PX Unit :=
  pb (P_X7_datesOf person_ its_) (fun set_4 => pb (pl 2000 (fun (s6 : Int32) => pp (decide (s6 < (60 : Int32)))) (fun (s6 : Int32) => pb (P_X7_has set_4 s6) (fun v11 => pb (if (decide (¬ v11 = 0)) then pb (P_X7_rankFor person_ its_ s6) (fun v16 => pp (decide (v16 = (2 : Int32)))) else pp false) (fun v43 => pb (if v43 then pb (P_X7_versionOf person_ its_) (fun by_22 => pb (P_X7_beginOf by_22 s6) (fun v27 => pb (pl 2000 (fun (s30 : Int32) => pb (pai 13 by_22) (fun v36 => pp (decide (s30 < (((48 : Int32) + v27) + v36))))) (fun (s30 : Int32) => pb (psaz 44 s30 (1 : Int32)) (fun _ => pp (s30 + 1))) ((48 : Int32) + v27)) (fun s42 => pp ()))) else pp ()) (fun s44 => pp (s6 + 1))))) (0 : Int32)) (fun s45 => pp ()))
set_option maxRecDepth 100000 in
set_option maxHeartbeats 4000000 in
theorem sm_X7_laysBusy (mo : Nat) (person_ : Int32) (its_ : Int32) : SIM mo (F_X7_laysBusy mo person_ its_) (P_X7_laysBusy person_ its_) := by
  unfold F_X7_laysBusy P_X7_laysBusy
  repeat' first
    | with_reducible exact sim_gi | with_reducible exact sim_si | with_reducible exact sim_ai rfl | with_reducible exact sim_al rfl | with_reducible exact sim_sai rfl | with_reducible exact sim_saz rfl | with_reducible exact sim_sal rfl
    | with_reducible exact sim_pz | with_reducible exact sim_pch | with_reducible exact sim_div | with_reducible exact sim_rem
    | with_reducible refine sim_pp ?_ | with_reducible refine sim_zb ?_ | with_reducible refine sim_zif ?_ ?_ ?_
    | with_reducible refine sim_assoc ?_ | with_reducible refine sim_pure ?_ | with_reducible refine sim_gr (by decide) ?_
    | with_reducible refine sim_pb ?_ (fun v => ?_) | with_reducible refine sim_if2 ?_ ?_ ?_ | with_reducible refine sim_xl ?_ (fun s => ?_) (fun s => ?_) | with_reducible refine sim_xo rfl rfl ?_
    | with_reducible exact sm_X7_datesOf mo _ _
    | with_reducible exact sm_X7_has mo _ _
    | with_reducible exact sm_X7_rankFor mo _ _ _
    | with_reducible exact sm_X7_versionOf mo _ _
    | with_reducible exact sm_X7_beginOf mo _ _
    | rfl | (simp only [b2ne, Bool.not_not]; done)
def P_X7_firstFree (people_ : Int32) (from_ : Int32) (hours_ : Int32) : PX Int32 :=
  pb (P_X7_in people_ (1 : Int32) (31 : Int32)) (fun v4 => pb (if (decide (¬ v4 = 0)) then pb (P_X7_in from_ (-48 : Int32) (1500 : Int32)) (fun v8 => pp (decide (¬ v8 = 0))) else pp false) (fun v14 => pb (if v14 then pb (P_X7_in hours_ (1 : Int32) (48 : Int32)) (fun v13 => pp (decide (¬ v13 = 0))) else pp false) (fun v15 => pb (P_X7_goes (b2i v15) (1 : Int32) (1 : Int32)) (fun v20 => if (!(decide (¬ v20 = 0))) then pp (0 : Int32) else pb (pl 2000 (fun (s23 : Int32) => pp (decide (s23 < (1650 : Int32)))) (fun (s23 : Int32) => pb (psaz 44 s23 (0 : Int32)) (fun _ => pp (s23 + 1))) (0 : Int32)) (fun s30 => pb (pl 2000 (fun (s32 : Int32) => pp (decide (s32 < (40 : Int32)))) (fun (s32 : Int32) => pb (pdiv s32 (8 : Int32)) (fun v38 => pb (if (decide (((people_ >>> (v38 &&& 31)) &&& (1 : Int32)) = (1 : Int32))) then pb (prem s32 (8 : Int32)) (fun v45 => pb (pgi 3) (fun v47 => pp (decide (v45 < v47)))) else pp false) (fun v56 => pb (if v56 then pb (pdiv s32 (8 : Int32)) (fun v54 => pb (prem s32 (8 : Int32)) (fun v55 => pb (P_X7_laysBusy v54 v55) (fun _ => pp ()))) else pp ()) (fun s57 => pp (s32 + 1))))) (0 : Int32)) (fun s58 => pb (pl 2000 (fun (s64 : Int32 × Int32 × Int32) => pp (decide (s64.1 < hours_))) (fun (s64 : Int32 × Int32 × Int32) => pb (pai 44 s64.2.2) (fun v70 => pb (if (decide (¬ v70 = 0)) then pp (0 : Int32) else pp (s64.1 + (1 : Int32))) (fun run_74 => pb (pai 44 s64.2.2) (fun v78 => pb (if (decide (¬ v78 = 0)) then pp ((s64.2.2 + (1 : Int32)) - (48 : Int32)) else pp s64.2.1) (fun begins_84 => pp (run_74, begins_84, (s64.2.2 + 1))))))) ((0 : Int32), from_, (from_ + (48 : Int32)))) (fun s85 => pp s85.2.1)))))))
set_option maxRecDepth 100000 in
set_option maxHeartbeats 4000000 in
theorem sm_X7_firstFree (mo : Nat) (people_ : Int32) (from_ : Int32) (hours_ : Int32) : SIM mo (F_X7_firstFree mo people_ from_ hours_) (P_X7_firstFree people_ from_ hours_) := by
  unfold F_X7_firstFree P_X7_firstFree
  repeat' first
    | with_reducible exact sim_gi | with_reducible exact sim_si | with_reducible exact sim_ai rfl | with_reducible exact sim_al rfl | with_reducible exact sim_sai rfl | with_reducible exact sim_saz rfl | with_reducible exact sim_sal rfl
    | with_reducible exact sim_pz | with_reducible exact sim_pch | with_reducible exact sim_div | with_reducible exact sim_rem
    | with_reducible refine sim_pp ?_ | with_reducible refine sim_zb ?_ | with_reducible refine sim_zif ?_ ?_ ?_
    | with_reducible refine sim_assoc ?_ | with_reducible refine sim_pure ?_ | with_reducible refine sim_gr (by decide) ?_
    | with_reducible refine sim_pb ?_ (fun v => ?_) | with_reducible refine sim_if2 ?_ ?_ ?_ | with_reducible refine sim_xl ?_ (fun s => ?_) (fun s => ?_) | with_reducible refine sim_xo rfl rfl ?_
    | with_reducible exact sm_X7_in mo _ _ _
    | with_reducible exact sm_X7_goes mo _ _ _
    | with_reducible exact sm_X7_laysBusy mo _ _
    | rfl | (simp only [b2ne, Bool.not_not]; done)
def P_X7_firstFreeByHours (people_ : Int32) (from_ : Int32) (hours_ : Int32) : PX Int32 :=
  P_X7_firstFree people_ from_ hours_
set_option maxRecDepth 100000 in
set_option maxHeartbeats 4000000 in
theorem sm_X7_firstFreeByHours (mo : Nat) (people_ : Int32) (from_ : Int32) (hours_ : Int32) : SIM mo (F_X7_firstFreeByHours mo people_ from_ hours_) (P_X7_firstFreeByHours people_ from_ hours_) := by
  unfold F_X7_firstFreeByHours P_X7_firstFreeByHours
  repeat' first
    | with_reducible exact sim_gi | with_reducible exact sim_si | with_reducible exact sim_ai rfl | with_reducible exact sim_al rfl | with_reducible exact sim_sai rfl | with_reducible exact sim_saz rfl | with_reducible exact sim_sal rfl
    | with_reducible exact sim_pz | with_reducible exact sim_pch | with_reducible exact sim_div | with_reducible exact sim_rem
    | with_reducible refine sim_pp ?_ | with_reducible refine sim_zb ?_ | with_reducible refine sim_zif ?_ ?_ ?_
    | with_reducible refine sim_assoc ?_ | with_reducible refine sim_pure ?_ | with_reducible refine sim_gr (by decide) ?_
    | with_reducible refine sim_pb ?_ (fun v => ?_) | with_reducible refine sim_if2 ?_ ?_ ?_ | with_reducible refine sim_xl ?_ (fun s => ?_) (fun s => ?_) | with_reducible refine sim_xo rfl rfl ?_
    | with_reducible exact sm_X7_firstFree mo _ _ _
    | rfl | (simp only [b2ne, Bool.not_not]; done)
def P_X7_mark (person_ : Int32) : PX Int32 :=
  pb (P_X7_isPerson person_) (fun v3 => pb (P_X7_goes v3 (1 : Int32) (1 : Int32)) (fun v6 => if (decide (¬ v6 = 0)) then pai 27 person_ else pp (0 : Int32)))
set_option maxRecDepth 100000 in
set_option maxHeartbeats 4000000 in
theorem sm_X7_mark (mo : Nat) (person_ : Int32) : SIM mo (F_X7_mark mo person_) (P_X7_mark person_) := by
  unfold F_X7_mark P_X7_mark
  repeat' first
    | with_reducible exact sim_gi | with_reducible exact sim_si | with_reducible exact sim_ai rfl | with_reducible exact sim_al rfl | with_reducible exact sim_sai rfl | with_reducible exact sim_saz rfl | with_reducible exact sim_sal rfl
    | with_reducible exact sim_pz | with_reducible exact sim_pch | with_reducible exact sim_div | with_reducible exact sim_rem
    | with_reducible refine sim_pp ?_ | with_reducible refine sim_zb ?_ | with_reducible refine sim_zif ?_ ?_ ?_
    | with_reducible refine sim_assoc ?_ | with_reducible refine sim_pure ?_ | with_reducible refine sim_gr (by decide) ?_
    | with_reducible refine sim_pb ?_ (fun v => ?_) | with_reducible refine sim_if2 ?_ ?_ ?_ | with_reducible refine sim_xl ?_ (fun s => ?_) (fun s => ?_) | with_reducible refine sim_xo rfl rfl ?_
    | with_reducible exact sm_X7_isPerson mo _
    | with_reducible exact sm_X7_goes mo _ _ _
    | rfl | (simp only [b2ne, Bool.not_not]; done)
def P_X7_changed (person_ : Int32) (above_ : Int32) : PX Int32 :=
  pb (pl 2000 (fun (s3 : Int32 × Int32) => pb (pgi 3) (fun v6 => pp (decide (s3.2 < v6)))) (fun (s3 : Int32 × Int32) => pb (P_X7_at person_ s3.2) (fun v11 => pb (pai 26 v11) (fun v12 => pb (if (decide (above_ < v12)) then pp (1 : Int32) else pp (0 : Int32)) (fun v16 => pp ((s3.1 + v16), (s3.2 + 1)))))) ((0 : Int32), (0 : Int32))) (fun s18 => pp s18.1)
set_option maxRecDepth 100000 in
set_option maxHeartbeats 4000000 in
theorem sm_X7_changed (mo : Nat) (person_ : Int32) (above_ : Int32) : SIM mo (F_X7_changed mo person_ above_) (P_X7_changed person_ above_) := by
  unfold F_X7_changed P_X7_changed
  repeat' first
    | with_reducible exact sim_gi | with_reducible exact sim_si | with_reducible exact sim_ai rfl | with_reducible exact sim_al rfl | with_reducible exact sim_sai rfl | with_reducible exact sim_saz rfl | with_reducible exact sim_sal rfl
    | with_reducible exact sim_pz | with_reducible exact sim_pch | with_reducible exact sim_div | with_reducible exact sim_rem
    | with_reducible refine sim_pp ?_ | with_reducible refine sim_zb ?_ | with_reducible refine sim_zif ?_ ?_ ?_
    | with_reducible refine sim_assoc ?_ | with_reducible refine sim_pure ?_ | with_reducible refine sim_gr (by decide) ?_
    | with_reducible refine sim_pb ?_ (fun v => ?_) | with_reducible refine sim_if2 ?_ ?_ ?_ | with_reducible refine sim_xl ?_ (fun s => ?_) (fun s => ?_) | with_reducible refine sim_xo rfl rfl ?_
    | with_reducible exact sm_X7_at mo _ _
    | rfl | (simp only [b2ne, Bool.not_not]; done)
def P_X7_asksMark (person_ : Int32) (above_ : Int32) : PX Int32 :=
  pb (P_X7_isPerson person_) (fun is_2 => pb (if (decide (¬ is_2 = 0)) then pb (pai 27 person_) (fun v9 => pb (P_X7_in above_ (0 : Int32) v9) (fun v10 => pp (decide (¬ v10 = 0)))) else pp false) (fun v12 => pb (if v12 then pb (pai 28 person_) (fun v19 => pp (decide (v19 ≤ above_))) else pp false) (fun v21 => pb (P_X7_goes is_2 (b2i v12) (b2i v21)) pz)))
set_option maxRecDepth 100000 in
set_option maxHeartbeats 4000000 in
theorem sm_X7_asksMark (mo : Nat) (person_ : Int32) (above_ : Int32) : SIM mo (F_X7_asksMark mo person_ above_) (P_X7_asksMark person_ above_) := by
  unfold F_X7_asksMark P_X7_asksMark
  repeat' first
    | with_reducible exact sim_gi | with_reducible exact sim_si | with_reducible exact sim_ai rfl | with_reducible exact sim_al rfl | with_reducible exact sim_sai rfl | with_reducible exact sim_saz rfl | with_reducible exact sim_sal rfl
    | with_reducible exact sim_pz | with_reducible exact sim_pch | with_reducible exact sim_div | with_reducible exact sim_rem
    | with_reducible refine sim_pp ?_ | with_reducible refine sim_zb ?_ | with_reducible refine sim_zif ?_ ?_ ?_
    | with_reducible refine sim_assoc ?_ | with_reducible refine sim_pure ?_ | with_reducible refine sim_gr (by decide) ?_
    | with_reducible refine sim_pb ?_ (fun v => ?_) | with_reducible refine sim_if2 ?_ ?_ ?_ | with_reducible refine sim_xl ?_ (fun s => ?_) (fun s => ?_) | with_reducible refine sim_xo rfl rfl ?_
    | with_reducible exact sm_X7_isPerson mo _
    | with_reducible exact sm_X7_in mo _ _ _
    | with_reducible exact sm_X7_goes mo _ _ _
    | rfl | (simp only [b2ne, Bool.not_not]; done)
def P_X7_changes (person_ : Int32) (above_ : Int32) : PX Int32 :=
  pb (P_X7_asksMark person_ above_) (fun v4 => if (decide (¬ v4 = 0)) then P_X7_changed person_ above_ else pp (0 : Int32))
set_option maxRecDepth 100000 in
set_option maxHeartbeats 4000000 in
theorem sm_X7_changes (mo : Nat) (person_ : Int32) (above_ : Int32) : SIM mo (F_X7_changes mo person_ above_) (P_X7_changes person_ above_) := by
  unfold F_X7_changes P_X7_changes
  repeat' first
    | with_reducible exact sim_gi | with_reducible exact sim_si | with_reducible exact sim_ai rfl | with_reducible exact sim_al rfl | with_reducible exact sim_sai rfl | with_reducible exact sim_saz rfl | with_reducible exact sim_sal rfl
    | with_reducible exact sim_pz | with_reducible exact sim_pch | with_reducible exact sim_div | with_reducible exact sim_rem
    | with_reducible refine sim_pp ?_ | with_reducible refine sim_zb ?_ | with_reducible refine sim_zif ?_ ?_ ?_
    | with_reducible refine sim_assoc ?_ | with_reducible refine sim_pure ?_ | with_reducible refine sim_gr (by decide) ?_
    | with_reducible refine sim_pb ?_ (fun v => ?_) | with_reducible refine sim_if2 ?_ ?_ ?_ | with_reducible refine sim_xl ?_ (fun s => ?_) (fun s => ?_) | with_reducible refine sim_xo rfl rfl ?_
    | with_reducible exact sm_X7_asksMark mo _ _
    | with_reducible exact sm_X7_changed mo _ _
    | rfl | (simp only [b2ne, Bool.not_not]; done)
def P_X7_changeAt (person_ : Int32) (above_ : Int32) (place_ : Int32) : PX Int32 :=
  pb (P_X7_asksMark person_ above_) (fun v4 => pb (if (!(decide (¬ v4 = 0))) then pp true else pb (P_X7_changed person_ above_) (fun v9 => pb (P_X7_in place_ (0 : Int32) (v9 - (1 : Int32))) (fun v15 => pb (P_X7_goes v15 (1 : Int32) (1 : Int32)) (fun v18 => pp (!(decide (¬ v18 = 0))))))) (fun v71 => if v71 then pp (0 : Int32) else pb (pl 2000 (fun (s23 : Int32 × Int32) => pb (pgi 3) (fun v26 => pp (decide (s23.2 < v26)))) (fun (s23 : Int32 × Int32) => pb (pl 2000 (fun (s29 : Int32 × Int32) => pb (pgi 3) (fun v32 => pp (decide (s29.2 < v32)))) (fun (s29 : Int32 × Int32) => pb (P_X7_at person_ s29.2) (fun v37 => pb (pai 26 v37) (fun v38 => pb (if (decide (above_ < v38)) then pb (P_X7_at person_ s29.2) (fun v44 => pb (pai 26 v44) (fun v45 => pb (P_X7_at person_ s23.2) (fun v50 => pb (pai 26 v50) (fun v51 => pp (decide (v45 < v51)))))) else pp false) (fun v53 => pb (if v53 then pp (1 : Int32) else pp (0 : Int32)) (fun v55 => pp ((s29.1 + v55), (s29.2 + 1))))))) ((0 : Int32), (0 : Int32))) (fun s57 => pb (P_X7_at person_ s23.2) (fun v62 => pb (pai 26 v62) (fun v63 => pb (if (decide (above_ < v63)) then pp (decide (s57.1 = place_)) else pp false) (fun v68 => pb (if v68 then pp s23.2 else pp s23.1) (fun found_69 => pp (found_69, (s23.2 + 1)))))))) ((-1 : Int32), (0 : Int32))) (fun s70 => pp s70.1)))
set_option maxRecDepth 100000 in
set_option maxHeartbeats 4000000 in
theorem sm_X7_changeAt (mo : Nat) (person_ : Int32) (above_ : Int32) (place_ : Int32) : SIM mo (F_X7_changeAt mo person_ above_ place_) (P_X7_changeAt person_ above_ place_) := by
  unfold F_X7_changeAt P_X7_changeAt
  repeat' first
    | with_reducible exact sim_gi | with_reducible exact sim_si | with_reducible exact sim_ai rfl | with_reducible exact sim_al rfl | with_reducible exact sim_sai rfl | with_reducible exact sim_saz rfl | with_reducible exact sim_sal rfl
    | with_reducible exact sim_pz | with_reducible exact sim_pch | with_reducible exact sim_div | with_reducible exact sim_rem
    | with_reducible refine sim_pp ?_ | with_reducible refine sim_zb ?_ | with_reducible refine sim_zif ?_ ?_ ?_
    | with_reducible refine sim_assoc ?_ | with_reducible refine sim_pure ?_ | with_reducible refine sim_gr (by decide) ?_
    | with_reducible refine sim_pb ?_ (fun v => ?_) | with_reducible refine sim_if2 ?_ ?_ ?_ | with_reducible refine sim_xl ?_ (fun s => ?_) (fun s => ?_) | with_reducible refine sim_xo rfl rfl ?_
    | with_reducible exact sm_X7_asksMark mo _ _
    | with_reducible exact sm_X7_changed mo _ _
    | with_reducible exact sm_X7_in mo _ _ _
    | with_reducible exact sm_X7_goes mo _ _ _
    | with_reducible exact sm_X7_at mo _ _
    | rfl | (simp only [b2ne, Bool.not_not]; done)
