/-! the long methods are as the tables say -/
def qBig : List Nat := [1, 43, 60, 101, 129, 139, 147, 150, 157, 161, 163, 167, 174, 206, 212, 216, 223]
set_option maxRecDepth 100000 in
theorem qw_1 : lw_tbl[qPC 1]? = some (Cond.code (qY 1) (qB 1) (qML 1) (qRT 1)) := rfl
theorem qM_1 : qMoB 1 = true := by
  have h1 : qWat (qPC 1) (.code (qY 1) (qB 1) (qML 1) (qRT 1)) = true := by
    show (decide _ && goodWord _) = true
    rw [decide_eq_true qw_1]
    rfl
  unfold qMoB
  rw [h1, Bool.true_and]
  decide +kernel
set_option maxRecDepth 100000 in
theorem qw_43 : lw_tbl[qPC 43]? = some (Cond.code (qY 43) (qB 43) (qML 43) (qRT 43)) := rfl
theorem qM_43 : qMoB 43 = true := by
  have h1 : qWat (qPC 43) (.code (qY 43) (qB 43) (qML 43) (qRT 43)) = true := by
    show (decide _ && goodWord _) = true
    rw [decide_eq_true qw_43]
    rfl
  unfold qMoB
  rw [h1, Bool.true_and]
  decide +kernel
set_option maxRecDepth 100000 in
theorem qw_60 : lw_tbl[qPC 60]? = some (Cond.code (qY 60) (qB 60) (qML 60) (qRT 60)) := rfl
theorem qM_60 : qMoB 60 = true := by
  have h1 : qWat (qPC 60) (.code (qY 60) (qB 60) (qML 60) (qRT 60)) = true := by
    show (decide _ && goodWord _) = true
    rw [decide_eq_true qw_60]
    rfl
  unfold qMoB
  rw [h1, Bool.true_and]
  decide +kernel
set_option maxRecDepth 100000 in
theorem qw_101 : lw_tbl[qPC 101]? = some (Cond.code (qY 101) (qB 101) (qML 101) (qRT 101)) := rfl
theorem qM_101 : qMoB 101 = true := by
  have h1 : qWat (qPC 101) (.code (qY 101) (qB 101) (qML 101) (qRT 101)) = true := by
    show (decide _ && goodWord _) = true
    rw [decide_eq_true qw_101]
    rfl
  unfold qMoB
  rw [h1, Bool.true_and]
  decide +kernel
set_option maxRecDepth 100000 in
theorem qw_129 : lw_tbl[qPC 129]? = some (Cond.code (qY 129) (qB 129) (qML 129) (qRT 129)) := rfl
theorem qM_129 : qMoB 129 = true := by
  have h1 : qWat (qPC 129) (.code (qY 129) (qB 129) (qML 129) (qRT 129)) = true := by
    show (decide _ && goodWord _) = true
    rw [decide_eq_true qw_129]
    rfl
  unfold qMoB
  rw [h1, Bool.true_and]
  decide +kernel
set_option maxRecDepth 100000 in
theorem qw_139 : lw_tbl[qPC 139]? = some (Cond.code (qY 139) (qB 139) (qML 139) (qRT 139)) := rfl
theorem qM_139 : qMoB 139 = true := by
  have h1 : qWat (qPC 139) (.code (qY 139) (qB 139) (qML 139) (qRT 139)) = true := by
    show (decide _ && goodWord _) = true
    rw [decide_eq_true qw_139]
    rfl
  unfold qMoB
  rw [h1, Bool.true_and]
  decide +kernel
set_option maxRecDepth 100000 in
theorem qw_147 : lw_tbl[qPC 147]? = some (Cond.code (qY 147) (qB 147) (qML 147) (qRT 147)) := rfl
theorem qM_147 : qMoB 147 = true := by
  have h1 : qWat (qPC 147) (.code (qY 147) (qB 147) (qML 147) (qRT 147)) = true := by
    show (decide _ && goodWord _) = true
    rw [decide_eq_true qw_147]
    rfl
  unfold qMoB
  rw [h1, Bool.true_and]
  decide +kernel
set_option maxRecDepth 100000 in
theorem qw_150 : lw_tbl[qPC 150]? = some (Cond.code (qY 150) (qB 150) (qML 150) (qRT 150)) := rfl
theorem qM_150 : qMoB 150 = true := by
  have h1 : qWat (qPC 150) (.code (qY 150) (qB 150) (qML 150) (qRT 150)) = true := by
    show (decide _ && goodWord _) = true
    rw [decide_eq_true qw_150]
    rfl
  unfold qMoB
  rw [h1, Bool.true_and]
  decide +kernel
set_option maxRecDepth 100000 in
theorem qw_157 : lw_tbl[qPC 157]? = some (Cond.code (qY 157) (qB 157) (qML 157) (qRT 157)) := rfl
theorem qM_157 : qMoB 157 = true := by
  have h1 : qWat (qPC 157) (.code (qY 157) (qB 157) (qML 157) (qRT 157)) = true := by
    show (decide _ && goodWord _) = true
    rw [decide_eq_true qw_157]
    rfl
  unfold qMoB
  rw [h1, Bool.true_and]
  decide +kernel
set_option maxRecDepth 100000 in
theorem qw_161 : lw_tbl[qPC 161]? = some (Cond.code (qY 161) (qB 161) (qML 161) (qRT 161)) := rfl
theorem qM_161 : qMoB 161 = true := by
  have h1 : qWat (qPC 161) (.code (qY 161) (qB 161) (qML 161) (qRT 161)) = true := by
    show (decide _ && goodWord _) = true
    rw [decide_eq_true qw_161]
    rfl
  unfold qMoB
  rw [h1, Bool.true_and]
  decide +kernel
set_option maxRecDepth 100000 in
theorem qw_163 : lw_tbl[qPC 163]? = some (Cond.code (qY 163) (qB 163) (qML 163) (qRT 163)) := rfl
theorem qM_163 : qMoB 163 = true := by
  have h1 : qWat (qPC 163) (.code (qY 163) (qB 163) (qML 163) (qRT 163)) = true := by
    show (decide _ && goodWord _) = true
    rw [decide_eq_true qw_163]
    rfl
  unfold qMoB
  rw [h1, Bool.true_and]
  decide +kernel
set_option maxRecDepth 100000 in
theorem qw_167 : lw_tbl[qPC 167]? = some (Cond.code (qY 167) (qB 167) (qML 167) (qRT 167)) := rfl
theorem qM_167 : qMoB 167 = true := by
  have h1 : qWat (qPC 167) (.code (qY 167) (qB 167) (qML 167) (qRT 167)) = true := by
    show (decide _ && goodWord _) = true
    rw [decide_eq_true qw_167]
    rfl
  unfold qMoB
  rw [h1, Bool.true_and]
  decide +kernel
set_option maxRecDepth 100000 in
theorem qw_174 : lw_tbl[qPC 174]? = some (Cond.code (qY 174) (qB 174) (qML 174) (qRT 174)) := rfl
theorem qM_174 : qMoB 174 = true := by
  have h1 : qWat (qPC 174) (.code (qY 174) (qB 174) (qML 174) (qRT 174)) = true := by
    show (decide _ && goodWord _) = true
    rw [decide_eq_true qw_174]
    rfl
  unfold qMoB
  rw [h1, Bool.true_and]
  decide +kernel
set_option maxRecDepth 100000 in
theorem qw_206 : lw_tbl[qPC 206]? = some (Cond.code (qY 206) (qB 206) (qML 206) (qRT 206)) := rfl
theorem qM_206 : qMoB 206 = true := by
  have h1 : qWat (qPC 206) (.code (qY 206) (qB 206) (qML 206) (qRT 206)) = true := by
    show (decide _ && goodWord _) = true
    rw [decide_eq_true qw_206]
    rfl
  unfold qMoB
  rw [h1, Bool.true_and]
  decide +kernel
set_option maxRecDepth 100000 in
theorem qw_212 : lw_tbl[qPC 212]? = some (Cond.code (qY 212) (qB 212) (qML 212) (qRT 212)) := rfl
theorem qM_212 : qMoB 212 = true := by
  have h1 : qWat (qPC 212) (.code (qY 212) (qB 212) (qML 212) (qRT 212)) = true := by
    show (decide _ && goodWord _) = true
    rw [decide_eq_true qw_212]
    rfl
  unfold qMoB
  rw [h1, Bool.true_and]
  decide +kernel
set_option maxRecDepth 100000 in
theorem qw_216 : lw_tbl[qPC 216]? = some (Cond.code (qY 216) (qB 216) (qML 216) (qRT 216)) := rfl
theorem qM_216 : qMoB 216 = true := by
  have h1 : qWat (qPC 216) (.code (qY 216) (qB 216) (qML 216) (qRT 216)) = true := by
    show (decide _ && goodWord _) = true
    rw [decide_eq_true qw_216]
    rfl
  unfold qMoB
  rw [h1, Bool.true_and]
  decide +kernel
set_option maxRecDepth 100000 in
theorem qw_223 : lw_tbl[qPC 223]? = some (Cond.code (qY 223) (qB 223) (qML 223) (qRT 223)) := rfl
theorem qM_223 : qMoB 223 = true := by
  have h1 : qWat (qPC 223) (.code (qY 223) (qB 223) (qML 223) (qRT 223)) = true := by
    show (decide _ && goodWord _) = true
    rw [decide_eq_true qw_223]
    rfl
  unfold qMoB
  rw [h1, Bool.true_and]
  decide +kernel
