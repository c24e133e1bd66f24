def fX0_note_L31 (g : zG) : Nat → Nat → zG → zG
  | 0, k2, x1 => x1
  | nk2 + 1, k2, x1 => (if ((g 7) k2) ≤ 0 then (fX0_note_L31 g nk2 (k2 + 1) x1) else (if 720 ≤ (x1 6 0) then (fX0_note_L31 g nk2 (k2 + 1) x1) else (fX0_note_L31 g nk2 (k2 + 1) (va_up (va_up (va_up (va_up x1 3 (upd (x1 3) ((x1 6 0).toNatClampNeg) (g 10 0))) 4 (upd (x1 4) ((x1 6 0).toNatClampNeg) (nI k2))) 5 (upd (x1 5) ((x1 6 0).toNatClampNeg) ((g 7) k2))) 6 (upd (x1 6) 0 ((x1 6 0) + 1))))))
def fX0_note (gA : zG) (g : zG) : zG := (fX0_note_L31 g 12 0 (va_up (va_up gA 1 (upd (gA 1) ((g 10 0).toNatClampNeg) (g 10 5))) 2 (upd (gA 2) ((g 10 0).toNatClampNeg) (fX1_allIce (g 8) (g 9)))))
def fX2_keep (g : zG) (ya : Int32) (va : Int32) : zG := (if 10 ≤ (g 2 0) then g else (va_up (va_up (va_up g 0 (upd (g 0) ((g 2 0).toNatClampNeg) ya)) 1 (upd (g 1) ((g 2 0).toNatClampNeg) va)) 2 (upd (g 2) 0 ((g 2 0) + 1))))
def fX5_land (gP : zG) (gT : zG) (gA : zG) (gF : zG) (k : Nat) (ba : Int32) : Int32 × zG := (((gP 0) k), (va_up (va_up gP 0 (upd (gP 0) k ba)) 1 (upd (gP 1) k ba)))
def fX5_sea (gP : zG) (gT : zG) (gA : zG) (gF : zG) (va : Int32) : Int32 × zG := ((gP 10 1), (va_up gP 10 (upd (gP 10) 1 va)))
def fX5_climate (gP : zG) (gT : zG) (gA : zG) (gF : zG) (va : Int32) (vb : Int32) (vc : Int32) : zG := (va_up (va_up (va_up gP 10 (upd (gP 10) 2 va)) 10 (upd (upd (gP 10) 2 va) 3 vb)) 10 (upd (upd (upd (gP 10) 2 va) 3 vb) 4 vc))
def fX5_ice (gP : zG) (gT : zG) (gA : zG) (gF : zG) (k : Nat) (va : Int32) : Int32 × zG := (jn (fX1_lay (gP 8) (gP 9) k ((gP 10 0).toNatClampNeg) va) (fun u2 => ((u2.1 k), (va_up (va_up (va_up gP 8 u2.1) 9 u2.2) 11 (upd (gP 11) 1 ((gP 11 1) + va))))))
def fX5_ash (gP : zG) (gT : zG) (gA : zG) (gF : zG) : Int32 × zG := (((gA 0) ((gP 10 0).toNatClampNeg)), (va_up gA 0 (upd (gA 0) ((gP 10 0).toNatClampNeg) (vp_nar .boolean 1))))
def fX5_pass_L14 : Nat → Nat → zG → zG → Int32 × zG × zG
  | 0, k3, x1, x2 => ((x1 10 0), x1, x2)
  | nk3 + 1, k3, x1, x2 => (jn (fX3_goThroughYear x1) (fun u6 => (jn (fX0_note x2 u6) (fun u7 => (fX5_pass_L14 nk3 (k3 + 1) u6 u7)))))
def fX5_pass (gP : zG) (gT : zG) (gA : zG) (gF : zG) (pa : Nat) : Int32 × zG × zG := (fX5_pass_L14 pa 0 gP gA)
def fX5_cellIs (gP : zG) (gT : zG) (gA : zG) (gF : zG) (k : Nat) (w : Nat) : Int32 := (fX3_tellOf gP k w)
def fX5_layer (gP : zG) (gT : zG) (gA : zG) (gF : zG) (k : Nat) (y : Nat) : Int32 := (fX1_unitsOf (gP 8) (gP 9) k y)
def fX5_yearAt (gP : zG) (gT : zG) (gA : zG) (gF : zG) (k : Nat) (da : Int32) : Int32 := (fX1_yearBelow (gP 8) (gP 9) k da)
def fX5_common_L13 (gP : zG) (gA : zG) (k : Nat) (j : Nat) : Nat → Nat → Int32 → Int32
  | 0, k2, x1 => x1
  | nk2 + 1, k2, x1 => (if ((gA 0) k2) = 0 then (fX5_common_L13 gP gA k j nk2 (k2 + 1) x1) else (if (fX1_unitsOf (gP 8) (gP 9) k k2) ≤ 0 then (fX5_common_L13 gP gA k j nk2 (k2 + 1) x1) else (if (fX1_unitsOf (gP 8) (gP 9) j k2) ≤ 0 then (fX5_common_L13 gP gA k j nk2 (k2 + 1) x1) else (fX5_common_L13 gP gA k j nk2 (k2 + 1) (x1 + 1)))))
def fX5_common (gP : zG) (gT : zG) (gA : zG) (gF : zG) (k : Nat) (j : Nat) : Int32 := (fX5_common_L13 gP gA k j 61 0 0)
def fX5_floods (gP : zG) (gT : zG) (gA : zG) (gF : zG) : Int32 := (gA 6 0)
def fX5_flood (gP : zG) (gT : zG) (gA : zG) (gF : zG) (fa : Nat) (w : Nat) : Int32 := (if w = 0 then ((gA 3) fa) else (if w = 1 then ((gA 4) fa) else ((gA 5) fa)))
def fX5_front (gP : zG) (gT : zG) (gA : zG) (gF : zG) (ya : Nat) : Int32 := ((gA 1) ya)
def fX5_total (gP : zG) (gT : zG) (gA : zG) (gF : zG) (w : Nat) : Int32 := (if w = 0 then (fX1_allIce (gP 8) (gP 9)) else (if w = 1 then (fX3_allWater gP) else (if w = 2 then (gP 11 3) else (if w = 3 then (gP 11 4) else (if w = 4 then (gP 11 0) else (gP 11 1))))))
def fX5_iceAnew (gP : zG) (gT : zG) (gA : zG) (gF : zG) : Int32 := ((((gP 11 0) + (gP 11 1)) - (gP 11 2)) - (gP 11 4))
def fX5_tryOut_L13 : Nat → Nat → zG → zG
  | 0, k3, x2 => x2
  | nk3 + 1, k3, x2 => (jn (fX3_goThroughYear x2) (fun u6 => (fX5_tryOut_L13 nk3 (k3 + 1) u6)))
def fX5_tryOut (gP : zG) (gT : zG) (gA : zG) (gF : zG) (pa : Nat) : zG := (jn (fX3_becomeLike gT gP) (fun u1 => (fX5_tryOut_L13 pa 0 u1)))
def fX5_would (gP : zG) (gT : zG) (gA : zG) (gF : zG) (pa : Nat) (k : Nat) (w : Nat) : Int32 × zG := (jn (fX5_tryOut gP gT gA gF pa) (fun u1 => ((fX3_tellOf u1 k w), u1)))
def fX5_forecast (gP : zG) (gT : zG) (gA : zG) (gF : zG) (pa : Nat) : Int32 × zG × zG := (jn (fX5_tryOut gP gT gA gF pa) (fun u2 => (jn (fX1_allIce (u2 8) (u2 9)) (fun (v3 : Int32) => (jn (fX2_keep gF (u2 10 0) v3) (fun u4 => (v3, u2, u4)))))))
def fX5_miss (gP : zG) (gT : zG) (gA : zG) (gF : zG) (fa : Nat) : Int32 := (if ((gF 0) fa) ≤ (gP 10 0) then (if 0 ≤ (((gF 1) fa) - ((gA 2) ((gF 0 fa).toNatClampNeg))) then (((gF 1) fa) - ((gA 2) ((gF 0 fa).toNatClampNeg))) else 0 - (((gF 1) fa) - ((gA 2) ((gF 0 fa).toNatClampNeg)))) else (-1))
