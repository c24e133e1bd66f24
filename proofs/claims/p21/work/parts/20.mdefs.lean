def fX6_thrown (g : zG) : Int32 := (g 10 0)
def fX6_asked (g : zG) (pa : Int32) : Int32 × zG := (jn (if pa = 0 then 1 else 0) (fun (v1 : Int32) => (pa, (va_up g 10 (upd (g 10) 0 v1)))))
def fX6_asked_ (g : zG) (pa : Int32) (qa : Int32) : Int32 × zG := (jn (if pa = 0 then 1 else (if qa = 0 then 2 else 0)) (fun (v1 : Int32) => (if v1 = 0 then (1, (va_up g 10 (upd (g 10) 0 v1))) else (0, (va_up g 10 (upd (g 10) 0 v1))))))
def fX6_asked__ (g : zG) (pa : Int32) (qa : Int32) (ra : Int32) : Int32 × zG := (jn (if pa = 0 then 1 else (if qa = 0 then 2 else (if ra = 0 then 3 else 0))) (fun (v1 : Int32) => (if v1 = 0 then (1, (va_up g 10 (upd (g 10) 0 v1))) else (0, (va_up g 10 (upd (g 10) 0 v1))))))
def fX6_in (v : Int32) (lo : Int32) (hi : Int32) : Int32 := (if v < lo then 0 else (if hi < v then 0 else 1))
def fX6_isCell (v : Int32) : Int32 := (fX6_in v 0 11)
def fX6_iceOf_L4 (g : zG) (k : Nat) : Nat → Nat → Int32 → Int32
  | 0, k2, x1 => x1
  | nk2 + 1, k2, x1 => (fX6_iceOf_L4 g k nk2 (k2 + 1) (x1 + ((g 0) ((100 + (61 * k)) + k2))))
def fX6_iceOf (g : zG) (k : Nat) : Int32 := (fX6_iceOf_L4 g k 61 0 0)
def fX6_allIce_L4 (g : zG) : Nat → Nat → Int32 → Int32
  | 0, k2, x1 => x1
  | nk2 + 1, k2, x1 => (fX6_allIce_L4 g nk2 (k2 + 1) (x1 + (fX6_iceOf g k2)))
def fX6_allIce (g : zG) : Int32 := (fX6_allIce_L4 g 12 0 0)
def fX6_surfaceOf (g : zG) (k : Nat) : Int32 := (((g 0) (0 + k)) + (fX6_iceOf g k))
def fX6_isInSea (g : zG) (k : Nat) : Int32 := (if (g 10 1) ≤ ((g 0) (0 + k)) then 0 else 1)
def fX6_potentialOf (g : zG) (k : Nat) : Int32 := ((10 * ((g 0) (0 + k))) + (9 * (fX6_iceOf g k)))
def fX6_snows_L182 (k2 : Nat) : Nat → Int32 → zG → zG
  | 0, x23, x24 => x24
  | nk25 + 1, x23, x24 => (if x23 ≤ 0 then x24 else (jn (if x23 ≤ ((x24 0) ((100 + (61 * k2)) + nk25)) then x23 else ((x24 0) ((100 + (61 * k2)) + nk25))) (fun (v28 : Int32) => (fX6_snows_L182 k2 nk25 (x23 - v28) (va_up x24 0 (upd (x24 0) ((100 + (61 * k2)) + nk25) (((x24 0) ((100 + (61 * k2)) + nk25)) - v28)))))))
def mSnow (k2 : Nat) (x1 : zG) : zG := (jn (fX6_iceOf x1 k2) (fun (v6 : Int32) => (jn ((x1 10 2) - ((fX6_surfaceOf x1 k2) >>> (1 &&& 31))) (fun (v7 : Int32) => (jn (if 0 ≤ v7 then 0 else (if 0 < v6 then (x1 10 3) else (if (fX6_isInSea x1 k2) = 0 then (x1 10 3) else 0))) (fun (v8 : Int32) => (jn (va_up x1 0 (upd (x1 0) (48 + k2) v8)) (fun (g12 : zG) => (jn (va_up g12 0 (upd (g12 0) 86 (((g12 0) 86) + ((g12 0) (48 + k2))))) (fun (g13 : zG) => (jn (va_up g13 0 (upd (g13 0) ((100 + (61 * k2)) + (g13 0 89).toNatClampNeg) (((g13 0) ((100 + (61 * k2)) + (g13 0 89).toNatClampNeg)) + ((g13 0) (48 + k2))))) (fun (g14 : zG) => (jn (if v7 ≤ 0 then 0 else ((v7 * (g14 10 4)) / 10)) (fun (v15 : Int32) => (jn (if v6 ≤ v15 then (if v7 ≤ 0 then 0 else v6) else v15) (fun (v17 : Int32) => (jn (va_up g14 0 (upd (g14 0) (24 + k2) (((g14 0) (24 + k2)) + v17))) (fun (g20 : zG) => (jn (va_up g20 0 (upd (g20 0) 88 (((g20 0) 88) + v17))) (fun (g21 : zG) => (jn (fX6_snows_L182 k2 61 v17 g21) (fun (v22 : zG) => v22))))))))))))))))))))))
def fX6_snows_L2 : Nat → Nat → zG → zG
  | 0, k2, x1 => x1
  | nk2 + 1, k2, x1 => (jn (mSnow k2 x1) (fun (v5 : zG) => (fX6_snows_L2 nk2 (k2 + 1) v5)))
def fX6_snows (g : zG) : zG := (fX6_snows_L2 12 0 g)
def fX6_flowOf (g : zG) (k : Nat) (j : Nat) : Int32 := (jn (fX6_iceOf g k) (fun (v1 : Int32) => (jn ((((fX6_surfaceOf g k) - (fX6_surfaceOf g j)).toInt64 * v1.toInt64) / 200) (fun (v2 : Int64) => (jn (if ((g 0) (24 + k)) < 4 then v2 else (2 * v2)) (fun (v3 : Int64) => (jn (if 0 ≤ (lg_cmp v3 ((v1 / 4).toInt64)) then (v1 / 4) else v3.toInt32) (fun (v5 : Int32) => v5))))))))
def fX6_flows_L193 (k8 : Nat) (v12 : Nat) : Nat → Nat → Int32 → zG → zG
  | 0, k21, x19, x20 => x20
  | nk21 + 1, k21, x19, x20 => (if x19 ≤ 0 then x20 else (jn ((x20 0) ((100 + (61 * v12)) + k21)) (fun (v24 : Int32) => (jn (if x19 ≤ v24 then x19 else v24) (fun (v25 : Int32) => (jn (va_up x20 0 (upd (x20 0) ((100 + (61 * v12)) + k21) (((x20 0) ((100 + (61 * v12)) + k21)) - v25))) (fun (g27 : zG) => (fX6_flows_L193 k8 v12 nk21 (k21 + 1) (x19 - v25) (va_up g27 0 (upd (g27 0) ((100 + (61 * (((2 * k8) + 1) - v12))) + k21) (((g27 0) ((100 + (61 * (((2 * k8) + 1) - v12))) + k21)) + v25)))))))))))
def mFlowB (k8 : Nat) (x7 : zG) : zG := (jn (if 0 ≤ ((x7 9) k8) then k8 else (k8 + 1)) (fun (v12 : Nat) => (jn (if 0 ≤ ((x7 9) k8) then ((x7 9) k8) else (-((x7 9) k8))) (fun (v14 : Int32) => (jn (va_up x7 0 (upd (x7 0) (72 + v12) (((x7 0) (72 + v12)) + v14))) (fun (g16 : zG) => (jn (va_up g16 0 (upd (g16 0) (60 + (((2 * k8) + 1) - v12)) (((g16 0) (60 + (((2 * k8) + 1) - v12))) + v14))) (fun (g17 : zG) => (jn (fX6_flows_L193 k8 v12 61 0 v14 g17) (fun (v18 : zG) => v18))))))))))
def fX6_flows_L104 : Nat → Nat → zG → zG
  | 0, k8, x7 => x7
  | nk8 + 1, k8, x7 => (jn (mFlowB k8 x7) (fun (v11 : zG) => (fX6_flows_L104 nk8 (k8 + 1) v11)))
def mFlowA (k5 : Nat) (x4 : zG) : zG := (jn (fX6_surfaceOf x4 k5) (fun (v30 : Int32) => (jn (fX6_surfaceOf x4 (k5 + 1)) (fun (v31 : Int32) => (jn (if v30 ≤ v31 then (if v31 ≤ v30 then 0 else (-(fX6_flowOf x4 (k5 + 1) k5))) else (fX6_flowOf x4 k5 (k5 + 1))) (fun (v32 : Int32) => (va_up x4 9 (upd (x4 9) k5 v32))))))))
def fX6_flows_L36 : Nat → Nat → zG → zG
  | 0, k5, x4 => (fX6_flows_L104 11 0 x4)
  | nk5 + 1, k5, x4 => (jn (mFlowA k5 x4) (fun (v29 : zG) => (fX6_flows_L36 nk5 (k5 + 1) v29)))
def fX6_flows_L2 : Nat → Nat → zG → zG
  | 0, k2, x1 => (fX6_flows_L36 11 0 x1)
  | nk2 + 1, k2, x1 => (fX6_flows_L2 nk2 (k2 + 1) (va_up (va_up x1 0 (upd (x1 0) (60 + k2) 0)) 0 (upd (upd (x1 0) (60 + k2) 0) (72 + k2) 0)))
def fX6_flows (g : zG) : zG := (fX6_flows_L2 12 0 g)
def mRun (k2 : Nat) (x1 : zG) : zG := (jn ((x1 0) (24 + k2)) (fun (v6 : Int32) => (jn (if (fX6_isInSea x1 k2) = 0 then (if k2 = 11 then 1 else 0) else 1) (fun (v7 : Int32) => (jn (if v7 = 0 then (if k2 = 0 then (k2 + 1) else (if (fX6_potentialOf x1 (k2 - 1)) < (fX6_potentialOf x1 (k2 + 1)) then (k2 - 1) else (k2 + 1))) else k2) (fun (v10 : Nat) => (if v7 = 0 then (if (fX6_potentialOf x1 k2) ≤ (fX6_potentialOf x1 v10) then x1 else (va_up (va_up x1 0 (upd (x1 0) (24 + v10) (((x1 0) (24 + v10)) + v6))) 0 (upd (upd (x1 0) (24 + v10) (((x1 0) (24 + v10)) + v6)) (24 + k2) 0))) else (va_up (va_up x1 0 (upd (x1 0) 84 (((x1 0) 84) + v6))) 0 (upd (upd (x1 0) 84 (((x1 0) 84) + v6)) (24 + k2) 0)))))))))
def fX6_runs_L2 : Nat → Nat → zG → zG
  | 0, k2, x1 => x1
  | nk2 + 1, k2, x1 => (jn (mRun k2 x1) (fun (v5 : zG) => (fX6_runs_L2 nk2 (k2 + 1) v5)))
def fX6_runs (g : zG) : zG := (fX6_runs_L2 12 0 g)
def fX6_least (g : zG) (k : Nat) : Int32 := (jn (if k = 0 then 0 else (fX6_iceOf g (k - 1))) (fun (v1 : Int32) => (jn (if 11 ≤ k then 0 else (fX6_iceOf g (k + 1))) (fun (v3 : Int32) => (if v1 = 0 then v3 else (if v3 = 0 then v1 else (if v3 ≤ v1 then v3 else v1)))))))
def mBreak (k2 : Nat) (x1 : zG) : zG := (jn ((x1 0) (24 + k2)) (fun (v6 : Int32) => (jn (fX6_least x1 k2) (fun (v7 : Int32) => (if v6 < 10 then x1 else (if v7 ≤ 0 then x1 else (if (10 * v6) ≤ (9 * v7) then x1 else (jn (va_up (va_up (va_up (va_up x1 3 (upd (x1 3) (((x1 0) 90).toNatClampNeg) ((x1 0) 89))) 4 (upd (x1 4) (((x1 0) 90).toNatClampNeg) (nI k2))) 5 (upd (x1 5) (((x1 0) 90).toNatClampNeg) v6)) 0 (upd (x1 0) 90 (((x1 0) 90) + 1))) (fun (g11 : zG) => (jn (va_up g11 0 (upd (g11 0) 84 (((g11 0) 84) + v6))) (fun (g12 : zG) => (va_up g12 0 (upd (g12 0) (24 + k2) 0)))))))))))))
def fX6_breaks_L2 : Nat → Nat → zG → zG
  | 0, k2, x1 => x1
  | nk2 + 1, k2, x1 => (jn (mBreak k2 x1) (fun (v5 : zG) => (fX6_breaks_L2 nk2 (k2 + 1) v5)))
def fX6_breaks (g : zG) : zG := (fX6_breaks_L2 12 0 g)
def fX6_calves_L78 (nk3 : Nat) : Nat → Nat → zG → zG
  | 0, k16, x15 => x15
  | nk16 + 1, k16, x15 => (fX6_calves_L78 nk3 nk16 (k16 + 1) (va_up x15 0 (upd (x15 0) ((100 + (61 * nk3)) + k16) 0)))
def fX6_calves_L5 : Nat → Int32 → zG → zG
  | 0, x1, x2 => x2
  | nk3 + 1, x1, x2 => (if x1 = 0 then x2 else (jn (fX6_iceOf x2 nk3) (fun (v7 : Int32) => (jn (if (fX6_isInSea x2 nk3) = 0 then 0 else (if v7 = 0 then 1 else (if (10 * ((x2 10 1) - ((x2 0) (0 + nk3)))) ≤ (9 * v7) then 0 else 1))) (fun (v8 : Int32) => (jn (if v8 = 0 then x2 else (jn (fX6_calves_L78 nk3 61 0 (va_up x2 0 (upd (x2 0) 85 (((x2 0) 85) + v7)))) (fun (v14 : zG) => v14))) (fun (v12 : zG) => (fX6_calves_L5 nk3 v8 v12))))))))
def fX6_calves (g : zG) : zG := (fX6_calves_L5 12 1 g)
def mEnd (k3 : Nat) (x1 : Int32) (x2 : zG) : Int32 × zG := (jn (fX6_iceOf x2 k3) (fun (v9 : Int32) => (jn (((x2 0) (12 + k3)) - (v9 / 3)) (fun (v10 : Int32) => (jn (if v10 ≤ ((x2 0) (0 + k3)) then (if ((x2 0) (0 + k3)) ≤ v10 then 0 else (-1)) else 1) (fun (v11 : Int32) => (jn (if v9 ≤ 0 then x1 else (nI k3)) (fun (v14 : Int32) => (v14, (va_up x2 0 (upd (x2 0) (0 + k3) (((x2 0) (0 + k3)) + v11))))))))))))
def fX6_ends_L4 : Nat → Nat → Int32 → zG → zG
  | 0, k3, x1, x2 => (jn (va_up x2 0 (upd (x2 0) (900 + (x2 0 89).toNatClampNeg) x1)) (fun (g5 : zG) => (if x1 = (-1) then g5 else (va_up g5 0 (upd (g5 0) (36 + (x1).toNatClampNeg) (((g5 0) (36 + (x1).toNatClampNeg)) + 1))))))
  | nk3 + 1, k3, x1, x2 => (jn (mEnd k3 x1 x2) (fun (v8 : Int32 × zG) => (fX6_ends_L4 nk3 (k3 + 1) v8.1 v8.2)))
def fX6_ends (g : zG) : zG := (fX6_ends_L4 12 0 (-1) g)
def fX6_passes_L2 : Nat → Nat → zG → zG
  | 0, k2, x1 => x1
  | nk2 + 1, k2, x1 => (jn (fX6_snows (va_up x1 0 (upd (x1 0) 89 (((x1 0) 89) + 1)))) (fun u5 => (jn (fX6_flows u5) (fun u6 => (jn (fX6_runs u6) (fun u7 => (jn (fX6_breaks u7) (fun u8 => (jn (fX6_calves u8) (fun u9 => (jn (fX6_ends u9) (fun u10 => (fX6_passes_L2 nk2 (k2 + 1) u10)))))))))))))
def fX6_passes (g : zG) (y : Nat) : zG := (fX6_passes_L2 y 0 g)
def fX6_tells (g : zG) (k : Nat) (w : Int32) : Int32 := (jn (((g 0) (60 + k)) - ((g 0) (72 + k))) (fun (v1 : Int32) => (jn (if 5 ≤ v1 then 1 else (if (-5) < v1 then 0 else 1)) (fun (v2 : Int32) => (if w = 0 then ((g 0) (0 + k)) else (if w = 1 then (fX6_iceOf g k) else (if w = 2 then ((g 0) (24 + k)) else (if w = 3 then (fX6_surfaceOf g k) else (if w = 4 then ((g 0) (36 + k)) else (if w = 5 then (if v2 = 0 then 0 else 1) else (if w = 6 then (if v2 = 0 then 0 else (if ((g 0) (48 + k)) < 3 then 0 else 1)) else (if w = 7 then (if (fX6_isInSea g k) = 0 then 0 else 1) else (if w = 8 then ((g 0) (12 + k)) else (fX6_potentialOf g k))))))))))))))
def fX6_keeps_L2 (pa : Int32) : Nat → Nat → zG → zG
  | 0, k2, x1 => x1
  | nk2 + 1, k2, x1 => (jn (if pa = 0 then ((x1 0) k2) else ((x1 1) k2)) (fun (v5 : Int32) => (fX6_keeps_L2 pa nk2 (k2 + 1) (va_up (va_up x1 0 (upd (x1 0) k2 v5)) 1 (upd (x1 1) k2 ((x1 0) k2))))))
def fX6_keeps (g : zG) (pa : Int32) : zG := (fX6_keeps_L2 pa 1024 0 g)
