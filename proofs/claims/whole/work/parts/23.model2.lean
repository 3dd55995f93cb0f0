def fn_X4_prepare_L13 : Nat → zs_T → Int32 → Int32 → zs_O
  | 0, σ, _, _ => (σ, 0)
  | n + 1, σ, x1, x2 => (if x2 < 64 then (if σ 0 (x2.toNatClampNeg) = 0 then (if x2 = 64 then ((fn_X4_ends σ x1 (-2)).1, 0) else (if (zs_u (zs_u (zs_u (zs_u (zs_u σ 22 (x1.toNatClampNeg) x2) 0 (x2.toNatClampNeg) 1) 1 (x2.toNatClampNeg) (fr_X4_wanted (zs_u (zs_u σ 22 (x1.toNatClampNeg) x2) 0 (x2.toNatClampNeg) 1) x1)) 4 (x2.toNatClampNeg) (-1)) 5 (x2.toNatClampNeg) 0) 30 (x1.toNatClampNeg) = 0 then ((zs_u (zs_u (zs_u (zs_u (zs_u (zs_u (zs_u (zs_u (zs_u (zs_u (zs_u (zs_u σ 22 (x1.toNatClampNeg) x2) 0 (x2.toNatClampNeg) 1) 1 (x2.toNatClampNeg) (fr_X4_wanted (zs_u (zs_u σ 22 (x1.toNatClampNeg) x2) 0 (x2.toNatClampNeg) 1) x1)) 4 (x2.toNatClampNeg) (-1)) 5 (x2.toNatClampNeg) 0) 4 (x2.toNatClampNeg) ((zs_u (zs_u (zs_u (zs_u (zs_u σ 22 (x1.toNatClampNeg) x2) 0 (x2.toNatClampNeg) 1) 1 (x2.toNatClampNeg) (fr_X4_wanted (zs_u (zs_u σ 22 (x1.toNatClampNeg) x2) 0 (x2.toNatClampNeg) 1) x1)) 4 (x2.toNatClampNeg) (-1)) 5 (x2.toNatClampNeg) 0) 12 (x1.toNatClampNeg))) 5 (x2.toNatClampNeg) ((zs_u (zs_u (zs_u (zs_u (zs_u (zs_u σ 22 (x1.toNatClampNeg) x2) 0 (x2.toNatClampNeg) 1) 1 (x2.toNatClampNeg) (fr_X4_wanted (zs_u (zs_u σ 22 (x1.toNatClampNeg) x2) 0 (x2.toNatClampNeg) 1) x1)) 4 (x2.toNatClampNeg) (-1)) 5 (x2.toNatClampNeg) 0) 4 (x2.toNatClampNeg) ((zs_u (zs_u (zs_u (zs_u (zs_u σ 22 (x1.toNatClampNeg) x2) 0 (x2.toNatClampNeg) 1) 1 (x2.toNatClampNeg) (fr_X4_wanted (zs_u (zs_u σ 22 (x1.toNatClampNeg) x2) 0 (x2.toNatClampNeg) 1) x1)) 4 (x2.toNatClampNeg) (-1)) 5 (x2.toNatClampNeg) 0) 12 (x1.toNatClampNeg))) 13 (x1.toNatClampNeg))) 6 (x2.toNatClampNeg) ((zs_u (zs_u (zs_u (zs_u (zs_u (zs_u (zs_u σ 22 (x1.toNatClampNeg) x2) 0 (x2.toNatClampNeg) 1) 1 (x2.toNatClampNeg) (fr_X4_wanted (zs_u (zs_u σ 22 (x1.toNatClampNeg) x2) 0 (x2.toNatClampNeg) 1) x1)) 4 (x2.toNatClampNeg) (-1)) 5 (x2.toNatClampNeg) 0) 4 (x2.toNatClampNeg) ((zs_u (zs_u (zs_u (zs_u (zs_u σ 22 (x1.toNatClampNeg) x2) 0 (x2.toNatClampNeg) 1) 1 (x2.toNatClampNeg) (fr_X4_wanted (zs_u (zs_u σ 22 (x1.toNatClampNeg) x2) 0 (x2.toNatClampNeg) 1) x1)) 4 (x2.toNatClampNeg) (-1)) 5 (x2.toNatClampNeg) 0) 12 (x1.toNatClampNeg))) 5 (x2.toNatClampNeg) ((zs_u (zs_u (zs_u (zs_u (zs_u (zs_u σ 22 (x1.toNatClampNeg) x2) 0 (x2.toNatClampNeg) 1) 1 (x2.toNatClampNeg) (fr_X4_wanted (zs_u (zs_u σ 22 (x1.toNatClampNeg) x2) 0 (x2.toNatClampNeg) 1) x1)) 4 (x2.toNatClampNeg) (-1)) 5 (x2.toNatClampNeg) 0) 4 (x2.toNatClampNeg) ((zs_u (zs_u (zs_u (zs_u (zs_u σ 22 (x1.toNatClampNeg) x2) 0 (x2.toNatClampNeg) 1) 1 (x2.toNatClampNeg) (fr_X4_wanted (zs_u (zs_u σ 22 (x1.toNatClampNeg) x2) 0 (x2.toNatClampNeg) 1) x1)) 4 (x2.toNatClampNeg) (-1)) 5 (x2.toNatClampNeg) 0) 12 (x1.toNatClampNeg))) 13 (x1.toNatClampNeg))) 34 0)) 7 (x2.toNatClampNeg) 0) 2 (x2.toNatClampNeg) ((zs_u (zs_u (zs_u (zs_u (zs_u (zs_u (zs_u (zs_u (zs_u σ 22 (x1.toNatClampNeg) x2) 0 (x2.toNatClampNeg) 1) 1 (x2.toNatClampNeg) (fr_X4_wanted (zs_u (zs_u σ 22 (x1.toNatClampNeg) x2) 0 (x2.toNatClampNeg) 1) x1)) 4 (x2.toNatClampNeg) (-1)) 5 (x2.toNatClampNeg) 0) 4 (x2.toNatClampNeg) ((zs_u (zs_u (zs_u (zs_u (zs_u σ 22 (x1.toNatClampNeg) x2) 0 (x2.toNatClampNeg) 1) 1 (x2.toNatClampNeg) (fr_X4_wanted (zs_u (zs_u σ 22 (x1.toNatClampNeg) x2) 0 (x2.toNatClampNeg) 1) x1)) 4 (x2.toNatClampNeg) (-1)) 5 (x2.toNatClampNeg) 0) 12 (x1.toNatClampNeg))) 5 (x2.toNatClampNeg) ((zs_u (zs_u (zs_u (zs_u (zs_u (zs_u σ 22 (x1.toNatClampNeg) x2) 0 (x2.toNatClampNeg) 1) 1 (x2.toNatClampNeg) (fr_X4_wanted (zs_u (zs_u σ 22 (x1.toNatClampNeg) x2) 0 (x2.toNatClampNeg) 1) x1)) 4 (x2.toNatClampNeg) (-1)) 5 (x2.toNatClampNeg) 0) 4 (x2.toNatClampNeg) ((zs_u (zs_u (zs_u (zs_u (zs_u σ 22 (x1.toNatClampNeg) x2) 0 (x2.toNatClampNeg) 1) 1 (x2.toNatClampNeg) (fr_X4_wanted (zs_u (zs_u σ 22 (x1.toNatClampNeg) x2) 0 (x2.toNatClampNeg) 1) x1)) 4 (x2.toNatClampNeg) (-1)) 5 (x2.toNatClampNeg) 0) 12 (x1.toNatClampNeg))) 13 (x1.toNatClampNeg))) 6 (x2.toNatClampNeg) ((zs_u (zs_u (zs_u (zs_u (zs_u (zs_u (zs_u σ 22 (x1.toNatClampNeg) x2) 0 (x2.toNatClampNeg) 1) 1 (x2.toNatClampNeg) (fr_X4_wanted (zs_u (zs_u σ 22 (x1.toNatClampNeg) x2) 0 (x2.toNatClampNeg) 1) x1)) 4 (x2.toNatClampNeg) (-1)) 5 (x2.toNatClampNeg) 0) 4 (x2.toNatClampNeg) ((zs_u (zs_u (zs_u (zs_u (zs_u σ 22 (x1.toNatClampNeg) x2) 0 (x2.toNatClampNeg) 1) 1 (x2.toNatClampNeg) (fr_X4_wanted (zs_u (zs_u σ 22 (x1.toNatClampNeg) x2) 0 (x2.toNatClampNeg) 1) x1)) 4 (x2.toNatClampNeg) (-1)) 5 (x2.toNatClampNeg) 0) 12 (x1.toNatClampNeg))) 5 (x2.toNatClampNeg) ((zs_u (zs_u (zs_u (zs_u (zs_u (zs_u σ 22 (x1.toNatClampNeg) x2) 0 (x2.toNatClampNeg) 1) 1 (x2.toNatClampNeg) (fr_X4_wanted (zs_u (zs_u σ 22 (x1.toNatClampNeg) x2) 0 (x2.toNatClampNeg) 1) x1)) 4 (x2.toNatClampNeg) (-1)) 5 (x2.toNatClampNeg) 0) 4 (x2.toNatClampNeg) ((zs_u (zs_u (zs_u (zs_u (zs_u σ 22 (x1.toNatClampNeg) x2) 0 (x2.toNatClampNeg) 1) 1 (x2.toNatClampNeg) (fr_X4_wanted (zs_u (zs_u σ 22 (x1.toNatClampNeg) x2) 0 (x2.toNatClampNeg) 1) x1)) 4 (x2.toNatClampNeg) (-1)) 5 (x2.toNatClampNeg) 0) 12 (x1.toNatClampNeg))) 13 (x1.toNatClampNeg))) 34 0)) 7 (x2.toNatClampNeg) 0) 19 (x1.toNatClampNeg))) 3 (x2.toNatClampNeg) 0) 10 (x1.toNatClampNeg) 8), 0) else ((zs_u (zs_u (zs_u (zs_u (zs_u (zs_u (zs_u (zs_u (zs_u (zs_u σ 22 (x1.toNatClampNeg) x2) 0 (x2.toNatClampNeg) 1) 1 (x2.toNatClampNeg) (fr_X4_wanted (zs_u (zs_u σ 22 (x1.toNatClampNeg) x2) 0 (x2.toNatClampNeg) 1) x1)) 4 (x2.toNatClampNeg) (-1)) 5 (x2.toNatClampNeg) 0) 6 (x2.toNatClampNeg) ((zs_u (zs_u (zs_u (zs_u (zs_u σ 22 (x1.toNatClampNeg) x2) 0 (x2.toNatClampNeg) 1) 1 (x2.toNatClampNeg) (fr_X4_wanted (zs_u (zs_u σ 22 (x1.toNatClampNeg) x2) 0 (x2.toNatClampNeg) 1) x1)) 4 (x2.toNatClampNeg) (-1)) 5 (x2.toNatClampNeg) 0) 34 0)) 7 (x2.toNatClampNeg) 0) 2 (x2.toNatClampNeg) ((zs_u (zs_u (zs_u (zs_u (zs_u (zs_u (zs_u σ 22 (x1.toNatClampNeg) x2) 0 (x2.toNatClampNeg) 1) 1 (x2.toNatClampNeg) (fr_X4_wanted (zs_u (zs_u σ 22 (x1.toNatClampNeg) x2) 0 (x2.toNatClampNeg) 1) x1)) 4 (x2.toNatClampNeg) (-1)) 5 (x2.toNatClampNeg) 0) 6 (x2.toNatClampNeg) ((zs_u (zs_u (zs_u (zs_u (zs_u σ 22 (x1.toNatClampNeg) x2) 0 (x2.toNatClampNeg) 1) 1 (x2.toNatClampNeg) (fr_X4_wanted (zs_u (zs_u σ 22 (x1.toNatClampNeg) x2) 0 (x2.toNatClampNeg) 1) x1)) 4 (x2.toNatClampNeg) (-1)) 5 (x2.toNatClampNeg) 0) 34 0)) 7 (x2.toNatClampNeg) 0) 19 (x1.toNatClampNeg))) 3 (x2.toNatClampNeg) 0) 10 (x1.toNatClampNeg) 8), 0))) else (fn_X4_prepare_L13 n σ x1 (x2 + 1))) else (if x2 = 64 then ((fn_X4_ends σ x1 (-2)).1, 0) else (if (zs_u (zs_u (zs_u (zs_u (zs_u σ 22 (x1.toNatClampNeg) x2) 0 (x2.toNatClampNeg) 1) 1 (x2.toNatClampNeg) (fr_X4_wanted (zs_u (zs_u σ 22 (x1.toNatClampNeg) x2) 0 (x2.toNatClampNeg) 1) x1)) 4 (x2.toNatClampNeg) (-1)) 5 (x2.toNatClampNeg) 0) 30 (x1.toNatClampNeg) = 0 then ((zs_u (zs_u (zs_u (zs_u (zs_u (zs_u (zs_u (zs_u (zs_u (zs_u (zs_u (zs_u σ 22 (x1.toNatClampNeg) x2) 0 (x2.toNatClampNeg) 1) 1 (x2.toNatClampNeg) (fr_X4_wanted (zs_u (zs_u σ 22 (x1.toNatClampNeg) x2) 0 (x2.toNatClampNeg) 1) x1)) 4 (x2.toNatClampNeg) (-1)) 5 (x2.toNatClampNeg) 0) 4 (x2.toNatClampNeg) ((zs_u (zs_u (zs_u (zs_u (zs_u σ 22 (x1.toNatClampNeg) x2) 0 (x2.toNatClampNeg) 1) 1 (x2.toNatClampNeg) (fr_X4_wanted (zs_u (zs_u σ 22 (x1.toNatClampNeg) x2) 0 (x2.toNatClampNeg) 1) x1)) 4 (x2.toNatClampNeg) (-1)) 5 (x2.toNatClampNeg) 0) 12 (x1.toNatClampNeg))) 5 (x2.toNatClampNeg) ((zs_u (zs_u (zs_u (zs_u (zs_u (zs_u σ 22 (x1.toNatClampNeg) x2) 0 (x2.toNatClampNeg) 1) 1 (x2.toNatClampNeg) (fr_X4_wanted (zs_u (zs_u σ 22 (x1.toNatClampNeg) x2) 0 (x2.toNatClampNeg) 1) x1)) 4 (x2.toNatClampNeg) (-1)) 5 (x2.toNatClampNeg) 0) 4 (x2.toNatClampNeg) ((zs_u (zs_u (zs_u (zs_u (zs_u σ 22 (x1.toNatClampNeg) x2) 0 (x2.toNatClampNeg) 1) 1 (x2.toNatClampNeg) (fr_X4_wanted (zs_u (zs_u σ 22 (x1.toNatClampNeg) x2) 0 (x2.toNatClampNeg) 1) x1)) 4 (x2.toNatClampNeg) (-1)) 5 (x2.toNatClampNeg) 0) 12 (x1.toNatClampNeg))) 13 (x1.toNatClampNeg))) 6 (x2.toNatClampNeg) ((zs_u (zs_u (zs_u (zs_u (zs_u (zs_u (zs_u σ 22 (x1.toNatClampNeg) x2) 0 (x2.toNatClampNeg) 1) 1 (x2.toNatClampNeg) (fr_X4_wanted (zs_u (zs_u σ 22 (x1.toNatClampNeg) x2) 0 (x2.toNatClampNeg) 1) x1)) 4 (x2.toNatClampNeg) (-1)) 5 (x2.toNatClampNeg) 0) 4 (x2.toNatClampNeg) ((zs_u (zs_u (zs_u (zs_u (zs_u σ 22 (x1.toNatClampNeg) x2) 0 (x2.toNatClampNeg) 1) 1 (x2.toNatClampNeg) (fr_X4_wanted (zs_u (zs_u σ 22 (x1.toNatClampNeg) x2) 0 (x2.toNatClampNeg) 1) x1)) 4 (x2.toNatClampNeg) (-1)) 5 (x2.toNatClampNeg) 0) 12 (x1.toNatClampNeg))) 5 (x2.toNatClampNeg) ((zs_u (zs_u (zs_u (zs_u (zs_u (zs_u σ 22 (x1.toNatClampNeg) x2) 0 (x2.toNatClampNeg) 1) 1 (x2.toNatClampNeg) (fr_X4_wanted (zs_u (zs_u σ 22 (x1.toNatClampNeg) x2) 0 (x2.toNatClampNeg) 1) x1)) 4 (x2.toNatClampNeg) (-1)) 5 (x2.toNatClampNeg) 0) 4 (x2.toNatClampNeg) ((zs_u (zs_u (zs_u (zs_u (zs_u σ 22 (x1.toNatClampNeg) x2) 0 (x2.toNatClampNeg) 1) 1 (x2.toNatClampNeg) (fr_X4_wanted (zs_u (zs_u σ 22 (x1.toNatClampNeg) x2) 0 (x2.toNatClampNeg) 1) x1)) 4 (x2.toNatClampNeg) (-1)) 5 (x2.toNatClampNeg) 0) 12 (x1.toNatClampNeg))) 13 (x1.toNatClampNeg))) 34 0)) 7 (x2.toNatClampNeg) 0) 2 (x2.toNatClampNeg) ((zs_u (zs_u (zs_u (zs_u (zs_u (zs_u (zs_u (zs_u (zs_u σ 22 (x1.toNatClampNeg) x2) 0 (x2.toNatClampNeg) 1) 1 (x2.toNatClampNeg) (fr_X4_wanted (zs_u (zs_u σ 22 (x1.toNatClampNeg) x2) 0 (x2.toNatClampNeg) 1) x1)) 4 (x2.toNatClampNeg) (-1)) 5 (x2.toNatClampNeg) 0) 4 (x2.toNatClampNeg) ((zs_u (zs_u (zs_u (zs_u (zs_u σ 22 (x1.toNatClampNeg) x2) 0 (x2.toNatClampNeg) 1) 1 (x2.toNatClampNeg) (fr_X4_wanted (zs_u (zs_u σ 22 (x1.toNatClampNeg) x2) 0 (x2.toNatClampNeg) 1) x1)) 4 (x2.toNatClampNeg) (-1)) 5 (x2.toNatClampNeg) 0) 12 (x1.toNatClampNeg))) 5 (x2.toNatClampNeg) ((zs_u (zs_u (zs_u (zs_u (zs_u (zs_u σ 22 (x1.toNatClampNeg) x2) 0 (x2.toNatClampNeg) 1) 1 (x2.toNatClampNeg) (fr_X4_wanted (zs_u (zs_u σ 22 (x1.toNatClampNeg) x2) 0 (x2.toNatClampNeg) 1) x1)) 4 (x2.toNatClampNeg) (-1)) 5 (x2.toNatClampNeg) 0) 4 (x2.toNatClampNeg) ((zs_u (zs_u (zs_u (zs_u (zs_u σ 22 (x1.toNatClampNeg) x2) 0 (x2.toNatClampNeg) 1) 1 (x2.toNatClampNeg) (fr_X4_wanted (zs_u (zs_u σ 22 (x1.toNatClampNeg) x2) 0 (x2.toNatClampNeg) 1) x1)) 4 (x2.toNatClampNeg) (-1)) 5 (x2.toNatClampNeg) 0) 12 (x1.toNatClampNeg))) 13 (x1.toNatClampNeg))) 6 (x2.toNatClampNeg) ((zs_u (zs_u (zs_u (zs_u (zs_u (zs_u (zs_u σ 22 (x1.toNatClampNeg) x2) 0 (x2.toNatClampNeg) 1) 1 (x2.toNatClampNeg) (fr_X4_wanted (zs_u (zs_u σ 22 (x1.toNatClampNeg) x2) 0 (x2.toNatClampNeg) 1) x1)) 4 (x2.toNatClampNeg) (-1)) 5 (x2.toNatClampNeg) 0) 4 (x2.toNatClampNeg) ((zs_u (zs_u (zs_u (zs_u (zs_u σ 22 (x1.toNatClampNeg) x2) 0 (x2.toNatClampNeg) 1) 1 (x2.toNatClampNeg) (fr_X4_wanted (zs_u (zs_u σ 22 (x1.toNatClampNeg) x2) 0 (x2.toNatClampNeg) 1) x1)) 4 (x2.toNatClampNeg) (-1)) 5 (x2.toNatClampNeg) 0) 12 (x1.toNatClampNeg))) 5 (x2.toNatClampNeg) ((zs_u (zs_u (zs_u (zs_u (zs_u (zs_u σ 22 (x1.toNatClampNeg) x2) 0 (x2.toNatClampNeg) 1) 1 (x2.toNatClampNeg) (fr_X4_wanted (zs_u (zs_u σ 22 (x1.toNatClampNeg) x2) 0 (x2.toNatClampNeg) 1) x1)) 4 (x2.toNatClampNeg) (-1)) 5 (x2.toNatClampNeg) 0) 4 (x2.toNatClampNeg) ((zs_u (zs_u (zs_u (zs_u (zs_u σ 22 (x1.toNatClampNeg) x2) 0 (x2.toNatClampNeg) 1) 1 (x2.toNatClampNeg) (fr_X4_wanted (zs_u (zs_u σ 22 (x1.toNatClampNeg) x2) 0 (x2.toNatClampNeg) 1) x1)) 4 (x2.toNatClampNeg) (-1)) 5 (x2.toNatClampNeg) 0) 12 (x1.toNatClampNeg))) 13 (x1.toNatClampNeg))) 34 0)) 7 (x2.toNatClampNeg) 0) 19 (x1.toNatClampNeg))) 3 (x2.toNatClampNeg) 0) 10 (x1.toNatClampNeg) 8), 0) else ((zs_u (zs_u (zs_u (zs_u (zs_u (zs_u (zs_u (zs_u (zs_u (zs_u σ 22 (x1.toNatClampNeg) x2) 0 (x2.toNatClampNeg) 1) 1 (x2.toNatClampNeg) (fr_X4_wanted (zs_u (zs_u σ 22 (x1.toNatClampNeg) x2) 0 (x2.toNatClampNeg) 1) x1)) 4 (x2.toNatClampNeg) (-1)) 5 (x2.toNatClampNeg) 0) 6 (x2.toNatClampNeg) ((zs_u (zs_u (zs_u (zs_u (zs_u σ 22 (x1.toNatClampNeg) x2) 0 (x2.toNatClampNeg) 1) 1 (x2.toNatClampNeg) (fr_X4_wanted (zs_u (zs_u σ 22 (x1.toNatClampNeg) x2) 0 (x2.toNatClampNeg) 1) x1)) 4 (x2.toNatClampNeg) (-1)) 5 (x2.toNatClampNeg) 0) 34 0)) 7 (x2.toNatClampNeg) 0) 2 (x2.toNatClampNeg) ((zs_u (zs_u (zs_u (zs_u (zs_u (zs_u (zs_u σ 22 (x1.toNatClampNeg) x2) 0 (x2.toNatClampNeg) 1) 1 (x2.toNatClampNeg) (fr_X4_wanted (zs_u (zs_u σ 22 (x1.toNatClampNeg) x2) 0 (x2.toNatClampNeg) 1) x1)) 4 (x2.toNatClampNeg) (-1)) 5 (x2.toNatClampNeg) 0) 6 (x2.toNatClampNeg) ((zs_u (zs_u (zs_u (zs_u (zs_u σ 22 (x1.toNatClampNeg) x2) 0 (x2.toNatClampNeg) 1) 1 (x2.toNatClampNeg) (fr_X4_wanted (zs_u (zs_u σ 22 (x1.toNatClampNeg) x2) 0 (x2.toNatClampNeg) 1) x1)) 4 (x2.toNatClampNeg) (-1)) 5 (x2.toNatClampNeg) 0) 34 0)) 7 (x2.toNatClampNeg) 0) 19 (x1.toNatClampNeg))) 3 (x2.toNatClampNeg) 0) 10 (x1.toNatClampNeg) 8), 0))))
def ok_X4_prepare_L13 : Nat → zs_T → Int32 → Int32 → Prop
  | 0, _, _, _ => False
  | n + 1, σ, x1, x2 => (x2 < 64 → vp_in x2 64 ∧ ((σ 0 (x2.toNatClampNeg) = 0 → (x2 = 64 → ok_X4_ends σ x1 (-2) ∧ (True)) ∧ (¬ (x2 = 64) → vp_in x1 4 ∧ (vp_in x2 64 ∧ (ok_X4_wanted (zs_u (zs_u σ 22 (x1.toNatClampNeg) x2) 0 (x2.toNatClampNeg) 1) x1 ∧ (vp_in x2 64 ∧ (vp_in x2 64 ∧ (vp_in x2 64 ∧ (vp_in x1 4 ∧ (((zs_u (zs_u (zs_u (zs_u (zs_u σ 22 (x1.toNatClampNeg) x2) 0 (x2.toNatClampNeg) 1) 1 (x2.toNatClampNeg) (fr_X4_wanted (zs_u (zs_u σ 22 (x1.toNatClampNeg) x2) 0 (x2.toNatClampNeg) 1) x1)) 4 (x2.toNatClampNeg) (-1)) 5 (x2.toNatClampNeg) 0) 30 (x1.toNatClampNeg) = 0 → vp_in x1 4 ∧ (vp_in x2 64 ∧ (vp_in x1 4 ∧ (vp_in x2 64 ∧ (vp_in x2 64 ∧ (vp_in x2 64 ∧ (vp_in x1 4 ∧ (vp_in x2 64 ∧ (vp_in x2 64 ∧ (vp_in x1 4 ∧ (True))))))))))) ∧ (¬ ((zs_u (zs_u (zs_u (zs_u (zs_u σ 22 (x1.toNatClampNeg) x2) 0 (x2.toNatClampNeg) 1) 1 (x2.toNatClampNeg) (fr_X4_wanted (zs_u (zs_u σ 22 (x1.toNatClampNeg) x2) 0 (x2.toNatClampNeg) 1) x1)) 4 (x2.toNatClampNeg) (-1)) 5 (x2.toNatClampNeg) 0) 30 (x1.toNatClampNeg) = 0) → vp_in x2 64 ∧ (vp_in x2 64 ∧ (vp_in x1 4 ∧ (vp_in x2 64 ∧ (vp_in x2 64 ∧ (vp_in x1 4 ∧ (True)))))))))))))))) ∧ (¬ (σ 0 (x2.toNatClampNeg) = 0) → (ok_X4_prepare_L13 n σ x1 (x2 + 1))))) ∧ (¬ (x2 < 64) → (x2 = 64 → ok_X4_ends σ x1 (-2) ∧ (True)) ∧ (¬ (x2 = 64) → vp_in x1 4 ∧ (vp_in x2 64 ∧ (ok_X4_wanted (zs_u (zs_u σ 22 (x1.toNatClampNeg) x2) 0 (x2.toNatClampNeg) 1) x1 ∧ (vp_in x2 64 ∧ (vp_in x2 64 ∧ (vp_in x2 64 ∧ (vp_in x1 4 ∧ (((zs_u (zs_u (zs_u (zs_u (zs_u σ 22 (x1.toNatClampNeg) x2) 0 (x2.toNatClampNeg) 1) 1 (x2.toNatClampNeg) (fr_X4_wanted (zs_u (zs_u σ 22 (x1.toNatClampNeg) x2) 0 (x2.toNatClampNeg) 1) x1)) 4 (x2.toNatClampNeg) (-1)) 5 (x2.toNatClampNeg) 0) 30 (x1.toNatClampNeg) = 0 → vp_in x1 4 ∧ (vp_in x2 64 ∧ (vp_in x1 4 ∧ (vp_in x2 64 ∧ (vp_in x2 64 ∧ (vp_in x2 64 ∧ (vp_in x1 4 ∧ (vp_in x2 64 ∧ (vp_in x2 64 ∧ (vp_in x1 4 ∧ (True))))))))))) ∧ (¬ ((zs_u (zs_u (zs_u (zs_u (zs_u σ 22 (x1.toNatClampNeg) x2) 0 (x2.toNatClampNeg) 1) 1 (x2.toNatClampNeg) (fr_X4_wanted (zs_u (zs_u σ 22 (x1.toNatClampNeg) x2) 0 (x2.toNatClampNeg) 1) x1)) 4 (x2.toNatClampNeg) (-1)) 5 (x2.toNatClampNeg) 0) 30 (x1.toNatClampNeg) = 0) → vp_in x2 64 ∧ (vp_in x2 64 ∧ (vp_in x1 4 ∧ (vp_in x2 64 ∧ (vp_in x2 64 ∧ (vp_in x1 4 ∧ (True))))))))))))))))
set_option maxHeartbeats 4000000 in
set_option maxRecDepth 100000 in
theorem lp_X4_prepare_L13 {p : Program} {l : Launch} {e : Env} {s : State} {m : MethodId} {args : Array Value} {below : List Frame} {meth : Method} {c : Code} {D : va_G} {cI cZ : ClassId} {ad : Nat → Nat} (C : zs_C p s m args meth c cX4_prepare 3 (Cond.code yX4_prepare cX4_prepare 3 none :: zw_G) yX4_prepare.cls D vwCl (tysM cI cZ) 31 ad) (hr : meth.sig.returnType = none) (d : Nat) : ∀ (n : Nat) (σ : zs_T) (x1 : Int32) (x2 : Int32), ok_X4_prepare_L13 n σ x1 x2 → zs_Z p l e (zw_rm (d + 2)) s m args below meth c D vwCl 31 ad (wM cI cZ ad) 3 zs_vv (fn_X4_prepare_L13 n σ x1 x2) σ 13 [(0, .ref (ad 0)), (1, .int x1), (2, .int x2)] [] := by
  have hJ := C.2.2.1
  intro n
  induction n with
  | zero => intro σ x1 x2  hok; exact hok.elim
  | succ n ih =>
    intro σ x1 x2  hok
    rw [ok_X4_prepare_L13] at hok
    rw [fn_X4_prepare_L13]
    refine zs_iload_n (k := 2) C dX4_prepare_13 rfl rfl ?_
    refine zs_bipush (v := 64) C dX4_prepare_14 (by decide) ?_
    refine zs_icmp_ge (tgt := 34) C dX4_prepare_16 (by decide) (fun c_3 => ?_) (fun c_3 => ?_)
    · have hok := hok.1 c_3
      refine zs_aload_n (k := 0) C dX4_prepare_19 rfl rfl ?_
      refine gM_sort C lkX4_13 dX4_prepare_20 ?_
      refine zs_iload_n (k := 2) C dX4_prepare_23 rfl rfl ?_
      obtain ⟨h_4, hok⟩ := hok
      refine aM_sort C h_4 dX4_prepare_24 ?_
      refine zs_if_eq (tgt := 34) C dX4_prepare_25 (by decide) (fun c_5 => ?_) (fun c_5 => ?_)
      · have hok := hok.1 c_5
        refine zs_iload_n (k := 2) C dX4_prepare_34 rfl rfl ?_
        refine zs_bipush (v := 64) C dX4_prepare_35 (by decide) ?_
        refine zs_icmp_ne (tgt := 48) C dX4_prepare_37 (by decide) (fun c_6 => ?_) (fun c_6 => ?_)
        · have hok := hok.1 c_6
          refine zs_aload_n (k := 0) C dX4_prepare_40 rfl rfl ?_
          refine zs_iload_n (k := 1) C dX4_prepare_41 rfl rfl ?_
          refine zs_bipush (v := (-2)) C dX4_prepare_42 (by decide) ?_
          obtain ⟨h_7, hok⟩ := hok
          refine zk_callVv (As := [.int x1, .int (-2)]) (rest := []) C pk_X4_ends (by decide) lkX4_126 (m_X4_ends hJ (d + 1) σ x1 (-2) h_7) zm_recv rfl rfl rfl (Nat.le_of_ble_eq_true rfl) dX4_prepare_44 ?_
          exact zs_vret C hr dX4_prepare_47
        · have hok := hok.2 c_6
          refine zs_aload_n (k := 0) C dX4_prepare_48 rfl rfl ?_
          refine gM_own C lkX4_93 dX4_prepare_49 ?_
          refine zs_iload_n (k := 1) C dX4_prepare_52 rfl rfl ?_
          refine zs_iload_n (k := 2) C dX4_prepare_53 rfl rfl ?_
          obtain ⟨h_8, hok⟩ := hok
          refine sM_own C h_8 dX4_prepare_54 ?_
          refine zs_aload_n (k := 0) C dX4_prepare_55 rfl rfl ?_
          refine gM_sort C lkX4_13 dX4_prepare_56 ?_
          refine zs_iload_n (k := 2) C dX4_prepare_59 rfl rfl ?_
          refine zs_iconst (v := 1) C dX4_prepare_60 (by decide) ?_
          obtain ⟨h_9, hok⟩ := hok
          refine sM_sort C h_9 dX4_prepare_61 ?_
          refine zs_aload_n (k := 0) C dX4_prepare_62 rfl rfl ?_
          refine gM_order C lkX4_17 dX4_prepare_63 ?_
          refine zs_iload_n (k := 2) C dX4_prepare_66 rfl rfl ?_
          refine zs_aload_n (k := 0) C dX4_prepare_67 rfl rfl ?_
          refine zs_iload_n (k := 1) C dX4_prepare_68 rfl rfl ?_
          obtain ⟨h_10, hok⟩ := hok
          refine zk_callVi (As := [.int x1]) (rest := [.int x2, .ref (ad 2)]) C pk_X4_wanted (by decide) lkX4_130 (m_X4_wanted hJ d (zs_u (zs_u σ 22 (x1.toNatClampNeg) x2) 0 (x2.toNatClampNeg) 1) x1 h_10) zm_recv rfl rfl rfl (Nat.le_of_ble_eq_true rfl) dX4_prepare_69 ?_
          obtain ⟨h_11, hok⟩ := hok
          refine sM_order C h_11 dX4_prepare_72 ?_
          refine zs_aload_n (k := 0) C dX4_prepare_73 rfl rfl ?_
          refine gM_keyOf C lkX4_27 dX4_prepare_74 ?_
          refine zs_iload_n (k := 2) C dX4_prepare_77 rfl rfl ?_
          refine zs_iconst (v := (-1)) C dX4_prepare_78 (by decide) ?_
          obtain ⟨h_12, hok⟩ := hok
          refine sM_keyOf C h_12 dX4_prepare_79 ?_
          refine zs_aload_n (k := 0) C dX4_prepare_80 rfl rfl ?_
          refine gM_valueOf C lkX4_30 dX4_prepare_81 ?_
          refine zs_iload_n (k := 2) C dX4_prepare_84 rfl rfl ?_
          refine zs_iconst (v := 0) C dX4_prepare_85 (by decide) ?_
          obtain ⟨h_13, hok⟩ := hok
          refine sM_valueOf C h_13 dX4_prepare_86 ?_
          refine zs_aload_n (k := 0) C dX4_prepare_87 rfl rfl ?_
          refine gM_depth C lkX4_75 dX4_prepare_88 ?_
          refine zs_iload_n (k := 1) C dX4_prepare_91 rfl rfl ?_
          obtain ⟨h_14, hok⟩ := hok
          refine aM_depth C h_14 dX4_prepare_92 ?_
          refine zs_if_ne (tgt := 120) C dX4_prepare_93 (by decide) (fun c_15 => ?_) (fun c_15 => ?_)
          · have hok := hok.1 c_15
            refine zs_aload_n (k := 0) C dX4_prepare_96 rfl rfl ?_
            refine gM_keyOf C lkX4_27 dX4_prepare_97 ?_
            refine zs_iload_n (k := 2) C dX4_prepare_100 rfl rfl ?_
            refine zs_aload_n (k := 0) C dX4_prepare_101 rfl rfl ?_
            refine gM_key C lkX4_57 dX4_prepare_102 ?_
            refine zs_iload_n (k := 1) C dX4_prepare_105 rfl rfl ?_
            obtain ⟨h_16, hok⟩ := hok
            refine aM_key C h_16 dX4_prepare_106 ?_
            obtain ⟨h_17, hok⟩ := hok
            refine sM_keyOf C h_17 dX4_prepare_107 ?_
            refine zs_aload_n (k := 0) C dX4_prepare_108 rfl rfl ?_
            refine gM_valueOf C lkX4_30 dX4_prepare_109 ?_
            refine zs_iload_n (k := 2) C dX4_prepare_112 rfl rfl ?_
            refine zs_aload_n (k := 0) C dX4_prepare_113 rfl rfl ?_
            refine gM_value C lkX4_60 dX4_prepare_114 ?_
            refine zs_iload_n (k := 1) C dX4_prepare_117 rfl rfl ?_
            obtain ⟨h_18, hok⟩ := hok
            refine aM_value C h_18 dX4_prepare_118 ?_
            obtain ⟨h_19, hok⟩ := hok
            refine sM_valueOf C h_19 dX4_prepare_119 ?_
            refine zs_aload_n (k := 0) C dX4_prepare_120 rfl rfl ?_
            refine gM_born C lkX4_33 dX4_prepare_121 ?_
            refine zs_iload_n (k := 2) C dX4_prepare_124 rfl rfl ?_
            refine zs_aload_n (k := 0) C dX4_prepare_125 rfl rfl ?_
            refine gM_era C lkX4_48 dX4_prepare_126 ?_
            obtain ⟨h_20, hok⟩ := hok
            refine sM_born C h_20 dX4_prepare_129 ?_
            refine zs_aload_n (k := 0) C dX4_prepare_130 rfl rfl ?_
            refine gM_died C lkX4_36 dX4_prepare_131 ?_
            refine zs_iload_n (k := 2) C dX4_prepare_134 rfl rfl ?_
            refine zs_iconst (v := 0) C dX4_prepare_135 (by decide) ?_
            obtain ⟨h_21, hok⟩ := hok
            refine sM_died C h_21 dX4_prepare_136 ?_
            refine zs_aload_n (k := 0) C dX4_prepare_137 rfl rfl ?_
            refine gM_next C lkX4_20 dX4_prepare_138 ?_
            refine zs_iload_n (k := 2) C dX4_prepare_141 rfl rfl ?_
            refine zs_aload_n (k := 0) C dX4_prepare_142 rfl rfl ?_
            refine gM_cur C lkX4_84 dX4_prepare_143 ?_
            refine zs_iload_n (k := 1) C dX4_prepare_146 rfl rfl ?_
            obtain ⟨h_22, hok⟩ := hok
            refine aM_cur C h_22 dX4_prepare_147 ?_
            obtain ⟨h_23, hok⟩ := hok
            refine sM_next C h_23 dX4_prepare_148 ?_
            refine zs_aload_n (k := 0) C dX4_prepare_149 rfl rfl ?_
            refine gM_mark C lkX4_23 dX4_prepare_150 ?_
            refine zs_iload_n (k := 2) C dX4_prepare_153 rfl rfl ?_
            refine zs_iconst (v := 0) C dX4_prepare_154 (by decide) ?_
            obtain ⟨h_24, hok⟩ := hok
            refine sM_mark C h_24 (Or.inl rfl) dX4_prepare_155 ?_
            refine zs_aload_n (k := 0) C dX4_prepare_156 rfl rfl ?_
            refine gM_place C lkX4_51 dX4_prepare_157 ?_
            refine zs_iload_n (k := 1) C dX4_prepare_160 rfl rfl ?_
            refine zs_bipush (v := 8) C dX4_prepare_161 (by decide) ?_
            obtain ⟨h_25, hok⟩ := hok
            refine sM_place C h_25 dX4_prepare_163 ?_
            exact zs_vret C hr dX4_prepare_164
          · have hok := hok.2 c_15
            refine zs_aload_n (k := 0) C dX4_prepare_120 rfl rfl ?_
            refine gM_born C lkX4_33 dX4_prepare_121 ?_
            refine zs_iload_n (k := 2) C dX4_prepare_124 rfl rfl ?_
            refine zs_aload_n (k := 0) C dX4_prepare_125 rfl rfl ?_
            refine gM_era C lkX4_48 dX4_prepare_126 ?_
            obtain ⟨h_26, hok⟩ := hok
            refine sM_born C h_26 dX4_prepare_129 ?_
            refine zs_aload_n (k := 0) C dX4_prepare_130 rfl rfl ?_
            refine gM_died C lkX4_36 dX4_prepare_131 ?_
            refine zs_iload_n (k := 2) C dX4_prepare_134 rfl rfl ?_
            refine zs_iconst (v := 0) C dX4_prepare_135 (by decide) ?_
            obtain ⟨h_27, hok⟩ := hok
            refine sM_died C h_27 dX4_prepare_136 ?_
            refine zs_aload_n (k := 0) C dX4_prepare_137 rfl rfl ?_
            refine gM_next C lkX4_20 dX4_prepare_138 ?_
            refine zs_iload_n (k := 2) C dX4_prepare_141 rfl rfl ?_
            refine zs_aload_n (k := 0) C dX4_prepare_142 rfl rfl ?_
            refine gM_cur C lkX4_84 dX4_prepare_143 ?_
            refine zs_iload_n (k := 1) C dX4_prepare_146 rfl rfl ?_
            obtain ⟨h_28, hok⟩ := hok
            refine aM_cur C h_28 dX4_prepare_147 ?_
            obtain ⟨h_29, hok⟩ := hok
            refine sM_next C h_29 dX4_prepare_148 ?_
            refine zs_aload_n (k := 0) C dX4_prepare_149 rfl rfl ?_
            refine gM_mark C lkX4_23 dX4_prepare_150 ?_
            refine zs_iload_n (k := 2) C dX4_prepare_153 rfl rfl ?_
            refine zs_iconst (v := 0) C dX4_prepare_154 (by decide) ?_
            obtain ⟨h_30, hok⟩ := hok
            refine sM_mark C h_30 (Or.inl rfl) dX4_prepare_155 ?_
            refine zs_aload_n (k := 0) C dX4_prepare_156 rfl rfl ?_
            refine gM_place C lkX4_51 dX4_prepare_157 ?_
            refine zs_iload_n (k := 1) C dX4_prepare_160 rfl rfl ?_
            refine zs_bipush (v := 8) C dX4_prepare_161 (by decide) ?_
            obtain ⟨h_31, hok⟩ := hok
            refine sM_place C h_31 dX4_prepare_163 ?_
            exact zs_vret C hr dX4_prepare_164
      · have hok := hok.2 c_5
        refine zs_iinc (k := 2) (v := x2 + 1) (lv' := [(2, .int (x2 + 1)), (0, .ref (ad 0)), (1, .int x1)]) C dX4_prepare_28 rfl rfl (by decide) rfl ?_
        refine zs_goto (tgt := 13) C dX4_prepare_31 (by decide) ?_
        exact zs_sub [1, 2, 0] rfl (ih σ x1 (x2 + 1)  hok)
    · have hok := hok.2 c_3
      refine zs_iload_n (k := 2) C dX4_prepare_34 rfl rfl ?_
      refine zs_bipush (v := 64) C dX4_prepare_35 (by decide) ?_
      refine zs_icmp_ne (tgt := 48) C dX4_prepare_37 (by decide) (fun c_32 => ?_) (fun c_32 => ?_)
      · have hok := hok.1 c_32
        refine zs_aload_n (k := 0) C dX4_prepare_40 rfl rfl ?_
        refine zs_iload_n (k := 1) C dX4_prepare_41 rfl rfl ?_
        refine zs_bipush (v := (-2)) C dX4_prepare_42 (by decide) ?_
        obtain ⟨h_33, hok⟩ := hok
        refine zk_callVv (As := [.int x1, .int (-2)]) (rest := []) C pk_X4_ends (by decide) lkX4_126 (m_X4_ends hJ (d + 1) σ x1 (-2) h_33) zm_recv rfl rfl rfl (Nat.le_of_ble_eq_true rfl) dX4_prepare_44 ?_
        exact zs_vret C hr dX4_prepare_47
      · have hok := hok.2 c_32
        refine zs_aload_n (k := 0) C dX4_prepare_48 rfl rfl ?_
        refine gM_own C lkX4_93 dX4_prepare_49 ?_
        refine zs_iload_n (k := 1) C dX4_prepare_52 rfl rfl ?_
        refine zs_iload_n (k := 2) C dX4_prepare_53 rfl rfl ?_
        obtain ⟨h_34, hok⟩ := hok
        refine sM_own C h_34 dX4_prepare_54 ?_
        refine zs_aload_n (k := 0) C dX4_prepare_55 rfl rfl ?_
        refine gM_sort C lkX4_13 dX4_prepare_56 ?_
        refine zs_iload_n (k := 2) C dX4_prepare_59 rfl rfl ?_
        refine zs_iconst (v := 1) C dX4_prepare_60 (by decide) ?_
        obtain ⟨h_35, hok⟩ := hok
        refine sM_sort C h_35 dX4_prepare_61 ?_
        refine zs_aload_n (k := 0) C dX4_prepare_62 rfl rfl ?_
        refine gM_order C lkX4_17 dX4_prepare_63 ?_
        refine zs_iload_n (k := 2) C dX4_prepare_66 rfl rfl ?_
        refine zs_aload_n (k := 0) C dX4_prepare_67 rfl rfl ?_
        refine zs_iload_n (k := 1) C dX4_prepare_68 rfl rfl ?_
        obtain ⟨h_36, hok⟩ := hok
        refine zk_callVi (As := [.int x1]) (rest := [.int x2, .ref (ad 2)]) C pk_X4_wanted (by decide) lkX4_130 (m_X4_wanted hJ d (zs_u (zs_u σ 22 (x1.toNatClampNeg) x2) 0 (x2.toNatClampNeg) 1) x1 h_36) zm_recv rfl rfl rfl (Nat.le_of_ble_eq_true rfl) dX4_prepare_69 ?_
        obtain ⟨h_37, hok⟩ := hok
        refine sM_order C h_37 dX4_prepare_72 ?_
        refine zs_aload_n (k := 0) C dX4_prepare_73 rfl rfl ?_
        refine gM_keyOf C lkX4_27 dX4_prepare_74 ?_
        refine zs_iload_n (k := 2) C dX4_prepare_77 rfl rfl ?_
        refine zs_iconst (v := (-1)) C dX4_prepare_78 (by decide) ?_
        obtain ⟨h_38, hok⟩ := hok
        refine sM_keyOf C h_38 dX4_prepare_79 ?_
        refine zs_aload_n (k := 0) C dX4_prepare_80 rfl rfl ?_
        refine gM_valueOf C lkX4_30 dX4_prepare_81 ?_
        refine zs_iload_n (k := 2) C dX4_prepare_84 rfl rfl ?_
        refine zs_iconst (v := 0) C dX4_prepare_85 (by decide) ?_
        obtain ⟨h_39, hok⟩ := hok
        refine sM_valueOf C h_39 dX4_prepare_86 ?_
        refine zs_aload_n (k := 0) C dX4_prepare_87 rfl rfl ?_
        refine gM_depth C lkX4_75 dX4_prepare_88 ?_
        refine zs_iload_n (k := 1) C dX4_prepare_91 rfl rfl ?_
        obtain ⟨h_40, hok⟩ := hok
        refine aM_depth C h_40 dX4_prepare_92 ?_
        refine zs_if_ne (tgt := 120) C dX4_prepare_93 (by decide) (fun c_41 => ?_) (fun c_41 => ?_)
        · have hok := hok.1 c_41
          refine zs_aload_n (k := 0) C dX4_prepare_96 rfl rfl ?_
          refine gM_keyOf C lkX4_27 dX4_prepare_97 ?_
          refine zs_iload_n (k := 2) C dX4_prepare_100 rfl rfl ?_
          refine zs_aload_n (k := 0) C dX4_prepare_101 rfl rfl ?_
          refine gM_key C lkX4_57 dX4_prepare_102 ?_
          refine zs_iload_n (k := 1) C dX4_prepare_105 rfl rfl ?_
          obtain ⟨h_42, hok⟩ := hok
          refine aM_key C h_42 dX4_prepare_106 ?_
          obtain ⟨h_43, hok⟩ := hok
          refine sM_keyOf C h_43 dX4_prepare_107 ?_
          refine zs_aload_n (k := 0) C dX4_prepare_108 rfl rfl ?_
          refine gM_valueOf C lkX4_30 dX4_prepare_109 ?_
          refine zs_iload_n (k := 2) C dX4_prepare_112 rfl rfl ?_
          refine zs_aload_n (k := 0) C dX4_prepare_113 rfl rfl ?_
          refine gM_value C lkX4_60 dX4_prepare_114 ?_
          refine zs_iload_n (k := 1) C dX4_prepare_117 rfl rfl ?_
          obtain ⟨h_44, hok⟩ := hok
          refine aM_value C h_44 dX4_prepare_118 ?_
          obtain ⟨h_45, hok⟩ := hok
          refine sM_valueOf C h_45 dX4_prepare_119 ?_
          refine zs_aload_n (k := 0) C dX4_prepare_120 rfl rfl ?_
          refine gM_born C lkX4_33 dX4_prepare_121 ?_
          refine zs_iload_n (k := 2) C dX4_prepare_124 rfl rfl ?_
          refine zs_aload_n (k := 0) C dX4_prepare_125 rfl rfl ?_
          refine gM_era C lkX4_48 dX4_prepare_126 ?_
          obtain ⟨h_46, hok⟩ := hok
          refine sM_born C h_46 dX4_prepare_129 ?_
          refine zs_aload_n (k := 0) C dX4_prepare_130 rfl rfl ?_
          refine gM_died C lkX4_36 dX4_prepare_131 ?_
          refine zs_iload_n (k := 2) C dX4_prepare_134 rfl rfl ?_
          refine zs_iconst (v := 0) C dX4_prepare_135 (by decide) ?_
          obtain ⟨h_47, hok⟩ := hok
          refine sM_died C h_47 dX4_prepare_136 ?_
          refine zs_aload_n (k := 0) C dX4_prepare_137 rfl rfl ?_
          refine gM_next C lkX4_20 dX4_prepare_138 ?_
          refine zs_iload_n (k := 2) C dX4_prepare_141 rfl rfl ?_
          refine zs_aload_n (k := 0) C dX4_prepare_142 rfl rfl ?_
          refine gM_cur C lkX4_84 dX4_prepare_143 ?_
          refine zs_iload_n (k := 1) C dX4_prepare_146 rfl rfl ?_
          obtain ⟨h_48, hok⟩ := hok
          refine aM_cur C h_48 dX4_prepare_147 ?_
          obtain ⟨h_49, hok⟩ := hok
          refine sM_next C h_49 dX4_prepare_148 ?_
          refine zs_aload_n (k := 0) C dX4_prepare_149 rfl rfl ?_
          refine gM_mark C lkX4_23 dX4_prepare_150 ?_
          refine zs_iload_n (k := 2) C dX4_prepare_153 rfl rfl ?_
          refine zs_iconst (v := 0) C dX4_prepare_154 (by decide) ?_
          obtain ⟨h_50, hok⟩ := hok
          refine sM_mark C h_50 (Or.inl rfl) dX4_prepare_155 ?_
          refine zs_aload_n (k := 0) C dX4_prepare_156 rfl rfl ?_
          refine gM_place C lkX4_51 dX4_prepare_157 ?_
          refine zs_iload_n (k := 1) C dX4_prepare_160 rfl rfl ?_
          refine zs_bipush (v := 8) C dX4_prepare_161 (by decide) ?_
          obtain ⟨h_51, hok⟩ := hok
          refine sM_place C h_51 dX4_prepare_163 ?_
          exact zs_vret C hr dX4_prepare_164
        · have hok := hok.2 c_41
          refine zs_aload_n (k := 0) C dX4_prepare_120 rfl rfl ?_
          refine gM_born C lkX4_33 dX4_prepare_121 ?_
          refine zs_iload_n (k := 2) C dX4_prepare_124 rfl rfl ?_
          refine zs_aload_n (k := 0) C dX4_prepare_125 rfl rfl ?_
          refine gM_era C lkX4_48 dX4_prepare_126 ?_
          obtain ⟨h_52, hok⟩ := hok
          refine sM_born C h_52 dX4_prepare_129 ?_
          refine zs_aload_n (k := 0) C dX4_prepare_130 rfl rfl ?_
          refine gM_died C lkX4_36 dX4_prepare_131 ?_
          refine zs_iload_n (k := 2) C dX4_prepare_134 rfl rfl ?_
          refine zs_iconst (v := 0) C dX4_prepare_135 (by decide) ?_
          obtain ⟨h_53, hok⟩ := hok
          refine sM_died C h_53 dX4_prepare_136 ?_
          refine zs_aload_n (k := 0) C dX4_prepare_137 rfl rfl ?_
          refine gM_next C lkX4_20 dX4_prepare_138 ?_
          refine zs_iload_n (k := 2) C dX4_prepare_141 rfl rfl ?_
          refine zs_aload_n (k := 0) C dX4_prepare_142 rfl rfl ?_
          refine gM_cur C lkX4_84 dX4_prepare_143 ?_
          refine zs_iload_n (k := 1) C dX4_prepare_146 rfl rfl ?_
          obtain ⟨h_54, hok⟩ := hok
          refine aM_cur C h_54 dX4_prepare_147 ?_
          obtain ⟨h_55, hok⟩ := hok
          refine sM_next C h_55 dX4_prepare_148 ?_
          refine zs_aload_n (k := 0) C dX4_prepare_149 rfl rfl ?_
          refine gM_mark C lkX4_23 dX4_prepare_150 ?_
          refine zs_iload_n (k := 2) C dX4_prepare_153 rfl rfl ?_
          refine zs_iconst (v := 0) C dX4_prepare_154 (by decide) ?_
          obtain ⟨h_56, hok⟩ := hok
          refine sM_mark C h_56 (Or.inl rfl) dX4_prepare_155 ?_
          refine zs_aload_n (k := 0) C dX4_prepare_156 rfl rfl ?_
          refine gM_place C lkX4_51 dX4_prepare_157 ?_
          refine zs_iload_n (k := 1) C dX4_prepare_160 rfl rfl ?_
          refine zs_bipush (v := 8) C dX4_prepare_161 (by decide) ?_
          obtain ⟨h_57, hok⟩ := hok
          refine sM_place C h_57 dX4_prepare_163 ?_
          exact zs_vret C hr dX4_prepare_164
def fn_X4_prepare (σ : zs_T) (x1 : Int32) : zs_O := (if σ 22 (x1.toNatClampNeg) < 0 then (fn_X4_prepare_L13 65 σ x1 0) else ((zs_u (zs_u (zs_u σ 2 ((σ 22 (x1.toNatClampNeg)).toNatClampNeg) (σ 19 (x1.toNatClampNeg))) 3 ((σ 22 (x1.toNatClampNeg)).toNatClampNeg) 0) 10 (x1.toNatClampNeg) 8), 0))
def ok_X4_prepare (σ : zs_T) (x1 : Int32) : Prop := vp_in x1 4 ∧ ((σ 22 (x1.toNatClampNeg) < 0 → (ok_X4_prepare_L13 65 σ x1 0)) ∧ (¬ (σ 22 (x1.toNatClampNeg) < 0) → vp_in x1 4 ∧ (vp_in (σ 22 (x1.toNatClampNeg)) 64 ∧ (vp_in (σ 22 (x1.toNatClampNeg)) 64 ∧ (vp_in x1 4 ∧ (True))))))
set_option maxHeartbeats 4000000 in
set_option maxRecDepth 100000 in
theorem m_X4_prepare {l : Launch} {D : va_G} {cI cZ : ClassId} {ad : Nat → Nat} (hJ : zs_J 31 ad) (d : Nat) (σ : zs_T) (x1 : Int32) (hok : ok_X4_prepare σ x1) : zs_M l D vwCl (tysM cI cZ) 31 ad (wM cI cZ ad) yX4_prepare (Cond.code yX4_prepare cX4_prepare 3 none :: zw_G) (zw_rm (d + 2)) [.ref (ad 0), .int x1] zs_vv σ (fn_X4_prepare σ x1) := by
  refine zs_ofZ (cc := cX4_prepare) (nL := 3) (ret := none) (lv0 := [(0, .ref (ad 0)), (1, .int x1)]) (by decide) rfl hJ (Nat.le_of_ble_eq_true rfl) rfl ?_
  intro p e s m args below meth c C hr
  unfold ok_X4_prepare at hok
  unfold fn_X4_prepare
  refine zs_aload_n (k := 0) C dX4_prepare_0 rfl rfl ?_
  refine gM_own C lkX4_93 dX4_prepare_1 ?_
  refine zs_iload_n (k := 1) C dX4_prepare_4 rfl rfl ?_
  obtain ⟨h_1, hok⟩ := hok
  refine aM_own C h_1 dX4_prepare_5 ?_
  refine zs_istore_n (lv' := [(2, .int (σ 22 (x1.toNatClampNeg))), (0, .ref (ad 0)), (1, .int x1)]) C dX4_prepare_6 rfl (by decide) rfl ?_
  refine zs_iload_n (k := 0) C dX4_prepare_7 rfl rfl ?_
  refine zs_if_ge (tgt := 137) C dX4_prepare_8 (by decide) (fun c_2 => ?_) (fun c_2 => ?_)
  · have hok := hok.1 c_2
    refine zs_iconst (v := 0) C dX4_prepare_11 (by decide) ?_
    refine zs_istore_n (lv' := [(2, .int 0), (0, .ref (ad 0)), (1, .int x1)]) C dX4_prepare_12 rfl (by decide) rfl ?_
    exact zs_sub [1, 2, 0] rfl (lp_X4_prepare_L13 C hr d 65 σ x1 0  hok)
  · have hok := hok.2 c_2
    refine zs_aload_n (k := 1) C dX4_prepare_137 rfl rfl ?_
    refine gM_next C lkX4_20 dX4_prepare_138 ?_
    refine zs_iload_n (k := 0) C dX4_prepare_141 rfl rfl ?_
    refine zs_aload_n (k := 1) C dX4_prepare_142 rfl rfl ?_
    refine gM_cur C lkX4_84 dX4_prepare_143 ?_
    refine zs_iload_n (k := 2) C dX4_prepare_146 rfl rfl ?_
    obtain ⟨h_58, hok⟩ := hok
    refine aM_cur C h_58 dX4_prepare_147 ?_
    obtain ⟨h_59, hok⟩ := hok
    refine sM_next C h_59 dX4_prepare_148 ?_
    refine zs_aload_n (k := 1) C dX4_prepare_149 rfl rfl ?_
    refine gM_mark C lkX4_23 dX4_prepare_150 ?_
    refine zs_iload_n (k := 0) C dX4_prepare_153 rfl rfl ?_
    refine zs_iconst (v := 0) C dX4_prepare_154 (by decide) ?_
    obtain ⟨h_60, hok⟩ := hok
    refine sM_mark C h_60 (Or.inl rfl) dX4_prepare_155 ?_
    refine zs_aload_n (k := 1) C dX4_prepare_156 rfl rfl ?_
    refine gM_place C lkX4_51 dX4_prepare_157 ?_
    refine zs_iload_n (k := 2) C dX4_prepare_160 rfl rfl ?_
    refine zs_bipush (v := 8) C dX4_prepare_161 (by decide) ?_
    obtain ⟨h_61, hok⟩ := hok
    refine sM_place C h_61 dX4_prepare_163 ?_
    exact zs_vret C hr dX4_prepare_164

def fn_X4_putIn (σ : zs_T) (x1 : Int32) : zs_O := (if (fn_X4_change σ (σ 18 (x1.toNatClampNeg)) (σ 19 (x1.toNatClampNeg)) (σ 22 (x1.toNatClampNeg)) 0).2 = 0 then ((zs_u (fn_X4_change σ (σ 18 (x1.toNatClampNeg)) (σ 19 (x1.toNatClampNeg)) (σ 22 (x1.toNatClampNeg)) 0).1 10 (x1.toNatClampNeg) 3), 0) else (if (zs_u (zs_u (zs_u (fn_X4_change σ (σ 18 (x1.toNatClampNeg)) (σ 19 (x1.toNatClampNeg)) (σ 22 (x1.toNatClampNeg)) 0).1 23 (x1.toNatClampNeg) (((fn_X4_change σ (σ 18 (x1.toNatClampNeg)) (σ 19 (x1.toNatClampNeg)) (σ 22 (x1.toNatClampNeg)) 0).1) 22 (x1.toNatClampNeg))) 22 (x1.toNatClampNeg) (-1)) 10 (x1.toNatClampNeg) 9) 30 (x1.toNatClampNeg) = 0 then ((zs_u (zs_u (zs_u (zs_u (zs_u (fn_X4_change σ (σ 18 (x1.toNatClampNeg)) (σ 19 (x1.toNatClampNeg)) (σ 22 (x1.toNatClampNeg)) 0).1 23 (x1.toNatClampNeg) (((fn_X4_change σ (σ 18 (x1.toNatClampNeg)) (σ 19 (x1.toNatClampNeg)) (σ 22 (x1.toNatClampNeg)) 0).1) 22 (x1.toNatClampNeg))) 22 (x1.toNatClampNeg) (-1)) 10 (x1.toNatClampNeg) 9) 33 0 (((zs_u (zs_u (zs_u (fn_X4_change σ (σ 18 (x1.toNatClampNeg)) (σ 19 (x1.toNatClampNeg)) (σ 22 (x1.toNatClampNeg)) 0).1 23 (x1.toNatClampNeg) (((fn_X4_change σ (σ 18 (x1.toNatClampNeg)) (σ 19 (x1.toNatClampNeg)) (σ 22 (x1.toNatClampNeg)) 0).1) 22 (x1.toNatClampNeg))) 22 (x1.toNatClampNeg) (-1)) 10 (x1.toNatClampNeg) 9) 33 0) + 1)) 10 (x1.toNatClampNeg) 13), 0) else ((zs_u (zs_u (zs_u (fn_X4_change σ (σ 18 (x1.toNatClampNeg)) (σ 19 (x1.toNatClampNeg)) (σ 22 (x1.toNatClampNeg)) 0).1 23 (x1.toNatClampNeg) (((fn_X4_change σ (σ 18 (x1.toNatClampNeg)) (σ 19 (x1.toNatClampNeg)) (σ 22 (x1.toNatClampNeg)) 0).1) 22 (x1.toNatClampNeg))) 22 (x1.toNatClampNeg) (-1)) 10 (x1.toNatClampNeg) 9), 0)))
def ok_X4_putIn (σ : zs_T) (x1 : Int32) : Prop := vp_in x1 4 ∧ (vp_in x1 4 ∧ (vp_in x1 4 ∧ (ok_X4_change σ (σ 18 (x1.toNatClampNeg)) (σ 19 (x1.toNatClampNeg)) (σ 22 (x1.toNatClampNeg)) 0 ∧ (((fn_X4_change σ (σ 18 (x1.toNatClampNeg)) (σ 19 (x1.toNatClampNeg)) (σ 22 (x1.toNatClampNeg)) 0).2 = 0 → vp_in x1 4 ∧ (True)) ∧ (¬ ((fn_X4_change σ (σ 18 (x1.toNatClampNeg)) (σ 19 (x1.toNatClampNeg)) (σ 22 (x1.toNatClampNeg)) 0).2 = 0) → vp_in x1 4 ∧ (vp_in x1 4 ∧ (vp_in x1 4 ∧ (vp_in x1 4 ∧ (vp_in x1 4 ∧ (((zs_u (zs_u (zs_u (fn_X4_change σ (σ 18 (x1.toNatClampNeg)) (σ 19 (x1.toNatClampNeg)) (σ 22 (x1.toNatClampNeg)) 0).1 23 (x1.toNatClampNeg) (((fn_X4_change σ (σ 18 (x1.toNatClampNeg)) (σ 19 (x1.toNatClampNeg)) (σ 22 (x1.toNatClampNeg)) 0).1) 22 (x1.toNatClampNeg))) 22 (x1.toNatClampNeg) (-1)) 10 (x1.toNatClampNeg) 9) 30 (x1.toNatClampNeg) = 0 → vp_in x1 4 ∧ (True)) ∧ (¬ ((zs_u (zs_u (zs_u (fn_X4_change σ (σ 18 (x1.toNatClampNeg)) (σ 19 (x1.toNatClampNeg)) (σ 22 (x1.toNatClampNeg)) 0).1 23 (x1.toNatClampNeg) (((fn_X4_change σ (σ 18 (x1.toNatClampNeg)) (σ 19 (x1.toNatClampNeg)) (σ 22 (x1.toNatClampNeg)) 0).1) 22 (x1.toNatClampNeg))) 22 (x1.toNatClampNeg) (-1)) 10 (x1.toNatClampNeg) 9) 30 (x1.toNatClampNeg) = 0) → True)))))))))))
set_option maxHeartbeats 4000000 in
set_option maxRecDepth 100000 in
theorem m_X4_putIn {l : Launch} {D : va_G} {cI cZ : ClassId} {ad : Nat → Nat} (hJ : zs_J 31 ad) (d : Nat) (σ : zs_T) (x1 : Int32) (hok : ok_X4_putIn σ x1) : zs_M l D vwCl (tysM cI cZ) 31 ad (wM cI cZ ad) yX4_putIn (Cond.code yX4_putIn cX4_putIn 2 none :: zw_G) (zw_rm (d + 1)) [.ref (ad 0), .int x1] zs_vv σ (fn_X4_putIn σ x1) := by
  refine zs_ofZ (cc := cX4_putIn) (nL := 2) (ret := none) (lv0 := [(0, .ref (ad 0)), (1, .int x1)]) (by decide) rfl hJ (Nat.le_of_ble_eq_true rfl) rfl ?_
  intro p e s m args below meth c C hr
  unfold ok_X4_putIn at hok
  unfold fn_X4_putIn
  refine zs_aload_n (k := 0) C dX4_putIn_0 rfl rfl ?_
  refine zs_aload_n (k := 0) C dX4_putIn_1 rfl rfl ?_
  refine gM_prev C lkX4_81 dX4_putIn_2 ?_
  refine zs_iload_n (k := 1) C dX4_putIn_5 rfl rfl ?_
  obtain ⟨h_1, hok⟩ := hok
  refine aM_prev C h_1 dX4_putIn_6 ?_
  refine zs_aload_n (k := 0) C dX4_putIn_7 rfl rfl ?_
  refine gM_cur C lkX4_84 dX4_putIn_8 ?_
  refine zs_iload_n (k := 1) C dX4_putIn_11 rfl rfl ?_
  obtain ⟨h_2, hok⟩ := hok
  refine aM_cur C h_2 dX4_putIn_12 ?_
  refine zs_aload_n (k := 0) C dX4_putIn_13 rfl rfl ?_
  refine gM_own C lkX4_93 dX4_putIn_14 ?_
  refine zs_iload_n (k := 1) C dX4_putIn_17 rfl rfl ?_
  obtain ⟨h_3, hok⟩ := hok
  refine aM_own C h_3 dX4_putIn_18 ?_
  refine zs_iconst (v := 0) C dX4_putIn_19 (by decide) ?_
  obtain ⟨h_4, hok⟩ := hok
  refine zk_callVi (As := [.int (σ 18 (x1.toNatClampNeg)), .int (σ 19 (x1.toNatClampNeg)), .int (σ 22 (x1.toNatClampNeg)), .int 0]) (rest := []) C pk_X4_change (by decide) lkX4_137 (m_X4_change hJ d σ (σ 18 (x1.toNatClampNeg)) (σ 19 (x1.toNatClampNeg)) (σ 22 (x1.toNatClampNeg)) 0 h_4) zm_recv rfl rfl rfl (Nat.le_of_ble_eq_true rfl) dX4_putIn_20 ?_
  refine zs_if_ne (tgt := 34) C dX4_putIn_23 (by decide) (fun c_5 => ?_) (fun c_5 => ?_)
  · have hok := hok.1 c_5
    refine zs_aload_n (k := 0) C dX4_putIn_26 rfl rfl ?_
    refine gM_place C lkX4_51 dX4_putIn_27 ?_
    refine zs_iload_n (k := 1) C dX4_putIn_30 rfl rfl ?_
    refine zs_iconst (v := 3) C dX4_putIn_31 (by decide) ?_
    obtain ⟨h_6, hok⟩ := hok
    refine sM_place C h_6 dX4_putIn_32 ?_
    exact zs_vret C hr dX4_putIn_33
  · have hok := hok.2 c_5
    refine zs_aload_n (k := 0) C dX4_putIn_34 rfl rfl ?_
    refine gM_given C lkX4_96 dX4_putIn_35 ?_
    refine zs_iload_n (k := 1) C dX4_putIn_38 rfl rfl ?_
    refine zs_aload_n (k := 0) C dX4_putIn_39 rfl rfl ?_
    refine gM_own C lkX4_93 dX4_putIn_40 ?_
    refine zs_iload_n (k := 1) C dX4_putIn_43 rfl rfl ?_
    obtain ⟨h_7, hok⟩ := hok
    refine aM_own C h_7 dX4_putIn_44 ?_
    obtain ⟨h_8, hok⟩ := hok
    refine sM_given C h_8 dX4_putIn_45 ?_
    refine zs_aload_n (k := 0) C dX4_putIn_46 rfl rfl ?_
    refine gM_own C lkX4_93 dX4_putIn_47 ?_
    refine zs_iload_n (k := 1) C dX4_putIn_50 rfl rfl ?_
    refine zs_iconst (v := (-1)) C dX4_putIn_51 (by decide) ?_
    obtain ⟨h_9, hok⟩ := hok
    refine sM_own C h_9 dX4_putIn_52 ?_
    refine zs_aload_n (k := 0) C dX4_putIn_53 rfl rfl ?_
    refine gM_place C lkX4_51 dX4_putIn_54 ?_
    refine zs_iload_n (k := 1) C dX4_putIn_57 rfl rfl ?_
    refine zs_bipush (v := 9) C dX4_putIn_58 (by decide) ?_
    obtain ⟨h_10, hok⟩ := hok
    refine sM_place C h_10 dX4_putIn_60 ?_
    refine zs_aload_n (k := 0) C dX4_putIn_61 rfl rfl ?_
    refine gM_depth C lkX4_75 dX4_putIn_62 ?_
    refine zs_iload_n (k := 1) C dX4_putIn_65 rfl rfl ?_
    obtain ⟨h_11, hok⟩ := hok
    refine aM_depth C h_11 dX4_putIn_66 ?_
    refine zs_if_ne (tgt := 88) C dX4_putIn_67 (by decide) (fun c_12 => ?_) (fun c_12 => ?_)
    · have hok := hok.1 c_12
      refine zs_aload_n (k := 0) C dX4_putIn_70 rfl rfl ?_
      refine zs_dup C dX4_putIn_71 rfl ?_
      refine gM_count C lkX4_45 dX4_putIn_72 ?_
      refine zs_iconst (v := 1) C dX4_putIn_75 (by decide) ?_
      refine zs_iadd C dX4_putIn_76 ?_
      refine pM_count C lkX4_45 dX4_putIn_77 ?_
      refine zs_aload_n (k := 0) C dX4_putIn_80 rfl rfl ?_
      refine gM_place C lkX4_51 dX4_putIn_81 ?_
      refine zs_iload_n (k := 1) C dX4_putIn_84 rfl rfl ?_
      refine zs_bipush (v := 13) C dX4_putIn_85 (by decide) ?_
      obtain ⟨h_13, hok⟩ := hok
      refine sM_place C h_13 dX4_putIn_87 ?_
      exact zs_vret C hr dX4_putIn_88
    · have hok := hok.2 c_12
      exact zs_vret C hr dX4_putIn_88

def fb_X4_giveBack_L33 : Nat → zs_T → Int32 → Int32 → Int32 → Int32 → Int32 → Int32 → Int32
  | 0, _, _, _, _, _, _, _ => 0
  | n + 1, σ, x1, x2, x3, x4, x5, x6 => (if x6 < 4 then (if x5 = 0 then (if σ 10 (x6.toNatClampNeg) = 0 then (fb_X4_giveBack_L33 n σ x1 x2 x3 x4 0 (x6 + 1)) else (if σ 7 (x4.toNatClampNeg) < σ 14 (x6.toNatClampNeg) then (fb_X4_giveBack_L33 n σ x1 x2 x3 x4 0 (x6 + 1)) else (if σ 15 (x6.toNatClampNeg) < σ 6 (x4.toNatClampNeg) then (fb_X4_giveBack_L33 n σ x1 x2 x3 x4 0 (x6 + 1)) else (fb_X4_giveBack_L33 n σ x1 x2 x3 x4 1 (x6 + 1))))) else (fb_X4_giveBack_L33 n σ x1 x2 x3 x4 1 (x6 + 1))) else x5)
def ok_X4_giveBack_L33 : Nat → zs_T → Int32 → Int32 → Int32 → Int32 → Int32 → Int32 → Prop
  | 0, _, _, _, _, _, _, _ => False
  | n + 1, σ, x1, x2, x3, x4, x5, x6 => (x6 < 4 → (x5 = 0 → vp_in x6 4 ∧ ((σ 10 (x6.toNatClampNeg) = 0 → (ok_X4_giveBack_L33 n σ x1 x2 x3 x4 0 (x6 + 1))) ∧ (¬ (σ 10 (x6.toNatClampNeg) = 0) → vp_in x6 4 ∧ (vp_in x4 64 ∧ ((σ 7 (x4.toNatClampNeg) < σ 14 (x6.toNatClampNeg) → (ok_X4_giveBack_L33 n σ x1 x2 x3 x4 0 (x6 + 1))) ∧ (¬ (σ 7 (x4.toNatClampNeg) < σ 14 (x6.toNatClampNeg)) → vp_in x6 4 ∧ (vp_in x4 64 ∧ ((σ 15 (x6.toNatClampNeg) < σ 6 (x4.toNatClampNeg) → (ok_X4_giveBack_L33 n σ x1 x2 x3 x4 0 (x6 + 1))) ∧ (¬ (σ 15 (x6.toNatClampNeg) < σ 6 (x4.toNatClampNeg)) → (ok_X4_giveBack_L33 n σ x1 x2 x3 x4 1 (x6 + 1))))))))))) ∧ (¬ (x5 = 0) → (ok_X4_giveBack_L33 n σ x1 x2 x3 x4 1 (x6 + 1)))) ∧ (¬ (x6 < 4) → True)
set_option maxHeartbeats 4000000 in
set_option maxRecDepth 100000 in
theorem bl_X4_giveBack_L33 {p : Program} {l : Launch} {e : Env} {s : State} {m : MethodId} {args : Array Value} {below : List Frame} {meth : Method} {c : Code} {D : va_G} {cI cZ : ClassId} {ad : Nat → Nat} {out : zs_O} (C : zs_C p s m args meth c cX4_giveBack 7 (Cond.code yX4_giveBack cX4_giveBack 7 none :: zw_G) yX4_giveBack.cls D vwCl (tysM cI cZ) 31 ad) (hr : meth.sig.returnType = none) (d : Nat) : ∀ (n : Nat) (σ : zs_T) (x1 : Int32) (x2 : Int32) (x3 : Int32) (x4 : Int32) (x5 : Int32) (x6 : Int32), ok_X4_giveBack_L33 n σ x1 x2 x3 x4 x5 x6 → zs_Z p l e (zw_rm (d)) s m args below meth c D vwCl 31 ad (wM cI cZ ad) 7 zs_vv out σ 101 [(0, .ref (ad 0)), (1, .int x1), (2, .int x2), (3, .int x3), (4, .int x4), (5, .int (fb_X4_giveBack_L33 n σ x1 x2 x3 x4 x5 x6))] [] → zs_Z p l e (zw_rm (d)) s m args below meth c D vwCl 31 ad (wM cI cZ ad) 7 zs_vv out σ 33 [(0, .ref (ad 0)), (1, .int x1), (2, .int x2), (3, .int x3), (4, .int x4), (5, .int x5), (6, .int x6)] [] := by
  have hJ := C.2.2.1
  intro n
  induction n with
  | zero => intro σ x1 x2 x3 x4 x5 x6  hok; exact hok.elim
  | succ n ih =>
    intro σ x1 x2 x3 x4 x5 x6  hok kk
    rw [ok_X4_giveBack_L33] at hok
    rw [fb_X4_giveBack_L33] at kk
    refine zs_iload (k := 6) C dX4_giveBack_33 rfl ?_
    refine zs_iconst (v := 4) C dX4_giveBack_35 (by decide) ?_
    refine zs_icmp_geQ (tgt := 101) C dX4_giveBack_36 (by decide) (fun c_4 => ?_) (fun c_4 => ?_)
    · rw [if_pos c_4] at kk
      have hok := hok.1 c_4
      refine zs_iload (k := 5) C dX4_giveBack_39 rfl ?_
      refine zs_if_neQ (tgt := 88) C dX4_giveBack_41 (by decide) (fun c_5 => ?_) (fun c_5 => ?_)
      · rw [if_pos c_5] at kk
        have hok := hok.1 c_5
        refine zs_aload_n (k := 0) C dX4_giveBack_44 rfl rfl ?_
        refine gM_place C lkX4_51 dX4_giveBack_45 ?_
        refine zs_iload (k := 6) C dX4_giveBack_48 rfl ?_
        obtain ⟨h_6, hok⟩ := hok
        refine aM_place C h_6 dX4_giveBack_50 ?_
        refine zs_if_eqQ (tgt := 92) C dX4_giveBack_51 (by decide) (fun c_7 => ?_) (fun c_7 => ?_)
        · rw [if_pos c_7] at kk
          have hok := hok.1 c_7
          refine zs_iconst (v := 0) C dX4_giveBack_92 (by decide) ?_
          refine zs_istore (lv' := [(5, .int 0), (0, .ref (ad 0)), (1, .int x1), (2, .int x2), (3, .int x3), (4, .int x4), (6, .int x6)]) C dX4_giveBack_93 (by decide) rfl ?_
          refine zs_iinc (k := 6) (v := x6 + 1) (lv' := [(6, .int (x6 + 1)), (5, .int 0), (0, .ref (ad 0)), (1, .int x1), (2, .int x2), (3, .int x3), (4, .int x4)]) C dX4_giveBack_95 rfl rfl (by decide) rfl ?_
          refine zs_goto (tgt := 33) C dX4_giveBack_98 (by decide) ?_
          exact zs_sub [2, 3, 4, 5, 6, 1, 0] rfl (ih σ x1 x2 x3 x4 0 (x6 + 1)  hok kk)
        · rw [if_neg c_7] at kk
          have hok := hok.2 c_7
          refine zs_aload_n (k := 0) C dX4_giveBack_54 rfl rfl ?_
          refine gM_low C lkX4_63 dX4_giveBack_55 ?_
          refine zs_iload (k := 6) C dX4_giveBack_58 rfl ?_
          obtain ⟨h_8, hok⟩ := hok
          refine aM_low C h_8 dX4_giveBack_60 ?_
          refine zs_aload_n (k := 0) C dX4_giveBack_61 rfl rfl ?_
          refine gM_died C lkX4_36 dX4_giveBack_62 ?_
          refine zs_iload (k := 4) C dX4_giveBack_65 rfl ?_
          obtain ⟨h_9, hok⟩ := hok
          refine aM_died C h_9 dX4_giveBack_67 ?_
          refine zs_icmp_gtQ (tgt := 92) C dX4_giveBack_68 (by decide) (fun c_10 => ?_) (fun c_10 => ?_)
          · rw [if_pos c_10] at kk
            have hok := hok.1 c_10
            refine zs_iconst (v := 0) C dX4_giveBack_92 (by decide) ?_
            refine zs_istore (lv' := [(5, .int 0), (0, .ref (ad 0)), (1, .int x1), (2, .int x2), (3, .int x3), (4, .int x4), (6, .int x6)]) C dX4_giveBack_93 (by decide) rfl ?_
            refine zs_iinc (k := 6) (v := x6 + 1) (lv' := [(6, .int (x6 + 1)), (5, .int 0), (0, .ref (ad 0)), (1, .int x1), (2, .int x2), (3, .int x3), (4, .int x4)]) C dX4_giveBack_95 rfl rfl (by decide) rfl ?_
            refine zs_goto (tgt := 33) C dX4_giveBack_98 (by decide) ?_
            exact zs_sub [2, 3, 4, 5, 6, 1, 0] rfl (ih σ x1 x2 x3 x4 0 (x6 + 1)  hok kk)
          · rw [if_neg c_10] at kk
            have hok := hok.2 c_10
            refine zs_aload_n (k := 0) C dX4_giveBack_71 rfl rfl ?_
            refine gM_high C lkX4_66 dX4_giveBack_72 ?_
            refine zs_iload (k := 6) C dX4_giveBack_75 rfl ?_
            obtain ⟨h_11, hok⟩ := hok
            refine aM_high C h_11 dX4_giveBack_77 ?_
            refine zs_aload_n (k := 0) C dX4_giveBack_78 rfl rfl ?_
            refine gM_born C lkX4_33 dX4_giveBack_79 ?_
            refine zs_iload (k := 4) C dX4_giveBack_82 rfl ?_
            obtain ⟨h_12, hok⟩ := hok
            refine aM_born C h_12 dX4_giveBack_84 ?_
            refine zs_icmp_ltQ (tgt := 92) C dX4_giveBack_85 (by decide) (fun c_13 => ?_) (fun c_13 => ?_)
            · rw [if_pos c_13] at kk
              have hok := hok.1 c_13
              refine zs_iconst (v := 0) C dX4_giveBack_92 (by decide) ?_
              refine zs_istore (lv' := [(5, .int 0), (0, .ref (ad 0)), (1, .int x1), (2, .int x2), (3, .int x3), (4, .int x4), (6, .int x6)]) C dX4_giveBack_93 (by decide) rfl ?_
              refine zs_iinc (k := 6) (v := x6 + 1) (lv' := [(6, .int (x6 + 1)), (5, .int 0), (0, .ref (ad 0)), (1, .int x1), (2, .int x2), (3, .int x3), (4, .int x4)]) C dX4_giveBack_95 rfl rfl (by decide) rfl ?_
              refine zs_goto (tgt := 33) C dX4_giveBack_98 (by decide) ?_
              exact zs_sub [2, 3, 4, 5, 6, 1, 0] rfl (ih σ x1 x2 x3 x4 0 (x6 + 1)  hok kk)
            · rw [if_neg c_13] at kk
              have hok := hok.2 c_13
              refine zs_iconst (v := 1) C dX4_giveBack_88 (by decide) ?_
              refine zs_goto (tgt := 93) C dX4_giveBack_89 (by decide) ?_
              refine zs_istore (lv' := [(5, .int 1), (0, .ref (ad 0)), (1, .int x1), (2, .int x2), (3, .int x3), (4, .int x4), (6, .int x6)]) C dX4_giveBack_93 (by decide) rfl ?_
              refine zs_iinc (k := 6) (v := x6 + 1) (lv' := [(6, .int (x6 + 1)), (5, .int 1), (0, .ref (ad 0)), (1, .int x1), (2, .int x2), (3, .int x3), (4, .int x4)]) C dX4_giveBack_95 rfl rfl (by decide) rfl ?_
              refine zs_goto (tgt := 33) C dX4_giveBack_98 (by decide) ?_
              exact zs_sub [2, 3, 4, 5, 6, 1, 0] rfl (ih σ x1 x2 x3 x4 1 (x6 + 1)  hok kk)
      · rw [if_neg c_5] at kk
        have hok := hok.2 c_5
        refine zs_iconst (v := 1) C dX4_giveBack_88 (by decide) ?_
        refine zs_goto (tgt := 93) C dX4_giveBack_89 (by decide) ?_
        refine zs_istore (lv' := [(5, .int 1), (0, .ref (ad 0)), (1, .int x1), (2, .int x2), (3, .int x3), (4, .int x4), (6, .int x6)]) C dX4_giveBack_93 (by decide) rfl ?_
        refine zs_iinc (k := 6) (v := x6 + 1) (lv' := [(6, .int (x6 + 1)), (5, .int 1), (0, .ref (ad 0)), (1, .int x1), (2, .int x2), (3, .int x3), (4, .int x4)]) C dX4_giveBack_95 rfl rfl (by decide) rfl ?_
        refine zs_goto (tgt := 33) C dX4_giveBack_98 (by decide) ?_
        exact zs_sub [2, 3, 4, 5, 6, 1, 0] rfl (ih σ x1 x2 x3 x4 1 (x6 + 1)  hok kk)
    · rw [if_neg c_4] at kk
      have hok := hok.2 c_4
      exact zs_sub [0, 1, 2, 3, 4, 5] rfl kk
def fn_X4_giveBack_L4 : Nat → zs_T → Int32 → Int32 → Int32 → zs_O
  | 0, σ, _, _, _ => (σ, 0)
  | n + 1, σ, x1, x2, x3 => (if x3 < σ 29 (x1.toNatClampNeg) then (if fb_X4_giveBack_L33 5 σ x1 x2 x3 (σ 28 (((64 * x1) + x3).toNatClampNeg)) 0 0 = 0 then (fn_X4_giveBack_L4 n (zs_u σ 0 ((σ 28 (((64 * x1) + x3).toNatClampNeg)).toNatClampNeg) 0) x1 x2 (x3 + 1)) else (fn_X4_giveBack_L4 n (zs_u σ 28 (((64 * x1) + x2).toNatClampNeg) (σ 28 (((64 * x1) + x3).toNatClampNeg))) x1 (x2 + 1) (x3 + 1))) else ((zs_u σ 29 (x1.toNatClampNeg) x2), 0))
def ok_X4_giveBack_L4 : Nat → zs_T → Int32 → Int32 → Int32 → Prop
  | 0, _, _, _, _ => False
  | n + 1, σ, x1, x2, x3 => vp_in x1 4 ∧ ((x3 < σ 29 (x1.toNatClampNeg) → vp_in ((64 * x1) + x3) 256 ∧ (ok_X4_giveBack_L33 5 σ x1 x2 x3 (σ 28 (((64 * x1) + x3).toNatClampNeg)) 0 0 ∧ ((fb_X4_giveBack_L33 5 σ x1 x2 x3 (σ 28 (((64 * x1) + x3).toNatClampNeg)) 0 0 = 0 → vp_in (σ 28 (((64 * x1) + x3).toNatClampNeg)) 64 ∧ ((ok_X4_giveBack_L4 n (zs_u σ 0 ((σ 28 (((64 * x1) + x3).toNatClampNeg)).toNatClampNeg) 0) x1 x2 (x3 + 1)))) ∧ (¬ (fb_X4_giveBack_L33 5 σ x1 x2 x3 (σ 28 (((64 * x1) + x3).toNatClampNeg)) 0 0 = 0) → vp_in ((64 * x1) + x2) 256 ∧ ((ok_X4_giveBack_L4 n (zs_u σ 28 (((64 * x1) + x2).toNatClampNeg) (σ 28 (((64 * x1) + x3).toNatClampNeg))) x1 (x2 + 1) (x3 + 1))))))) ∧ (¬ (x3 < σ 29 (x1.toNatClampNeg)) → vp_in x1 4 ∧ (True)))
set_option maxHeartbeats 4000000 in
set_option maxRecDepth 100000 in
theorem lp_X4_giveBack_L4 {p : Program} {l : Launch} {e : Env} {s : State} {m : MethodId} {args : Array Value} {below : List Frame} {meth : Method} {c : Code} {D : va_G} {cI cZ : ClassId} {ad : Nat → Nat} (C : zs_C p s m args meth c cX4_giveBack 7 (Cond.code yX4_giveBack cX4_giveBack 7 none :: zw_G) yX4_giveBack.cls D vwCl (tysM cI cZ) 31 ad) (hr : meth.sig.returnType = none) (d : Nat) : ∀ (n : Nat) (σ : zs_T) (x1 : Int32) (x2 : Int32) (x3 : Int32), ok_X4_giveBack_L4 n σ x1 x2 x3 → zs_Z p l e (zw_rm (d)) s m args below meth c D vwCl 31 ad (wM cI cZ ad) 7 zs_vv (fn_X4_giveBack_L4 n σ x1 x2 x3) σ 4 [(0, .ref (ad 0)), (1, .int x1), (2, .int x2), (3, .int x3)] [] := by
  have hJ := C.2.2.1
  intro n
  induction n with
  | zero => intro σ x1 x2 x3  hok; exact hok.elim
  | succ n ih =>
    intro σ x1 x2 x3  hok
    rw [ok_X4_giveBack_L4] at hok
    rw [fn_X4_giveBack_L4]
    refine zs_iload_n (k := 3) C dX4_giveBack_4 rfl rfl ?_
    refine zs_aload_n (k := 0) C dX4_giveBack_5 rfl rfl ?_
    refine gM_rows C lkX4_108 dX4_giveBack_6 ?_
    refine zs_iload_n (k := 1) C dX4_giveBack_9 rfl rfl ?_
    obtain ⟨h_1, hok⟩ := hok
    refine aM_rows C h_1 dX4_giveBack_10 ?_
    refine zs_icmp_ge (tgt := 139) C dX4_giveBack_11 (by decide) (fun c_2 => ?_) (fun c_2 => ?_)
    · have hok := hok.1 c_2
      refine zs_aload_n (k := 0) C dX4_giveBack_14 rfl rfl ?_
      refine gM_row C lkX4_105 dX4_giveBack_15 ?_
      refine zs_bipush (v := 64) C dX4_giveBack_18 (by decide) ?_
      refine zs_iload_n (k := 1) C dX4_giveBack_20 rfl rfl ?_
      refine zs_imul C dX4_giveBack_21 ?_
      refine zs_iload_n (k := 3) C dX4_giveBack_22 rfl rfl ?_
      refine zs_iadd C dX4_giveBack_23 ?_
      obtain ⟨h_3, hok⟩ := hok
      refine aM_row C h_3 dX4_giveBack_24 ?_
      refine zs_istore (lv' := [(4, .int (σ 28 (((64 * x1) + x3).toNatClampNeg))), (0, .ref (ad 0)), (1, .int x1), (2, .int x2), (3, .int x3)]) C dX4_giveBack_25 (by decide) rfl ?_
      refine zs_iconst (v := 0) C dX4_giveBack_27 (by decide) ?_
      refine zs_istore (lv' := [(5, .int 0), (4, .int (σ 28 (((64 * x1) + x3).toNatClampNeg))), (0, .ref (ad 0)), (1, .int x1), (2, .int x2), (3, .int x3)]) C dX4_giveBack_28 (by decide) rfl ?_
      refine zs_iconst (v := 0) C dX4_giveBack_30 (by decide) ?_
      refine zs_istore (lv' := [(6, .int 0), (5, .int 0), (4, .int (σ 28 (((64 * x1) + x3).toNatClampNeg))), (0, .ref (ad 0)), (1, .int x1), (2, .int x2), (3, .int x3)]) C dX4_giveBack_31 (by decide) rfl ?_
      obtain ⟨h_14, hok⟩ := hok
      refine zs_sub [3, 4, 5, 6, 2, 1, 0] rfl (bl_X4_giveBack_L33 C hr d 5 σ x1 x2 x3 (σ 28 (((64 * x1) + x3).toNatClampNeg)) 0 0  h_14 ?_)
      refine zs_iload (k := 5) C dX4_giveBack_101 rfl ?_
      refine zs_if_eq (tgt := 125) C dX4_giveBack_103 (by decide) (fun c_15 => ?_) (fun c_15 => ?_)
      · have hok := hok.1 c_15
        refine zs_aload_n (k := 0) C dX4_giveBack_125 rfl rfl ?_
        refine gM_sort C lkX4_13 dX4_giveBack_126 ?_
        refine zs_iload (k := 4) C dX4_giveBack_129 rfl ?_
        refine zs_iconst (v := 0) C dX4_giveBack_131 (by decide) ?_
        obtain ⟨h_16, hok⟩ := hok
        refine sM_sort C h_16 dX4_giveBack_132 ?_
        refine zs_iinc (k := 3) (v := x3 + 1) (lv' := [(3, .int (x3 + 1)), (0, .ref (ad 0)), (1, .int x1), (2, .int x2), (4, .int (σ 28 (((64 * x1) + x3).toNatClampNeg))), (5, .int (fb_X4_giveBack_L33 5 σ x1 x2 x3 (σ 28 (((64 * x1) + x3).toNatClampNeg)) 0 0))]) C dX4_giveBack_133 rfl rfl (by decide) rfl ?_
        refine zs_goto (tgt := 4) C dX4_giveBack_136 (by decide) ?_
        exact zs_sub [1, 2, 3, 0] rfl (ih (zs_u σ 0 ((σ 28 (((64 * x1) + x3).toNatClampNeg)).toNatClampNeg) 0) x1 x2 (x3 + 1)  hok)
      · have hok := hok.2 c_15
        refine zs_aload_n (k := 0) C dX4_giveBack_106 rfl rfl ?_
        refine gM_row C lkX4_105 dX4_giveBack_107 ?_
        refine zs_bipush (v := 64) C dX4_giveBack_110 (by decide) ?_
        refine zs_iload_n (k := 1) C dX4_giveBack_112 rfl rfl ?_
        refine zs_imul C dX4_giveBack_113 ?_
        refine zs_iload_n (k := 2) C dX4_giveBack_114 rfl rfl ?_
        refine zs_iadd C dX4_giveBack_115 ?_
        refine zs_iload (k := 4) C dX4_giveBack_116 rfl ?_
        obtain ⟨h_17, hok⟩ := hok
        refine sM_row C h_17 dX4_giveBack_118 ?_
        refine zs_iinc (k := 2) (v := x2 + 1) (lv' := [(2, .int (x2 + 1)), (0, .ref (ad 0)), (1, .int x1), (3, .int x3), (4, .int (σ 28 (((64 * x1) + x3).toNatClampNeg))), (5, .int (fb_X4_giveBack_L33 5 σ x1 x2 x3 (σ 28 (((64 * x1) + x3).toNatClampNeg)) 0 0))]) C dX4_giveBack_119 rfl rfl (by decide) rfl ?_
        refine zs_goto (tgt := 133) C dX4_giveBack_122 (by decide) ?_
        refine zs_iinc (k := 3) (v := x3 + 1) (lv' := [(3, .int (x3 + 1)), (2, .int (x2 + 1)), (0, .ref (ad 0)), (1, .int x1), (4, .int (σ 28 (((64 * x1) + x3).toNatClampNeg))), (5, .int (fb_X4_giveBack_L33 5 σ x1 x2 x3 (σ 28 (((64 * x1) + x3).toNatClampNeg)) 0 0))]) C dX4_giveBack_133 rfl rfl (by decide) rfl ?_
        refine zs_goto (tgt := 4) C dX4_giveBack_136 (by decide) ?_
        exact zs_sub [2, 3, 1, 0] rfl (ih (zs_u σ 28 (((64 * x1) + x2).toNatClampNeg) (σ 28 (((64 * x1) + x3).toNatClampNeg))) x1 (x2 + 1) (x3 + 1)  hok)
    · have hok := hok.2 c_2
      refine zs_aload_n (k := 0) C dX4_giveBack_139 rfl rfl ?_
      refine gM_rows C lkX4_108 dX4_giveBack_140 ?_
      refine zs_iload_n (k := 1) C dX4_giveBack_143 rfl rfl ?_
      refine zs_iload_n (k := 2) C dX4_giveBack_144 rfl rfl ?_
      obtain ⟨h_18, hok⟩ := hok
      refine sM_rows C h_18 dX4_giveBack_145 ?_
      exact zs_vret C hr dX4_giveBack_146
def fn_X4_giveBack (σ : zs_T) (x1 : Int32) : zs_O := (fn_X4_giveBack_L4 65 σ x1 0 0)
def ok_X4_giveBack (σ : zs_T) (x1 : Int32) : Prop := (ok_X4_giveBack_L4 65 σ x1 0 0)
set_option maxHeartbeats 4000000 in
set_option maxRecDepth 100000 in
theorem m_X4_giveBack {l : Launch} {D : va_G} {cI cZ : ClassId} {ad : Nat → Nat} (hJ : zs_J 31 ad) (d : Nat) (σ : zs_T) (x1 : Int32) (hok : ok_X4_giveBack σ x1) : zs_M l D vwCl (tysM cI cZ) 31 ad (wM cI cZ ad) yX4_giveBack (Cond.code yX4_giveBack cX4_giveBack 7 none :: zw_G) (zw_rm (d)) [.ref (ad 0), .int x1] zs_vv σ (fn_X4_giveBack σ x1) := by
  refine zs_ofZ (cc := cX4_giveBack) (nL := 7) (ret := none) (lv0 := [(0, .ref (ad 0)), (1, .int x1)]) (by decide) rfl hJ (Nat.le_of_ble_eq_true rfl) rfl ?_
  intro p e s m args below meth c C hr
  unfold ok_X4_giveBack at hok
  unfold fn_X4_giveBack
  refine zs_iconst (v := 0) C dX4_giveBack_0 (by decide) ?_
  refine zs_istore_n (lv' := [(2, .int 0), (0, .ref (ad 0)), (1, .int x1)]) C dX4_giveBack_1 rfl (by decide) rfl ?_
  refine zs_iconst (v := 0) C dX4_giveBack_2 (by decide) ?_
  refine zs_istore_n (lv' := [(3, .int 0), (2, .int 0), (0, .ref (ad 0)), (1, .int x1)]) C dX4_giveBack_3 rfl (by decide) rfl ?_
  exact zs_sub [2, 3, 1, 0] rfl (lp_X4_giveBack_L4 C hr d 65 σ x1 0 0  hok)
