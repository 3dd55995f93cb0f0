def fn_X4_oneStep (σ : zs_T) (x1 : Int32) : zs_O := (if σ 10 (x1.toNatClampNeg) = 1 then ((zs_u (zs_u (zs_u (zs_u (zs_u σ 14 (x1.toNatClampNeg) (σ 34 0)) 15 (x1.toNatClampNeg) ((zs_u σ 14 (x1.toNatClampNeg) (σ 34 0)) 34 0)) 16 (x1.toNatClampNeg) ((fr_X4_hash (zs_u (zs_u σ 14 (x1.toNatClampNeg) (σ 34 0)) 15 (x1.toNatClampNeg) ((zs_u σ 14 (x1.toNatClampNeg) (σ 34 0)) 34 0)) ((zs_u (zs_u σ 14 (x1.toNatClampNeg) (σ 34 0)) 15 (x1.toNatClampNeg) ((zs_u σ 14 (x1.toNatClampNeg) (σ 34 0)) 34 0)) 12 (x1.toNatClampNeg))) - (fr_X4_hash (zs_u (zs_u σ 14 (x1.toNatClampNeg) (σ 34 0)) 15 (x1.toNatClampNeg) ((zs_u σ 14 (x1.toNatClampNeg) (σ 34 0)) 34 0)) ((zs_u (zs_u σ 14 (x1.toNatClampNeg) (σ 34 0)) 15 (x1.toNatClampNeg) ((zs_u σ 14 (x1.toNatClampNeg) (σ 34 0)) 34 0)) 12 (x1.toNatClampNeg))) / ((zs_u (zs_u σ 14 (x1.toNatClampNeg) (σ 34 0)) 15 (x1.toNatClampNeg) ((zs_u σ 14 (x1.toNatClampNeg) (σ 34 0)) 34 0)) 32 0) * ((zs_u (zs_u σ 14 (x1.toNatClampNeg) (σ 34 0)) 15 (x1.toNatClampNeg) ((zs_u σ 14 (x1.toNatClampNeg) (σ 34 0)) 34 0)) 32 0))) 30 (x1.toNatClampNeg) 0) 10 (x1.toNatClampNeg) 2), 0) else (if σ 10 (x1.toNatClampNeg) = 2 then (if σ 31 ((σ 16 (x1.toNatClampNeg)).toNatClampNeg) < 0 then ((zs_u (zs_u (zs_u σ 27 (((16 * x1) + (σ 30 (x1.toNatClampNeg))).toNatClampNeg) (σ 16 (x1.toNatClampNeg))) 30 (x1.toNatClampNeg) (((zs_u σ 27 (((16 * x1) + (σ 30 (x1.toNatClampNeg))).toNatClampNeg) (σ 16 (x1.toNatClampNeg))) 30 (x1.toNatClampNeg)) + 1)) 16 (x1.toNatClampNeg) (fr_X4_parent (zs_u (zs_u σ 27 (((16 * x1) + (σ 30 (x1.toNatClampNeg))).toNatClampNeg) (σ 16 (x1.toNatClampNeg))) 30 (x1.toNatClampNeg) (((zs_u σ 27 (((16 * x1) + (σ 30 (x1.toNatClampNeg))).toNatClampNeg) (σ 16 (x1.toNatClampNeg))) 30 (x1.toNatClampNeg)) + 1)) ((zs_u (zs_u σ 27 (((16 * x1) + (σ 30 (x1.toNatClampNeg))).toNatClampNeg) (σ 16 (x1.toNatClampNeg))) 30 (x1.toNatClampNeg) (((zs_u σ 27 (((16 * x1) + (σ 30 (x1.toNatClampNeg))).toNatClampNeg) (σ 16 (x1.toNatClampNeg))) 30 (x1.toNatClampNeg)) + 1)) 16 (x1.toNatClampNeg)))), 0) else ((zs_u (zs_u σ 17 (x1.toNatClampNeg) (σ 31 ((σ 16 (x1.toNatClampNeg)).toNatClampNeg))) 10 (x1.toNatClampNeg) 3), 0)) else (if σ 10 (x1.toNatClampNeg) = 3 then (if (fn_X4_reads σ x1).2 = 0 then ((fn_X4_reads σ x1).1, 0) else ((zs_u (zs_u (zs_u (fn_X4_reads σ x1).1 18 (x1.toNatClampNeg) (((fn_X4_reads σ x1).1) 17 (x1.toNatClampNeg))) 19 (x1.toNatClampNeg) ((zs_u (fn_X4_reads σ x1).1 18 (x1.toNatClampNeg) (((fn_X4_reads σ x1).1) 17 (x1.toNatClampNeg))) 2 (((zs_u (fn_X4_reads σ x1).1 18 (x1.toNatClampNeg) (((fn_X4_reads σ x1).1) 17 (x1.toNatClampNeg))) 17 (x1.toNatClampNeg)).toNatClampNeg))) 10 (x1.toNatClampNeg) 4), 0)) else (if σ 10 (x1.toNatClampNeg) = 4 then (if σ 19 (x1.toNatClampNeg) < 0 then ((fn_X4_over σ x1 0).1, 0) else (if (fn_X4_reads σ x1).2 = 0 then ((fn_X4_reads σ x1).1, 0) else ((zs_u (zs_u (zs_u (fn_X4_reads σ x1).1 20 (x1.toNatClampNeg) (((fn_X4_reads σ x1).1) 2 ((((fn_X4_reads σ x1).1) 19 (x1.toNatClampNeg)).toNatClampNeg))) 21 (x1.toNatClampNeg) ((zs_u (fn_X4_reads σ x1).1 20 (x1.toNatClampNeg) (((fn_X4_reads σ x1).1) 2 ((((fn_X4_reads σ x1).1) 19 (x1.toNatClampNeg)).toNatClampNeg))) 3 (((zs_u (fn_X4_reads σ x1).1 20 (x1.toNatClampNeg) (((fn_X4_reads σ x1).1) 2 ((((fn_X4_reads σ x1).1) 19 (x1.toNatClampNeg)).toNatClampNeg))) 19 (x1.toNatClampNeg)).toNatClampNeg))) 10 (x1.toNatClampNeg) 5), 0))) else (if σ 10 (x1.toNatClampNeg) = 5 then ((fn_X4_look σ x1).1, 0) else (if σ 10 (x1.toNatClampNeg) = 6 then (if (fn_X4_change (zs_u σ 10 (x1.toNatClampNeg) 3) ((zs_u σ 10 (x1.toNatClampNeg) 3) 18 (x1.toNatClampNeg)) ((zs_u σ 10 (x1.toNatClampNeg) 3) 19 (x1.toNatClampNeg)) ((zs_u σ 10 (x1.toNatClampNeg) 3) 20 (x1.toNatClampNeg)) 0).2 = 0 then ((fn_X4_change (zs_u σ 10 (x1.toNatClampNeg) 3) ((zs_u σ 10 (x1.toNatClampNeg) 3) 18 (x1.toNatClampNeg)) ((zs_u σ 10 (x1.toNatClampNeg) 3) 19 (x1.toNatClampNeg)) ((zs_u σ 10 (x1.toNatClampNeg) 3) 20 (x1.toNatClampNeg)) 0).1, 0) else ((zs_u (zs_u (fn_X4_retire ((fn_X4_change (zs_u σ 10 (x1.toNatClampNeg) 3) ((zs_u σ 10 (x1.toNatClampNeg) 3) 18 (x1.toNatClampNeg)) ((zs_u σ 10 (x1.toNatClampNeg) 3) 19 (x1.toNatClampNeg)) ((zs_u σ 10 (x1.toNatClampNeg) 3) 20 (x1.toNatClampNeg)) 0).1) x1 (((fn_X4_change (zs_u σ 10 (x1.toNatClampNeg) 3) ((zs_u σ 10 (x1.toNatClampNeg) 3) 18 (x1.toNatClampNeg)) ((zs_u σ 10 (x1.toNatClampNeg) 3) 19 (x1.toNatClampNeg)) ((zs_u σ 10 (x1.toNatClampNeg) 3) 20 (x1.toNatClampNeg)) 0).1) 19 (x1.toNatClampNeg))).1 19 (x1.toNatClampNeg) (((fn_X4_retire ((fn_X4_change (zs_u σ 10 (x1.toNatClampNeg) 3) ((zs_u σ 10 (x1.toNatClampNeg) 3) 18 (x1.toNatClampNeg)) ((zs_u σ 10 (x1.toNatClampNeg) 3) 19 (x1.toNatClampNeg)) ((zs_u σ 10 (x1.toNatClampNeg) 3) 20 (x1.toNatClampNeg)) 0).1) x1 (((fn_X4_change (zs_u σ 10 (x1.toNatClampNeg) 3) ((zs_u σ 10 (x1.toNatClampNeg) 3) 18 (x1.toNatClampNeg)) ((zs_u σ 10 (x1.toNatClampNeg) 3) 19 (x1.toNatClampNeg)) ((zs_u σ 10 (x1.toNatClampNeg) 3) 20 (x1.toNatClampNeg)) 0).1) 19 (x1.toNatClampNeg))).1) 20 (x1.toNatClampNeg))) 10 (x1.toNatClampNeg) 4), 0)) else (if σ 10 (x1.toNatClampNeg) = 7 then ((fn_X4_prepare σ x1).1, 0) else (if σ 10 (x1.toNatClampNeg) = 8 then ((fn_X4_putIn σ x1).1, 0) else (if σ 10 (x1.toNatClampNeg) = 9 then (if σ 22 (x1.toNatClampNeg) < 0 then (if (zs_u (zs_u σ 22 (x1.toNatClampNeg) (-1)) 30 (x1.toNatClampNeg) (((zs_u σ 22 (x1.toNatClampNeg) (-1)) 30 (x1.toNatClampNeg)) - 1)) 31 (((zs_u (zs_u σ 22 (x1.toNatClampNeg) (-1)) 30 (x1.toNatClampNeg) (((zs_u σ 22 (x1.toNatClampNeg) (-1)) 30 (x1.toNatClampNeg)) - 1)) 27 (((16 * x1) + ((zs_u (zs_u σ 22 (x1.toNatClampNeg) (-1)) 30 (x1.toNatClampNeg) (((zs_u σ 22 (x1.toNatClampNeg) (-1)) 30 (x1.toNatClampNeg)) - 1)) 30 (x1.toNatClampNeg))).toNatClampNeg)).toNatClampNeg) < 0 then ((zs_u (zs_u (zs_u (zs_u (zs_u σ 22 (x1.toNatClampNeg) (-1)) 30 (x1.toNatClampNeg) (((zs_u σ 22 (x1.toNatClampNeg) (-1)) 30 (x1.toNatClampNeg)) - 1)) 31 (((zs_u (zs_u σ 22 (x1.toNatClampNeg) (-1)) 30 (x1.toNatClampNeg) (((zs_u σ 22 (x1.toNatClampNeg) (-1)) 30 (x1.toNatClampNeg)) - 1)) 27 (((16 * x1) + ((zs_u (zs_u σ 22 (x1.toNatClampNeg) (-1)) 30 (x1.toNatClampNeg) (((zs_u σ 22 (x1.toNatClampNeg) (-1)) 30 (x1.toNatClampNeg)) - 1)) 30 (x1.toNatClampNeg))).toNatClampNeg)).toNatClampNeg) ((zs_u (zs_u σ 22 (x1.toNatClampNeg) (-1)) 30 (x1.toNatClampNeg) (((zs_u σ 22 (x1.toNatClampNeg) (-1)) 30 (x1.toNatClampNeg)) - 1)) 23 (x1.toNatClampNeg))) 17 (x1.toNatClampNeg) ((zs_u (zs_u (zs_u σ 22 (x1.toNatClampNeg) (-1)) 30 (x1.toNatClampNeg) (((zs_u σ 22 (x1.toNatClampNeg) (-1)) 30 (x1.toNatClampNeg)) - 1)) 31 (((zs_u (zs_u σ 22 (x1.toNatClampNeg) (-1)) 30 (x1.toNatClampNeg) (((zs_u σ 22 (x1.toNatClampNeg) (-1)) 30 (x1.toNatClampNeg)) - 1)) 27 (((16 * x1) + ((zs_u (zs_u σ 22 (x1.toNatClampNeg) (-1)) 30 (x1.toNatClampNeg) (((zs_u σ 22 (x1.toNatClampNeg) (-1)) 30 (x1.toNatClampNeg)) - 1)) 30 (x1.toNatClampNeg))).toNatClampNeg)).toNatClampNeg) ((zs_u (zs_u σ 22 (x1.toNatClampNeg) (-1)) 30 (x1.toNatClampNeg) (((zs_u σ 22 (x1.toNatClampNeg) (-1)) 30 (x1.toNatClampNeg)) - 1)) 23 (x1.toNatClampNeg))) 23 (x1.toNatClampNeg))) 10 (x1.toNatClampNeg) 3), 0) else ((zs_u (zs_u (zs_u (zs_u σ 22 (x1.toNatClampNeg) (-1)) 30 (x1.toNatClampNeg) (((zs_u σ 22 (x1.toNatClampNeg) (-1)) 30 (x1.toNatClampNeg)) - 1)) 17 (x1.toNatClampNeg) ((zs_u (zs_u σ 22 (x1.toNatClampNeg) (-1)) 30 (x1.toNatClampNeg) (((zs_u σ 22 (x1.toNatClampNeg) (-1)) 30 (x1.toNatClampNeg)) - 1)) 23 (x1.toNatClampNeg))) 10 (x1.toNatClampNeg) 3), 0)) else (if (zs_u (zs_u (zs_u σ 0 ((σ 22 (x1.toNatClampNeg)).toNatClampNeg) 0) 22 (x1.toNatClampNeg) (-1)) 30 (x1.toNatClampNeg) (((zs_u (zs_u σ 0 ((σ 22 (x1.toNatClampNeg)).toNatClampNeg) 0) 22 (x1.toNatClampNeg) (-1)) 30 (x1.toNatClampNeg)) - 1)) 31 (((zs_u (zs_u (zs_u σ 0 ((σ 22 (x1.toNatClampNeg)).toNatClampNeg) 0) 22 (x1.toNatClampNeg) (-1)) 30 (x1.toNatClampNeg) (((zs_u (zs_u σ 0 ((σ 22 (x1.toNatClampNeg)).toNatClampNeg) 0) 22 (x1.toNatClampNeg) (-1)) 30 (x1.toNatClampNeg)) - 1)) 27 (((16 * x1) + ((zs_u (zs_u (zs_u σ 0 ((σ 22 (x1.toNatClampNeg)).toNatClampNeg) 0) 22 (x1.toNatClampNeg) (-1)) 30 (x1.toNatClampNeg) (((zs_u (zs_u σ 0 ((σ 22 (x1.toNatClampNeg)).toNatClampNeg) 0) 22 (x1.toNatClampNeg) (-1)) 30 (x1.toNatClampNeg)) - 1)) 30 (x1.toNatClampNeg))).toNatClampNeg)).toNatClampNeg) < 0 then ((zs_u (zs_u (zs_u (zs_u (zs_u (zs_u σ 0 ((σ 22 (x1.toNatClampNeg)).toNatClampNeg) 0) 22 (x1.toNatClampNeg) (-1)) 30 (x1.toNatClampNeg) (((zs_u (zs_u σ 0 ((σ 22 (x1.toNatClampNeg)).toNatClampNeg) 0) 22 (x1.toNatClampNeg) (-1)) 30 (x1.toNatClampNeg)) - 1)) 31 (((zs_u (zs_u (zs_u σ 0 ((σ 22 (x1.toNatClampNeg)).toNatClampNeg) 0) 22 (x1.toNatClampNeg) (-1)) 30 (x1.toNatClampNeg) (((zs_u (zs_u σ 0 ((σ 22 (x1.toNatClampNeg)).toNatClampNeg) 0) 22 (x1.toNatClampNeg) (-1)) 30 (x1.toNatClampNeg)) - 1)) 27 (((16 * x1) + ((zs_u (zs_u (zs_u σ 0 ((σ 22 (x1.toNatClampNeg)).toNatClampNeg) 0) 22 (x1.toNatClampNeg) (-1)) 30 (x1.toNatClampNeg) (((zs_u (zs_u σ 0 ((σ 22 (x1.toNatClampNeg)).toNatClampNeg) 0) 22 (x1.toNatClampNeg) (-1)) 30 (x1.toNatClampNeg)) - 1)) 30 (x1.toNatClampNeg))).toNatClampNeg)).toNatClampNeg) ((zs_u (zs_u (zs_u σ 0 ((σ 22 (x1.toNatClampNeg)).toNatClampNeg) 0) 22 (x1.toNatClampNeg) (-1)) 30 (x1.toNatClampNeg) (((zs_u (zs_u σ 0 ((σ 22 (x1.toNatClampNeg)).toNatClampNeg) 0) 22 (x1.toNatClampNeg) (-1)) 30 (x1.toNatClampNeg)) - 1)) 23 (x1.toNatClampNeg))) 17 (x1.toNatClampNeg) ((zs_u (zs_u (zs_u (zs_u σ 0 ((σ 22 (x1.toNatClampNeg)).toNatClampNeg) 0) 22 (x1.toNatClampNeg) (-1)) 30 (x1.toNatClampNeg) (((zs_u (zs_u σ 0 ((σ 22 (x1.toNatClampNeg)).toNatClampNeg) 0) 22 (x1.toNatClampNeg) (-1)) 30 (x1.toNatClampNeg)) - 1)) 31 (((zs_u (zs_u (zs_u σ 0 ((σ 22 (x1.toNatClampNeg)).toNatClampNeg) 0) 22 (x1.toNatClampNeg) (-1)) 30 (x1.toNatClampNeg) (((zs_u (zs_u σ 0 ((σ 22 (x1.toNatClampNeg)).toNatClampNeg) 0) 22 (x1.toNatClampNeg) (-1)) 30 (x1.toNatClampNeg)) - 1)) 27 (((16 * x1) + ((zs_u (zs_u (zs_u σ 0 ((σ 22 (x1.toNatClampNeg)).toNatClampNeg) 0) 22 (x1.toNatClampNeg) (-1)) 30 (x1.toNatClampNeg) (((zs_u (zs_u σ 0 ((σ 22 (x1.toNatClampNeg)).toNatClampNeg) 0) 22 (x1.toNatClampNeg) (-1)) 30 (x1.toNatClampNeg)) - 1)) 30 (x1.toNatClampNeg))).toNatClampNeg)).toNatClampNeg) ((zs_u (zs_u (zs_u σ 0 ((σ 22 (x1.toNatClampNeg)).toNatClampNeg) 0) 22 (x1.toNatClampNeg) (-1)) 30 (x1.toNatClampNeg) (((zs_u (zs_u σ 0 ((σ 22 (x1.toNatClampNeg)).toNatClampNeg) 0) 22 (x1.toNatClampNeg) (-1)) 30 (x1.toNatClampNeg)) - 1)) 23 (x1.toNatClampNeg))) 23 (x1.toNatClampNeg))) 10 (x1.toNatClampNeg) 3), 0) else ((zs_u (zs_u (zs_u (zs_u (zs_u σ 0 ((σ 22 (x1.toNatClampNeg)).toNatClampNeg) 0) 22 (x1.toNatClampNeg) (-1)) 30 (x1.toNatClampNeg) (((zs_u (zs_u σ 0 ((σ 22 (x1.toNatClampNeg)).toNatClampNeg) 0) 22 (x1.toNatClampNeg) (-1)) 30 (x1.toNatClampNeg)) - 1)) 17 (x1.toNatClampNeg) ((zs_u (zs_u (zs_u σ 0 ((σ 22 (x1.toNatClampNeg)).toNatClampNeg) 0) 22 (x1.toNatClampNeg) (-1)) 30 (x1.toNatClampNeg) (((zs_u (zs_u σ 0 ((σ 22 (x1.toNatClampNeg)).toNatClampNeg) 0) 22 (x1.toNatClampNeg) (-1)) 30 (x1.toNatClampNeg)) - 1)) 23 (x1.toNatClampNeg))) 10 (x1.toNatClampNeg) 3), 0))) else (if σ 10 (x1.toNatClampNeg) = 10 then (if (fn_X4_change (zs_u σ 10 (x1.toNatClampNeg) 3) ((zs_u σ 10 (x1.toNatClampNeg) 3) 19 (x1.toNatClampNeg)) ((zs_u σ 10 (x1.toNatClampNeg) 3) 20 (x1.toNatClampNeg)) ((zs_u σ 10 (x1.toNatClampNeg) 3) 20 (x1.toNatClampNeg)) 1).2 = 0 then ((fn_X4_change (zs_u σ 10 (x1.toNatClampNeg) 3) ((zs_u σ 10 (x1.toNatClampNeg) 3) 19 (x1.toNatClampNeg)) ((zs_u σ 10 (x1.toNatClampNeg) 3) 20 (x1.toNatClampNeg)) ((zs_u σ 10 (x1.toNatClampNeg) 3) 20 (x1.toNatClampNeg)) 1).1, 0) else ((zs_u (zs_u (zs_u (fn_X4_change (zs_u σ 10 (x1.toNatClampNeg) 3) ((zs_u σ 10 (x1.toNatClampNeg) 3) 19 (x1.toNatClampNeg)) ((zs_u σ 10 (x1.toNatClampNeg) 3) 20 (x1.toNatClampNeg)) ((zs_u σ 10 (x1.toNatClampNeg) 3) 20 (x1.toNatClampNeg)) 1).1 33 0 ((((fn_X4_change (zs_u σ 10 (x1.toNatClampNeg) 3) ((zs_u σ 10 (x1.toNatClampNeg) 3) 19 (x1.toNatClampNeg)) ((zs_u σ 10 (x1.toNatClampNeg) 3) 20 (x1.toNatClampNeg)) ((zs_u σ 10 (x1.toNatClampNeg) 3) 20 (x1.toNatClampNeg)) 1).1) 33 0) - 1)) 25 (x1.toNatClampNeg) ((zs_u (fn_X4_change (zs_u σ 10 (x1.toNatClampNeg) 3) ((zs_u σ 10 (x1.toNatClampNeg) 3) 19 (x1.toNatClampNeg)) ((zs_u σ 10 (x1.toNatClampNeg) 3) 20 (x1.toNatClampNeg)) ((zs_u σ 10 (x1.toNatClampNeg) 3) 20 (x1.toNatClampNeg)) 1).1 33 0 ((((fn_X4_change (zs_u σ 10 (x1.toNatClampNeg) 3) ((zs_u σ 10 (x1.toNatClampNeg) 3) 19 (x1.toNatClampNeg)) ((zs_u σ 10 (x1.toNatClampNeg) 3) 20 (x1.toNatClampNeg)) ((zs_u σ 10 (x1.toNatClampNeg) 3) 20 (x1.toNatClampNeg)) 1).1) 33 0) - 1)) 5 (((zs_u (fn_X4_change (zs_u σ 10 (x1.toNatClampNeg) 3) ((zs_u σ 10 (x1.toNatClampNeg) 3) 19 (x1.toNatClampNeg)) ((zs_u σ 10 (x1.toNatClampNeg) 3) 20 (x1.toNatClampNeg)) ((zs_u σ 10 (x1.toNatClampNeg) 3) 20 (x1.toNatClampNeg)) 1).1 33 0 ((((fn_X4_change (zs_u σ 10 (x1.toNatClampNeg) 3) ((zs_u σ 10 (x1.toNatClampNeg) 3) 19 (x1.toNatClampNeg)) ((zs_u σ 10 (x1.toNatClampNeg) 3) 20 (x1.toNatClampNeg)) ((zs_u σ 10 (x1.toNatClampNeg) 3) 20 (x1.toNatClampNeg)) 1).1) 33 0) - 1)) 19 (x1.toNatClampNeg)).toNatClampNeg))) 10 (x1.toNatClampNeg) 11), 0)) else (if σ 10 (x1.toNatClampNeg) = 11 then (if (fn_X4_change σ (σ 18 (x1.toNatClampNeg)) (σ 19 (x1.toNatClampNeg)) (σ 20 (x1.toNatClampNeg)) 0).2 = 0 then ((zs_u (zs_u (fn_X4_change σ (σ 18 (x1.toNatClampNeg)) (σ 19 (x1.toNatClampNeg)) (σ 20 (x1.toNatClampNeg)) 0).1 24 (x1.toNatClampNeg) 1) 10 (x1.toNatClampNeg) 3), 0) else ((zs_u (fn_X4_retire ((fn_X4_change σ (σ 18 (x1.toNatClampNeg)) (σ 19 (x1.toNatClampNeg)) (σ 20 (x1.toNatClampNeg)) 0).1) x1 (((fn_X4_change σ (σ 18 (x1.toNatClampNeg)) (σ 19 (x1.toNatClampNeg)) (σ 20 (x1.toNatClampNeg)) 0).1) 19 (x1.toNatClampNeg))).1 10 (x1.toNatClampNeg) 12), 0)) else (if σ 10 (x1.toNatClampNeg) = 12 then ((fn_X4_ends ((fn_X4_giveBack σ x1).1) x1 (((fn_X4_giveBack σ x1).1) 25 (x1.toNatClampNeg))).1, 0) else (if σ 10 (x1.toNatClampNeg) = 13 then (if 2 * (σ 32 0) < σ 33 0 then (if σ 32 0 < 16 then ((fn_X4_ends (zs_u σ 32 0 ((σ 32 0) * 2)) x1 1).1, 0) else ((fn_X4_ends σ x1 1).1, 0)) else ((fn_X4_ends σ x1 1).1, 0)) else (σ, 0))))))))))))))
def ok_X4_oneStep (σ : zs_T) (x1 : Int32) : Prop := vp_in x1 4 ∧ ((σ 10 (x1.toNatClampNeg) = 1 → vp_in x1 4 ∧ (vp_in x1 4 ∧ (vp_in x1 4 ∧ (¬ ((zs_u (zs_u σ 14 (x1.toNatClampNeg) (σ 34 0)) 15 (x1.toNatClampNeg) ((zs_u σ 14 (x1.toNatClampNeg) (σ 34 0)) 34 0)) 32 0) = 0 ∧ (vp_in x1 4 ∧ (vp_in x1 4 ∧ (vp_in x1 4 ∧ (True)))))))) ∧ (¬ (σ 10 (x1.toNatClampNeg) = 1) → (σ 10 (x1.toNatClampNeg) = 2 → vp_in x1 4 ∧ (vp_in (σ 16 (x1.toNatClampNeg)) 16 ∧ ((σ 31 ((σ 16 (x1.toNatClampNeg)).toNatClampNeg) < 0 → vp_in x1 4 ∧ (vp_in x1 4 ∧ (vp_in ((16 * x1) + (σ 30 (x1.toNatClampNeg))) 64 ∧ (vp_in x1 4 ∧ (vp_in x1 4 ∧ (vp_in x1 4 ∧ (ok_X4_parent (zs_u (zs_u σ 27 (((16 * x1) + (σ 30 (x1.toNatClampNeg))).toNatClampNeg) (σ 16 (x1.toNatClampNeg))) 30 (x1.toNatClampNeg) (((zs_u σ 27 (((16 * x1) + (σ 30 (x1.toNatClampNeg))).toNatClampNeg) (σ 16 (x1.toNatClampNeg))) 30 (x1.toNatClampNeg)) + 1)) ((zs_u (zs_u σ 27 (((16 * x1) + (σ 30 (x1.toNatClampNeg))).toNatClampNeg) (σ 16 (x1.toNatClampNeg))) 30 (x1.toNatClampNeg) (((zs_u σ 27 (((16 * x1) + (σ 30 (x1.toNatClampNeg))).toNatClampNeg) (σ 16 (x1.toNatClampNeg))) 30 (x1.toNatClampNeg)) + 1)) 16 (x1.toNatClampNeg)) ∧ (vp_in x1 4 ∧ (True))))))))) ∧ (¬ (σ 31 ((σ 16 (x1.toNatClampNeg)).toNatClampNeg) < 0) → vp_in x1 4 ∧ (vp_in (σ 16 (x1.toNatClampNeg)) 16 ∧ (vp_in x1 4 ∧ (vp_in x1 4 ∧ (True)))))))) ∧ (¬ (σ 10 (x1.toNatClampNeg) = 2) → (σ 10 (x1.toNatClampNeg) = 3 → ok_X4_reads σ x1 ∧ (((fn_X4_reads σ x1).2 = 0 → True) ∧ (¬ ((fn_X4_reads σ x1).2 = 0) → vp_in x1 4 ∧ (vp_in x1 4 ∧ (vp_in x1 4 ∧ (vp_in ((zs_u (fn_X4_reads σ x1).1 18 (x1.toNatClampNeg) (((fn_X4_reads σ x1).1) 17 (x1.toNatClampNeg))) 17 (x1.toNatClampNeg)) 64 ∧ (vp_in x1 4 ∧ (vp_in x1 4 ∧ (True))))))))) ∧ (¬ (σ 10 (x1.toNatClampNeg) = 3) → (σ 10 (x1.toNatClampNeg) = 4 → vp_in x1 4 ∧ ((σ 19 (x1.toNatClampNeg) < 0 → ok_X4_over σ x1 0 ∧ (True)) ∧ (¬ (σ 19 (x1.toNatClampNeg) < 0) → ok_X4_reads σ x1 ∧ (((fn_X4_reads σ x1).2 = 0 → True) ∧ (¬ ((fn_X4_reads σ x1).2 = 0) → vp_in x1 4 ∧ (vp_in (((fn_X4_reads σ x1).1) 19 (x1.toNatClampNeg)) 64 ∧ (vp_in x1 4 ∧ (vp_in x1 4 ∧ (vp_in ((zs_u (fn_X4_reads σ x1).1 20 (x1.toNatClampNeg) (((fn_X4_reads σ x1).1) 2 ((((fn_X4_reads σ x1).1) 19 (x1.toNatClampNeg)).toNatClampNeg))) 19 (x1.toNatClampNeg)) 64 ∧ (vp_in x1 4 ∧ (zs_B ((zs_u (fn_X4_reads σ x1).1 20 (x1.toNatClampNeg) (((fn_X4_reads σ x1).1) 2 ((((fn_X4_reads σ x1).1) 19 (x1.toNatClampNeg)).toNatClampNeg))) 3 (((zs_u (fn_X4_reads σ x1).1 20 (x1.toNatClampNeg) (((fn_X4_reads σ x1).1) 2 ((((fn_X4_reads σ x1).1) 19 (x1.toNatClampNeg)).toNatClampNeg))) 19 (x1.toNatClampNeg)).toNatClampNeg)) ∧ (vp_in x1 4 ∧ (True))))))))))))) ∧ (¬ (σ 10 (x1.toNatClampNeg) = 4) → (σ 10 (x1.toNatClampNeg) = 5 → ok_X4_look σ x1 ∧ (True)) ∧ (¬ (σ 10 (x1.toNatClampNeg) = 5) → (σ 10 (x1.toNatClampNeg) = 6 → vp_in x1 4 ∧ (vp_in x1 4 ∧ (vp_in x1 4 ∧ (vp_in x1 4 ∧ (ok_X4_change (zs_u σ 10 (x1.toNatClampNeg) 3) ((zs_u σ 10 (x1.toNatClampNeg) 3) 18 (x1.toNatClampNeg)) ((zs_u σ 10 (x1.toNatClampNeg) 3) 19 (x1.toNatClampNeg)) ((zs_u σ 10 (x1.toNatClampNeg) 3) 20 (x1.toNatClampNeg)) 0 ∧ (((fn_X4_change (zs_u σ 10 (x1.toNatClampNeg) 3) ((zs_u σ 10 (x1.toNatClampNeg) 3) 18 (x1.toNatClampNeg)) ((zs_u σ 10 (x1.toNatClampNeg) 3) 19 (x1.toNatClampNeg)) ((zs_u σ 10 (x1.toNatClampNeg) 3) 20 (x1.toNatClampNeg)) 0).2 = 0 → True) ∧ (¬ ((fn_X4_change (zs_u σ 10 (x1.toNatClampNeg) 3) ((zs_u σ 10 (x1.toNatClampNeg) 3) 18 (x1.toNatClampNeg)) ((zs_u σ 10 (x1.toNatClampNeg) 3) 19 (x1.toNatClampNeg)) ((zs_u σ 10 (x1.toNatClampNeg) 3) 20 (x1.toNatClampNeg)) 0).2 = 0) → vp_in x1 4 ∧ (ok_X4_retire ((fn_X4_change (zs_u σ 10 (x1.toNatClampNeg) 3) ((zs_u σ 10 (x1.toNatClampNeg) 3) 18 (x1.toNatClampNeg)) ((zs_u σ 10 (x1.toNatClampNeg) 3) 19 (x1.toNatClampNeg)) ((zs_u σ 10 (x1.toNatClampNeg) 3) 20 (x1.toNatClampNeg)) 0).1) x1 (((fn_X4_change (zs_u σ 10 (x1.toNatClampNeg) 3) ((zs_u σ 10 (x1.toNatClampNeg) 3) 18 (x1.toNatClampNeg)) ((zs_u σ 10 (x1.toNatClampNeg) 3) 19 (x1.toNatClampNeg)) ((zs_u σ 10 (x1.toNatClampNeg) 3) 20 (x1.toNatClampNeg)) 0).1) 19 (x1.toNatClampNeg)) ∧ (vp_in x1 4 ∧ (vp_in x1 4 ∧ (vp_in x1 4 ∧ (True)))))))))))) ∧ (¬ (σ 10 (x1.toNatClampNeg) = 6) → (σ 10 (x1.toNatClampNeg) = 7 → ok_X4_prepare σ x1 ∧ (True)) ∧ (¬ (σ 10 (x1.toNatClampNeg) = 7) → (σ 10 (x1.toNatClampNeg) = 8 → ok_X4_putIn σ x1 ∧ (True)) ∧ (¬ (σ 10 (x1.toNatClampNeg) = 8) → (σ 10 (x1.toNatClampNeg) = 9 → vp_in x1 4 ∧ ((σ 22 (x1.toNatClampNeg) < 0 → vp_in x1 4 ∧ (vp_in x1 4 ∧ (vp_in x1 4 ∧ (vp_in x1 4 ∧ (vp_in ((16 * x1) + ((zs_u (zs_u σ 22 (x1.toNatClampNeg) (-1)) 30 (x1.toNatClampNeg) (((zs_u σ 22 (x1.toNatClampNeg) (-1)) 30 (x1.toNatClampNeg)) - 1)) 30 (x1.toNatClampNeg))) 64 ∧ (vp_in ((zs_u (zs_u σ 22 (x1.toNatClampNeg) (-1)) 30 (x1.toNatClampNeg) (((zs_u σ 22 (x1.toNatClampNeg) (-1)) 30 (x1.toNatClampNeg)) - 1)) 27 (((16 * x1) + ((zs_u (zs_u σ 22 (x1.toNatClampNeg) (-1)) 30 (x1.toNatClampNeg) (((zs_u σ 22 (x1.toNatClampNeg) (-1)) 30 (x1.toNatClampNeg)) - 1)) 30 (x1.toNatClampNeg))).toNatClampNeg)) 16 ∧ (((zs_u (zs_u σ 22 (x1.toNatClampNeg) (-1)) 30 (x1.toNatClampNeg) (((zs_u σ 22 (x1.toNatClampNeg) (-1)) 30 (x1.toNatClampNeg)) - 1)) 31 (((zs_u (zs_u σ 22 (x1.toNatClampNeg) (-1)) 30 (x1.toNatClampNeg) (((zs_u σ 22 (x1.toNatClampNeg) (-1)) 30 (x1.toNatClampNeg)) - 1)) 27 (((16 * x1) + ((zs_u (zs_u σ 22 (x1.toNatClampNeg) (-1)) 30 (x1.toNatClampNeg) (((zs_u σ 22 (x1.toNatClampNeg) (-1)) 30 (x1.toNatClampNeg)) - 1)) 30 (x1.toNatClampNeg))).toNatClampNeg)).toNatClampNeg) < 0 → vp_in x1 4 ∧ (vp_in ((zs_u (zs_u σ 22 (x1.toNatClampNeg) (-1)) 30 (x1.toNatClampNeg) (((zs_u σ 22 (x1.toNatClampNeg) (-1)) 30 (x1.toNatClampNeg)) - 1)) 27 (((16 * x1) + ((zs_u (zs_u σ 22 (x1.toNatClampNeg) (-1)) 30 (x1.toNatClampNeg) (((zs_u σ 22 (x1.toNatClampNeg) (-1)) 30 (x1.toNatClampNeg)) - 1)) 30 (x1.toNatClampNeg))).toNatClampNeg)) 16 ∧ (vp_in x1 4 ∧ (vp_in x1 4 ∧ (vp_in x1 4 ∧ (True)))))) ∧ (¬ ((zs_u (zs_u σ 22 (x1.toNatClampNeg) (-1)) 30 (x1.toNatClampNeg) (((zs_u σ 22 (x1.toNatClampNeg) (-1)) 30 (x1.toNatClampNeg)) - 1)) 31 (((zs_u (zs_u σ 22 (x1.toNatClampNeg) (-1)) 30 (x1.toNatClampNeg) (((zs_u σ 22 (x1.toNatClampNeg) (-1)) 30 (x1.toNatClampNeg)) - 1)) 27 (((16 * x1) + ((zs_u (zs_u σ 22 (x1.toNatClampNeg) (-1)) 30 (x1.toNatClampNeg) (((zs_u σ 22 (x1.toNatClampNeg) (-1)) 30 (x1.toNatClampNeg)) - 1)) 30 (x1.toNatClampNeg))).toNatClampNeg)).toNatClampNeg) < 0) → vp_in x1 4 ∧ (vp_in x1 4 ∧ (vp_in x1 4 ∧ (True))))))))))) ∧ (¬ (σ 22 (x1.toNatClampNeg) < 0) → vp_in x1 4 ∧ (vp_in (σ 22 (x1.toNatClampNeg)) 64 ∧ (vp_in x1 4 ∧ (vp_in x1 4 ∧ (vp_in x1 4 ∧ (vp_in x1 4 ∧ (vp_in ((16 * x1) + ((zs_u (zs_u (zs_u σ 0 ((σ 22 (x1.toNatClampNeg)).toNatClampNeg) 0) 22 (x1.toNatClampNeg) (-1)) 30 (x1.toNatClampNeg) (((zs_u (zs_u σ 0 ((σ 22 (x1.toNatClampNeg)).toNatClampNeg) 0) 22 (x1.toNatClampNeg) (-1)) 30 (x1.toNatClampNeg)) - 1)) 30 (x1.toNatClampNeg))) 64 ∧ (vp_in ((zs_u (zs_u (zs_u σ 0 ((σ 22 (x1.toNatClampNeg)).toNatClampNeg) 0) 22 (x1.toNatClampNeg) (-1)) 30 (x1.toNatClampNeg) (((zs_u (zs_u σ 0 ((σ 22 (x1.toNatClampNeg)).toNatClampNeg) 0) 22 (x1.toNatClampNeg) (-1)) 30 (x1.toNatClampNeg)) - 1)) 27 (((16 * x1) + ((zs_u (zs_u (zs_u σ 0 ((σ 22 (x1.toNatClampNeg)).toNatClampNeg) 0) 22 (x1.toNatClampNeg) (-1)) 30 (x1.toNatClampNeg) (((zs_u (zs_u σ 0 ((σ 22 (x1.toNatClampNeg)).toNatClampNeg) 0) 22 (x1.toNatClampNeg) (-1)) 30 (x1.toNatClampNeg)) - 1)) 30 (x1.toNatClampNeg))).toNatClampNeg)) 16 ∧ (((zs_u (zs_u (zs_u σ 0 ((σ 22 (x1.toNatClampNeg)).toNatClampNeg) 0) 22 (x1.toNatClampNeg) (-1)) 30 (x1.toNatClampNeg) (((zs_u (zs_u σ 0 ((σ 22 (x1.toNatClampNeg)).toNatClampNeg) 0) 22 (x1.toNatClampNeg) (-1)) 30 (x1.toNatClampNeg)) - 1)) 31 (((zs_u (zs_u (zs_u σ 0 ((σ 22 (x1.toNatClampNeg)).toNatClampNeg) 0) 22 (x1.toNatClampNeg) (-1)) 30 (x1.toNatClampNeg) (((zs_u (zs_u σ 0 ((σ 22 (x1.toNatClampNeg)).toNatClampNeg) 0) 22 (x1.toNatClampNeg) (-1)) 30 (x1.toNatClampNeg)) - 1)) 27 (((16 * x1) + ((zs_u (zs_u (zs_u σ 0 ((σ 22 (x1.toNatClampNeg)).toNatClampNeg) 0) 22 (x1.toNatClampNeg) (-1)) 30 (x1.toNatClampNeg) (((zs_u (zs_u σ 0 ((σ 22 (x1.toNatClampNeg)).toNatClampNeg) 0) 22 (x1.toNatClampNeg) (-1)) 30 (x1.toNatClampNeg)) - 1)) 30 (x1.toNatClampNeg))).toNatClampNeg)).toNatClampNeg) < 0 → vp_in x1 4 ∧ (vp_in ((zs_u (zs_u (zs_u σ 0 ((σ 22 (x1.toNatClampNeg)).toNatClampNeg) 0) 22 (x1.toNatClampNeg) (-1)) 30 (x1.toNatClampNeg) (((zs_u (zs_u σ 0 ((σ 22 (x1.toNatClampNeg)).toNatClampNeg) 0) 22 (x1.toNatClampNeg) (-1)) 30 (x1.toNatClampNeg)) - 1)) 27 (((16 * x1) + ((zs_u (zs_u (zs_u σ 0 ((σ 22 (x1.toNatClampNeg)).toNatClampNeg) 0) 22 (x1.toNatClampNeg) (-1)) 30 (x1.toNatClampNeg) (((zs_u (zs_u σ 0 ((σ 22 (x1.toNatClampNeg)).toNatClampNeg) 0) 22 (x1.toNatClampNeg) (-1)) 30 (x1.toNatClampNeg)) - 1)) 30 (x1.toNatClampNeg))).toNatClampNeg)) 16 ∧ (vp_in x1 4 ∧ (vp_in x1 4 ∧ (vp_in x1 4 ∧ (True)))))) ∧ (¬ ((zs_u (zs_u (zs_u σ 0 ((σ 22 (x1.toNatClampNeg)).toNatClampNeg) 0) 22 (x1.toNatClampNeg) (-1)) 30 (x1.toNatClampNeg) (((zs_u (zs_u σ 0 ((σ 22 (x1.toNatClampNeg)).toNatClampNeg) 0) 22 (x1.toNatClampNeg) (-1)) 30 (x1.toNatClampNeg)) - 1)) 31 (((zs_u (zs_u (zs_u σ 0 ((σ 22 (x1.toNatClampNeg)).toNatClampNeg) 0) 22 (x1.toNatClampNeg) (-1)) 30 (x1.toNatClampNeg) (((zs_u (zs_u σ 0 ((σ 22 (x1.toNatClampNeg)).toNatClampNeg) 0) 22 (x1.toNatClampNeg) (-1)) 30 (x1.toNatClampNeg)) - 1)) 27 (((16 * x1) + ((zs_u (zs_u (zs_u σ 0 ((σ 22 (x1.toNatClampNeg)).toNatClampNeg) 0) 22 (x1.toNatClampNeg) (-1)) 30 (x1.toNatClampNeg) (((zs_u (zs_u σ 0 ((σ 22 (x1.toNatClampNeg)).toNatClampNeg) 0) 22 (x1.toNatClampNeg) (-1)) 30 (x1.toNatClampNeg)) - 1)) 30 (x1.toNatClampNeg))).toNatClampNeg)).toNatClampNeg) < 0) → vp_in x1 4 ∧ (vp_in x1 4 ∧ (vp_in x1 4 ∧ (True))))))))))))))) ∧ (¬ (σ 10 (x1.toNatClampNeg) = 9) → (σ 10 (x1.toNatClampNeg) = 10 → vp_in x1 4 ∧ (vp_in x1 4 ∧ (vp_in x1 4 ∧ (vp_in x1 4 ∧ (ok_X4_change (zs_u σ 10 (x1.toNatClampNeg) 3) ((zs_u σ 10 (x1.toNatClampNeg) 3) 19 (x1.toNatClampNeg)) ((zs_u σ 10 (x1.toNatClampNeg) 3) 20 (x1.toNatClampNeg)) ((zs_u σ 10 (x1.toNatClampNeg) 3) 20 (x1.toNatClampNeg)) 1 ∧ (((fn_X4_change (zs_u σ 10 (x1.toNatClampNeg) 3) ((zs_u σ 10 (x1.toNatClampNeg) 3) 19 (x1.toNatClampNeg)) ((zs_u σ 10 (x1.toNatClampNeg) 3) 20 (x1.toNatClampNeg)) ((zs_u σ 10 (x1.toNatClampNeg) 3) 20 (x1.toNatClampNeg)) 1).2 = 0 → True) ∧ (¬ ((fn_X4_change (zs_u σ 10 (x1.toNatClampNeg) 3) ((zs_u σ 10 (x1.toNatClampNeg) 3) 19 (x1.toNatClampNeg)) ((zs_u σ 10 (x1.toNatClampNeg) 3) 20 (x1.toNatClampNeg)) ((zs_u σ 10 (x1.toNatClampNeg) 3) 20 (x1.toNatClampNeg)) 1).2 = 0) → vp_in x1 4 ∧ (vp_in ((zs_u (fn_X4_change (zs_u σ 10 (x1.toNatClampNeg) 3) ((zs_u σ 10 (x1.toNatClampNeg) 3) 19 (x1.toNatClampNeg)) ((zs_u σ 10 (x1.toNatClampNeg) 3) 20 (x1.toNatClampNeg)) ((zs_u σ 10 (x1.toNatClampNeg) 3) 20 (x1.toNatClampNeg)) 1).1 33 0 ((((fn_X4_change (zs_u σ 10 (x1.toNatClampNeg) 3) ((zs_u σ 10 (x1.toNatClampNeg) 3) 19 (x1.toNatClampNeg)) ((zs_u σ 10 (x1.toNatClampNeg) 3) 20 (x1.toNatClampNeg)) ((zs_u σ 10 (x1.toNatClampNeg) 3) 20 (x1.toNatClampNeg)) 1).1) 33 0) - 1)) 19 (x1.toNatClampNeg)) 64 ∧ (vp_in x1 4 ∧ (vp_in x1 4 ∧ (True))))))))))) ∧ (¬ (σ 10 (x1.toNatClampNeg) = 10) → (σ 10 (x1.toNatClampNeg) = 11 → vp_in x1 4 ∧ (vp_in x1 4 ∧ (vp_in x1 4 ∧ (ok_X4_change σ (σ 18 (x1.toNatClampNeg)) (σ 19 (x1.toNatClampNeg)) (σ 20 (x1.toNatClampNeg)) 0 ∧ (((fn_X4_change σ (σ 18 (x1.toNatClampNeg)) (σ 19 (x1.toNatClampNeg)) (σ 20 (x1.toNatClampNeg)) 0).2 = 0 → vp_in x1 4 ∧ (vp_in x1 4 ∧ (True))) ∧ (¬ ((fn_X4_change σ (σ 18 (x1.toNatClampNeg)) (σ 19 (x1.toNatClampNeg)) (σ 20 (x1.toNatClampNeg)) 0).2 = 0) → vp_in x1 4 ∧ (ok_X4_retire ((fn_X4_change σ (σ 18 (x1.toNatClampNeg)) (σ 19 (x1.toNatClampNeg)) (σ 20 (x1.toNatClampNeg)) 0).1) x1 (((fn_X4_change σ (σ 18 (x1.toNatClampNeg)) (σ 19 (x1.toNatClampNeg)) (σ 20 (x1.toNatClampNeg)) 0).1) 19 (x1.toNatClampNeg)) ∧ (vp_in x1 4 ∧ (True))))))))) ∧ (¬ (σ 10 (x1.toNatClampNeg) = 11) → (σ 10 (x1.toNatClampNeg) = 12 → ok_X4_giveBack σ x1 ∧ (vp_in x1 4 ∧ (ok_X4_ends ((fn_X4_giveBack σ x1).1) x1 (((fn_X4_giveBack σ x1).1) 25 (x1.toNatClampNeg)) ∧ (True)))) ∧ (¬ (σ 10 (x1.toNatClampNeg) = 12) → (σ 10 (x1.toNatClampNeg) = 13 → (2 * (σ 32 0) < σ 33 0 → (σ 32 0 < 16 → ok_X4_ends (zs_u σ 32 0 ((σ 32 0) * 2)) x1 1 ∧ (True)) ∧ (¬ (σ 32 0 < 16) → ok_X4_ends σ x1 1 ∧ (True))) ∧ (¬ (2 * (σ 32 0) < σ 33 0) → ok_X4_ends σ x1 1 ∧ (True))) ∧ (¬ (σ 10 (x1.toNatClampNeg) = 13) → True))))))))))))))
set_option maxHeartbeats 4000000 in
set_option maxRecDepth 100000 in
theorem m_X4_oneStep {l : Launch} {D : va_G} {cI cZ : ClassId} {ad : Nat → Nat} (hJ : zs_J 31 ad) (d : Nat) (σ : zs_T) (x1 : Int32) (hok : ok_X4_oneStep σ x1) : zs_M l D vwCl (tysM cI cZ) 31 ad (wM cI cZ ad) yX4_oneStep (Cond.code yX4_oneStep cX4_oneStep 4 none :: zw_G) (zw_rm (d + 3)) [.ref (ad 0), .int x1] zs_vv σ (fn_X4_oneStep σ x1) := by
  refine zs_ofZ (cc := cX4_oneStep) (nL := 4) (ret := none) (lv0 := [(0, .ref (ad 0)), (1, .int x1)]) (by decide) rfl hJ (Nat.le_of_ble_eq_true rfl) rfl ?_
  intro p e s m args below meth c C hr
  unfold ok_X4_oneStep at hok
  unfold fn_X4_oneStep
  refine zs_aload_n (k := 0) C dX4_oneStep_0 rfl rfl ?_
  refine gM_place C lkX4_51 dX4_oneStep_1 ?_
  refine zs_iload_n (k := 1) C dX4_oneStep_4 rfl rfl ?_
  obtain ⟨h_1, hok⟩ := hok
  refine aM_place C h_1 dX4_oneStep_5 ?_
  refine zs_istore_n (lv' := [(2, .int (σ 10 (x1.toNatClampNeg))), (0, .ref (ad 0)), (1, .int x1)]) C dX4_oneStep_6 rfl (by decide) rfl ?_
  refine zs_iload_n (k := 0) C dX4_oneStep_7 rfl rfl ?_
  refine zs_iconst (v := 1) C dX4_oneStep_8 (by decide) ?_
  refine zs_icmp_ne (tgt := 69) C dX4_oneStep_9 (by decide) (fun c_2 => ?_) (fun c_2 => ?_)
  · have hok := hok.1 c_2
    refine zs_aload_n (k := 1) C dX4_oneStep_12 rfl rfl ?_
    refine gM_low C lkX4_63 dX4_oneStep_13 ?_
    refine zs_iload_n (k := 2) C dX4_oneStep_16 rfl rfl ?_
    refine zs_aload_n (k := 1) C dX4_oneStep_17 rfl rfl ?_
    refine gM_era C lkX4_48 dX4_oneStep_18 ?_
    obtain ⟨h_3, hok⟩ := hok
    refine sM_low C h_3 dX4_oneStep_21 ?_
    refine zs_aload_n (k := 1) C dX4_oneStep_22 rfl rfl ?_
    refine gM_high C lkX4_66 dX4_oneStep_23 ?_
    refine zs_iload_n (k := 2) C dX4_oneStep_26 rfl rfl ?_
    refine zs_aload_n (k := 1) C dX4_oneStep_27 rfl rfl ?_
    refine gM_era C lkX4_48 dX4_oneStep_28 ?_
    obtain ⟨h_4, hok⟩ := hok
    refine sM_high C h_4 dX4_oneStep_31 ?_
    refine zs_aload_n (k := 1) C dX4_oneStep_32 rfl rfl ?_
    refine gM_at C lkX4_69 dX4_oneStep_33 ?_
    refine zs_iload_n (k := 2) C dX4_oneStep_36 rfl rfl ?_
    refine zs_aload_n (k := 1) C dX4_oneStep_37 rfl rfl ?_
    refine gM_key C lkX4_57 dX4_oneStep_38 ?_
    refine zs_iload_n (k := 2) C dX4_oneStep_41 rfl rfl ?_
    obtain ⟨h_5, hok⟩ := hok
    refine aM_key C h_5 dX4_oneStep_42 ?_
    refine zk_callSi (As := [.int ((zs_u (zs_u σ 14 (x1.toNatClampNeg) (σ 34 0)) 15 (x1.toNatClampNeg) ((zs_u σ 14 (x1.toNatClampNeg) (σ 34 0)) 34 0)) 12 (x1.toNatClampNeg))]) (rest := [.int x1, .ref (ad 16)]) C pk_X4_hash (by decide) lkX4_118 (m_X4_hash hJ (d + 2) (zs_u (zs_u σ 14 (x1.toNatClampNeg) (σ 34 0)) 15 (x1.toNatClampNeg) ((zs_u σ 14 (x1.toNatClampNeg) (σ 34 0)) 34 0)) ((zs_u (zs_u σ 14 (x1.toNatClampNeg) (σ 34 0)) 15 (x1.toNatClampNeg) ((zs_u σ 14 (x1.toNatClampNeg) (σ 34 0)) 34 0)) 12 (x1.toNatClampNeg))) rfl rfl (Nat.le_of_ble_eq_true rfl) dX4_oneStep_43 ?_
    refine zs_aload_n (k := 1) C dX4_oneStep_46 rfl rfl ?_
    refine gM_size C lkX4_42 dX4_oneStep_47 ?_
    obtain ⟨h_6, hok⟩ := hok
    refine zs_irem C dX4_oneStep_50 h_6 ?_
    obtain ⟨h_7, hok⟩ := hok
    refine sM_at C h_7 dX4_oneStep_51 ?_
    refine zs_aload_n (k := 1) C dX4_oneStep_52 rfl rfl ?_
    refine gM_depth C lkX4_75 dX4_oneStep_53 ?_
    refine zs_iload_n (k := 2) C dX4_oneStep_56 rfl rfl ?_
    refine zs_iconst (v := 0) C dX4_oneStep_57 (by decide) ?_
    obtain ⟨h_8, hok⟩ := hok
    refine sM_depth C h_8 dX4_oneStep_58 ?_
    refine zs_aload_n (k := 1) C dX4_oneStep_59 rfl rfl ?_
    refine gM_place C lkX4_51 dX4_oneStep_60 ?_
    refine zs_iload_n (k := 2) C dX4_oneStep_63 rfl rfl ?_
    refine zs_iconst (v := 2) C dX4_oneStep_64 (by decide) ?_
    obtain ⟨h_9, hok⟩ := hok
    refine sM_place C h_9 dX4_oneStep_65 ?_
    refine zs_goto (tgt := 726) C dX4_oneStep_66 (by decide) ?_
    exact zs_vret C hr dX4_oneStep_726
  · have hok := hok.2 c_2
    refine zs_iload_n (k := 0) C dX4_oneStep_69 rfl rfl ?_
    refine zs_iconst (v := 2) C dX4_oneStep_70 (by decide) ?_
    refine zs_icmp_ne (tgt := 165) C dX4_oneStep_71 (by decide) (fun c_10 => ?_) (fun c_10 => ?_)
    · have hok := hok.1 c_10
      refine zs_aload_n (k := 1) C dX4_oneStep_74 rfl rfl ?_
      refine gM_buckets C lkX4_39 dX4_oneStep_75 ?_
      refine zs_aload_n (k := 1) C dX4_oneStep_78 rfl rfl ?_
      refine gM_at C lkX4_69 dX4_oneStep_79 ?_
      refine zs_iload_n (k := 2) C dX4_oneStep_82 rfl rfl ?_
      obtain ⟨h_11, hok⟩ := hok
      refine aM_at C h_11 dX4_oneStep_83 ?_
      obtain ⟨h_12, hok⟩ := hok
      refine aM_buckets C h_12 dX4_oneStep_84 ?_
      refine zs_if_lt (tgt := 115) C dX4_oneStep_85 (by decide) (fun c_13 => ?_) (fun c_13 => ?_)
      · have hok := hok.1 c_13
        refine zs_aload_n (k := 1) C dX4_oneStep_115 rfl rfl ?_
        refine gM_stack C lkX4_72 dX4_oneStep_116 ?_
        refine zs_bipush (v := 16) C dX4_oneStep_119 (by decide) ?_
        refine zs_iload_n (k := 2) C dX4_oneStep_121 rfl rfl ?_
        refine zs_imul C dX4_oneStep_122 ?_
        refine zs_aload_n (k := 1) C dX4_oneStep_123 rfl rfl ?_
        refine gM_depth C lkX4_75 dX4_oneStep_124 ?_
        refine zs_iload_n (k := 2) C dX4_oneStep_127 rfl rfl ?_
        obtain ⟨h_14, hok⟩ := hok
        refine aM_depth C h_14 dX4_oneStep_128 ?_
        refine zs_iadd C dX4_oneStep_129 ?_
        refine zs_aload_n (k := 1) C dX4_oneStep_130 rfl rfl ?_
        refine gM_at C lkX4_69 dX4_oneStep_131 ?_
        refine zs_iload_n (k := 2) C dX4_oneStep_134 rfl rfl ?_
        obtain ⟨h_15, hok⟩ := hok
        refine aM_at C h_15 dX4_oneStep_135 ?_
        obtain ⟨h_16, hok⟩ := hok
        refine sM_stack C h_16 dX4_oneStep_136 ?_
        refine zs_aload_n (k := 1) C dX4_oneStep_137 rfl rfl ?_
        refine gM_depth C lkX4_75 dX4_oneStep_138 ?_
        refine zs_iload_n (k := 2) C dX4_oneStep_141 rfl rfl ?_
        refine zs_dup2 C dX4_oneStep_142 rfl rfl ?_
        obtain ⟨h_17, hok⟩ := hok
        refine aM_depth C h_17 dX4_oneStep_143 ?_
        refine zs_iconst (v := 1) C dX4_oneStep_144 (by decide) ?_
        refine zs_iadd C dX4_oneStep_145 ?_
        obtain ⟨h_18, hok⟩ := hok
        refine sM_depth C h_18 dX4_oneStep_146 ?_
        refine zs_aload_n (k := 1) C dX4_oneStep_147 rfl rfl ?_
        refine gM_at C lkX4_69 dX4_oneStep_148 ?_
        refine zs_iload_n (k := 2) C dX4_oneStep_151 rfl rfl ?_
        refine zs_aload_n (k := 1) C dX4_oneStep_152 rfl rfl ?_
        refine gM_at C lkX4_69 dX4_oneStep_153 ?_
        refine zs_iload_n (k := 2) C dX4_oneStep_156 rfl rfl ?_
        obtain ⟨h_19, hok⟩ := hok
        refine aM_at C h_19 dX4_oneStep_157 ?_
        obtain ⟨h_20, hok⟩ := hok
        refine zk_callSi (As := [.int ((zs_u (zs_u σ 27 (((16 * x1) + (σ 30 (x1.toNatClampNeg))).toNatClampNeg) (σ 16 (x1.toNatClampNeg))) 30 (x1.toNatClampNeg) (((zs_u σ 27 (((16 * x1) + (σ 30 (x1.toNatClampNeg))).toNatClampNeg) (σ 16 (x1.toNatClampNeg))) 30 (x1.toNatClampNeg)) + 1)) 16 (x1.toNatClampNeg))]) (rest := [.int x1, .ref (ad 16)]) C pk_X4_parent (by decide) lkX4_141 (m_X4_parent hJ (d + 2) (zs_u (zs_u σ 27 (((16 * x1) + (σ 30 (x1.toNatClampNeg))).toNatClampNeg) (σ 16 (x1.toNatClampNeg))) 30 (x1.toNatClampNeg) (((zs_u σ 27 (((16 * x1) + (σ 30 (x1.toNatClampNeg))).toNatClampNeg) (σ 16 (x1.toNatClampNeg))) 30 (x1.toNatClampNeg)) + 1)) ((zs_u (zs_u σ 27 (((16 * x1) + (σ 30 (x1.toNatClampNeg))).toNatClampNeg) (σ 16 (x1.toNatClampNeg))) 30 (x1.toNatClampNeg) (((zs_u σ 27 (((16 * x1) + (σ 30 (x1.toNatClampNeg))).toNatClampNeg) (σ 16 (x1.toNatClampNeg))) 30 (x1.toNatClampNeg)) + 1)) 16 (x1.toNatClampNeg)) h_20) rfl rfl (Nat.le_of_ble_eq_true rfl) dX4_oneStep_158 ?_
        obtain ⟨h_21, hok⟩ := hok
        refine sM_at C h_21 dX4_oneStep_161 ?_
        refine zs_goto (tgt := 726) C dX4_oneStep_162 (by decide) ?_
        exact zs_vret C hr dX4_oneStep_726
      · have hok := hok.2 c_13
        refine zs_aload_n (k := 1) C dX4_oneStep_88 rfl rfl ?_
        refine gM_from C lkX4_78 dX4_oneStep_89 ?_
        refine zs_iload_n (k := 2) C dX4_oneStep_92 rfl rfl ?_
        refine zs_aload_n (k := 1) C dX4_oneStep_93 rfl rfl ?_
        refine gM_buckets C lkX4_39 dX4_oneStep_94 ?_
        refine zs_aload_n (k := 1) C dX4_oneStep_97 rfl rfl ?_
        refine gM_at C lkX4_69 dX4_oneStep_98 ?_
        refine zs_iload_n (k := 2) C dX4_oneStep_101 rfl rfl ?_
        obtain ⟨h_22, hok⟩ := hok
        refine aM_at C h_22 dX4_oneStep_102 ?_
        obtain ⟨h_23, hok⟩ := hok
        refine aM_buckets C h_23 dX4_oneStep_103 ?_
        obtain ⟨h_24, hok⟩ := hok
        refine sM_from C h_24 dX4_oneStep_104 ?_
        refine zs_aload_n (k := 1) C dX4_oneStep_105 rfl rfl ?_
        refine gM_place C lkX4_51 dX4_oneStep_106 ?_
        refine zs_iload_n (k := 2) C dX4_oneStep_109 rfl rfl ?_
        refine zs_iconst (v := 3) C dX4_oneStep_110 (by decide) ?_
        obtain ⟨h_25, hok⟩ := hok
        refine sM_place C h_25 dX4_oneStep_111 ?_
        refine zs_goto (tgt := 726) C dX4_oneStep_112 (by decide) ?_
        exact zs_vret C hr dX4_oneStep_726
    · have hok := hok.2 c_10
      refine zs_iload_n (k := 0) C dX4_oneStep_165 rfl rfl ?_
      refine zs_iconst (v := 3) C dX4_oneStep_166 (by decide) ?_
      refine zs_icmp_ne (tgt := 217) C dX4_oneStep_167 (by decide) (fun c_26 => ?_) (fun c_26 => ?_)
      · have hok := hok.1 c_26
        refine zs_aload_n (k := 1) C dX4_oneStep_170 rfl rfl ?_
        refine zs_iload_n (k := 2) C dX4_oneStep_171 rfl rfl ?_
        obtain ⟨h_27, hok⟩ := hok
        refine zk_callVi (As := [.int x1]) (rest := []) C pk_X4_reads (by decide) lkX4_144 (m_X4_reads hJ (d + 2) σ x1 h_27) zm_recv rfl rfl rfl (Nat.le_of_ble_eq_true rfl) dX4_oneStep_172 ?_
        refine zs_if_eq (tgt := 726) C dX4_oneStep_175 (by decide) (fun c_28 => ?_) (fun c_28 => ?_)
        · have hok := hok.1 c_28
          exact zs_vret C hr dX4_oneStep_726
        · have hok := hok.2 c_28
          refine zs_aload_n (k := 1) C dX4_oneStep_178 rfl rfl ?_
          refine gM_prev C lkX4_81 dX4_oneStep_179 ?_
          refine zs_iload_n (k := 2) C dX4_oneStep_182 rfl rfl ?_
          refine zs_aload_n (k := 1) C dX4_oneStep_183 rfl rfl ?_
          refine gM_from C lkX4_78 dX4_oneStep_184 ?_
          refine zs_iload_n (k := 2) C dX4_oneStep_187 rfl rfl ?_
          obtain ⟨h_29, hok⟩ := hok
          refine aM_from C h_29 dX4_oneStep_188 ?_
          obtain ⟨h_30, hok⟩ := hok
          refine sM_prev C h_30 dX4_oneStep_189 ?_
          refine zs_aload_n (k := 1) C dX4_oneStep_190 rfl rfl ?_
          refine gM_cur C lkX4_84 dX4_oneStep_191 ?_
          refine zs_iload_n (k := 2) C dX4_oneStep_194 rfl rfl ?_
          refine zs_aload_n (k := 1) C dX4_oneStep_195 rfl rfl ?_
          refine gM_next C lkX4_20 dX4_oneStep_196 ?_
          refine zs_aload_n (k := 1) C dX4_oneStep_199 rfl rfl ?_
          refine gM_from C lkX4_78 dX4_oneStep_200 ?_
          refine zs_iload_n (k := 2) C dX4_oneStep_203 rfl rfl ?_
          obtain ⟨h_31, hok⟩ := hok
          refine aM_from C h_31 dX4_oneStep_204 ?_
          obtain ⟨h_32, hok⟩ := hok
          refine aM_next C h_32 dX4_oneStep_205 ?_
          obtain ⟨h_33, hok⟩ := hok
          refine sM_cur C h_33 dX4_oneStep_206 ?_
          refine zs_aload_n (k := 1) C dX4_oneStep_207 rfl rfl ?_
          refine gM_place C lkX4_51 dX4_oneStep_208 ?_
          refine zs_iload_n (k := 2) C dX4_oneStep_211 rfl rfl ?_
          refine zs_iconst (v := 4) C dX4_oneStep_212 (by decide) ?_
          obtain ⟨h_34, hok⟩ := hok
          refine sM_place C h_34 dX4_oneStep_213 ?_
          refine zs_goto (tgt := 726) C dX4_oneStep_214 (by decide) ?_
          exact zs_vret C hr dX4_oneStep_726
      · have hok := hok.2 c_26
        refine zs_iload_n (k := 0) C dX4_oneStep_217 rfl rfl ?_
        refine zs_iconst (v := 4) C dX4_oneStep_218 (by decide) ?_
        refine zs_icmp_ne (tgt := 292) C dX4_oneStep_219 (by decide) (fun c_35 => ?_) (fun c_35 => ?_)
        · have hok := hok.1 c_35
          refine zs_aload_n (k := 1) C dX4_oneStep_222 rfl rfl ?_
          refine gM_cur C lkX4_84 dX4_oneStep_223 ?_
          refine zs_iload_n (k := 2) C dX4_oneStep_226 rfl rfl ?_
          obtain ⟨h_36, hok⟩ := hok
          refine aM_cur C h_36 dX4_oneStep_227 ?_
          refine zs_if_ge (tgt := 240) C dX4_oneStep_228 (by decide) (fun c_37 => ?_) (fun c_37 => ?_)
          · have hok := hok.1 c_37
            refine zs_aload_n (k := 1) C dX4_oneStep_231 rfl rfl ?_
            refine zs_iload_n (k := 2) C dX4_oneStep_232 rfl rfl ?_
            refine zs_iconst (v := 0) C dX4_oneStep_233 (by decide) ?_
            obtain ⟨h_38, hok⟩ := hok
            refine zk_callVv (As := [.int x1, .int 0]) (rest := []) C pk_X4_over (by decide) lkX4_133 (m_X4_over hJ (d + 1) σ x1 0 h_38) zm_recv rfl rfl rfl (Nat.le_of_ble_eq_true rfl) dX4_oneStep_234 ?_
            refine zs_goto (tgt := 726) C dX4_oneStep_237 (by decide) ?_
            exact zs_vret C hr dX4_oneStep_726
          · have hok := hok.2 c_37
            refine zs_aload_n (k := 1) C dX4_oneStep_240 rfl rfl ?_
            refine zs_iload_n (k := 2) C dX4_oneStep_241 rfl rfl ?_
            obtain ⟨h_39, hok⟩ := hok
            refine zk_callVi (As := [.int x1]) (rest := []) C pk_X4_reads (by decide) lkX4_144 (m_X4_reads hJ (d + 2) σ x1 h_39) zm_recv rfl rfl rfl (Nat.le_of_ble_eq_true rfl) dX4_oneStep_242 ?_
            refine zs_if_eq (tgt := 726) C dX4_oneStep_245 (by decide) (fun c_40 => ?_) (fun c_40 => ?_)
            · have hok := hok.1 c_40
              exact zs_vret C hr dX4_oneStep_726
            · have hok := hok.2 c_40
              refine zs_aload_n (k := 1) C dX4_oneStep_248 rfl rfl ?_
              refine gM_nxt C lkX4_87 dX4_oneStep_249 ?_
              refine zs_iload_n (k := 2) C dX4_oneStep_252 rfl rfl ?_
              refine zs_aload_n (k := 1) C dX4_oneStep_253 rfl rfl ?_
              refine gM_next C lkX4_20 dX4_oneStep_254 ?_
              refine zs_aload_n (k := 1) C dX4_oneStep_257 rfl rfl ?_
              refine gM_cur C lkX4_84 dX4_oneStep_258 ?_
              refine zs_iload_n (k := 2) C dX4_oneStep_261 rfl rfl ?_
              obtain ⟨h_41, hok⟩ := hok
              refine aM_cur C h_41 dX4_oneStep_262 ?_
              obtain ⟨h_42, hok⟩ := hok
              refine aM_next C h_42 dX4_oneStep_263 ?_
              obtain ⟨h_43, hok⟩ := hok
              refine sM_nxt C h_43 dX4_oneStep_264 ?_
              refine zs_aload_n (k := 1) C dX4_oneStep_265 rfl rfl ?_
              refine gM_marked C lkX4_90 dX4_oneStep_266 ?_
              refine zs_iload_n (k := 2) C dX4_oneStep_269 rfl rfl ?_
              refine zs_aload_n (k := 1) C dX4_oneStep_270 rfl rfl ?_
              refine gM_mark C lkX4_23 dX4_oneStep_271 ?_
              refine zs_aload_n (k := 1) C dX4_oneStep_274 rfl rfl ?_
              refine gM_cur C lkX4_84 dX4_oneStep_275 ?_
              refine zs_iload_n (k := 2) C dX4_oneStep_278 rfl rfl ?_
              obtain ⟨h_44, hok⟩ := hok
              refine aM_cur C h_44 dX4_oneStep_279 ?_
              obtain ⟨h_45, hok⟩ := hok
              refine aM_mark C h_45 dX4_oneStep_280 ?_
              obtain ⟨h_46, hok⟩ := hok
              obtain ⟨h_47, hok⟩ := hok
              refine sM_marked C h_46 h_47 dX4_oneStep_281 ?_
              refine zs_aload_n (k := 1) C dX4_oneStep_282 rfl rfl ?_
              refine gM_place C lkX4_51 dX4_oneStep_283 ?_
              refine zs_iload_n (k := 2) C dX4_oneStep_286 rfl rfl ?_
              refine zs_iconst (v := 5) C dX4_oneStep_287 (by decide) ?_
              obtain ⟨h_48, hok⟩ := hok
              refine sM_place C h_48 dX4_oneStep_288 ?_
              refine zs_goto (tgt := 726) C dX4_oneStep_289 (by decide) ?_
              exact zs_vret C hr dX4_oneStep_726
        · have hok := hok.2 c_35
          refine zs_iload_n (k := 0) C dX4_oneStep_292 rfl rfl ?_
          refine zs_iconst (v := 5) C dX4_oneStep_293 (by decide) ?_
          refine zs_icmp_ne (tgt := 305) C dX4_oneStep_294 (by decide) (fun c_49 => ?_) (fun c_49 => ?_)
          · have hok := hok.1 c_49
            refine zs_aload_n (k := 1) C dX4_oneStep_297 rfl rfl ?_
            refine zs_iload_n (k := 2) C dX4_oneStep_298 rfl rfl ?_
            obtain ⟨h_50, hok⟩ := hok
            refine zk_callVv (As := [.int x1]) (rest := []) C pk_X4_look (by decide) lkX4_148 (m_X4_look hJ d σ x1 h_50) zm_recv rfl rfl rfl (Nat.le_of_ble_eq_true rfl) dX4_oneStep_299 ?_
            refine zs_goto (tgt := 726) C dX4_oneStep_302 (by decide) ?_
            exact zs_vret C hr dX4_oneStep_726
          · have hok := hok.2 c_49
            refine zs_iload_n (k := 0) C dX4_oneStep_305 rfl rfl ?_
            refine zs_bipush (v := 6) C dX4_oneStep_306 (by decide) ?_
            refine zs_icmp_ne (tgt := 377) C dX4_oneStep_308 (by decide) (fun c_51 => ?_) (fun c_51 => ?_)
            · have hok := hok.1 c_51
              refine zs_aload_n (k := 1) C dX4_oneStep_311 rfl rfl ?_
              refine gM_place C lkX4_51 dX4_oneStep_312 ?_
              refine zs_iload_n (k := 2) C dX4_oneStep_315 rfl rfl ?_
              refine zs_iconst (v := 3) C dX4_oneStep_316 (by decide) ?_
              obtain ⟨h_52, hok⟩ := hok
              refine sM_place C h_52 dX4_oneStep_317 ?_
              refine zs_aload_n (k := 1) C dX4_oneStep_318 rfl rfl ?_
              refine zs_aload_n (k := 1) C dX4_oneStep_319 rfl rfl ?_
              refine gM_prev C lkX4_81 dX4_oneStep_320 ?_
              refine zs_iload_n (k := 2) C dX4_oneStep_323 rfl rfl ?_
              obtain ⟨h_53, hok⟩ := hok
              refine aM_prev C h_53 dX4_oneStep_324 ?_
              refine zs_aload_n (k := 1) C dX4_oneStep_325 rfl rfl ?_
              refine gM_cur C lkX4_84 dX4_oneStep_326 ?_
              refine zs_iload_n (k := 2) C dX4_oneStep_329 rfl rfl ?_
              obtain ⟨h_54, hok⟩ := hok
              refine aM_cur C h_54 dX4_oneStep_330 ?_
              refine zs_aload_n (k := 1) C dX4_oneStep_331 rfl rfl ?_
              refine gM_nxt C lkX4_87 dX4_oneStep_332 ?_
              refine zs_iload_n (k := 2) C dX4_oneStep_335 rfl rfl ?_
              obtain ⟨h_55, hok⟩ := hok
              refine aM_nxt C h_55 dX4_oneStep_336 ?_
              refine zs_iconst (v := 0) C dX4_oneStep_337 (by decide) ?_
              obtain ⟨h_56, hok⟩ := hok
              refine zk_callVi (As := [.int ((zs_u σ 10 (x1.toNatClampNeg) 3) 18 (x1.toNatClampNeg)), .int ((zs_u σ 10 (x1.toNatClampNeg) 3) 19 (x1.toNatClampNeg)), .int ((zs_u σ 10 (x1.toNatClampNeg) 3) 20 (x1.toNatClampNeg)), .int 0]) (rest := []) C pk_X4_change (by decide) lkX4_137 (m_X4_change hJ (d + 2) (zs_u σ 10 (x1.toNatClampNeg) 3) ((zs_u σ 10 (x1.toNatClampNeg) 3) 18 (x1.toNatClampNeg)) ((zs_u σ 10 (x1.toNatClampNeg) 3) 19 (x1.toNatClampNeg)) ((zs_u σ 10 (x1.toNatClampNeg) 3) 20 (x1.toNatClampNeg)) 0 h_56) zm_recv rfl rfl rfl (Nat.le_of_ble_eq_true rfl) dX4_oneStep_338 ?_
              refine zs_if_eq (tgt := 726) C dX4_oneStep_341 (by decide) (fun c_57 => ?_) (fun c_57 => ?_)
              · have hok := hok.1 c_57
                exact zs_vret C hr dX4_oneStep_726
              · have hok := hok.2 c_57
                refine zs_aload_n (k := 1) C dX4_oneStep_344 rfl rfl ?_
                refine zs_iload_n (k := 2) C dX4_oneStep_345 rfl rfl ?_
                refine zs_aload_n (k := 1) C dX4_oneStep_346 rfl rfl ?_
                refine gM_cur C lkX4_84 dX4_oneStep_347 ?_
                refine zs_iload_n (k := 2) C dX4_oneStep_350 rfl rfl ?_
                obtain ⟨h_58, hok⟩ := hok
                refine aM_cur C h_58 dX4_oneStep_351 ?_
                obtain ⟨h_59, hok⟩ := hok
                refine zk_callVv (As := [.int x1, .int (((fn_X4_change (zs_u σ 10 (x1.toNatClampNeg) 3) ((zs_u σ 10 (x1.toNatClampNeg) 3) 18 (x1.toNatClampNeg)) ((zs_u σ 10 (x1.toNatClampNeg) 3) 19 (x1.toNatClampNeg)) ((zs_u σ 10 (x1.toNatClampNeg) 3) 20 (x1.toNatClampNeg)) 0).1) 19 (x1.toNatClampNeg))]) (rest := []) C pk_X4_retire (by decide) lkX4_152 (m_X4_retire hJ (d + 2) ((fn_X4_change (zs_u σ 10 (x1.toNatClampNeg) 3) ((zs_u σ 10 (x1.toNatClampNeg) 3) 18 (x1.toNatClampNeg)) ((zs_u σ 10 (x1.toNatClampNeg) 3) 19 (x1.toNatClampNeg)) ((zs_u σ 10 (x1.toNatClampNeg) 3) 20 (x1.toNatClampNeg)) 0).1) x1 (((fn_X4_change (zs_u σ 10 (x1.toNatClampNeg) 3) ((zs_u σ 10 (x1.toNatClampNeg) 3) 18 (x1.toNatClampNeg)) ((zs_u σ 10 (x1.toNatClampNeg) 3) 19 (x1.toNatClampNeg)) ((zs_u σ 10 (x1.toNatClampNeg) 3) 20 (x1.toNatClampNeg)) 0).1) 19 (x1.toNatClampNeg)) h_59) zm_recv rfl rfl rfl (Nat.le_of_ble_eq_true rfl) dX4_oneStep_352 ?_
                refine zs_aload_n (k := 1) C dX4_oneStep_355 rfl rfl ?_
                refine gM_cur C lkX4_84 dX4_oneStep_356 ?_
                refine zs_iload_n (k := 2) C dX4_oneStep_359 rfl rfl ?_
                refine zs_aload_n (k := 1) C dX4_oneStep_360 rfl rfl ?_
                refine gM_nxt C lkX4_87 dX4_oneStep_361 ?_
                refine zs_iload_n (k := 2) C dX4_oneStep_364 rfl rfl ?_
                obtain ⟨h_60, hok⟩ := hok
                refine aM_nxt C h_60 dX4_oneStep_365 ?_
                obtain ⟨h_61, hok⟩ := hok
                refine sM_cur C h_61 dX4_oneStep_366 ?_
                refine zs_aload_n (k := 1) C dX4_oneStep_367 rfl rfl ?_
                refine gM_place C lkX4_51 dX4_oneStep_368 ?_
                refine zs_iload_n (k := 2) C dX4_oneStep_371 rfl rfl ?_
                refine zs_iconst (v := 4) C dX4_oneStep_372 (by decide) ?_
                obtain ⟨h_62, hok⟩ := hok
                refine sM_place C h_62 dX4_oneStep_373 ?_
                refine zs_goto (tgt := 726) C dX4_oneStep_374 (by decide) ?_
                exact zs_vret C hr dX4_oneStep_726
            · have hok := hok.2 c_51
              refine zs_iload_n (k := 0) C dX4_oneStep_377 rfl rfl ?_
              refine zs_bipush (v := 7) C dX4_oneStep_378 (by decide) ?_
              refine zs_icmp_ne (tgt := 391) C dX4_oneStep_380 (by decide) (fun c_63 => ?_) (fun c_63 => ?_)
              · have hok := hok.1 c_63
                refine zs_aload_n (k := 1) C dX4_oneStep_383 rfl rfl ?_
                refine zs_iload_n (k := 2) C dX4_oneStep_384 rfl rfl ?_
                obtain ⟨h_64, hok⟩ := hok
                refine zk_callVv (As := [.int x1]) (rest := []) C pk_X4_prepare (by decide) lkX4_155 (m_X4_prepare hJ d σ x1 h_64) zm_recv rfl rfl rfl (Nat.le_of_ble_eq_true rfl) dX4_oneStep_385 ?_
                refine zs_goto (tgt := 726) C dX4_oneStep_388 (by decide) ?_
                exact zs_vret C hr dX4_oneStep_726
              · have hok := hok.2 c_63
                refine zs_iload_n (k := 0) C dX4_oneStep_391 rfl rfl ?_
                refine zs_bipush (v := 8) C dX4_oneStep_392 (by decide) ?_
                refine zs_icmp_ne (tgt := 405) C dX4_oneStep_394 (by decide) (fun c_65 => ?_) (fun c_65 => ?_)
                · have hok := hok.1 c_65
                  refine zs_aload_n (k := 1) C dX4_oneStep_397 rfl rfl ?_
                  refine zs_iload_n (k := 2) C dX4_oneStep_398 rfl rfl ?_
                  obtain ⟨h_66, hok⟩ := hok
                  refine zk_callVv (As := [.int x1]) (rest := []) C pk_X4_putIn (by decide) lkX4_158 (m_X4_putIn hJ (d + 1) σ x1 h_66) zm_recv rfl rfl rfl (Nat.le_of_ble_eq_true rfl) dX4_oneStep_399 ?_
                  refine zs_goto (tgt := 726) C dX4_oneStep_402 (by decide) ?_
                  exact zs_vret C hr dX4_oneStep_726
                · have hok := hok.2 c_65
                  refine zs_iload_n (k := 0) C dX4_oneStep_405 rfl rfl ?_
                  refine zs_bipush (v := 9) C dX4_oneStep_406 (by decide) ?_
                  refine zs_icmp_ne (tgt := 509) C dX4_oneStep_408 (by decide) (fun c_67 => ?_) (fun c_67 => ?_)
                  · have hok := hok.1 c_67
                    refine zs_aload_n (k := 1) C dX4_oneStep_411 rfl rfl ?_
                    refine gM_own C lkX4_93 dX4_oneStep_412 ?_
                    refine zs_iload_n (k := 2) C dX4_oneStep_415 rfl rfl ?_
                    obtain ⟨h_68, hok⟩ := hok
                    refine aM_own C h_68 dX4_oneStep_416 ?_
                    refine zs_if_lt (tgt := 432) C dX4_oneStep_417 (by decide) (fun c_69 => ?_) (fun c_69 => ?_)
                    · have hok := hok.1 c_69
                      refine zs_aload_n (k := 1) C dX4_oneStep_432 rfl rfl ?_
                      refine gM_own C lkX4_93 dX4_oneStep_433 ?_
                      refine zs_iload_n (k := 2) C dX4_oneStep_436 rfl rfl ?_
                      refine zs_iconst (v := (-1)) C dX4_oneStep_437 (by decide) ?_
                      obtain ⟨h_70, hok⟩ := hok
                      refine sM_own C h_70 dX4_oneStep_438 ?_
                      refine zs_aload_n (k := 1) C dX4_oneStep_439 rfl rfl ?_
                      refine gM_depth C lkX4_75 dX4_oneStep_440 ?_
                      refine zs_iload_n (k := 2) C dX4_oneStep_443 rfl rfl ?_
                      refine zs_dup2 C dX4_oneStep_444 rfl rfl ?_
                      obtain ⟨h_71, hok⟩ := hok
                      refine aM_depth C h_71 dX4_oneStep_445 ?_
                      refine zs_iconst (v := 1) C dX4_oneStep_446 (by decide) ?_
                      refine zs_isub C dX4_oneStep_447 ?_
                      obtain ⟨h_72, hok⟩ := hok
                      refine sM_depth C h_72 dX4_oneStep_448 ?_
                      refine zs_aload_n (k := 1) C dX4_oneStep_449 rfl rfl ?_
                      refine gM_stack C lkX4_72 dX4_oneStep_450 ?_
                      refine zs_bipush (v := 16) C dX4_oneStep_453 (by decide) ?_
                      refine zs_iload_n (k := 2) C dX4_oneStep_455 rfl rfl ?_
                      refine zs_imul C dX4_oneStep_456 ?_
                      refine zs_aload_n (k := 1) C dX4_oneStep_457 rfl rfl ?_
                      refine gM_depth C lkX4_75 dX4_oneStep_458 ?_
                      refine zs_iload_n (k := 2) C dX4_oneStep_461 rfl rfl ?_
                      obtain ⟨h_73, hok⟩ := hok
                      refine aM_depth C h_73 dX4_oneStep_462 ?_
                      refine zs_iadd C dX4_oneStep_463 ?_
                      obtain ⟨h_74, hok⟩ := hok
                      refine aM_stack C h_74 dX4_oneStep_464 ?_
                      refine zs_istore_n (lv' := [(3, .int ((zs_u (zs_u σ 22 (x1.toNatClampNeg) (-1)) 30 (x1.toNatClampNeg) (((zs_u σ 22 (x1.toNatClampNeg) (-1)) 30 (x1.toNatClampNeg)) - 1)) 27 (((16 * x1) + ((zs_u (zs_u σ 22 (x1.toNatClampNeg) (-1)) 30 (x1.toNatClampNeg) (((zs_u σ 22 (x1.toNatClampNeg) (-1)) 30 (x1.toNatClampNeg)) - 1)) 30 (x1.toNatClampNeg))).toNatClampNeg))), (2, .int (σ 10 (x1.toNatClampNeg))), (0, .ref (ad 0)), (1, .int x1)]) C dX4_oneStep_465 rfl (by decide) rfl ?_
                      refine zs_aload_n (k := 2) C dX4_oneStep_466 rfl rfl ?_
                      refine gM_buckets C lkX4_39 dX4_oneStep_467 ?_
                      refine zs_iload_n (k := 0) C dX4_oneStep_470 rfl rfl ?_
                      obtain ⟨h_75, hok⟩ := hok
                      refine aM_buckets C h_75 dX4_oneStep_471 ?_
                      refine zs_if_ge (tgt := 487) C dX4_oneStep_472 (by decide) (fun c_76 => ?_) (fun c_76 => ?_)
                      · have hok := hok.1 c_76
                        refine zs_aload_n (k := 2) C dX4_oneStep_475 rfl rfl ?_
                        refine gM_buckets C lkX4_39 dX4_oneStep_476 ?_
                        refine zs_iload_n (k := 0) C dX4_oneStep_479 rfl rfl ?_
                        refine zs_aload_n (k := 2) C dX4_oneStep_480 rfl rfl ?_
                        refine gM_given C lkX4_96 dX4_oneStep_481 ?_
                        refine zs_iload_n (k := 3) C dX4_oneStep_484 rfl rfl ?_
                        obtain ⟨h_77, hok⟩ := hok
                        refine aM_given C h_77 dX4_oneStep_485 ?_
                        obtain ⟨h_78, hok⟩ := hok
                        refine sM_buckets C h_78 dX4_oneStep_486 ?_
                        refine zs_aload_n (k := 2) C dX4_oneStep_487 rfl rfl ?_
                        refine gM_from C lkX4_78 dX4_oneStep_488 ?_
                        refine zs_iload_n (k := 3) C dX4_oneStep_491 rfl rfl ?_
                        refine zs_aload_n (k := 2) C dX4_oneStep_492 rfl rfl ?_
                        refine gM_given C lkX4_96 dX4_oneStep_493 ?_
                        refine zs_iload_n (k := 3) C dX4_oneStep_496 rfl rfl ?_
                        obtain ⟨h_79, hok⟩ := hok
                        refine aM_given C h_79 dX4_oneStep_497 ?_
                        obtain ⟨h_80, hok⟩ := hok
                        refine sM_from C h_80 dX4_oneStep_498 ?_
                        refine zs_aload_n (k := 2) C dX4_oneStep_499 rfl rfl ?_
                        refine gM_place C lkX4_51 dX4_oneStep_500 ?_
                        refine zs_iload_n (k := 3) C dX4_oneStep_503 rfl rfl ?_
                        refine zs_iconst (v := 3) C dX4_oneStep_504 (by decide) ?_
                        obtain ⟨h_81, hok⟩ := hok
                        refine sM_place C h_81 dX4_oneStep_505 ?_
                        refine zs_goto (tgt := 726) C dX4_oneStep_506 (by decide) ?_
                        exact zs_vret C hr dX4_oneStep_726
                      · have hok := hok.2 c_76
                        refine zs_aload_n (k := 2) C dX4_oneStep_487 rfl rfl ?_
                        refine gM_from C lkX4_78 dX4_oneStep_488 ?_
                        refine zs_iload_n (k := 3) C dX4_oneStep_491 rfl rfl ?_
                        refine zs_aload_n (k := 2) C dX4_oneStep_492 rfl rfl ?_
                        refine gM_given C lkX4_96 dX4_oneStep_493 ?_
                        refine zs_iload_n (k := 3) C dX4_oneStep_496 rfl rfl ?_
                        obtain ⟨h_82, hok⟩ := hok
                        refine aM_given C h_82 dX4_oneStep_497 ?_
                        obtain ⟨h_83, hok⟩ := hok
                        refine sM_from C h_83 dX4_oneStep_498 ?_
                        refine zs_aload_n (k := 2) C dX4_oneStep_499 rfl rfl ?_
                        refine gM_place C lkX4_51 dX4_oneStep_500 ?_
                        refine zs_iload_n (k := 3) C dX4_oneStep_503 rfl rfl ?_
                        refine zs_iconst (v := 3) C dX4_oneStep_504 (by decide) ?_
                        obtain ⟨h_84, hok⟩ := hok
                        refine sM_place C h_84 dX4_oneStep_505 ?_
                        refine zs_goto (tgt := 726) C dX4_oneStep_506 (by decide) ?_
                        exact zs_vret C hr dX4_oneStep_726
                    · have hok := hok.2 c_69
                      refine zs_aload_n (k := 1) C dX4_oneStep_420 rfl rfl ?_
                      refine gM_sort C lkX4_13 dX4_oneStep_421 ?_
                      refine zs_aload_n (k := 1) C dX4_oneStep_424 rfl rfl ?_
                      refine gM_own C lkX4_93 dX4_oneStep_425 ?_
                      refine zs_iload_n (k := 2) C dX4_oneStep_428 rfl rfl ?_
                      obtain ⟨h_85, hok⟩ := hok
                      refine aM_own C h_85 dX4_oneStep_429 ?_
                      refine zs_iconst (v := 0) C dX4_oneStep_430 (by decide) ?_
                      obtain ⟨h_86, hok⟩ := hok
                      refine sM_sort C h_86 dX4_oneStep_431 ?_
                      refine zs_aload_n (k := 1) C dX4_oneStep_432 rfl rfl ?_
                      refine gM_own C lkX4_93 dX4_oneStep_433 ?_
                      refine zs_iload_n (k := 2) C dX4_oneStep_436 rfl rfl ?_
                      refine zs_iconst (v := (-1)) C dX4_oneStep_437 (by decide) ?_
                      obtain ⟨h_87, hok⟩ := hok
                      refine sM_own C h_87 dX4_oneStep_438 ?_
                      refine zs_aload_n (k := 1) C dX4_oneStep_439 rfl rfl ?_
                      refine gM_depth C lkX4_75 dX4_oneStep_440 ?_
                      refine zs_iload_n (k := 2) C dX4_oneStep_443 rfl rfl ?_
                      refine zs_dup2 C dX4_oneStep_444 rfl rfl ?_
                      obtain ⟨h_88, hok⟩ := hok
                      refine aM_depth C h_88 dX4_oneStep_445 ?_
                      refine zs_iconst (v := 1) C dX4_oneStep_446 (by decide) ?_
                      refine zs_isub C dX4_oneStep_447 ?_
                      obtain ⟨h_89, hok⟩ := hok
                      refine sM_depth C h_89 dX4_oneStep_448 ?_
                      refine zs_aload_n (k := 1) C dX4_oneStep_449 rfl rfl ?_
                      refine gM_stack C lkX4_72 dX4_oneStep_450 ?_
                      refine zs_bipush (v := 16) C dX4_oneStep_453 (by decide) ?_
                      refine zs_iload_n (k := 2) C dX4_oneStep_455 rfl rfl ?_
                      refine zs_imul C dX4_oneStep_456 ?_
                      refine zs_aload_n (k := 1) C dX4_oneStep_457 rfl rfl ?_
                      refine gM_depth C lkX4_75 dX4_oneStep_458 ?_
                      refine zs_iload_n (k := 2) C dX4_oneStep_461 rfl rfl ?_
                      obtain ⟨h_90, hok⟩ := hok
                      refine aM_depth C h_90 dX4_oneStep_462 ?_
                      refine zs_iadd C dX4_oneStep_463 ?_
                      obtain ⟨h_91, hok⟩ := hok
                      refine aM_stack C h_91 dX4_oneStep_464 ?_
                      refine zs_istore_n (lv' := [(3, .int ((zs_u (zs_u (zs_u σ 0 ((σ 22 (x1.toNatClampNeg)).toNatClampNeg) 0) 22 (x1.toNatClampNeg) (-1)) 30 (x1.toNatClampNeg) (((zs_u (zs_u σ 0 ((σ 22 (x1.toNatClampNeg)).toNatClampNeg) 0) 22 (x1.toNatClampNeg) (-1)) 30 (x1.toNatClampNeg)) - 1)) 27 (((16 * x1) + ((zs_u (zs_u (zs_u σ 0 ((σ 22 (x1.toNatClampNeg)).toNatClampNeg) 0) 22 (x1.toNatClampNeg) (-1)) 30 (x1.toNatClampNeg) (((zs_u (zs_u σ 0 ((σ 22 (x1.toNatClampNeg)).toNatClampNeg) 0) 22 (x1.toNatClampNeg) (-1)) 30 (x1.toNatClampNeg)) - 1)) 30 (x1.toNatClampNeg))).toNatClampNeg))), (2, .int (σ 10 (x1.toNatClampNeg))), (0, .ref (ad 0)), (1, .int x1)]) C dX4_oneStep_465 rfl (by decide) rfl ?_
                      refine zs_aload_n (k := 2) C dX4_oneStep_466 rfl rfl ?_
                      refine gM_buckets C lkX4_39 dX4_oneStep_467 ?_
                      refine zs_iload_n (k := 0) C dX4_oneStep_470 rfl rfl ?_
                      obtain ⟨h_92, hok⟩ := hok
                      refine aM_buckets C h_92 dX4_oneStep_471 ?_
                      refine zs_if_ge (tgt := 487) C dX4_oneStep_472 (by decide) (fun c_93 => ?_) (fun c_93 => ?_)
                      · have hok := hok.1 c_93
                        refine zs_aload_n (k := 2) C dX4_oneStep_475 rfl rfl ?_
                        refine gM_buckets C lkX4_39 dX4_oneStep_476 ?_
                        refine zs_iload_n (k := 0) C dX4_oneStep_479 rfl rfl ?_
                        refine zs_aload_n (k := 2) C dX4_oneStep_480 rfl rfl ?_
                        refine gM_given C lkX4_96 dX4_oneStep_481 ?_
                        refine zs_iload_n (k := 3) C dX4_oneStep_484 rfl rfl ?_
                        obtain ⟨h_94, hok⟩ := hok
                        refine aM_given C h_94 dX4_oneStep_485 ?_
                        obtain ⟨h_95, hok⟩ := hok
                        refine sM_buckets C h_95 dX4_oneStep_486 ?_
                        refine zs_aload_n (k := 2) C dX4_oneStep_487 rfl rfl ?_
                        refine gM_from C lkX4_78 dX4_oneStep_488 ?_
                        refine zs_iload_n (k := 3) C dX4_oneStep_491 rfl rfl ?_
                        refine zs_aload_n (k := 2) C dX4_oneStep_492 rfl rfl ?_
                        refine gM_given C lkX4_96 dX4_oneStep_493 ?_
                        refine zs_iload_n (k := 3) C dX4_oneStep_496 rfl rfl ?_
                        obtain ⟨h_96, hok⟩ := hok
                        refine aM_given C h_96 dX4_oneStep_497 ?_
                        obtain ⟨h_97, hok⟩ := hok
                        refine sM_from C h_97 dX4_oneStep_498 ?_
                        refine zs_aload_n (k := 2) C dX4_oneStep_499 rfl rfl ?_
                        refine gM_place C lkX4_51 dX4_oneStep_500 ?_
                        refine zs_iload_n (k := 3) C dX4_oneStep_503 rfl rfl ?_
                        refine zs_iconst (v := 3) C dX4_oneStep_504 (by decide) ?_
                        obtain ⟨h_98, hok⟩ := hok
                        refine sM_place C h_98 dX4_oneStep_505 ?_
                        refine zs_goto (tgt := 726) C dX4_oneStep_506 (by decide) ?_
                        exact zs_vret C hr dX4_oneStep_726
                      · have hok := hok.2 c_93
                        refine zs_aload_n (k := 2) C dX4_oneStep_487 rfl rfl ?_
                        refine gM_from C lkX4_78 dX4_oneStep_488 ?_
                        refine zs_iload_n (k := 3) C dX4_oneStep_491 rfl rfl ?_
                        refine zs_aload_n (k := 2) C dX4_oneStep_492 rfl rfl ?_
                        refine gM_given C lkX4_96 dX4_oneStep_493 ?_
                        refine zs_iload_n (k := 3) C dX4_oneStep_496 rfl rfl ?_
                        obtain ⟨h_99, hok⟩ := hok
                        refine aM_given C h_99 dX4_oneStep_497 ?_
                        obtain ⟨h_100, hok⟩ := hok
                        refine sM_from C h_100 dX4_oneStep_498 ?_
                        refine zs_aload_n (k := 2) C dX4_oneStep_499 rfl rfl ?_
                        refine gM_place C lkX4_51 dX4_oneStep_500 ?_
                        refine zs_iload_n (k := 3) C dX4_oneStep_503 rfl rfl ?_
                        refine zs_iconst (v := 3) C dX4_oneStep_504 (by decide) ?_
                        obtain ⟨h_101, hok⟩ := hok
                        refine sM_place C h_101 dX4_oneStep_505 ?_
                        refine zs_goto (tgt := 726) C dX4_oneStep_506 (by decide) ?_
                        exact zs_vret C hr dX4_oneStep_726
                  · have hok := hok.2 c_67
                    refine zs_iload_n (k := 0) C dX4_oneStep_509 rfl rfl ?_
                    refine zs_bipush (v := 10) C dX4_oneStep_510 (by decide) ?_
                    refine zs_icmp_ne (tgt := 586) C dX4_oneStep_512 (by decide) (fun c_102 => ?_) (fun c_102 => ?_)
                    · have hok := hok.1 c_102
                      refine zs_aload_n (k := 1) C dX4_oneStep_515 rfl rfl ?_
                      refine gM_place C lkX4_51 dX4_oneStep_516 ?_
                      refine zs_iload_n (k := 2) C dX4_oneStep_519 rfl rfl ?_
                      refine zs_iconst (v := 3) C dX4_oneStep_520 (by decide) ?_
                      obtain ⟨h_103, hok⟩ := hok
                      refine sM_place C h_103 dX4_oneStep_521 ?_
                      refine zs_aload_n (k := 1) C dX4_oneStep_522 rfl rfl ?_
                      refine zs_aload_n (k := 1) C dX4_oneStep_523 rfl rfl ?_
                      refine gM_cur C lkX4_84 dX4_oneStep_524 ?_
                      refine zs_iload_n (k := 2) C dX4_oneStep_527 rfl rfl ?_
                      obtain ⟨h_104, hok⟩ := hok
                      refine aM_cur C h_104 dX4_oneStep_528 ?_
                      refine zs_aload_n (k := 1) C dX4_oneStep_529 rfl rfl ?_
                      refine gM_nxt C lkX4_87 dX4_oneStep_530 ?_
                      refine zs_iload_n (k := 2) C dX4_oneStep_533 rfl rfl ?_
                      obtain ⟨h_105, hok⟩ := hok
                      refine aM_nxt C h_105 dX4_oneStep_534 ?_
                      refine zs_aload_n (k := 1) C dX4_oneStep_535 rfl rfl ?_
                      refine gM_nxt C lkX4_87 dX4_oneStep_536 ?_
                      refine zs_iload_n (k := 2) C dX4_oneStep_539 rfl rfl ?_
                      obtain ⟨h_106, hok⟩ := hok
                      refine aM_nxt C h_106 dX4_oneStep_540 ?_
                      refine zs_iconst (v := 1) C dX4_oneStep_541 (by decide) ?_
                      obtain ⟨h_107, hok⟩ := hok
                      refine zk_callVi (As := [.int ((zs_u σ 10 (x1.toNatClampNeg) 3) 19 (x1.toNatClampNeg)), .int ((zs_u σ 10 (x1.toNatClampNeg) 3) 20 (x1.toNatClampNeg)), .int ((zs_u σ 10 (x1.toNatClampNeg) 3) 20 (x1.toNatClampNeg)), .int 1]) (rest := []) C pk_X4_change (by decide) lkX4_137 (m_X4_change hJ (d + 2) (zs_u σ 10 (x1.toNatClampNeg) 3) ((zs_u σ 10 (x1.toNatClampNeg) 3) 19 (x1.toNatClampNeg)) ((zs_u σ 10 (x1.toNatClampNeg) 3) 20 (x1.toNatClampNeg)) ((zs_u σ 10 (x1.toNatClampNeg) 3) 20 (x1.toNatClampNeg)) 1 h_107) zm_recv rfl rfl rfl (Nat.le_of_ble_eq_true rfl) dX4_oneStep_542 ?_
                      refine zs_if_eq (tgt := 726) C dX4_oneStep_545 (by decide) (fun c_108 => ?_) (fun c_108 => ?_)
                      · have hok := hok.1 c_108
                        exact zs_vret C hr dX4_oneStep_726
                      · have hok := hok.2 c_108
                        refine zs_aload_n (k := 1) C dX4_oneStep_548 rfl rfl ?_
                        refine zs_dup C dX4_oneStep_549 rfl ?_
                        refine gM_count C lkX4_45 dX4_oneStep_550 ?_
                        refine zs_iconst (v := 1) C dX4_oneStep_553 (by decide) ?_
                        refine zs_isub C dX4_oneStep_554 ?_
                        refine pM_count C lkX4_45 dX4_oneStep_555 ?_
                        refine zs_aload_n (k := 1) C dX4_oneStep_558 rfl rfl ?_
                        refine gM_gone C lkX4_102 dX4_oneStep_559 ?_
                        refine zs_iload_n (k := 2) C dX4_oneStep_562 rfl rfl ?_
                        refine zs_aload_n (k := 1) C dX4_oneStep_563 rfl rfl ?_
                        refine gM_valueOf C lkX4_30 dX4_oneStep_564 ?_
                        refine zs_aload_n (k := 1) C dX4_oneStep_567 rfl rfl ?_
                        refine gM_cur C lkX4_84 dX4_oneStep_568 ?_
                        refine zs_iload_n (k := 2) C dX4_oneStep_571 rfl rfl ?_
                        obtain ⟨h_109, hok⟩ := hok
                        refine aM_cur C h_109 dX4_oneStep_572 ?_
                        obtain ⟨h_110, hok⟩ := hok
                        refine aM_valueOf C h_110 dX4_oneStep_573 ?_
                        obtain ⟨h_111, hok⟩ := hok
                        refine sM_gone C h_111 dX4_oneStep_574 ?_
                        refine zs_aload_n (k := 1) C dX4_oneStep_575 rfl rfl ?_
                        refine gM_place C lkX4_51 dX4_oneStep_576 ?_
                        refine zs_iload_n (k := 2) C dX4_oneStep_579 rfl rfl ?_
                        refine zs_bipush (v := 11) C dX4_oneStep_580 (by decide) ?_
                        obtain ⟨h_112, hok⟩ := hok
                        refine sM_place C h_112 dX4_oneStep_582 ?_
                        refine zs_goto (tgt := 726) C dX4_oneStep_583 (by decide) ?_
                        exact zs_vret C hr dX4_oneStep_726
                    · have hok := hok.2 c_102
                      refine zs_iload_n (k := 0) C dX4_oneStep_586 rfl rfl ?_
                      refine zs_bipush (v := 11) C dX4_oneStep_587 (by decide) ?_
                      refine zs_icmp_ne (tgt := 657) C dX4_oneStep_589 (by decide) (fun c_113 => ?_) (fun c_113 => ?_)
                      · have hok := hok.1 c_113
                        refine zs_aload_n (k := 1) C dX4_oneStep_592 rfl rfl ?_
                        refine zs_aload_n (k := 1) C dX4_oneStep_593 rfl rfl ?_
                        refine gM_prev C lkX4_81 dX4_oneStep_594 ?_
                        refine zs_iload_n (k := 2) C dX4_oneStep_597 rfl rfl ?_
                        obtain ⟨h_114, hok⟩ := hok
                        refine aM_prev C h_114 dX4_oneStep_598 ?_
                        refine zs_aload_n (k := 1) C dX4_oneStep_599 rfl rfl ?_
                        refine gM_cur C lkX4_84 dX4_oneStep_600 ?_
                        refine zs_iload_n (k := 2) C dX4_oneStep_603 rfl rfl ?_
                        obtain ⟨h_115, hok⟩ := hok
                        refine aM_cur C h_115 dX4_oneStep_604 ?_
                        refine zs_aload_n (k := 1) C dX4_oneStep_605 rfl rfl ?_
                        refine gM_nxt C lkX4_87 dX4_oneStep_606 ?_
                        refine zs_iload_n (k := 2) C dX4_oneStep_609 rfl rfl ?_
                        obtain ⟨h_116, hok⟩ := hok
                        refine aM_nxt C h_116 dX4_oneStep_610 ?_
                        refine zs_iconst (v := 0) C dX4_oneStep_611 (by decide) ?_
                        obtain ⟨h_117, hok⟩ := hok
                        refine zk_callVi (As := [.int (σ 18 (x1.toNatClampNeg)), .int (σ 19 (x1.toNatClampNeg)), .int (σ 20 (x1.toNatClampNeg)), .int 0]) (rest := []) C pk_X4_change (by decide) lkX4_137 (m_X4_change hJ (d + 2) σ (σ 18 (x1.toNatClampNeg)) (σ 19 (x1.toNatClampNeg)) (σ 20 (x1.toNatClampNeg)) 0 h_117) zm_recv rfl rfl rfl (Nat.le_of_ble_eq_true rfl) dX4_oneStep_612 ?_
                        refine zs_if_eq (tgt := 640) C dX4_oneStep_615 (by decide) (fun c_118 => ?_) (fun c_118 => ?_)
                        · have hok := hok.1 c_118
                          refine zs_aload_n (k := 1) C dX4_oneStep_640 rfl rfl ?_
                          refine gM_cleans C lkX4_99 dX4_oneStep_641 ?_
                          refine zs_iload_n (k := 2) C dX4_oneStep_644 rfl rfl ?_
                          refine zs_iconst (v := 1) C dX4_oneStep_645 (by decide) ?_
                          obtain ⟨h_119, hok⟩ := hok
                          refine sM_cleans C h_119 (Or.inr rfl) dX4_oneStep_646 ?_
                          refine zs_aload_n (k := 1) C dX4_oneStep_647 rfl rfl ?_
                          refine gM_place C lkX4_51 dX4_oneStep_648 ?_
                          refine zs_iload_n (k := 2) C dX4_oneStep_651 rfl rfl ?_
                          refine zs_iconst (v := 3) C dX4_oneStep_652 (by decide) ?_
                          obtain ⟨h_120, hok⟩ := hok
                          refine sM_place C h_120 dX4_oneStep_653 ?_
                          refine zs_goto (tgt := 726) C dX4_oneStep_654 (by decide) ?_
                          exact zs_vret C hr dX4_oneStep_726
                        · have hok := hok.2 c_118
                          refine zs_aload_n (k := 1) C dX4_oneStep_618 rfl rfl ?_
                          refine zs_iload_n (k := 2) C dX4_oneStep_619 rfl rfl ?_
                          refine zs_aload_n (k := 1) C dX4_oneStep_620 rfl rfl ?_
                          refine gM_cur C lkX4_84 dX4_oneStep_621 ?_
                          refine zs_iload_n (k := 2) C dX4_oneStep_624 rfl rfl ?_
                          obtain ⟨h_121, hok⟩ := hok
                          refine aM_cur C h_121 dX4_oneStep_625 ?_
                          obtain ⟨h_122, hok⟩ := hok
                          refine zk_callVv (As := [.int x1, .int (((fn_X4_change σ (σ 18 (x1.toNatClampNeg)) (σ 19 (x1.toNatClampNeg)) (σ 20 (x1.toNatClampNeg)) 0).1) 19 (x1.toNatClampNeg))]) (rest := []) C pk_X4_retire (by decide) lkX4_152 (m_X4_retire hJ (d + 2) ((fn_X4_change σ (σ 18 (x1.toNatClampNeg)) (σ 19 (x1.toNatClampNeg)) (σ 20 (x1.toNatClampNeg)) 0).1) x1 (((fn_X4_change σ (σ 18 (x1.toNatClampNeg)) (σ 19 (x1.toNatClampNeg)) (σ 20 (x1.toNatClampNeg)) 0).1) 19 (x1.toNatClampNeg)) h_122) zm_recv rfl rfl rfl (Nat.le_of_ble_eq_true rfl) dX4_oneStep_626 ?_
                          refine zs_aload_n (k := 1) C dX4_oneStep_629 rfl rfl ?_
                          refine gM_place C lkX4_51 dX4_oneStep_630 ?_
                          refine zs_iload_n (k := 2) C dX4_oneStep_633 rfl rfl ?_
                          refine zs_bipush (v := 12) C dX4_oneStep_634 (by decide) ?_
                          obtain ⟨h_123, hok⟩ := hok
                          refine sM_place C h_123 dX4_oneStep_636 ?_
                          refine zs_goto (tgt := 726) C dX4_oneStep_637 (by decide) ?_
                          exact zs_vret C hr dX4_oneStep_726
                      · have hok := hok.2 c_113
                        refine zs_iload_n (k := 0) C dX4_oneStep_657 rfl rfl ?_
                        refine zs_bipush (v := 12) C dX4_oneStep_658 (by decide) ?_
                        refine zs_icmp_ne (tgt := 682) C dX4_oneStep_660 (by decide) (fun c_124 => ?_) (fun c_124 => ?_)
                        · have hok := hok.1 c_124
                          refine zs_aload_n (k := 1) C dX4_oneStep_663 rfl rfl ?_
                          refine zs_iload_n (k := 2) C dX4_oneStep_664 rfl rfl ?_
                          obtain ⟨h_125, hok⟩ := hok
                          refine zk_callVv (As := [.int x1]) (rest := []) C pk_X4_giveBack (by decide) lkX4_161 (m_X4_giveBack hJ (d + 2) σ x1 h_125) zm_recv rfl rfl rfl (Nat.le_of_ble_eq_true rfl) dX4_oneStep_665 ?_
                          refine zs_aload_n (k := 1) C dX4_oneStep_668 rfl rfl ?_
                          refine zs_iload_n (k := 2) C dX4_oneStep_669 rfl rfl ?_
                          refine zs_aload_n (k := 1) C dX4_oneStep_670 rfl rfl ?_
                          refine gM_gone C lkX4_102 dX4_oneStep_671 ?_
                          refine zs_iload_n (k := 2) C dX4_oneStep_674 rfl rfl ?_
                          obtain ⟨h_126, hok⟩ := hok
                          refine aM_gone C h_126 dX4_oneStep_675 ?_
                          obtain ⟨h_127, hok⟩ := hok
                          refine zk_callVv (As := [.int x1, .int (((fn_X4_giveBack σ x1).1) 25 (x1.toNatClampNeg))]) (rest := []) C pk_X4_ends (by decide) lkX4_126 (m_X4_ends hJ (d + 2) ((fn_X4_giveBack σ x1).1) x1 (((fn_X4_giveBack σ x1).1) 25 (x1.toNatClampNeg)) h_127) zm_recv rfl rfl rfl (Nat.le_of_ble_eq_true rfl) dX4_oneStep_676 ?_
                          refine zs_goto (tgt := 726) C dX4_oneStep_679 (by decide) ?_
                          exact zs_vret C hr dX4_oneStep_726
                        · have hok := hok.2 c_124
                          refine zs_iload_n (k := 0) C dX4_oneStep_682 rfl rfl ?_
                          refine zs_bipush (v := 13) C dX4_oneStep_683 (by decide) ?_
                          refine zs_icmp_ne (tgt := 726) C dX4_oneStep_685 (by decide) (fun c_128 => ?_) (fun c_128 => ?_)
                          · have hok := hok.1 c_128
                            refine zs_aload_n (k := 1) C dX4_oneStep_688 rfl rfl ?_
                            refine gM_count C lkX4_45 dX4_oneStep_689 ?_
                            refine zs_iconst (v := 2) C dX4_oneStep_692 (by decide) ?_
                            refine zs_aload_n (k := 1) C dX4_oneStep_693 rfl rfl ?_
                            refine gM_size C lkX4_42 dX4_oneStep_694 ?_
                            refine zs_imul C dX4_oneStep_697 ?_
                            refine zs_icmp_le (tgt := 720) C dX4_oneStep_698 (by decide) (fun c_129 => ?_) (fun c_129 => ?_)
                            · have hok := hok.1 c_129
                              refine zs_aload_n (k := 1) C dX4_oneStep_701 rfl rfl ?_
                              refine gM_size C lkX4_42 dX4_oneStep_702 ?_
                              refine zs_bipush (v := 16) C dX4_oneStep_705 (by decide) ?_
                              refine zs_icmp_ge (tgt := 720) C dX4_oneStep_707 (by decide) (fun c_130 => ?_) (fun c_130 => ?_)
                              · have hok := hok.1 c_130
                                refine zs_aload_n (k := 1) C dX4_oneStep_710 rfl rfl ?_
                                refine zs_dup C dX4_oneStep_711 rfl ?_
                                refine gM_size C lkX4_42 dX4_oneStep_712 ?_
                                refine zs_iconst (v := 2) C dX4_oneStep_715 (by decide) ?_
                                refine zs_imul C dX4_oneStep_716 ?_
                                refine pM_size C lkX4_42 dX4_oneStep_717 ?_
                                refine zs_aload_n (k := 1) C dX4_oneStep_720 rfl rfl ?_
                                refine zs_iload_n (k := 2) C dX4_oneStep_721 rfl rfl ?_
                                refine zs_iconst (v := 1) C dX4_oneStep_722 (by decide) ?_
                                obtain ⟨h_131, hok⟩ := hok
                                refine zk_callVv (As := [.int x1, .int 1]) (rest := []) C pk_X4_ends (by decide) lkX4_126 (m_X4_ends hJ (d + 2) (zs_u σ 32 0 ((σ 32 0) * 2)) x1 1 h_131) zm_recv rfl rfl rfl (Nat.le_of_ble_eq_true rfl) dX4_oneStep_723 ?_
                                exact zs_vret C hr dX4_oneStep_726
                              · have hok := hok.2 c_130
                                refine zs_aload_n (k := 1) C dX4_oneStep_720 rfl rfl ?_
                                refine zs_iload_n (k := 2) C dX4_oneStep_721 rfl rfl ?_
                                refine zs_iconst (v := 1) C dX4_oneStep_722 (by decide) ?_
                                obtain ⟨h_132, hok⟩ := hok
                                refine zk_callVv (As := [.int x1, .int 1]) (rest := []) C pk_X4_ends (by decide) lkX4_126 (m_X4_ends hJ (d + 2) σ x1 1 h_132) zm_recv rfl rfl rfl (Nat.le_of_ble_eq_true rfl) dX4_oneStep_723 ?_
                                exact zs_vret C hr dX4_oneStep_726
                            · have hok := hok.2 c_129
                              refine zs_aload_n (k := 1) C dX4_oneStep_720 rfl rfl ?_
                              refine zs_iload_n (k := 2) C dX4_oneStep_721 rfl rfl ?_
                              refine zs_iconst (v := 1) C dX4_oneStep_722 (by decide) ?_
                              obtain ⟨h_133, hok⟩ := hok
                              refine zk_callVv (As := [.int x1, .int 1]) (rest := []) C pk_X4_ends (by decide) lkX4_126 (m_X4_ends hJ (d + 2) σ x1 1 h_133) zm_recv rfl rfl rfl (Nat.le_of_ble_eq_true rfl) dX4_oneStep_723 ?_
                              exact zs_vret C hr dX4_oneStep_726
                          · have hok := hok.2 c_128
                            exact zs_vret C hr dX4_oneStep_726
