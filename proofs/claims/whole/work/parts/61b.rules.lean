/-! rules of evaluation; printed by wip/whole/gen71.py -/
section ZE
variable {β : Type} {I : zII} {J : zJJ} {r : zRr} {sc : zX} {k a b w v : Nat} {wd : Option Nat} {x : Int32} {y : Int64}
variable {f1 : Int32 → Option β} {f2 : Int64 → Option β} {f3 : Nat → Option β} {f4 : zH → Option β} {f5 : Int32 → zH → Option β} {f6 : Unit → zH → Option β} {f7 : Option Nat → Option β}
theorem gI_64 : zo_b (zo_gI (zG I J r) 9 64 k) f1 = f1 (I 64 k) := zob (e_gI rfl) f1
theorem gL_64 : zo_b (zo_gL (zG I J r) 9 64 k) f2 = f2 (J 64 k) := zob (e_gL rfl) f2
theorem pI_64 : zo_b (zo_pI (zG I J r) 9 64 k x) f4 = f4 (zG (zU I 64 k x) J r) := zob (e_pI rfl) f4
theorem pL_64 : zo_b (zo_pL (zG I J r) 9 64 k y) f4 = f4 (zG I (zV J 64 k y) r) := zob (e_pL rfl) f4
theorem vv_64 {α : Type} {z : Option (α × zH)} {g : α → zH → Option β}  : zo_v (zG I J r) 64 9 z g = zo_c z g := zov rfl z g
theorem gI_65 : zo_b (zo_gI (zG I J r) 5 65 k) f1 = f1 (I 65 k) := zob (e_gI rfl) f1
theorem gL_65 : zo_b (zo_gL (zG I J r) 5 65 k) f2 = f2 (J 65 k) := zob (e_gL rfl) f2
theorem pI_65 : zo_b (zo_pI (zG I J r) 5 65 k x) f4 = f4 (zG (zU I 65 k x) J r) := zob (e_pI rfl) f4
theorem pL_65 : zo_b (zo_pL (zG I J r) 5 65 k y) f4 = f4 (zG I (zV J 65 k y) r) := zob (e_pL rfl) f4
theorem vv_65 {α : Type} {z : Option (α × zH)} {g : α → zH → Option β}  : zo_v (zG I J r) 65 5 z g = zo_c z g := zov rfl z g
theorem gI_67 : zo_b (zo_gI (zG I J r) 4 67 k) f1 = f1 (I 67 k) := zob (e_gI rfl) f1
theorem gL_67 : zo_b (zo_gL (zG I J r) 4 67 k) f2 = f2 (J 67 k) := zob (e_gL rfl) f2
theorem pI_67 : zo_b (zo_pI (zG I J r) 4 67 k x) f4 = f4 (zG (zU I 67 k x) J r) := zob (e_pI rfl) f4
theorem pL_67 : zo_b (zo_pL (zG I J r) 4 67 k y) f4 = f4 (zG I (zV J 67 k y) r) := zob (e_pL rfl) f4
theorem vv_67 {α : Type} {z : Option (α × zH)} {g : α → zH → Option β}  : zo_v (zG I J r) 67 4 z g = zo_c z g := zov rfl z g
theorem gI_70 : zo_b (zo_gI (zG I J r) 4 70 k) f1 = f1 (I 70 k) := zob (e_gI rfl) f1
theorem gL_70 : zo_b (zo_gL (zG I J r) 4 70 k) f2 = f2 (J 70 k) := zob (e_gL rfl) f2
theorem pI_70 : zo_b (zo_pI (zG I J r) 4 70 k x) f4 = f4 (zG (zU I 70 k x) J r) := zob (e_pI rfl) f4
theorem pL_70 : zo_b (zo_pL (zG I J r) 4 70 k y) f4 = f4 (zG I (zV J 70 k y) r) := zob (e_pL rfl) f4
theorem vv_70 {α : Type} {z : Option (α × zH)} {g : α → zH → Option β}  : zo_v (zG I J r) 70 4 z g = zo_c z g := zov rfl z g
theorem gI_73 : zo_b (zo_gI (zG I J r) 2 73 k) f1 = f1 (I 73 k) := zob (e_gI rfl) f1
theorem gL_73 : zo_b (zo_gL (zG I J r) 2 73 k) f2 = f2 (J 73 k) := zob (e_gL rfl) f2
theorem pI_73 : zo_b (zo_pI (zG I J r) 2 73 k x) f4 = f4 (zG (zU I 73 k x) J r) := zob (e_pI rfl) f4
theorem pL_73 : zo_b (zo_pL (zG I J r) 2 73 k y) f4 = f4 (zG I (zV J 73 k y) r) := zob (e_pL rfl) f4
theorem vv_73 {α : Type} {z : Option (α × zH)} {g : α → zH → Option β}  : zo_v (zG I J r) 73 2 z g = zo_c z g := zov rfl z g
theorem gI_77 : zo_b (zo_gI (zG I J r) 8 77 k) f1 = f1 (I 77 k) := zob (e_gI rfl) f1
theorem gL_77 : zo_b (zo_gL (zG I J r) 8 77 k) f2 = f2 (J 77 k) := zob (e_gL rfl) f2
theorem pI_77 : zo_b (zo_pI (zG I J r) 8 77 k x) f4 = f4 (zG (zU I 77 k x) J r) := zob (e_pI rfl) f4
theorem pL_77 : zo_b (zo_pL (zG I J r) 8 77 k y) f4 = f4 (zG I (zV J 77 k y) r) := zob (e_pL rfl) f4
theorem vv_77 {α : Type} {z : Option (α × zH)} {g : α → zH → Option β}  : zo_v (zG I J r) 77 8 z g = zo_c z g := zov rfl z g
theorem gI_84 : zo_b (zo_gI (zG I J r) 6 84 k) f1 = f1 (I 84 k) := zob (e_gI rfl) f1
theorem gL_84 : zo_b (zo_gL (zG I J r) 6 84 k) f2 = f2 (J 84 k) := zob (e_gL rfl) f2
theorem pI_84 : zo_b (zo_pI (zG I J r) 6 84 k x) f4 = f4 (zG (zU I 84 k x) J r) := zob (e_pI rfl) f4
theorem pL_84 : zo_b (zo_pL (zG I J r) 6 84 k y) f4 = f4 (zG I (zV J 84 k y) r) := zob (e_pL rfl) f4
theorem vv_84 {α : Type} {z : Option (α × zH)} {g : α → zH → Option β}  : zo_v (zG I J r) 84 6 z g = zo_c z g := zov rfl z g
theorem gI_90 : zo_b (zo_gI (zG I J r) 3 90 k) f1 = f1 (I 90 k) := zob (e_gI rfl) f1
theorem gL_90 : zo_b (zo_gL (zG I J r) 3 90 k) f2 = f2 (J 90 k) := zob (e_gL rfl) f2
theorem pI_90 : zo_b (zo_pI (zG I J r) 3 90 k x) f4 = f4 (zG (zU I 90 k x) J r) := zob (e_pI rfl) f4
theorem pL_90 : zo_b (zo_pL (zG I J r) 3 90 k y) f4 = f4 (zG I (zV J 90 k y) r) := zob (e_pL rfl) f4
theorem vv_90 {α : Type} {z : Option (α × zH)} {g : α → zH → Option β}  : zo_v (zG I J r) 90 3 z g = zo_c z g := zov rfl z g
theorem gI_216 : zo_b (zo_gI (zG I J r) 10 216 k) f1 = f1 (I 216 k) := zob (e_gI rfl) f1
theorem gL_216 : zo_b (zo_gL (zG I J r) 10 216 k) f2 = f2 (J 216 k) := zob (e_gL rfl) f2
theorem pI_216 : zo_b (zo_pI (zG I J r) 10 216 k x) f4 = f4 (zG (zU I 216 k x) J r) := zob (e_pI rfl) f4
theorem pL_216 : zo_b (zo_pL (zG I J r) 10 216 k y) f4 = f4 (zG I (zV J 216 k y) r) := zob (e_pL rfl) f4
theorem vv_216 {α : Type} {z : Option (α × zH)} {g : α → zH → Option β}  : zo_v (zG I J r) 216 10 z g = zo_c z g := zov rfl z g
theorem rd_66  (hi : k < 1000) : zo_b (zq_rdX 3 (zG I J r) 66 (zn k)) f1 = f1 (I 66 k) := zob (e_rdX rfl hi (by decide)) f1
theorem wr_66  (hi : k < 1000) : zo_b (zq_wrX 3 (zG I J r) 66 (zn k) x) f4 = f4 (zG (zU I 66 k x) J r) := zob (e_wr rfl hi (by decide)) f4
theorem ln_66 : zo_b (zq_len sc (zG I J r) 66) f1 = f1 (zn 1000) := zob (e_len (t := 2) rfl (by decide)) f1
theorem at_68  (hi : k < 6) : zo_c (zx_at sc 68 (zn k) (zG I J r)) f5 = f5 (I 68 k) (zG I J r) := zoc (e_at rfl hi (by decide)) f5
theorem pt_68  (hi : k < 6) : zo_c (zx_put sc 68 (zn k) x (zG I J r)) f6 = f6 () (zG (zU I 68 k x) J r) := zoc (e_put rfl hi (by decide)) f6
theorem at_69  (hi : k < 6) : zo_c (zx_at sc 69 (zn k) (zG I J r)) f5 = f5 (I 69 k) (zG I J r) := zoc (e_at rfl hi (by decide)) f5
theorem pt_69  (hi : k < 6) : zo_c (zx_put sc 69 (zn k) x (zG I J r)) f6 = f6 () (zG (zU I 69 k x) J r) := zoc (e_put rfl hi (by decide)) f6
theorem at_71  (hi : k < 6) : zo_c (zx_at sc 71 (zn k) (zG I J r)) f5 = f5 (I 71 k) (zG I J r) := zoc (e_at rfl hi (by decide)) f5
theorem pt_71  (hi : k < 6) : zo_c (zx_put sc 71 (zn k) x (zG I J r)) f6 = f6 () (zG (zU I 71 k x) J r) := zoc (e_put rfl hi (by decide)) f6
theorem at_72  (hi : k < 6) : zo_c (zx_at sc 72 (zn k) (zG I J r)) f5 = f5 (I 72 k) (zG I J r) := zoc (e_at rfl hi (by decide)) f5
theorem pt_72  (hi : k < 6) : zo_c (zx_put sc 72 (zn k) x (zG I J r)) f6 = f6 () (zG (zU I 72 k x) J r) := zoc (e_put rfl hi (by decide)) f6
theorem at_74  (hi : k < 5) : zo_c (zx_at sc 74 (zn k) (zG I J r)) f5 = f5 (I 74 k) (zG I J r) := zoc (e_at rfl hi (by decide)) f5
theorem pt_74  (hi : k < 5) : zo_c (zx_put sc 74 (zn k) x (zG I J r)) f6 = f6 () (zG (zU I 74 k x) J r) := zoc (e_put rfl hi (by decide)) f6
theorem at_75  (hi : k < 8) : zo_c (zx_at sc 75 (zn k) (zG I J r)) f5 = f5 (I 75 k) (zG I J r) := zoc (e_at rfl hi (by decide)) f5
theorem pt_75  (hi : k < 8) : zo_c (zx_put sc 75 (zn k) x (zG I J r)) f6 = f6 () (zG (zU I 75 k x) J r) := zoc (e_put rfl hi (by decide)) f6
theorem at_76  (hi : k < 8) : zo_c (zx_at sc 76 (zn k) (zG I J r)) f5 = f5 (I 76 k) (zG I J r) := zoc (e_at rfl hi (by decide)) f5
theorem pt_76  (hi : k < 8) : zo_c (zx_put sc 76 (zn k) x (zG I J r)) f6 = f6 () (zG (zU I 76 k x) J r) := zoc (e_put rfl hi (by decide)) f6
theorem at_78  (hi : k < 6) : zo_c (zx_at sc 78 (zn k) (zG I J r)) f5 = f5 (I 78 k) (zG I J r) := zoc (e_at rfl hi (by decide)) f5
theorem pt_78  (hi : k < 6) : zo_c (zx_put sc 78 (zn k) x (zG I J r)) f6 = f6 () (zG (zU I 78 k x) J r) := zoc (e_put rfl hi (by decide)) f6
theorem at_79  (hi : k < 5) : zo_c (zx_at sc 79 (zn k) (zG I J r)) f5 = f5 (I 79 k) (zG I J r) := zoc (e_at rfl hi (by decide)) f5
theorem pt_79  (hi : k < 5) : zo_c (zx_put sc 79 (zn k) x (zG I J r)) f6 = f6 () (zG (zU I 79 k x) J r) := zoc (e_put rfl hi (by decide)) f6
theorem at_80  (hi : k < 6) : zo_c (zx_at sc 80 (zn k) (zG I J r)) f5 = f5 (I 80 k) (zG I J r) := zoc (e_at rfl hi (by decide)) f5
theorem pt_80  (hi : k < 6) : zo_c (zx_put sc 80 (zn k) x (zG I J r)) f6 = f6 () (zG (zU I 80 k x) J r) := zoc (e_put rfl hi (by decide)) f6
theorem at_81  (hi : k < 343) : zo_c (zx_at sc 81 (zn k) (zG I J r)) f5 = f5 (I 81 k) (zG I J r) := zoc (e_at rfl hi (by decide)) f5
theorem pt_81  (hi : k < 343) : zo_c (zx_put sc 81 (zn k) x (zG I J r)) f6 = f6 () (zG (zU I 81 k x) J r) := zoc (e_put rfl hi (by decide)) f6
theorem at_82  (hi : k < 343) : zo_c (zx_at sc 82 (zn k) (zG I J r)) f5 = f5 (I 82 k) (zG I J r) := zoc (e_at rfl hi (by decide)) f5
theorem pt_82  (hi : k < 343) : zo_c (zx_put sc 82 (zn k) x (zG I J r)) f6 = f6 () (zG (zU I 82 k x) J r) := zoc (e_put rfl hi (by decide)) f6
theorem at_83  (hi : k < 5) : zo_c (zx_at sc 83 (zn k) (zG I J r)) f5 = f5 (I 83 k) (zG I J r) := zoc (e_at rfl hi (by decide)) f5
theorem pt_83  (hi : k < 5) : zo_c (zx_put sc 83 (zn k) x (zG I J r)) f6 = f6 () (zG (zU I 83 k x) J r) := zoc (e_put rfl hi (by decide)) f6
theorem at_85  (hi : k < 6) : zo_c (zx_at sc 85 (zn k) (zG I J r)) f5 = f5 (I 85 k) (zG I J r) := zoc (e_at rfl hi (by decide)) f5
theorem pt_85  (hi : k < 6) : zo_c (zx_put sc 85 (zn k) x (zG I J r)) f6 = f6 () (zG (zU I 85 k x) J r) := zoc (e_put rfl hi (by decide)) f6
theorem at_86  (hi : k < 6) : zo_c (zx_at sc 86 (zn k) (zG I J r)) f5 = f5 (I 86 k) (zG I J r) := zoc (e_at rfl hi (by decide)) f5
theorem pt_86  (hi : k < 6) : zo_c (zx_put sc 86 (zn k) x (zG I J r)) f6 = f6 () (zG (zU I 86 k x) J r) := zoc (e_put rfl hi (by decide)) f6
theorem at_87  (hi : k < 6) : zo_c (zx_at sc 87 (zn k) (zG I J r)) f5 = f5 (I 87 k) (zG I J r) := zoc (e_at rfl hi (by decide)) f5
theorem pt_87  (hi : k < 6) : zo_c (zx_put sc 87 (zn k) x (zG I J r)) f6 = f6 () (zG (zU I 87 k x) J r) := zoc (e_put rfl hi (by decide)) f6
theorem at_88  (hi : k < 64) : zo_c (zx_at sc 88 (zn k) (zG I J r)) f5 = f5 (I 88 k) (zG I J r) := zoc (e_at rfl hi (by decide)) f5
theorem pt_88  (hi : k < 64) : zo_c (zx_put sc 88 (zn k) x (zG I J r)) f6 = f6 () (zG (zU I 88 k x) J r) := zoc (e_put rfl hi (by decide)) f6
theorem at_89  (hi : k < 64) : zo_c (zx_at sc 89 (zn k) (zG I J r)) f5 = f5 (I 89 k) (zG I J r) := zoc (e_at rfl hi (by decide)) f5
theorem pt_89  (hi : k < 64) : zo_c (zx_put sc 89 (zn k) x (zG I J r)) f6 = f6 () (zG (zU I 89 k x) J r) := zoc (e_put rfl hi (by decide)) f6
theorem at_91  (hi : k < 6) : zo_c (zx_at sc 91 (zn k) (zG I J r)) f5 = f5 (I 91 k) (zG I J r) := zoc (e_at rfl hi (by decide)) f5
theorem pt_91  (hi : k < 6) : zo_c (zx_put sc 91 (zn k) x (zG I J r)) f6 = f6 () (zG (zU I 91 k x) J r) := zoc (e_put rfl hi (by decide)) f6
theorem at_95  (hi : k < 41) : zo_c (zx_at sc 95 (zn k) (zG I J r)) f5 = f5 (I 95 k) (zG I J r) := zoc (e_at rfl hi (by decide)) f5
theorem pt_95  (hi : k < 41) : zo_c (zx_put sc 95 (zn k) x (zG I J r)) f6 = f6 () (zG (zU I 95 k x) J r) := zoc (e_put rfl hi (by decide)) f6
theorem rd_217  (hi : k < 1000) : zo_b (zq_rdI sc (zG I J r) 217 (zn k)) f1 = f1 (I 217 k) := zob (e_rd rfl hi (by decide)) f1
theorem wr_217  (hi : k < 1000) : zo_b (zq_wrX 1 (zG I J r) 217 (zn k) x) f4 = f4 (zG (zU I 217 k x) J r) := zob (e_wr rfl hi (by decide)) f4
theorem ln_217 : zo_b (zq_len sc (zG I J r) 217) f1 = f1 (zn 1000) := zob (e_len (t := 0) rfl (by decide)) f1
theorem rd_218  (hi : k < 1002) : zo_b (zq_rdI sc (zG I J r) 218 (zn k)) f1 = f1 (I 218 k) := zob (e_rd rfl hi (by decide)) f1
theorem wr_218  (hi : k < 1002) : zo_b (zq_wrX 1 (zG I J r) 218 (zn k) x) f4 = f4 (zG (zU I 218 k x) J r) := zob (e_wr rfl hi (by decide)) f4
theorem ln_218 : zo_b (zq_len sc (zG I J r) 218) f1 = f1 (zn 1002) := zob (e_len (t := 0) rfl (by decide)) f1
theorem rd_219  (hi : k < 1002) : zo_b (zq_rdI sc (zG I J r) 219 (zn k)) f1 = f1 (I 219 k) := zob (e_rd rfl hi (by decide)) f1
theorem wr_219  (hi : k < 1002) : zo_b (zq_wrX 1 (zG I J r) 219 (zn k) x) f4 = f4 (zG (zU I 219 k x) J r) := zob (e_wr rfl hi (by decide)) f4
theorem ln_219 : zo_b (zq_len sc (zG I J r) 219) f1 = f1 (zn 1002) := zob (e_len (t := 0) rfl (by decide)) f1
theorem rd_220  (hi : k < 1002) : zo_b (zq_rdL (zG I J r) 220 (zn k)) f2 = f2 (J 220 k) := zob (e_rdL rfl hi (by decide)) f2
theorem wr_220  (hi : k < 1002) : zo_b (zq_wrL (zG I J r) 220 (zn k) y) f4 = f4 (zG I (zV J 220 k y) r) := zob (e_wrL rfl hi (by decide)) f4
theorem ln_220 : zo_b (zq_len sc (zG I J r) 220) f1 = f1 (zn 1002) := zob (e_len (t := 1) rfl (by decide)) f1
theorem rd_221  (hi : k < 36) : zo_b (zq_rdL (zG I J r) 221 (zn k)) f2 = f2 (J 221 k) := zob (e_rdL rfl hi (by decide)) f2
theorem wr_221  (hi : k < 36) : zo_b (zq_wrL (zG I J r) 221 (zn k) y) f4 = f4 (zG I (zV J 221 k y) r) := zob (e_wrL rfl hi (by decide)) f4
theorem ln_221 : zo_b (zq_len sc (zG I J r) 221) f1 = f1 (zn 36) := zob (e_len (t := 1) rfl (by decide)) f1
theorem rd_222  (hi : k < 100) : zo_b (zq_rdI sc (zG I J r) 222 (zn k)) f1 = f1 (I 222 k) := zob (e_rd rfl hi (by decide)) f1
theorem wr_222  (hi : k < 100) : zo_b (zq_wrX 1 (zG I J r) 222 (zn k) x) f4 = f4 (zG (zU I 222 k x) J r) := zob (e_wr rfl hi (by decide)) f4
theorem ln_222 : zo_b (zq_len sc (zG I J r) 222) f1 = f1 (zn 100) := zob (e_len (t := 0) rfl (by decide)) f1
theorem rd_223  (hi : k < 2200) : zo_b (zq_rdI sc (zG I J r) 223 (zn k)) f1 = f1 (I 223 k) := zob (e_rd rfl hi (by decide)) f1
theorem wr_223  (hi : k < 2200) : zo_b (zq_wrX 1 (zG I J r) 223 (zn k) x) f4 = f4 (zG (zU I 223 k x) J r) := zob (e_wr rfl hi (by decide)) f4
theorem ln_223 : zo_b (zq_len sc (zG I J r) 223) f1 = f1 (zn 2200) := zob (e_len (t := 0) rfl (by decide)) f1
theorem rd_224  (hi : k < 2200) : zo_b (zq_rdI sc (zG I J r) 224 (zn k)) f1 = f1 (I 224 k) := zob (e_rd rfl hi (by decide)) f1
theorem wr_224  (hi : k < 2200) : zo_b (zq_wrX 1 (zG I J r) 224 (zn k) x) f4 = f4 (zG (zU I 224 k x) J r) := zob (e_wr rfl hi (by decide)) f4
theorem ln_224 : zo_b (zq_len sc (zG I J r) 224) f1 = f1 (zn 2200) := zob (e_len (t := 0) rfl (by decide)) f1
theorem rd_225  (hi : k < 12) : zo_b (zq_rdL (zG I J r) 225 (zn k)) f2 = f2 (J 225 k) := zob (e_rdL rfl hi (by decide)) f2
theorem wr_225  (hi : k < 12) : zo_b (zq_wrL (zG I J r) 225 (zn k) y) f4 = f4 (zG I (zV J 225 k y) r) := zob (e_wrL rfl hi (by decide)) f4
theorem ln_225 : zo_b (zq_len sc (zG I J r) 225) f1 = f1 (zn 12) := zob (e_len (t := 1) rfl (by decide)) f1
theorem rd_226  (hi : k < 12) : zo_b (zq_rdL (zG I J r) 226 (zn k)) f2 = f2 (J 226 k) := zob (e_rdL rfl hi (by decide)) f2
theorem wr_226  (hi : k < 12) : zo_b (zq_wrL (zG I J r) 226 (zn k) y) f4 = f4 (zG I (zV J 226 k y) r) := zob (e_wrL rfl hi (by decide)) f4
theorem ln_226 : zo_b (zq_len sc (zG I J r) 226) f1 = f1 (zn 12) := zob (e_len (t := 1) rfl (by decide)) f1
theorem rd_227  (hi : k < 12) : zo_b (zq_rdI sc (zG I J r) 227 (zn k)) f1 = f1 (I 227 k) := zob (e_rd rfl hi (by decide)) f1
theorem wr_227  (hi : k < 12) : zo_b (zq_wrX 1 (zG I J r) 227 (zn k) x) f4 = f4 (zG (zU I 227 k x) J r) := zob (e_wr rfl hi (by decide)) f4
theorem ln_227 : zo_b (zq_len sc (zG I J r) 227) f1 = f1 (zn 12) := zob (e_len (t := 0) rfl (by decide)) f1
theorem rd_228  (hi : k < 12) : zo_b (zq_rdI sc (zG I J r) 228 (zn k)) f1 = f1 (I 228 k) := zob (e_rd rfl hi (by decide)) f1
theorem wr_228  (hi : k < 12) : zo_b (zq_wrX 1 (zG I J r) 228 (zn k) x) f4 = f4 (zG (zU I 228 k x) J r) := zob (e_wr rfl hi (by decide)) f4
theorem ln_228 : zo_b (zq_len sc (zG I J r) 228) f1 = f1 (zn 12) := zob (e_len (t := 0) rfl (by decide)) f1
theorem rd_229  (hi : k < 210) : zo_b (zq_rdI sc (zG I J r) 229 (zn k)) f1 = f1 (I 229 k) := zob (e_rd rfl hi (by decide)) f1
theorem wr_229  (hi : k < 210) : zo_b (zq_wrX 1 (zG I J r) 229 (zn k) x) f4 = f4 (zG (zU I 229 k x) J r) := zob (e_wr rfl hi (by decide)) f4
theorem ln_229 : zo_b (zq_len sc (zG I J r) 229) f1 = f1 (zn 210) := zob (e_len (t := 0) rfl (by decide)) f1
theorem rd_230  (hi : k < 7) : zo_b (zq_rdI sc (zG I J r) 230 (zn k)) f1 = f1 (I 230 k) := zob (e_rd rfl hi (by decide)) f1
theorem wr_230  (hi : k < 7) : zo_b (zq_wrX 1 (zG I J r) 230 (zn k) x) f4 = f4 (zG (zU I 230 k x) J r) := zob (e_wr rfl hi (by decide)) f4
theorem ln_230 : zo_b (zq_len sc (zG I J r) 230) f1 = f1 (zn 7) := zob (e_len (t := 0) rfl (by decide)) f1
theorem rd_231  (hi : k < 1100) : zo_b (zq_rdI sc (zG I J r) 231 (zn k)) f1 = f1 (I 231 k) := zob (e_rd rfl hi (by decide)) f1
theorem wr_231  (hi : k < 1100) : zo_b (zq_wrX 1 (zG I J r) 231 (zn k) x) f4 = f4 (zG (zU I 231 k x) J r) := zob (e_wr rfl hi (by decide)) f4
theorem ln_231 : zo_b (zq_len sc (zG I J r) 231) f1 = f1 (zn 1100) := zob (e_len (t := 0) rfl (by decide)) f1
theorem rd_232  (hi : k < 920) : zo_b (zq_rdI sc (zG I J r) 232 (zn k)) f1 = f1 (I 232 k) := zob (e_rd rfl hi (by decide)) f1
theorem wr_232  (hi : k < 920) : zo_b (zq_wrX 1 (zG I J r) 232 (zn k) x) f4 = f4 (zG (zU I 232 k x) J r) := zob (e_wr rfl hi (by decide)) f4
theorem ln_232 : zo_b (zq_len sc (zG I J r) 232) f1 = f1 (zn 920) := zob (e_len (t := 0) rfl (by decide)) f1
theorem rd_233  (hi : k < 4) : zo_b (zq_rdX 4 (zG I J r) 233 (zn k)) f1 = f1 (I 233 k) := zob (e_rdX rfl hi (by decide)) f1
theorem wr_233  (hi : k < 4) : zo_b (zq_wrX 4 (zG I J r) 233 (zn k) x) f4 = f4 (zG (zU I 233 k x) J r) := zob (e_wr rfl hi (by decide)) f4
theorem ln_233 : zo_b (zq_len sc (zG I J r) 233) f1 = f1 (zn 4) := zob (e_len (t := 3) rfl (by decide)) f1
theorem rd_234  (hi : k < 36) : zo_b (zq_rdI sc (zG I J r) 234 (zn k)) f1 = f1 (I 234 k) := zob (e_rd rfl hi (by decide)) f1
theorem wr_234  (hi : k < 36) : zo_b (zq_wrX 1 (zG I J r) 234 (zn k) x) f4 = f4 (zG (zU I 234 k x) J r) := zob (e_wr rfl hi (by decide)) f4
theorem ln_234 : zo_b (zq_len sc (zG I J r) 234) f1 = f1 (zn 36) := zob (e_len (t := 0) rfl (by decide)) f1
theorem rd_235  (hi : k < 6) : zo_b (zq_rdI sc (zG I J r) 235 (zn k)) f1 = f1 (I 235 k) := zob (e_rd rfl hi (by decide)) f1
theorem wr_235  (hi : k < 6) : zo_b (zq_wrX 1 (zG I J r) 235 (zn k) x) f4 = f4 (zG (zU I 235 k x) J r) := zob (e_wr rfl hi (by decide)) f4
theorem ln_235 : zo_b (zq_len sc (zG I J r) 235) f1 = f1 (zn 6) := zob (e_len (t := 0) rfl (by decide)) f1
theorem rd_236  (hi : k < 6) : zo_b (zq_rdI sc (zG I J r) 236 (zn k)) f1 = f1 (I 236 k) := zob (e_rd rfl hi (by decide)) f1
theorem wr_236  (hi : k < 6) : zo_b (zq_wrX 1 (zG I J r) 236 (zn k) x) f4 = f4 (zG (zU I 236 k x) J r) := zob (e_wr rfl hi (by decide)) f4
theorem ln_236 : zo_b (zq_len sc (zG I J r) 236) f1 = f1 (zn 6) := zob (e_len (t := 0) rfl (by decide)) f1
theorem rd_237  (hi : k < 6) : zo_b (zq_rdI sc (zG I J r) 237 (zn k)) f1 = f1 (I 237 k) := zob (e_rd rfl hi (by decide)) f1
theorem wr_237  (hi : k < 6) : zo_b (zq_wrX 1 (zG I J r) 237 (zn k) x) f4 = f4 (zG (zU I 237 k x) J r) := zob (e_wr rfl hi (by decide)) f4
theorem ln_237 : zo_b (zq_len sc (zG I J r) 237) f1 = f1 (zn 6) := zob (e_len (t := 0) rfl (by decide)) f1
theorem rd_238  (hi : k < 720) : zo_b (zq_rdI sc (zG I J r) 238 (zn k)) f1 = f1 (I 238 k) := zob (e_rd rfl hi (by decide)) f1
theorem wr_238  (hi : k < 720) : zo_b (zq_wrX 1 (zG I J r) 238 (zn k) x) f4 = f4 (zG (zU I 238 k x) J r) := zob (e_wr rfl hi (by decide)) f4
theorem ln_238 : zo_b (zq_len sc (zG I J r) 238) f1 = f1 (zn 720) := zob (e_len (t := 0) rfl (by decide)) f1
theorem rd_239  (hi : k < 2160) : zo_b (zq_rdI sc (zG I J r) 239 (zn k)) f1 = f1 (I 239 k) := zob (e_rd rfl hi (by decide)) f1
theorem wr_239  (hi : k < 2160) : zo_b (zq_wrX 1 (zG I J r) 239 (zn k) x) f4 = f4 (zG (zU I 239 k x) J r) := zob (e_wr rfl hi (by decide)) f4
theorem ln_239 : zo_b (zq_len sc (zG I J r) 239) f1 = f1 (zn 2160) := zob (e_len (t := 0) rfl (by decide)) f1
theorem rd_240  (hi : k < 6) : zo_b (zq_rdI sc (zG I J r) 240 (zn k)) f1 = f1 (I 240 k) := zob (e_rd rfl hi (by decide)) f1
theorem wr_240  (hi : k < 6) : zo_b (zq_wrX 1 (zG I J r) 240 (zn k) x) f4 = f4 (zG (zU I 240 k x) J r) := zob (e_wr rfl hi (by decide)) f4
theorem ln_240 : zo_b (zq_len sc (zG I J r) 240) f1 = f1 (zn 6) := zob (e_len (t := 0) rfl (by decide)) f1
theorem rd_241  (hi : k < 6) : zo_b (zq_rdI sc (zG I J r) 241 (zn k)) f1 = f1 (I 241 k) := zob (e_rd rfl hi (by decide)) f1
theorem wr_241  (hi : k < 6) : zo_b (zq_wrX 1 (zG I J r) 241 (zn k) x) f4 = f4 (zG (zU I 241 k x) J r) := zob (e_wr rfl hi (by decide)) f4
theorem ln_241 : zo_b (zq_len sc (zG I J r) 241) f1 = f1 (zn 6) := zob (e_len (t := 0) rfl (by decide)) f1
theorem rd_242  (hi : k < 2501) : zo_b (zq_rdI sc (zG I J r) 242 (zn k)) f1 = f1 (I 242 k) := zob (e_rd rfl hi (by decide)) f1
theorem wr_242  (hi : k < 2501) : zo_b (zq_wrX 1 (zG I J r) 242 (zn k) x) f4 = f4 (zG (zU I 242 k x) J r) := zob (e_wr rfl hi (by decide)) f4
theorem ln_242 : zo_b (zq_len sc (zG I J r) 242) f1 = f1 (zn 2501) := zob (e_len (t := 0) rfl (by decide)) f1
theorem rd_243  (hi : k < 1) : zo_b (zq_rdL (zG I J r) 243 (zn k)) f2 = f2 (J 243 k) := zob (e_rdL rfl hi (by decide)) f2
theorem wr_243  (hi : k < 1) : zo_b (zq_wrL (zG I J r) 243 (zn k) y) f4 = f4 (zG I (zV J 243 k y) r) := zob (e_wrL rfl hi (by decide)) f4
theorem ln_243 : zo_b (zq_len sc (zG I J r) 243) f1 = f1 (zn 1) := zob (e_len (t := 1) rfl (by decide)) f1
theorem gR_64_0 : zo_b (zo_gR (zG I J r) 9 64 0) f3 = f3 65 := zob ((e_gR rfl).trans (zRf_of (by decide) rfl)) f3
theorem gR_64_1 : zo_b (zo_gR (zG I J r) 9 64 1) f3 = f3 67 := zob ((e_gR rfl).trans (zRf_of (by decide) rfl)) f3
theorem gR_64_2 : zo_b (zo_gR (zG I J r) 9 64 2) f3 = f3 70 := zob ((e_gR rfl).trans (zRf_of (by decide) rfl)) f3
theorem gR_64_3 : zo_b (zo_gR (zG I J r) 9 64 3) f3 = f3 73 := zob ((e_gR rfl).trans (zRf_of (by decide) rfl)) f3
theorem gR_64_4 : zo_b (zo_gR (zG I J r) 9 64 4) f3 = f3 77 := zob ((e_gR rfl).trans (zRf_of (by decide) rfl)) f3
theorem gR_64_5 : zo_b (zo_gR (zG I J r) 9 64 5) f3 = f3 84 := zob ((e_gR rfl).trans (zRf_of (by decide) rfl)) f3
theorem gR_64_6 : zo_b (zo_gR (zG I J r) 9 64 6) f3 = f3 90 := zob ((e_gR rfl).trans (zRf_of (by decide) rfl)) f3
theorem gR_64_7 : zo_b (zo_gR (zG I J r) 9 64 7) f3 = f3 92 := zob ((e_gR rfl).trans (zRf_of (by decide) rfl)) f3
theorem gR_64_8 : zo_b (zo_gR (zG I J r) 9 64 8) f3 = f3 93 := zob ((e_gR rfl).trans (zRf_of (by decide) rfl)) f3
theorem gR_64_9 : zo_b (zo_gR (zG I J r) 9 64 9) f3 = f3 94 := zob ((e_gR rfl).trans (zRf_of (by decide) rfl)) f3
theorem gR_64_10 : zo_b (zo_gR (zG I J r) 9 64 10) f3 = f3 95 := zob ((e_gR rfl).trans (zRf_of (by decide) rfl)) f3
theorem gR_65_0 : zo_b (zo_gR (zG I J r) 5 65 0) f3 = f3 66 := zob ((e_gR rfl).trans (zRf_of (by decide) rfl)) f3
theorem gR_67_0 : zo_b (zo_gR (zG I J r) 4 67 0) f3 = f3 68 := zob ((e_gR rfl).trans (zRf_of (by decide) rfl)) f3
theorem gR_67_1 : zo_b (zo_gR (zG I J r) 4 67 1) f3 = f3 69 := zob ((e_gR rfl).trans (zRf_of (by decide) rfl)) f3
theorem gR_70_0 : zo_b (zo_gR (zG I J r) 4 70 0) f3 = f3 71 := zob ((e_gR rfl).trans (zRf_of (by decide) rfl)) f3
theorem gR_70_1 : zo_b (zo_gR (zG I J r) 4 70 1) f3 = f3 72 := zob ((e_gR rfl).trans (zRf_of (by decide) rfl)) f3
theorem gR_73_0 : zo_b (zo_gR (zG I J r) 2 73 0) f3 = f3 74 := zob ((e_gR rfl).trans (zRf_of (by decide) rfl)) f3
theorem gR_73_1 : zo_b (zo_gR (zG I J r) 2 73 1) f3 = f3 75 := zob ((e_gR rfl).trans (zRf_of (by decide) rfl)) f3
theorem gR_73_2 : zo_b (zo_gR (zG I J r) 2 73 2) f3 = f3 76 := zob ((e_gR rfl).trans (zRf_of (by decide) rfl)) f3
theorem gR_77_3 : zo_b (zo_gR (zG I J r) 8 77 3) f3 = f3 78 := zob ((e_gR rfl).trans (zRf_of (by decide) rfl)) f3
theorem gR_77_4 : zo_b (zo_gR (zG I J r) 8 77 4) f3 = f3 79 := zob ((e_gR rfl).trans (zRf_of (by decide) rfl)) f3
theorem gR_77_7 : zo_b (zo_gR (zG I J r) 8 77 7) f3 = f3 80 := zob ((e_gR rfl).trans (zRf_of (by decide) rfl)) f3
theorem gR_77_8 : zo_b (zo_gR (zG I J r) 8 77 8) f3 = f3 81 := zob ((e_gR rfl).trans (zRf_of (by decide) rfl)) f3
theorem gR_77_9 : zo_b (zo_gR (zG I J r) 8 77 9) f3 = f3 82 := zob ((e_gR rfl).trans (zRf_of (by decide) rfl)) f3
theorem gR_77_10 : zo_b (zo_gR (zG I J r) 8 77 10) f3 = f3 83 := zob ((e_gR rfl).trans (zRf_of (by decide) rfl)) f3
theorem gR_84_0 : zo_b (zo_gR (zG I J r) 6 84 0) f3 = f3 85 := zob ((e_gR rfl).trans (zRf_of (by decide) rfl)) f3
theorem gR_84_1 : zo_b (zo_gR (zG I J r) 6 84 1) f3 = f3 86 := zob ((e_gR rfl).trans (zRf_of (by decide) rfl)) f3
theorem gR_84_2 : zo_b (zo_gR (zG I J r) 6 84 2) f3 = f3 87 := zob ((e_gR rfl).trans (zRf_of (by decide) rfl)) f3
theorem gR_84_3 : zo_b (zo_gR (zG I J r) 6 84 3) f3 = f3 88 := zob ((e_gR rfl).trans (zRf_of (by decide) rfl)) f3
theorem gR_84_4 : zo_b (zo_gR (zG I J r) 6 84 4) f3 = f3 89 := zob ((e_gR rfl).trans (zRf_of (by decide) rfl)) f3
theorem gR_90_1 : zo_b (zo_gR (zG I J r) 3 90 1) f3 = f3 91 := zob ((e_gR rfl).trans (zRf_of (by decide) rfl)) f3
theorem gR_216_1 : zo_b (zo_gR (zG I J r) 10 216 1) f3 = f3 217 := zob ((e_gR rfl).trans (zRf_of (by decide) rfl)) f3
theorem gR_216_4 : zo_b (zo_gR (zG I J r) 10 216 4) f3 = f3 218 := zob ((e_gR rfl).trans (zRf_of (by decide) rfl)) f3
theorem gR_216_5 : zo_b (zo_gR (zG I J r) 10 216 5) f3 = f3 219 := zob ((e_gR rfl).trans (zRf_of (by decide) rfl)) f3
theorem gR_216_6 : zo_b (zo_gR (zG I J r) 10 216 6) f3 = f3 220 := zob ((e_gR rfl).trans (zRf_of (by decide) rfl)) f3
theorem gR_216_9 : zo_b (zo_gR (zG I J r) 10 216 9) f3 = f3 221 := zob ((e_gR rfl).trans (zRf_of (by decide) rfl)) f3
theorem gR_216_10 : zo_b (zo_gR (zG I J r) 10 216 10) f3 = f3 222 := zob ((e_gR rfl).trans (zRf_of (by decide) rfl)) f3
theorem gR_216_11 : zo_b (zo_gR (zG I J r) 10 216 11) f3 = f3 223 := zob ((e_gR rfl).trans (zRf_of (by decide) rfl)) f3
theorem gR_216_12 : zo_b (zo_gR (zG I J r) 10 216 12) f3 = f3 224 := zob ((e_gR rfl).trans (zRf_of (by decide) rfl)) f3
theorem gR_216_14 : zo_b (zo_gR (zG I J r) 10 216 14) f3 = f3 225 := zob ((e_gR rfl).trans (zRf_of (by decide) rfl)) f3
theorem gR_216_15 : zo_b (zo_gR (zG I J r) 10 216 15) f3 = f3 226 := zob ((e_gR rfl).trans (zRf_of (by decide) rfl)) f3
theorem gR_216_16 : zo_b (zo_gR (zG I J r) 10 216 16) f3 = f3 227 := zob ((e_gR rfl).trans (zRf_of (by decide) rfl)) f3
theorem gR_216_17 : zo_b (zo_gR (zG I J r) 10 216 17) f3 = f3 228 := zob ((e_gR rfl).trans (zRf_of (by decide) rfl)) f3
theorem gR_216_22 : zo_b (zo_gR (zG I J r) 10 216 22) f3 = f3 229 := zob ((e_gR rfl).trans (zRf_of (by decide) rfl)) f3
theorem gR_216_23 : zo_b (zo_gR (zG I J r) 10 216 23) f3 = f3 230 := zob ((e_gR rfl).trans (zRf_of (by decide) rfl)) f3
theorem gR_216_24 : zo_b (zo_gR (zG I J r) 10 216 24) f3 = f3 231 := zob ((e_gR rfl).trans (zRf_of (by decide) rfl)) f3
theorem gR_216_25 : zo_b (zo_gR (zG I J r) 10 216 25) f3 = f3 232 := zob ((e_gR rfl).trans (zRf_of (by decide) rfl)) f3
theorem gR_216_27 : zo_b (zo_gR (zG I J r) 10 216 27) f3 = f3 233 := zob ((e_gR rfl).trans (zRf_of (by decide) rfl)) f3
theorem gR_216_28 : zo_b (zo_gR (zG I J r) 10 216 28) f3 = f3 234 := zob ((e_gR rfl).trans (zRf_of (by decide) rfl)) f3
theorem gR_216_29 : zo_b (zo_gR (zG I J r) 10 216 29) f3 = f3 235 := zob ((e_gR rfl).trans (zRf_of (by decide) rfl)) f3
theorem gR_216_31 : zo_b (zo_gR (zG I J r) 10 216 31) f3 = f3 236 := zob ((e_gR rfl).trans (zRf_of (by decide) rfl)) f3
theorem gR_216_35 : zo_b (zo_gR (zG I J r) 10 216 35) f3 = f3 237 := zob ((e_gR rfl).trans (zRf_of (by decide) rfl)) f3
theorem gR_216_36 : zo_b (zo_gR (zG I J r) 10 216 36) f3 = f3 238 := zob ((e_gR rfl).trans (zRf_of (by decide) rfl)) f3
theorem gR_216_37 : zo_b (zo_gR (zG I J r) 10 216 37) f3 = f3 239 := zob ((e_gR rfl).trans (zRf_of (by decide) rfl)) f3
theorem gR_216_38 : zo_b (zo_gR (zG I J r) 10 216 38) f3 = f3 240 := zob ((e_gR rfl).trans (zRf_of (by decide) rfl)) f3
theorem gR_216_39 : zo_b (zo_gR (zG I J r) 10 216 39) f3 = f3 241 := zob ((e_gR rfl).trans (zRf_of (by decide) rfl)) f3
theorem gR_216_43 : zo_b (zo_gR (zG I J r) 10 216 43) f3 = f3 242 := zob ((e_gR rfl).trans (zRf_of (by decide) rfl)) f3
theorem gR_64_11 : zo_b (zo_gR (zG I J (a, b, w, v, wd)) 9 64 11) f3 = f3 a := zob (e_gR rfl) f3
theorem gR_64_12 : zo_b (zo_gR (zG I J (a, b, w, v, wd)) 9 64 12) f3 = f3 b := zob (e_gR rfl) f3
theorem gR_64_13 : zo_b (zo_gR (zG I J (a, b, w, v, wd)) 9 64 13) f3 = f3 w := zob (e_gR rfl) f3
theorem gR_64_14 : zo_b (zo_gR (zG I J (a, b, w, v, wd)) 9 64 14) f3 = f3 v := zob (e_gR rfl) f3
theorem gQ_65 : zo_b (zo_gQ (zG I J (a, b, w, v, wd)) 5 65 3) f7 = f7 wd := zob (e_gQ rfl) f7
theorem gI_A (ha : a = 96 ∨ a = 113) : zo_b (zo_gI (zG I J r) 0 a k) f1 = f1 (I a k) := zob (e_gI (by rcases ha with rfl | rfl <;> rfl)) f1
theorem gL_A (ha : a = 96 ∨ a = 113) : zo_b (zo_gL (zG I J r) 0 a k) f2 = f2 (J a k) := zob (e_gL (by rcases ha with rfl | rfl <;> rfl)) f2
theorem pI_A (ha : a = 96 ∨ a = 113) : zo_b (zo_pI (zG I J r) 0 a k x) f4 = f4 (zG (zU I a k x) J r) := zob (e_pI (by rcases ha with rfl | rfl <;> rfl)) f4
theorem pL_A (ha : a = 96 ∨ a = 113) : zo_b (zo_pL (zG I J r) 0 a k y) f4 = f4 (zG I (zV J a k y) r) := zob (e_pL (by rcases ha with rfl | rfl <;> rfl)) f4
theorem vv_A {α : Type} {z : Option (α × zH)} {g : α → zH → Option β} (ha : a = 96 ∨ a = 113) : zo_v (zG I J r) a 0 z g = zo_c z g := zov (by rcases ha with rfl | rfl <;> rfl) z g
theorem gI_Lw (ha : a = 96 ∨ a = 113) : zo_b (zo_gI (zG I J r) 1 (a + 11) k) f1 = f1 (I (a + 11) k) := zob (e_gI (by rcases ha with rfl | rfl <;> rfl)) f1
theorem gL_Lw (ha : a = 96 ∨ a = 113) : zo_b (zo_gL (zG I J r) 1 (a + 11) k) f2 = f2 (J (a + 11) k) := zob (e_gL (by rcases ha with rfl | rfl <;> rfl)) f2
theorem pI_Lw (ha : a = 96 ∨ a = 113) : zo_b (zo_pI (zG I J r) 1 (a + 11) k x) f4 = f4 (zG (zU I (a + 11) k x) J r) := zob (e_pI (by rcases ha with rfl | rfl <;> rfl)) f4
theorem pL_Lw (ha : a = 96 ∨ a = 113) : zo_b (zo_pL (zG I J r) 1 (a + 11) k y) f4 = f4 (zG I (zV J (a + 11) k y) r) := zob (e_pL (by rcases ha with rfl | rfl <;> rfl)) f4
theorem vv_Lw {α : Type} {z : Option (α × zH)} {g : α → zH → Option β} (ha : a = 96 ∨ a = 113) : zo_v (zG I J r) (a + 11) 1 z g = zo_c z g := zov (by rcases ha with rfl | rfl <;> rfl) z g
theorem gR_A_7 (ha : a = 96 ∨ a = 113) : zo_b (zo_gR (zG I J r) 0 a 7) f3 = f3 (a + 1) := zob ((e_gR (by rcases ha with rfl | rfl <;> rfl)).trans (by rcases ha with rfl | rfl <;> exact zRf_of (by decide) rfl)) f3
theorem gR_A_8 (ha : a = 96 ∨ a = 113) : zo_b (zo_gR (zG I J r) 0 a 8) f3 = f3 (a + 2) := zob ((e_gR (by rcases ha with rfl | rfl <;> rfl)).trans (by rcases ha with rfl | rfl <;> exact zRf_of (by decide) rfl)) f3
theorem gR_A_9 (ha : a = 96 ∨ a = 113) : zo_b (zo_gR (zG I J r) 0 a 9) f3 = f3 (a + 3) := zob ((e_gR (by rcases ha with rfl | rfl <;> rfl)).trans (by rcases ha with rfl | rfl <;> exact zRf_of (by decide) rfl)) f3
theorem gR_A_10 (ha : a = 96 ∨ a = 113) : zo_b (zo_gR (zG I J r) 0 a 10) f3 = f3 (a + 4) := zob ((e_gR (by rcases ha with rfl | rfl <;> rfl)).trans (by rcases ha with rfl | rfl <;> exact zRf_of (by decide) rfl)) f3
theorem gR_A_11 (ha : a = 96 ∨ a = 113) : zo_b (zo_gR (zG I J r) 0 a 11) f3 = f3 (a + 5) := zob ((e_gR (by rcases ha with rfl | rfl <;> rfl)).trans (by rcases ha with rfl | rfl <;> exact zRf_of (by decide) rfl)) f3
theorem gR_A_12 (ha : a = 96 ∨ a = 113) : zo_b (zo_gR (zG I J r) 0 a 12) f3 = f3 (a + 6) := zob ((e_gR (by rcases ha with rfl | rfl <;> rfl)).trans (by rcases ha with rfl | rfl <;> exact zRf_of (by decide) rfl)) f3
theorem gR_A_13 (ha : a = 96 ∨ a = 113) : zo_b (zo_gR (zG I J r) 0 a 13) f3 = f3 (a + 7) := zob ((e_gR (by rcases ha with rfl | rfl <;> rfl)).trans (by rcases ha with rfl | rfl <;> exact zRf_of (by decide) rfl)) f3
theorem gR_A_14 (ha : a = 96 ∨ a = 113) : zo_b (zo_gR (zG I J r) 0 a 14) f3 = f3 (a + 8) := zob ((e_gR (by rcases ha with rfl | rfl <;> rfl)).trans (by rcases ha with rfl | rfl <;> exact zRf_of (by decide) rfl)) f3
theorem gR_A_15 (ha : a = 96 ∨ a = 113) : zo_b (zo_gR (zG I J r) 0 a 15) f3 = f3 (a + 9) := zob ((e_gR (by rcases ha with rfl | rfl <;> rfl)).trans (by rcases ha with rfl | rfl <;> exact zRf_of (by decide) rfl)) f3
theorem gR_A_16 (ha : a = 96 ∨ a = 113) : zo_b (zo_gR (zG I J r) 0 a 16) f3 = f3 (a + 10) := zob ((e_gR (by rcases ha with rfl | rfl <;> rfl)).trans (by rcases ha with rfl | rfl <;> exact zRf_of (by decide) rfl)) f3
theorem gR_A_17 (ha : a = 96 ∨ a = 113) : zo_b (zo_gR (zG I J r) 0 a 17) f3 = f3 (a + 11) := zob ((e_gR (by rcases ha with rfl | rfl <;> rfl)).trans (by rcases ha with rfl | rfl <;> exact zRf_of (by decide) rfl)) f3
theorem gR_Lw_0 (ha : a = 96 ∨ a = 113) : zo_b (zo_gR (zG I J r) 1 (a + 11) 0) f3 = f3 (a + 12) := zob ((e_gR (by rcases ha with rfl | rfl <;> rfl)).trans (by rcases ha with rfl | rfl <;> exact zRf_of (by decide) rfl)) f3
theorem gR_Lw_1 (ha : a = 96 ∨ a = 113) : zo_b (zo_gR (zG I J r) 1 (a + 11) 1) f3 = f3 (a + 13) := zob ((e_gR (by rcases ha with rfl | rfl <;> rfl)).trans (by rcases ha with rfl | rfl <;> exact zRf_of (by decide) rfl)) f3
theorem gR_Lw_2 (ha : a = 96 ∨ a = 113) : zo_b (zo_gR (zG I J r) 1 (a + 11) 2) f3 = f3 (a + 14) := zob ((e_gR (by rcases ha with rfl | rfl <;> rfl)).trans (by rcases ha with rfl | rfl <;> exact zRf_of (by decide) rfl)) f3
theorem gR_Lw_3 (ha : a = 96 ∨ a = 113) : zo_b (zo_gR (zG I J r) 1 (a + 11) 3) f3 = f3 (a + 15) := zob ((e_gR (by rcases ha with rfl | rfl <;> rfl)).trans (by rcases ha with rfl | rfl <;> exact zRf_of (by decide) rfl)) f3
theorem gR_Lw_4 (ha : a = 96 ∨ a = 113) : zo_b (zo_gR (zG I J r) 1 (a + 11) 4) f3 = f3 (a + 16) := zob ((e_gR (by rcases ha with rfl | rfl <;> rfl)).trans (by rcases ha with rfl | rfl <;> exact zRf_of (by decide) rfl)) f3
theorem at_A1 (ha : a = 96 ∨ a = 113) (hi : k < 6) : zo_c (zx_at sc (a + 1) (zn k) (zG I J r)) f5 = f5 (I (a + 1) k) (zG I J r) := zoc (e_at (by rcases ha with rfl | rfl <;> rfl) hi (by decide)) f5
theorem pt_A1 (ha : a = 96 ∨ a = 113) (hi : k < 6) : zo_c (zx_put sc (a + 1) (zn k) x (zG I J r)) f6 = f6 () (zG (zU I (a + 1) k x) J r) := zoc (e_put (by rcases ha with rfl | rfl <;> rfl) hi (by decide)) f6
theorem at_A2 (ha : a = 96 ∨ a = 113) (hi : k < 6) : zo_c (zx_at sc (a + 2) (zn k) (zG I J r)) f5 = f5 (I (a + 2) k) (zG I J r) := zoc (e_at (by rcases ha with rfl | rfl <;> rfl) hi (by decide)) f5
theorem pt_A2 (ha : a = 96 ∨ a = 113) (hi : k < 6) : zo_c (zx_put sc (a + 2) (zn k) x (zG I J r)) f6 = f6 () (zG (zU I (a + 2) k x) J r) := zoc (e_put (by rcases ha with rfl | rfl <;> rfl) hi (by decide)) f6
theorem at_A3 (ha : a = 96 ∨ a = 113) (hi : k < 6) : zo_c (zx_at sc (a + 3) (zn k) (zG I J r)) f5 = f5 (I (a + 3) k) (zG I J r) := zoc (e_at (by rcases ha with rfl | rfl <;> rfl) hi (by decide)) f5
theorem pt_A3 (ha : a = 96 ∨ a = 113) (hi : k < 6) : zo_c (zx_put sc (a + 3) (zn k) x (zG I J r)) f6 = f6 () (zG (zU I (a + 3) k x) J r) := zoc (e_put (by rcases ha with rfl | rfl <;> rfl) hi (by decide)) f6
theorem at_A4 (ha : a = 96 ∨ a = 113) (hi : k < 6) : zo_c (zx_at sc (a + 4) (zn k) (zG I J r)) f5 = f5 (I (a + 4) k) (zG I J r) := zoc (e_at (by rcases ha with rfl | rfl <;> rfl) hi (by decide)) f5
theorem pt_A4 (ha : a = 96 ∨ a = 113) (hi : k < 6) : zo_c (zx_put sc (a + 4) (zn k) x (zG I J r)) f6 = f6 () (zG (zU I (a + 4) k x) J r) := zoc (e_put (by rcases ha with rfl | rfl <;> rfl) hi (by decide)) f6
theorem at_A5 (ha : a = 96 ∨ a = 113) (hi : k < 6) : zo_c (zx_at sc (a + 5) (zn k) (zG I J r)) f5 = f5 (I (a + 5) k) (zG I J r) := zoc (e_at (by rcases ha with rfl | rfl <;> rfl) hi (by decide)) f5
theorem pt_A5 (ha : a = 96 ∨ a = 113) (hi : k < 6) : zo_c (zx_put sc (a + 5) (zn k) x (zG I J r)) f6 = f6 () (zG (zU I (a + 5) k x) J r) := zoc (e_put (by rcases ha with rfl | rfl <;> rfl) hi (by decide)) f6
theorem at_A6 (ha : a = 96 ∨ a = 113) (hi : k < 6) : zo_c (zx_at sc (a + 6) (zn k) (zG I J r)) f5 = f5 (I (a + 6) k) (zG I J r) := zoc (e_at (by rcases ha with rfl | rfl <;> rfl) hi (by decide)) f5
theorem pt_A6 (ha : a = 96 ∨ a = 113) (hi : k < 6) : zo_c (zx_put sc (a + 6) (zn k) x (zG I J r)) f6 = f6 () (zG (zU I (a + 6) k x) J r) := zoc (e_put (by rcases ha with rfl | rfl <;> rfl) hi (by decide)) f6
theorem rd_A7 (ha : a = 96 ∨ a = 113) (hi : k < 6) : zo_b (zq_rdL (zG I J r) (a + 7) (zn k)) f2 = f2 (J (a + 7) k) := zob (e_rdL (by rcases ha with rfl | rfl <;> rfl) hi (by decide)) f2
theorem wr_A7 (ha : a = 96 ∨ a = 113) (hi : k < 6) : zo_b (zq_wrL (zG I J r) (a + 7) (zn k) y) f4 = f4 (zG I (zV J (a + 7) k y) r) := zob (e_wrL (by rcases ha with rfl | rfl <;> rfl) hi (by decide)) f4
theorem ln_A7 (ha : a = 96 ∨ a = 113) : zo_b (zq_len sc (zG I J r) (a + 7)) f1 = f1 (zn 6) := zob (e_len (t := 1) (by rcases ha with rfl | rfl <;> rfl) (by decide)) f1
theorem rd_A8 (ha : a = 96 ∨ a = 113) (hi : k < 6) : zo_b (zq_rdL (zG I J r) (a + 8) (zn k)) f2 = f2 (J (a + 8) k) := zob (e_rdL (by rcases ha with rfl | rfl <;> rfl) hi (by decide)) f2
theorem wr_A8 (ha : a = 96 ∨ a = 113) (hi : k < 6) : zo_b (zq_wrL (zG I J r) (a + 8) (zn k) y) f4 = f4 (zG I (zV J (a + 8) k y) r) := zob (e_wrL (by rcases ha with rfl | rfl <;> rfl) hi (by decide)) f4
theorem ln_A8 (ha : a = 96 ∨ a = 113) : zo_b (zq_len sc (zG I J r) (a + 8)) f1 = f1 (zn 6) := zob (e_len (t := 1) (by rcases ha with rfl | rfl <;> rfl) (by decide)) f1
theorem at_A9 (ha : a = 96 ∨ a = 113) (hi : k < 36) : zo_c (zx_at sc (a + 9) (zn k) (zG I J r)) f5 = f5 (I (a + 9) k) (zG I J r) := zoc (e_at (by rcases ha with rfl | rfl <;> rfl) hi (by decide)) f5
theorem pt_A9 (ha : a = 96 ∨ a = 113) (hi : k < 36) : zo_c (zx_put sc (a + 9) (zn k) x (zG I J r)) f6 = f6 () (zG (zU I (a + 9) k x) J r) := zoc (e_put (by rcases ha with rfl | rfl <;> rfl) hi (by decide)) f6
theorem at_A10 (ha : a = 96 ∨ a = 113) (hi : k < 36) : zo_c (zx_at sc (a + 10) (zn k) (zG I J r)) f5 = f5 (I (a + 10) k) (zG I J r) := zoc (e_at (by rcases ha with rfl | rfl <;> rfl) hi (by decide)) f5
theorem pt_A10 (ha : a = 96 ∨ a = 113) (hi : k < 36) : zo_c (zx_put sc (a + 10) (zn k) x (zG I J r)) f6 = f6 () (zG (zU I (a + 10) k x) J r) := zoc (e_put (by rcases ha with rfl | rfl <;> rfl) hi (by decide)) f6
theorem at_A12 (ha : a = 96 ∨ a = 113) (hi : k < 1000) : zo_c (zx_at sc (a + 12) (zn k) (zG I J r)) f5 = f5 (I (a + 12) k) (zG I J r) := zoc (e_at (by rcases ha with rfl | rfl <;> rfl) hi (by decide)) f5
theorem pt_A12 (ha : a = 96 ∨ a = 113) (hi : k < 1000) : zo_c (zx_put sc (a + 12) (zn k) x (zG I J r)) f6 = f6 () (zG (zU I (a + 12) k x) J r) := zoc (e_put (by rcases ha with rfl | rfl <;> rfl) hi (by decide)) f6
theorem at_A13 (ha : a = 96 ∨ a = 113) (hi : k < 3) : zo_c (zx_at sc (a + 13) (zn k) (zG I J r)) f5 = f5 (I (a + 13) k) (zG I J r) := zoc (e_at (by rcases ha with rfl | rfl <;> rfl) hi (by decide)) f5
theorem pt_A13 (ha : a = 96 ∨ a = 113) (hi : k < 3) : zo_c (zx_put sc (a + 13) (zn k) x (zG I J r)) f6 = f6 () (zG (zU I (a + 13) k x) J r) := zoc (e_put (by rcases ha with rfl | rfl <;> rfl) hi (by decide)) f6
theorem at_A14 (ha : a = 96 ∨ a = 113) (hi : k < 3) : zo_c (zx_at sc (a + 14) (zn k) (zG I J r)) f5 = f5 (I (a + 14) k) (zG I J r) := zoc (e_at (by rcases ha with rfl | rfl <;> rfl) hi (by decide)) f5
theorem pt_A14 (ha : a = 96 ∨ a = 113) (hi : k < 3) : zo_c (zx_put sc (a + 14) (zn k) x (zG I J r)) f6 = f6 () (zG (zU I (a + 14) k x) J r) := zoc (e_put (by rcases ha with rfl | rfl <;> rfl) hi (by decide)) f6
theorem at_A15 (ha : a = 96 ∨ a = 113) (hi : k < 32) : zo_c (zx_at sc (a + 15) (zn k) (zG I J r)) f5 = f5 (I (a + 15) k) (zG I J r) := zoc (e_at (by rcases ha with rfl | rfl <;> rfl) hi (by decide)) f5
theorem pt_A15 (ha : a = 96 ∨ a = 113) (hi : k < 32) : zo_c (zx_put sc (a + 15) (zn k) x (zG I J r)) f6 = f6 () (zG (zU I (a + 15) k x) J r) := zoc (e_put (by rcases ha with rfl | rfl <;> rfl) hi (by decide)) f6
theorem at_A16 (ha : a = 96 ∨ a = 113) (hi : k < 4) : zo_c (zx_at sc (a + 16) (zn k) (zG I J r)) f5 = f5 (I (a + 16) k) (zG I J r) := zoc (e_at (by rcases ha with rfl | rfl <;> rfl) hi (by decide)) f5
theorem pt_A16 (ha : a = 96 ∨ a = 113) (hi : k < 4) : zo_c (zx_put sc (a + 16) (zn k) x (zG I J r)) f6 = f6 () (zG (zU I (a + 16) k x) J r) := zoc (e_put (by rcases ha with rfl | rfl <;> rfl) hi (by decide)) f6
theorem gI_W (hw : w = 130 ∨ w = 135) : zo_b (zo_gI (zG I J r) 7 w k) f1 = f1 (I w k) := zob (e_gI (by rcases hw with rfl | rfl <;> rfl)) f1
theorem gL_W (hw : w = 130 ∨ w = 135) : zo_b (zo_gL (zG I J r) 7 w k) f2 = f2 (J w k) := zob (e_gL (by rcases hw with rfl | rfl <;> rfl)) f2
theorem pI_W (hw : w = 130 ∨ w = 135) : zo_b (zo_pI (zG I J r) 7 w k x) f4 = f4 (zG (zU I w k x) J r) := zob (e_pI (by rcases hw with rfl | rfl <;> rfl)) f4
theorem pL_W (hw : w = 130 ∨ w = 135) : zo_b (zo_pL (zG I J r) 7 w k y) f4 = f4 (zG I (zV J w k y) r) := zob (e_pL (by rcases hw with rfl | rfl <;> rfl)) f4
theorem vv_W {α : Type} {z : Option (α × zH)} {g : α → zH → Option β} (hw : w = 130 ∨ w = 135) : zo_v (zG I J r) w 7 z g = zo_c z g := zov (by rcases hw with rfl | rfl <;> rfl) z g
theorem gR_W_1 (hw : w = 130 ∨ w = 135) : zo_b (zo_gR (zG I J r) 7 w 1) f3 = f3 (w + 1) := zob ((e_gR (by rcases hw with rfl | rfl <;> rfl)).trans (by rcases hw with rfl | rfl <;> exact zRf_of (by decide) rfl)) f3
theorem gR_W_2 (hw : w = 130 ∨ w = 135) : zo_b (zo_gR (zG I J r) 7 w 2) f3 = f3 (w + 2) := zob ((e_gR (by rcases hw with rfl | rfl <;> rfl)).trans (by rcases hw with rfl | rfl <;> exact zRf_of (by decide) rfl)) f3
theorem gR_W_3 (hw : w = 130 ∨ w = 135) : zo_b (zo_gR (zG I J r) 7 w 3) f3 = f3 (w + 3) := zob ((e_gR (by rcases hw with rfl | rfl <;> rfl)).trans (by rcases hw with rfl | rfl <;> exact zRf_of (by decide) rfl)) f3
theorem gR_W_4 (hw : w = 130 ∨ w = 135) : zo_b (zo_gR (zG I J r) 7 w 4) f3 = f3 (w + 4) := zob ((e_gR (by rcases hw with rfl | rfl <;> rfl)).trans (by rcases hw with rfl | rfl <;> exact zRf_of (by decide) rfl)) f3
theorem at_W1 (hw : w = 130 ∨ w = 135) (hi : k < 24) : zo_c (zx_at sc (w + 1) (zn k) (zG I J r)) f5 = f5 (I (w + 1) k) (zG I J r) := zoc (e_at (by rcases hw with rfl | rfl <;> rfl) hi (by decide)) f5
theorem pt_W1 (hw : w = 130 ∨ w = 135) (hi : k < 24) : zo_c (zx_put sc (w + 1) (zn k) x (zG I J r)) f6 = f6 () (zG (zU I (w + 1) k x) J r) := zoc (e_put (by rcases hw with rfl | rfl <;> rfl) hi (by decide)) f6
theorem at_W2 (hw : w = 130 ∨ w = 135) (hi : k < 24) : zo_c (zx_at sc (w + 2) (zn k) (zG I J r)) f5 = f5 (I (w + 2) k) (zG I J r) := zoc (e_at (by rcases hw with rfl | rfl <;> rfl) hi (by decide)) f5
theorem pt_W2 (hw : w = 130 ∨ w = 135) (hi : k < 24) : zo_c (zx_put sc (w + 2) (zn k) x (zG I J r)) f6 = f6 () (zG (zU I (w + 2) k x) J r) := zoc (e_put (by rcases hw with rfl | rfl <;> rfl) hi (by decide)) f6
theorem at_W3 (hw : w = 130 ∨ w = 135) (hi : k < 24) : zo_c (zx_at sc (w + 3) (zn k) (zG I J r)) f5 = f5 (I (w + 3) k) (zG I J r) := zoc (e_at (by rcases hw with rfl | rfl <;> rfl) hi (by decide)) f5
theorem pt_W3 (hw : w = 130 ∨ w = 135) (hi : k < 24) : zo_c (zx_put sc (w + 3) (zn k) x (zG I J r)) f6 = f6 () (zG (zU I (w + 3) k x) J r) := zoc (e_put (by rcases hw with rfl | rfl <;> rfl) hi (by decide)) f6
theorem at_W4 (hw : w = 130 ∨ w = 135) (hi : k < 24) : zo_c (zx_at sc (w + 4) (zn k) (zG I J r)) f5 = f5 (I (w + 4) k) (zG I J r) := zoc (e_at (by rcases hw with rfl | rfl <;> rfl) hi (by decide)) f5
theorem pt_W4 (hw : w = 130 ∨ w = 135) (hi : k < 24) : zo_c (zx_put sc (w + 4) (zn k) x (zG I J r)) f6 = f6 () (zG (zU I (w + 4) k x) J r) := zoc (e_put (by rcases hw with rfl | rfl <;> rfl) hi (by decide)) f6
end ZE
def zSi (s : Nat) : Prop := zk0 s = some (0, 4) ∧ zk0 (s + 1) = some (1, 6) ∧ zk0 (s + 2) = some (1, 6) ∧ ∀ r, zRf r s 0 = some (s + 1) ∧ zRf r s 1 = some (s + 2)
def zNi (s : Nat) : Prop := zk0 s = some (0, 2) ∧ zk0 (s + 1) = some (1, 5) ∧ zk0 (s + 2) = some (1, 8) ∧ zk0 (s + 3) = some (1, 8) ∧ ∀ r, zRf r s 0 = some (s + 1) ∧ zRf r s 1 = some (s + 2) ∧ zRf r s 2 = some (s + 3)
theorem zSi_67 : zSi 67 := ⟨rfl, rfl, rfl, fun _ => ⟨zRf_of (by decide) rfl, zRf_of (by decide) rfl⟩⟩
theorem zSi_70 : zSi 70 := ⟨rfl, rfl, rfl, fun _ => ⟨zRf_of (by decide) rfl, zRf_of (by decide) rfl⟩⟩
theorem zSi_140 : zSi 140 := ⟨rfl, rfl, rfl, fun _ => ⟨zRf_of (by decide) rfl, zRf_of (by decide) rfl⟩⟩
theorem zSi_143 : zSi 143 := ⟨rfl, rfl, rfl, fun _ => ⟨zRf_of (by decide) rfl, zRf_of (by decide) rfl⟩⟩
theorem zSi_146 : zSi 146 := ⟨rfl, rfl, rfl, fun _ => ⟨zRf_of (by decide) rfl, zRf_of (by decide) rfl⟩⟩
theorem zSi_149 : zSi 149 := ⟨rfl, rfl, rfl, fun _ => ⟨zRf_of (by decide) rfl, zRf_of (by decide) rfl⟩⟩
theorem zSi_152 : zSi 152 := ⟨rfl, rfl, rfl, fun _ => ⟨zRf_of (by decide) rfl, zRf_of (by decide) rfl⟩⟩
theorem zSi_155 : zSi 155 := ⟨rfl, rfl, rfl, fun _ => ⟨zRf_of (by decide) rfl, zRf_of (by decide) rfl⟩⟩
theorem zSi_158 : zSi 158 := ⟨rfl, rfl, rfl, fun _ => ⟨zRf_of (by decide) rfl, zRf_of (by decide) rfl⟩⟩
theorem zSi_161 : zSi 161 := ⟨rfl, rfl, rfl, fun _ => ⟨zRf_of (by decide) rfl, zRf_of (by decide) rfl⟩⟩
theorem zSi_164 : zSi 164 := ⟨rfl, rfl, rfl, fun _ => ⟨zRf_of (by decide) rfl, zRf_of (by decide) rfl⟩⟩
theorem zSi_167 : zSi 167 := ⟨rfl, rfl, rfl, fun _ => ⟨zRf_of (by decide) rfl, zRf_of (by decide) rfl⟩⟩
theorem zSi_170 : zSi 170 := ⟨rfl, rfl, rfl, fun _ => ⟨zRf_of (by decide) rfl, zRf_of (by decide) rfl⟩⟩
theorem zSi_173 : zSi 173 := ⟨rfl, rfl, rfl, fun _ => ⟨zRf_of (by decide) rfl, zRf_of (by decide) rfl⟩⟩
theorem zSi_176 : zSi 176 := ⟨rfl, rfl, rfl, fun _ => ⟨zRf_of (by decide) rfl, zRf_of (by decide) rfl⟩⟩
theorem zSi_179 : zSi 179 := ⟨rfl, rfl, rfl, fun _ => ⟨zRf_of (by decide) rfl, zRf_of (by decide) rfl⟩⟩
theorem zSi_182 : zSi 182 := ⟨rfl, rfl, rfl, fun _ => ⟨zRf_of (by decide) rfl, zRf_of (by decide) rfl⟩⟩
theorem zSi_185 : zSi 185 := ⟨rfl, rfl, rfl, fun _ => ⟨zRf_of (by decide) rfl, zRf_of (by decide) rfl⟩⟩
theorem zSi_188 : zSi 188 := ⟨rfl, rfl, rfl, fun _ => ⟨zRf_of (by decide) rfl, zRf_of (by decide) rfl⟩⟩
theorem zSi_195 : zSi 195 := ⟨rfl, rfl, rfl, fun _ => ⟨zRf_of (by decide) rfl, zRf_of (by decide) rfl⟩⟩
theorem zSi_202 : zSi 202 := ⟨rfl, rfl, rfl, fun _ => ⟨zRf_of (by decide) rfl, zRf_of (by decide) rfl⟩⟩
theorem zSi_209 : zSi 209 := ⟨rfl, rfl, rfl, fun _ => ⟨zRf_of (by decide) rfl, zRf_of (by decide) rfl⟩⟩
theorem zNi_73 : zNi 73 := ⟨rfl, rfl, rfl, rfl, fun _ => ⟨zRf_of (by decide) rfl, zRf_of (by decide) rfl, zRf_of (by decide) rfl⟩⟩
theorem zNi_191 : zNi 191 := ⟨rfl, rfl, rfl, rfl, fun _ => ⟨zRf_of (by decide) rfl, zRf_of (by decide) rfl, zRf_of (by decide) rfl⟩⟩
theorem zNi_198 : zNi 198 := ⟨rfl, rfl, rfl, rfl, fun _ => ⟨zRf_of (by decide) rfl, zRf_of (by decide) rfl, zRf_of (by decide) rfl⟩⟩
theorem zNi_205 : zNi 205 := ⟨rfl, rfl, rfl, rfl, fun _ => ⟨zRf_of (by decide) rfl, zRf_of (by decide) rfl, zRf_of (by decide) rfl⟩⟩
theorem zNi_212 : zNi 212 := ⟨rfl, rfl, rfl, rfl, fun _ => ⟨zRf_of (by decide) rfl, zRf_of (by decide) rfl, zRf_of (by decide) rfl⟩⟩
theorem zSi_past : ∀ i, i < 16 → zSi (140 + 3 * i)
  | 0, _ => zSi_140
  | 1, _ => zSi_143
  | 2, _ => zSi_146
  | 3, _ => zSi_149
  | 4, _ => zSi_152
  | 5, _ => zSi_155
  | 6, _ => zSi_158
  | 7, _ => zSi_161
  | 8, _ => zSi_164
  | 9, _ => zSi_167
  | 10, _ => zSi_170
  | 11, _ => zSi_173
  | 12, _ => zSi_176
  | 13, _ => zSi_179
  | 14, _ => zSi_182
  | 15, _ => zSi_185
  | n + 16, h => absurd h (by omega)
theorem zSi_mark : ∀ i, i < 4 → zSi (188 + 7 * i)
  | 0, _ => zSi_188
  | 1, _ => zSi_195
  | 2, _ => zSi_202
  | 3, _ => zSi_209
  | n + 4, h => absurd h (by omega)
theorem zNi_mark : ∀ i, i < 4 → zNi (191 + 7 * i)
  | 0, _ => zNi_191
  | 1, _ => zNi_198
  | 2, _ => zNi_205
  | 3, _ => zNi_212
  | n + 4, h => absurd h (by omega)
theorem zRf_92 {r : zRr} : ∀ i, i < 16 → zRf r 92 i = some (140 + 3 * i)
  | 0, _ => zRf_of (by decide) rfl
  | 1, _ => zRf_of (by decide) rfl
  | 2, _ => zRf_of (by decide) rfl
  | 3, _ => zRf_of (by decide) rfl
  | 4, _ => zRf_of (by decide) rfl
  | 5, _ => zRf_of (by decide) rfl
  | 6, _ => zRf_of (by decide) rfl
  | 7, _ => zRf_of (by decide) rfl
  | 8, _ => zRf_of (by decide) rfl
  | 9, _ => zRf_of (by decide) rfl
  | 10, _ => zRf_of (by decide) rfl
  | 11, _ => zRf_of (by decide) rfl
  | 12, _ => zRf_of (by decide) rfl
  | 13, _ => zRf_of (by decide) rfl
  | 14, _ => zRf_of (by decide) rfl
  | 15, _ => zRf_of (by decide) rfl
  | n + 16, h => absurd h (by omega)
theorem zRf_93 {r : zRr} : ∀ i, i < 4 → zRf r 93 i = some (188 + 7 * i)
  | 0, _ => zRf_of (by decide) rfl
  | 1, _ => zRf_of (by decide) rfl
  | 2, _ => zRf_of (by decide) rfl
  | 3, _ => zRf_of (by decide) rfl
  | n + 4, h => absurd h (by omega)
theorem zRf_94 {r : zRr} : ∀ i, i < 4 → zRf r 94 i = some (191 + 7 * i)
  | 0, _ => zRf_of (by decide) rfl
  | 1, _ => zRf_of (by decide) rfl
  | 2, _ => zRf_of (by decide) rfl
  | 3, _ => zRf_of (by decide) rfl
  | n + 4, h => absurd h (by omega)
section ZE
variable {β : Type} {I : zII} {J : zJJ} {r : zRr} {sc : zX} {k s : Nat} {x : Int32} {y : Int64}
variable {f1 : Int32 → Option β} {f2 : Int64 → Option β} {f3 : Nat → Option β} {f4 : zH → Option β} {f5 : Int32 → zH → Option β} {f6 : Unit → zH → Option β}
theorem rdR_92 (hi : k < 16) : zo_b (zo_rdR (zG I J r) 92 (zn k)) f3 = f3 (140 + 3 * k) := zob ((e_rdR (t := 5) (n := 16) rfl (by decide) hi (by decide)).trans (zRf_92 k hi)) f3
theorem rdR_93 (hi : k < 4) : zo_b (zo_rdR (zG I J r) 93 (zn k)) f3 = f3 (188 + 7 * k) := zob ((e_rdR (t := 5) (n := 4) rfl (by decide) hi (by decide)).trans (zRf_93 k hi)) f3
theorem rdR_94 (hi : k < 4) : zo_b (zo_rdR (zG I J r) 94 (zn k)) f3 = f3 (191 + 7 * k) := zob ((e_rdR (t := 6) (n := 4) rfl (by decide) hi (by decide)).trans (zRf_94 k hi)) f3
theorem gI_S (hs : zSi s) : zo_b (zo_gI (zG I J r) 4 s k) f1 = f1 (I s k) := zob (e_gI hs.1) f1
theorem gL_S (hs : zSi s) : zo_b (zo_gL (zG I J r) 4 s k) f2 = f2 (J s k) := zob (e_gL hs.1) f2
theorem pI_S (hs : zSi s) : zo_b (zo_pI (zG I J r) 4 s k x) f4 = f4 (zG (zU I s k x) J r) := zob (e_pI hs.1) f4
theorem pL_S (hs : zSi s) : zo_b (zo_pL (zG I J r) 4 s k y) f4 = f4 (zG I (zV J s k y) r) := zob (e_pL hs.1) f4
theorem vv_S {α : Type} {z : Option (α × zH)} {g : α → zH → Option β} (hs : zSi s) : zo_v (zG I J r) s 4 z g = zo_c z g := zov hs.1 z g
theorem gR_S_0 (hs : zSi s) : zo_b (zo_gR (zG I J r) 4 s 0) f3 = f3 (s + 1) := zob ((e_gR hs.1).trans (hs.2.2.2 r).1) f3
theorem gR_S_1 (hs : zSi s) : zo_b (zo_gR (zG I J r) 4 s 1) f3 = f3 (s + 2) := zob ((e_gR hs.1).trans (hs.2.2.2 r).2) f3
theorem at_S1 (hs : zSi s) (hi : k < 6) : zo_c (zx_at sc (s + 1) (zn k) (zG I J r)) f5 = f5 (I (s + 1) k) (zG I J r) := zoc (e_at hs.2.1 hi (by decide)) f5
theorem pt_S1 (hs : zSi s) (hi : k < 6) : zo_c (zx_put sc (s + 1) (zn k) x (zG I J r)) f6 = f6 () (zG (zU I (s + 1) k x) J r) := zoc (e_put hs.2.1 hi (by decide)) f6
theorem at_S2 (hs : zSi s) (hi : k < 6) : zo_c (zx_at sc (s + 2) (zn k) (zG I J r)) f5 = f5 (I (s + 2) k) (zG I J r) := zoc (e_at hs.2.2.1 hi (by decide)) f5
theorem pt_S2 (hs : zSi s) (hi : k < 6) : zo_c (zx_put sc (s + 2) (zn k) x (zG I J r)) f6 = f6 () (zG (zU I (s + 2) k x) J r) := zoc (e_put hs.2.2.1 hi (by decide)) f6
theorem gI_N (hs : zNi s) : zo_b (zo_gI (zG I J r) 2 s k) f1 = f1 (I s k) := zob (e_gI hs.1) f1
theorem gL_N (hs : zNi s) : zo_b (zo_gL (zG I J r) 2 s k) f2 = f2 (J s k) := zob (e_gL hs.1) f2
theorem pI_N (hs : zNi s) : zo_b (zo_pI (zG I J r) 2 s k x) f4 = f4 (zG (zU I s k x) J r) := zob (e_pI hs.1) f4
theorem pL_N (hs : zNi s) : zo_b (zo_pL (zG I J r) 2 s k y) f4 = f4 (zG I (zV J s k y) r) := zob (e_pL hs.1) f4
theorem vv_N {α : Type} {z : Option (α × zH)} {g : α → zH → Option β} (hs : zNi s) : zo_v (zG I J r) s 2 z g = zo_c z g := zov hs.1 z g
theorem gR_N_0 (hs : zNi s) : zo_b (zo_gR (zG I J r) 2 s 0) f3 = f3 (s + 1) := zob ((e_gR hs.1).trans (hs.2.2.2.2 r).1) f3
theorem gR_N_1 (hs : zNi s) : zo_b (zo_gR (zG I J r) 2 s 1) f3 = f3 (s + 2) := zob ((e_gR hs.1).trans (hs.2.2.2.2 r).2.1) f3
theorem gR_N_2 (hs : zNi s) : zo_b (zo_gR (zG I J r) 2 s 2) f3 = f3 (s + 3) := zob ((e_gR hs.1).trans (hs.2.2.2.2 r).2.2) f3
theorem at_N1 (hs : zNi s) (hi : k < 5) : zo_c (zx_at sc (s + 1) (zn k) (zG I J r)) f5 = f5 (I (s + 1) k) (zG I J r) := zoc (e_at hs.2.1 hi (by decide)) f5
theorem pt_N1 (hs : zNi s) (hi : k < 5) : zo_c (zx_put sc (s + 1) (zn k) x (zG I J r)) f6 = f6 () (zG (zU I (s + 1) k x) J r) := zoc (e_put hs.2.1 hi (by decide)) f6
theorem at_N2 (hs : zNi s) (hi : k < 8) : zo_c (zx_at sc (s + 2) (zn k) (zG I J r)) f5 = f5 (I (s + 2) k) (zG I J r) := zoc (e_at hs.2.2.1 hi (by decide)) f5
theorem pt_N2 (hs : zNi s) (hi : k < 8) : zo_c (zx_put sc (s + 2) (zn k) x (zG I J r)) f6 = f6 () (zG (zU I (s + 2) k x) J r) := zoc (e_put hs.2.2.1 hi (by decide)) f6
theorem at_N3 (hs : zNi s) (hi : k < 8) : zo_c (zx_at sc (s + 3) (zn k) (zG I J r)) f5 = f5 (I (s + 3) k) (zG I J r) := zoc (e_at hs.2.2.2.1 hi (by decide)) f5
theorem pt_N3 (hs : zNi s) (hi : k < 8) : zo_c (zx_put sc (s + 3) (zn k) x (zG I J r)) f6 = f6 () (zG (zU I (s + 3) k x) J r) := zoc (e_put hs.2.2.2.1 hi (by decide)) f6
theorem pB_S (hs : zSi s) {b : Bool} : zo_b (zo_pB (zG I J r) 4 s 5 (zt b)) f4 = f4 (zG (zU I s 5 (zt b)) J r) := zob (e_pB hs.1 (by cases b <;> rfl)) f4
theorem pB_S0 (hs : zSi s) : zo_b (zo_pB (zG I J r) 4 s 5 (zn 0)) f4 = f4 (zG (zU I s 5 (zn 0)) J r) := zob (e_pB hs.1 rfl) f4
theorem pB_S1 (hs : zSi s) : zo_b (zo_pB (zG I J r) 4 s 5 (zn 1)) f4 = f4 (zG (zU I s 5 (zn 1)) J r) := zob (e_pB hs.1 rfl) f4
theorem pB_770 : zo_b (zo_pB (zG I J r) 8 77 0 (zn 0)) f4 = f4 (zG (zU I 77 0 (zn 0)) J r) := zob (e_pB rfl rfl) f4
theorem pB_771 : zo_b (zo_pB (zG I J r) 8 77 0 (zn 1)) f4 = f4 (zG (zU I 77 0 (zn 1)) J r) := zob (e_pB rfl rfl) f4
theorem atN {o : Nat} {h : zH} : zo_c (zx_at sc o zN h) f5 = f5 (zn 0) h := zoc e_atN f5
theorem ptN {o : Nat} {h : zH} : zo_c (zx_put sc o zN x h) f6 = f6 () h := zoc e_putN f6
theorem cS {α : Type} {z : α} {h : zH} {g : α → zH → Option β} : zo_c (some (z, h)) g = g z h := rfl
theorem bS {α : Type} {z : α} {g : α → Option β} : zo_b (some z) g = g z := rfl
end ZE
