-- 168 L_law
set_option maxRecDepth 20000 in
theorem v_168_0 (d c s : Nat) (v0 : AV) (v1 : AV) (v2 : AV) (v3 : AV) (st : List AV) (σ : Sto) (Q : Po) : Ev (d, c, s) 168 0 [v0, v1, v2, v3] st σ Q = (1 ≤ c ∧ (kd (sn σ)).2 ≤ s ∧ (kd (sn σ)).1 = 5 ∧ Ev (d, c - 1, s - (kd (sn σ)).2) 168 3 [v0, v1, v2, v3] (aR (some (sn σ)) :: st) (alo σ) Q) := g_new (x := 7) rfl rfl cq_7007
set_option maxRecDepth 20000 in
theorem v_168_3 (b : B3) (v0 : AV) (v1 : AV) (v2 : AV) (v3 : AV) (st : List AV) (x : Option Nat) (σ : Sto) (Q : Po) : Ev b 168 3 [v0, v1, v2, v3] (aR x :: st) σ Q = (Ev b 168 4 [v0, v1, v2, v3] (aR x :: aR x :: st) σ Q) := (Ev_of (k := 168) (pc := 3) (i := .dup) (len := 1) rfl _ _ _ _ _).trans rfl
set_option maxRecDepth 20000 in
theorem v_168_4 (d c s : Nat) (v0 : AV) (v1 : AV) (v2 : AV) (v3 : AV) (y0 : Nat) (y1 : Option Nat) (σ : Sto) (Q : Po) : Ev (d + 1, c + 66, s + 3605) 168 4 [v0, v1, v2, v3] [aR (some y0), aR y1] σ Q = (CV d 59 [aR (some y0)] σ (fun σ2 => Ev (d + 1, c, s) 168 7 [v0, v1, v2, v3] [aR y1] σ2 Q)) := (g_inv (k := 168) (pc := 4) (x := 9) (i := .invokespecial 9) rfl (Or.inr (Or.inl ⟨rfl, rfl⟩)) rfl lq_7009).trans (vdo_V (k' := 59) (c1 := 66) (c2 := 3605) (vs := [aR (some y0)]) (rest := [aR y1]) rfl rfl rfl)
set_option maxRecDepth 20000 in
theorem v_168_7 (b : B3) (v0 : Option Nat) (v1 : AV) (v2 : AV) (v3 : AV) (st : List AV) (x : Option Nat) (σ : Sto) (Q : Po) : Ev b 168 7 [aR v0, v1, v2, v3] (aR x :: st) σ Q = (Ev b 168 8 [aR v0, aR x, v2, v3] st σ Q) := (Ev_of (k := 168) (pc := 7) (i := .astore_n 1) (len := 1) rfl _ _ _ _ _).trans rfl
set_option maxRecDepth 20000 in
theorem v_168_8 (d c s : Nat) (v0 : AV) (v1 : AV) (v2 : AV) (v3 : AV) (st : List AV) (σ : Sto) (Q : Po) : Ev (d, c, s) 168 8 [v0, v1, v2, v3] st σ Q = (1 ≤ c ∧ (kd (sn σ)).2 ≤ s ∧ (kd (sn σ)).1 = 6 ∧ Ev (d, c - 1, s - (kd (sn σ)).2) 168 11 [v0, v1, v2, v3] (aR (some (sn σ)) :: st) (alo σ) Q) := g_new (x := 10) rfl rfl cq_7010
set_option maxRecDepth 20000 in
theorem v_168_11 (b : B3) (v0 : AV) (v1 : AV) (v2 : AV) (v3 : AV) (st : List AV) (x : Option Nat) (σ : Sto) (Q : Po) : Ev b 168 11 [v0, v1, v2, v3] (aR x :: st) σ Q = (Ev b 168 12 [v0, v1, v2, v3] (aR x :: aR x :: st) σ Q) := (Ev_of (k := 168) (pc := 11) (i := .dup) (len := 1) rfl _ _ _ _ _).trans rfl
set_option maxRecDepth 20000 in
theorem v_168_12 (d c s : Nat) (v0 : AV) (v1 : AV) (v2 : AV) (v3 : AV) (y0 : Nat) (y1 : Option Nat) (σ : Sto) (Q : Po) : Ev (d + 1, c + 34, s + 14188) 168 12 [v0, v1, v2, v3] [aR (some y0), aR y1] σ Q = (CV d 105 [aR (some y0)] σ (fun σ2 => Ev (d + 1, c, s) 168 15 [v0, v1, v2, v3] [aR y1] σ2 Q)) := (g_inv (k := 168) (pc := 12) (x := 12) (i := .invokespecial 12) rfl (Or.inr (Or.inl ⟨rfl, rfl⟩)) rfl lq_7012).trans (vdo_V (k' := 105) (c1 := 34) (c2 := 14188) (vs := [aR (some y0)]) (rest := [aR y1]) rfl rfl rfl)
set_option maxRecDepth 20000 in
theorem v_168_15 (b : B3) (v0 : AV) (v1 : Option Nat) (v2 : AV) (v3 : AV) (st : List AV) (x : Option Nat) (σ : Sto) (Q : Po) : Ev b 168 15 [v0, aR v1, v2, v3] (aR x :: st) σ Q = (Ev b 168 16 [v0, aR v1, aR x, v3] st σ Q) := (Ev_of (k := 168) (pc := 15) (i := .astore_n 2) (len := 1) rfl _ _ _ _ _).trans rfl
set_option maxRecDepth 20000 in
theorem v_168_16 (b : B3) (v0 : AV) (v1 : AV) (v2 : AV) (v3 : AV) (st : List AV) (σ : Sto) (Q : Po) : Ev b 168 16 [v0, v1, v2, v3] st σ Q = (Ev b 168 17 [v0, v1, v2, v3] (aI 0 :: st) σ Q) := (Ev_of (k := 168) (pc := 16) (i := .iconst 0) (len := 1) rfl _ _ _ _ _).trans (congrArg (fun z => Ev b 168 17 [v0, v1, v2, v3] (aI z :: st) σ Q) ki_0)
set_option maxRecDepth 20000 in
theorem v_168_17 (b : B3) (v0 : AV) (v1 : AV) (v2 : Option Nat) (v3 : AV) (st : List AV) (x : Int32) (σ : Sto) (Q : Po) : Ev b 168 17 [v0, v1, aR v2, v3] (aI x :: st) σ Q = (Ev b 168 18 [v0, v1, aR v2, aI x] st σ Q) := (Ev_of (k := 168) (pc := 17) (i := .istore_n 3) (len := 1) rfl _ _ _ _ _).trans rfl
set_option maxRecDepth 20000 in
theorem v_168_18 (b : B3) (v0 : AV) (v1 : AV) (v2 : AV) (v3 : Int32) (st : List AV) (σ : Sto) (Q : Po) : Ev b 168 18 [v0, v1, v2, aI v3] st σ Q = (Ev b 168 19 [v0, v1, v2, aI v3] (aI v3 :: st) σ Q) := (Ev_of (k := 168) (pc := 18) (i := .iload_n 3) (len := 1) rfl _ _ _ _ _).trans rfl
set_option maxRecDepth 20000 in
theorem v_168_19 (b : B3) (v0 : Option Nat) (v1 : AV) (v2 : AV) (v3 : AV) (st : List AV) (σ : Sto) (Q : Po) : Ev b 168 19 [aR v0, v1, v2, v3] st σ Q = (Ev b 168 20 [aR v0, v1, v2, v3] (aR v0 :: st) σ Q) := (Ev_of (k := 168) (pc := 19) (i := .aload_n 0) (len := 1) rfl _ _ _ _ _).trans rfl
set_option maxRecDepth 20000 in
theorem v_168_20 (b : B3) (v0 : AV) (v1 : AV) (v2 : AV) (v3 : AV) (st : List AV) (a : Nat) (σ : Sto) (Q : Po) : Ev b 168 20 [v0, v1, v2, v3] (aR (some a) :: st) σ Q = (okL σ a ∧ Ev b 168 21 [v0, v1, v2, v3] (aI (Int32.ofNat (aln σ a)) :: st) σ Q) := (Ev_of (k := 168) (pc := 20) (i := .arraylength) (len := 1) rfl _ _ _ _ _).trans rfl
set_option maxRecDepth 20000 in
theorem v_168_21 (b : B3) (v0 : AV) (v1 : AV) (v2 : AV) (v3 : AV) (st : List AV) (σ : Sto) (Q : Po) : Ev b 168 21 [v0, v1, v2, v3] st σ Q = (Ev b 168 23 [v0, v1, v2, v3] (aI 11 :: st) σ Q) := (Ev_of (k := 168) (pc := 21) (i := .bipush 11) (len := 2) rfl _ _ _ _ _).trans (congrArg (fun z => Ev b 168 23 [v0, v1, v2, v3] (aI z :: st) σ Q) kb_11)
set_option maxRecDepth 20000 in
theorem v_168_23 (b : B3) (v0 : AV) (v1 : AV) (v2 : AV) (v3 : AV) (st : List AV) (x y : Int32) (σ : Sto) (Q : Po) : Ev b 168 23 [v0, v1, v2, v3] (aI y :: aI x :: st) σ Q = (Ev b 168 24 [v0, v1, v2, v3] (aI (x - y) :: st) σ Q) := (Ev_of (k := 168) (pc := 23) (i := .isub) (len := 1) rfl _ _ _ _ _).trans rfl
set_option maxRecDepth 20000 in
theorem v_168_24 (b : B3) (v0 : AV) (v1 : AV) (v2 : AV) (v3 : AV) (st : List AV) (x y : Int32) (σ : Sto) (Q : Po) : Ev b 168 24 [v0, v1, v2, v3] (aI y :: aI x :: st) σ Q = ((y < x → Ev b 168 1201 [v0, v1, v2, v3] st σ Q) ∧ (¬ y < x → Ev b 168 27 [v0, v1, v2, v3] st σ Q)) := (Ev_of (k := 168) (pc := 24) (i := .if_icmp .gt 1177) (len := 3) rfl _ _ _ _ _).trans rfl
set_option maxRecDepth 20000 in
theorem v_168_27 (b : B3) (v0 : Option Nat) (v1 : AV) (v2 : AV) (v3 : AV) (st : List AV) (σ : Sto) (Q : Po) : Ev b 168 27 [aR v0, v1, v2, v3] st σ Q = (Ev b 168 28 [aR v0, v1, v2, v3] (aR v0 :: st) σ Q) := (Ev_of (k := 168) (pc := 27) (i := .aload_n 0) (len := 1) rfl _ _ _ _ _).trans rfl
set_option maxRecDepth 20000 in
theorem v_168_28 (b : B3) (v0 : AV) (v1 : AV) (v2 : AV) (v3 : Int32) (st : List AV) (σ : Sto) (Q : Po) : Ev b 168 28 [v0, v1, v2, aI v3] st σ Q = (Ev b 168 29 [v0, v1, v2, aI v3] (aI v3 :: st) σ Q) := (Ev_of (k := 168) (pc := 28) (i := .iload_n 3) (len := 1) rfl _ _ _ _ _).trans rfl
set_option maxRecDepth 20000 in
theorem v_168_29 (b : B3) (v0 : AV) (v1 : AV) (v2 : AV) (v3 : AV) (st : List AV) (i : Int32) (a : Nat) (σ : Sto) (Q : Po) : Ev b 168 29 [v0, v1, v2, v3] (aI i :: aR (some a) :: st) σ Q = (okX σ a i ∧ Ev b 168 30 [v0, v1, v2, v3] (aI (gi σ a i.toNatClampNeg) :: st) σ Q) := (Ev_of (k := 168) (pc := 29) (i := .iaload) (len := 1) rfl _ _ _ _ _).trans rfl
set_option maxRecDepth 20000 in
theorem v_168_30 (b : B3) (v0 : AV) (v1 : AV) (v2 : AV) (v3 : AV) (st : List AV) (σ : Sto) (Q : Po) : Ev b 168 30 [v0, v1, v2, v3] st σ Q = (Ev b 168 32 [v0, v1, v2, v3] (aI 31 :: st) σ Q) := (Ev_of (k := 168) (pc := 30) (i := .bipush 31) (len := 2) rfl _ _ _ _ _).trans (congrArg (fun z => Ev b 168 32 [v0, v1, v2, v3] (aI z :: st) σ Q) kb_31)
set_option maxRecDepth 20000 in
theorem v_168_32 (b : B3) (v0 : AV) (v1 : AV) (v2 : AV) (v3 : AV) (st : List AV) (x y : Int32) (σ : Sto) (Q : Po) : Ev b 168 32 [v0, v1, v2, v3] (aI y :: aI x :: st) σ Q = (Ev b 168 33 [v0, v1, v2, v3] (aI (x &&& y) :: st) σ Q) := (Ev_of (k := 168) (pc := 32) (i := .iand) (len := 1) rfl _ _ _ _ _).trans rfl
set_option maxRecDepth 20000 in
theorem v_168_33_0 (b : B3) (v0 : AV) (v1 : AV) (v2 : AV) (v3 : AV) (st : List AV) (σ : Sto) (Q : Po) : Ev b 168 33 [v0, v1, v2, v3] (aI 0 :: st) σ Q = Ev b 168 156 [v0, v1, v2, v3] st σ Q := (Ev_of (k := 168) (pc := 33) (i := .tableswitch 1162 0 26 #[123, 286, 309, 352, 395, 428, 461, 547, 581, 625, 648, 661, 685, 748, 761, 794, 828, 862, 895, 918, 941, 964, 987, 1010, 1053, 1096, 1139]) (len := 123) rfl _ _ _ _ _).trans rfl
set_option maxRecDepth 20000 in
theorem v_168_33_1 (b : B3) (v0 : AV) (v1 : AV) (v2 : AV) (v3 : AV) (st : List AV) (σ : Sto) (Q : Po) : Ev b 168 33 [v0, v1, v2, v3] (aI 1 :: st) σ Q = Ev b 168 319 [v0, v1, v2, v3] st σ Q := (Ev_of (k := 168) (pc := 33) (i := .tableswitch 1162 0 26 #[123, 286, 309, 352, 395, 428, 461, 547, 581, 625, 648, 661, 685, 748, 761, 794, 828, 862, 895, 918, 941, 964, 987, 1010, 1053, 1096, 1139]) (len := 123) rfl _ _ _ _ _).trans rfl
set_option maxRecDepth 20000 in
theorem v_168_33_2 (b : B3) (v0 : AV) (v1 : AV) (v2 : AV) (v3 : AV) (st : List AV) (σ : Sto) (Q : Po) : Ev b 168 33 [v0, v1, v2, v3] (aI 2 :: st) σ Q = Ev b 168 342 [v0, v1, v2, v3] st σ Q := (Ev_of (k := 168) (pc := 33) (i := .tableswitch 1162 0 26 #[123, 286, 309, 352, 395, 428, 461, 547, 581, 625, 648, 661, 685, 748, 761, 794, 828, 862, 895, 918, 941, 964, 987, 1010, 1053, 1096, 1139]) (len := 123) rfl _ _ _ _ _).trans rfl
set_option maxRecDepth 20000 in
theorem v_168_33_3 (b : B3) (v0 : AV) (v1 : AV) (v2 : AV) (v3 : AV) (st : List AV) (σ : Sto) (Q : Po) : Ev b 168 33 [v0, v1, v2, v3] (aI 3 :: st) σ Q = Ev b 168 385 [v0, v1, v2, v3] st σ Q := (Ev_of (k := 168) (pc := 33) (i := .tableswitch 1162 0 26 #[123, 286, 309, 352, 395, 428, 461, 547, 581, 625, 648, 661, 685, 748, 761, 794, 828, 862, 895, 918, 941, 964, 987, 1010, 1053, 1096, 1139]) (len := 123) rfl _ _ _ _ _).trans rfl
set_option maxRecDepth 20000 in
theorem v_168_33_4 (b : B3) (v0 : AV) (v1 : AV) (v2 : AV) (v3 : AV) (st : List AV) (σ : Sto) (Q : Po) : Ev b 168 33 [v0, v1, v2, v3] (aI 4 :: st) σ Q = Ev b 168 428 [v0, v1, v2, v3] st σ Q := (Ev_of (k := 168) (pc := 33) (i := .tableswitch 1162 0 26 #[123, 286, 309, 352, 395, 428, 461, 547, 581, 625, 648, 661, 685, 748, 761, 794, 828, 862, 895, 918, 941, 964, 987, 1010, 1053, 1096, 1139]) (len := 123) rfl _ _ _ _ _).trans rfl
set_option maxRecDepth 20000 in
theorem v_168_33_5 (b : B3) (v0 : AV) (v1 : AV) (v2 : AV) (v3 : AV) (st : List AV) (σ : Sto) (Q : Po) : Ev b 168 33 [v0, v1, v2, v3] (aI 5 :: st) σ Q = Ev b 168 461 [v0, v1, v2, v3] st σ Q := (Ev_of (k := 168) (pc := 33) (i := .tableswitch 1162 0 26 #[123, 286, 309, 352, 395, 428, 461, 547, 581, 625, 648, 661, 685, 748, 761, 794, 828, 862, 895, 918, 941, 964, 987, 1010, 1053, 1096, 1139]) (len := 123) rfl _ _ _ _ _).trans rfl
set_option maxRecDepth 20000 in
theorem v_168_33_6 (b : B3) (v0 : AV) (v1 : AV) (v2 : AV) (v3 : AV) (st : List AV) (σ : Sto) (Q : Po) : Ev b 168 33 [v0, v1, v2, v3] (aI 6 :: st) σ Q = Ev b 168 494 [v0, v1, v2, v3] st σ Q := (Ev_of (k := 168) (pc := 33) (i := .tableswitch 1162 0 26 #[123, 286, 309, 352, 395, 428, 461, 547, 581, 625, 648, 661, 685, 748, 761, 794, 828, 862, 895, 918, 941, 964, 987, 1010, 1053, 1096, 1139]) (len := 123) rfl _ _ _ _ _).trans rfl
set_option maxRecDepth 20000 in
theorem v_168_33_7 (b : B3) (v0 : AV) (v1 : AV) (v2 : AV) (v3 : AV) (st : List AV) (σ : Sto) (Q : Po) : Ev b 168 33 [v0, v1, v2, v3] (aI 7 :: st) σ Q = Ev b 168 580 [v0, v1, v2, v3] st σ Q := (Ev_of (k := 168) (pc := 33) (i := .tableswitch 1162 0 26 #[123, 286, 309, 352, 395, 428, 461, 547, 581, 625, 648, 661, 685, 748, 761, 794, 828, 862, 895, 918, 941, 964, 987, 1010, 1053, 1096, 1139]) (len := 123) rfl _ _ _ _ _).trans rfl
set_option maxRecDepth 20000 in
theorem v_168_33_8 (b : B3) (v0 : AV) (v1 : AV) (v2 : AV) (v3 : AV) (st : List AV) (σ : Sto) (Q : Po) : Ev b 168 33 [v0, v1, v2, v3] (aI 8 :: st) σ Q = Ev b 168 614 [v0, v1, v2, v3] st σ Q := (Ev_of (k := 168) (pc := 33) (i := .tableswitch 1162 0 26 #[123, 286, 309, 352, 395, 428, 461, 547, 581, 625, 648, 661, 685, 748, 761, 794, 828, 862, 895, 918, 941, 964, 987, 1010, 1053, 1096, 1139]) (len := 123) rfl _ _ _ _ _).trans rfl
set_option maxRecDepth 20000 in
theorem v_168_33_9 (b : B3) (v0 : AV) (v1 : AV) (v2 : AV) (v3 : AV) (st : List AV) (σ : Sto) (Q : Po) : Ev b 168 33 [v0, v1, v2, v3] (aI 9 :: st) σ Q = Ev b 168 658 [v0, v1, v2, v3] st σ Q := (Ev_of (k := 168) (pc := 33) (i := .tableswitch 1162 0 26 #[123, 286, 309, 352, 395, 428, 461, 547, 581, 625, 648, 661, 685, 748, 761, 794, 828, 862, 895, 918, 941, 964, 987, 1010, 1053, 1096, 1139]) (len := 123) rfl _ _ _ _ _).trans rfl
set_option maxRecDepth 20000 in
theorem v_168_33_10 (b : B3) (v0 : AV) (v1 : AV) (v2 : AV) (v3 : AV) (st : List AV) (σ : Sto) (Q : Po) : Ev b 168 33 [v0, v1, v2, v3] (aI 10 :: st) σ Q = Ev b 168 681 [v0, v1, v2, v3] st σ Q := (Ev_of (k := 168) (pc := 33) (i := .tableswitch 1162 0 26 #[123, 286, 309, 352, 395, 428, 461, 547, 581, 625, 648, 661, 685, 748, 761, 794, 828, 862, 895, 918, 941, 964, 987, 1010, 1053, 1096, 1139]) (len := 123) rfl _ _ _ _ _).trans rfl
set_option maxRecDepth 20000 in
theorem v_168_33_11 (b : B3) (v0 : AV) (v1 : AV) (v2 : AV) (v3 : AV) (st : List AV) (σ : Sto) (Q : Po) : Ev b 168 33 [v0, v1, v2, v3] (aI 11 :: st) σ Q = Ev b 168 694 [v0, v1, v2, v3] st σ Q := (Ev_of (k := 168) (pc := 33) (i := .tableswitch 1162 0 26 #[123, 286, 309, 352, 395, 428, 461, 547, 581, 625, 648, 661, 685, 748, 761, 794, 828, 862, 895, 918, 941, 964, 987, 1010, 1053, 1096, 1139]) (len := 123) rfl _ _ _ _ _).trans rfl
set_option maxRecDepth 20000 in
theorem v_168_33_12 (b : B3) (v0 : AV) (v1 : AV) (v2 : AV) (v3 : AV) (st : List AV) (σ : Sto) (Q : Po) : Ev b 168 33 [v0, v1, v2, v3] (aI 12 :: st) σ Q = Ev b 168 718 [v0, v1, v2, v3] st σ Q := (Ev_of (k := 168) (pc := 33) (i := .tableswitch 1162 0 26 #[123, 286, 309, 352, 395, 428, 461, 547, 581, 625, 648, 661, 685, 748, 761, 794, 828, 862, 895, 918, 941, 964, 987, 1010, 1053, 1096, 1139]) (len := 123) rfl _ _ _ _ _).trans rfl
set_option maxRecDepth 20000 in
theorem v_168_33_13 (b : B3) (v0 : AV) (v1 : AV) (v2 : AV) (v3 : AV) (st : List AV) (σ : Sto) (Q : Po) : Ev b 168 33 [v0, v1, v2, v3] (aI 13 :: st) σ Q = Ev b 168 781 [v0, v1, v2, v3] st σ Q := (Ev_of (k := 168) (pc := 33) (i := .tableswitch 1162 0 26 #[123, 286, 309, 352, 395, 428, 461, 547, 581, 625, 648, 661, 685, 748, 761, 794, 828, 862, 895, 918, 941, 964, 987, 1010, 1053, 1096, 1139]) (len := 123) rfl _ _ _ _ _).trans rfl
set_option maxRecDepth 20000 in
theorem v_168_33_14 (b : B3) (v0 : AV) (v1 : AV) (v2 : AV) (v3 : AV) (st : List AV) (σ : Sto) (Q : Po) : Ev b 168 33 [v0, v1, v2, v3] (aI 14 :: st) σ Q = Ev b 168 794 [v0, v1, v2, v3] st σ Q := (Ev_of (k := 168) (pc := 33) (i := .tableswitch 1162 0 26 #[123, 286, 309, 352, 395, 428, 461, 547, 581, 625, 648, 661, 685, 748, 761, 794, 828, 862, 895, 918, 941, 964, 987, 1010, 1053, 1096, 1139]) (len := 123) rfl _ _ _ _ _).trans rfl
set_option maxRecDepth 20000 in
theorem v_168_33_15 (b : B3) (v0 : AV) (v1 : AV) (v2 : AV) (v3 : AV) (st : List AV) (σ : Sto) (Q : Po) : Ev b 168 33 [v0, v1, v2, v3] (aI 15 :: st) σ Q = Ev b 168 827 [v0, v1, v2, v3] st σ Q := (Ev_of (k := 168) (pc := 33) (i := .tableswitch 1162 0 26 #[123, 286, 309, 352, 395, 428, 461, 547, 581, 625, 648, 661, 685, 748, 761, 794, 828, 862, 895, 918, 941, 964, 987, 1010, 1053, 1096, 1139]) (len := 123) rfl _ _ _ _ _).trans rfl
set_option maxRecDepth 20000 in
theorem v_168_33_16 (b : B3) (v0 : AV) (v1 : AV) (v2 : AV) (v3 : AV) (st : List AV) (σ : Sto) (Q : Po) : Ev b 168 33 [v0, v1, v2, v3] (aI 16 :: st) σ Q = Ev b 168 861 [v0, v1, v2, v3] st σ Q := (Ev_of (k := 168) (pc := 33) (i := .tableswitch 1162 0 26 #[123, 286, 309, 352, 395, 428, 461, 547, 581, 625, 648, 661, 685, 748, 761, 794, 828, 862, 895, 918, 941, 964, 987, 1010, 1053, 1096, 1139]) (len := 123) rfl _ _ _ _ _).trans rfl
set_option maxRecDepth 20000 in
theorem v_168_33_17 (b : B3) (v0 : AV) (v1 : AV) (v2 : AV) (v3 : AV) (st : List AV) (σ : Sto) (Q : Po) : Ev b 168 33 [v0, v1, v2, v3] (aI 17 :: st) σ Q = Ev b 168 895 [v0, v1, v2, v3] st σ Q := (Ev_of (k := 168) (pc := 33) (i := .tableswitch 1162 0 26 #[123, 286, 309, 352, 395, 428, 461, 547, 581, 625, 648, 661, 685, 748, 761, 794, 828, 862, 895, 918, 941, 964, 987, 1010, 1053, 1096, 1139]) (len := 123) rfl _ _ _ _ _).trans rfl
set_option maxRecDepth 20000 in
theorem v_168_33_18 (b : B3) (v0 : AV) (v1 : AV) (v2 : AV) (v3 : AV) (st : List AV) (σ : Sto) (Q : Po) : Ev b 168 33 [v0, v1, v2, v3] (aI 18 :: st) σ Q = Ev b 168 928 [v0, v1, v2, v3] st σ Q := (Ev_of (k := 168) (pc := 33) (i := .tableswitch 1162 0 26 #[123, 286, 309, 352, 395, 428, 461, 547, 581, 625, 648, 661, 685, 748, 761, 794, 828, 862, 895, 918, 941, 964, 987, 1010, 1053, 1096, 1139]) (len := 123) rfl _ _ _ _ _).trans rfl
set_option maxRecDepth 20000 in
theorem v_168_33_19 (b : B3) (v0 : AV) (v1 : AV) (v2 : AV) (v3 : AV) (st : List AV) (σ : Sto) (Q : Po) : Ev b 168 33 [v0, v1, v2, v3] (aI 19 :: st) σ Q = Ev b 168 951 [v0, v1, v2, v3] st σ Q := (Ev_of (k := 168) (pc := 33) (i := .tableswitch 1162 0 26 #[123, 286, 309, 352, 395, 428, 461, 547, 581, 625, 648, 661, 685, 748, 761, 794, 828, 862, 895, 918, 941, 964, 987, 1010, 1053, 1096, 1139]) (len := 123) rfl _ _ _ _ _).trans rfl
set_option maxRecDepth 20000 in
theorem v_168_33_20 (b : B3) (v0 : AV) (v1 : AV) (v2 : AV) (v3 : AV) (st : List AV) (σ : Sto) (Q : Po) : Ev b 168 33 [v0, v1, v2, v3] (aI 20 :: st) σ Q = Ev b 168 974 [v0, v1, v2, v3] st σ Q := (Ev_of (k := 168) (pc := 33) (i := .tableswitch 1162 0 26 #[123, 286, 309, 352, 395, 428, 461, 547, 581, 625, 648, 661, 685, 748, 761, 794, 828, 862, 895, 918, 941, 964, 987, 1010, 1053, 1096, 1139]) (len := 123) rfl _ _ _ _ _).trans rfl
set_option maxRecDepth 20000 in
theorem v_168_33_21 (b : B3) (v0 : AV) (v1 : AV) (v2 : AV) (v3 : AV) (st : List AV) (σ : Sto) (Q : Po) : Ev b 168 33 [v0, v1, v2, v3] (aI 21 :: st) σ Q = Ev b 168 997 [v0, v1, v2, v3] st σ Q := (Ev_of (k := 168) (pc := 33) (i := .tableswitch 1162 0 26 #[123, 286, 309, 352, 395, 428, 461, 547, 581, 625, 648, 661, 685, 748, 761, 794, 828, 862, 895, 918, 941, 964, 987, 1010, 1053, 1096, 1139]) (len := 123) rfl _ _ _ _ _).trans rfl
set_option maxRecDepth 20000 in
theorem v_168_33_22 (b : B3) (v0 : AV) (v1 : AV) (v2 : AV) (v3 : AV) (st : List AV) (σ : Sto) (Q : Po) : Ev b 168 33 [v0, v1, v2, v3] (aI 22 :: st) σ Q = Ev b 168 1020 [v0, v1, v2, v3] st σ Q := (Ev_of (k := 168) (pc := 33) (i := .tableswitch 1162 0 26 #[123, 286, 309, 352, 395, 428, 461, 547, 581, 625, 648, 661, 685, 748, 761, 794, 828, 862, 895, 918, 941, 964, 987, 1010, 1053, 1096, 1139]) (len := 123) rfl _ _ _ _ _).trans rfl
set_option maxRecDepth 20000 in
theorem v_168_33_23 (b : B3) (v0 : AV) (v1 : AV) (v2 : AV) (v3 : AV) (st : List AV) (σ : Sto) (Q : Po) : Ev b 168 33 [v0, v1, v2, v3] (aI 23 :: st) σ Q = Ev b 168 1043 [v0, v1, v2, v3] st σ Q := (Ev_of (k := 168) (pc := 33) (i := .tableswitch 1162 0 26 #[123, 286, 309, 352, 395, 428, 461, 547, 581, 625, 648, 661, 685, 748, 761, 794, 828, 862, 895, 918, 941, 964, 987, 1010, 1053, 1096, 1139]) (len := 123) rfl _ _ _ _ _).trans rfl
set_option maxRecDepth 20000 in
theorem v_168_33_24 (b : B3) (v0 : AV) (v1 : AV) (v2 : AV) (v3 : AV) (st : List AV) (σ : Sto) (Q : Po) : Ev b 168 33 [v0, v1, v2, v3] (aI 24 :: st) σ Q = Ev b 168 1086 [v0, v1, v2, v3] st σ Q := (Ev_of (k := 168) (pc := 33) (i := .tableswitch 1162 0 26 #[123, 286, 309, 352, 395, 428, 461, 547, 581, 625, 648, 661, 685, 748, 761, 794, 828, 862, 895, 918, 941, 964, 987, 1010, 1053, 1096, 1139]) (len := 123) rfl _ _ _ _ _).trans rfl
set_option maxRecDepth 20000 in
theorem v_168_33_25 (b : B3) (v0 : AV) (v1 : AV) (v2 : AV) (v3 : AV) (st : List AV) (σ : Sto) (Q : Po) : Ev b 168 33 [v0, v1, v2, v3] (aI 25 :: st) σ Q = Ev b 168 1129 [v0, v1, v2, v3] st σ Q := (Ev_of (k := 168) (pc := 33) (i := .tableswitch 1162 0 26 #[123, 286, 309, 352, 395, 428, 461, 547, 581, 625, 648, 661, 685, 748, 761, 794, 828, 862, 895, 918, 941, 964, 987, 1010, 1053, 1096, 1139]) (len := 123) rfl _ _ _ _ _).trans rfl
set_option maxRecDepth 20000 in
theorem v_168_33_26 (b : B3) (v0 : AV) (v1 : AV) (v2 : AV) (v3 : AV) (st : List AV) (σ : Sto) (Q : Po) : Ev b 168 33 [v0, v1, v2, v3] (aI 26 :: st) σ Q = Ev b 168 1172 [v0, v1, v2, v3] st σ Q := (Ev_of (k := 168) (pc := 33) (i := .tableswitch 1162 0 26 #[123, 286, 309, 352, 395, 428, 461, 547, 581, 625, 648, 661, 685, 748, 761, 794, 828, 862, 895, 918, 941, 964, 987, 1010, 1053, 1096, 1139]) (len := 123) rfl _ _ _ _ _).trans rfl
set_option maxRecDepth 20000 in
theorem v_168_33_d (b : B3) (v0 : AV) (v1 : AV) (v2 : AV) (v3 : AV) (st : List AV) (x : Int32) (hx : x.toInt < 0 ∨ 26 < x.toInt) (σ : Sto) (Q : Po) : Ev b 168 33 [v0, v1, v2, v3] (aI x :: st) σ Q = Ev b 168 1195 [v0, v1, v2, v3] st σ Q := by
  refine (Ev_of (k := 168) (pc := 33) (i := .tableswitch 1162 0 26 #[123, 286, 309, 352, 395, 428, 461, 547, 581, 625, 648, 661, 685, 748, 761, 794, 828, 862, 895, 918, 941, 964, 987, 1010, 1053, 1096, 1139]) (len := 123) rfl _ _ _ _ _).trans ?_
  show jmp 33 (swt _ _ _ _ x) _ = _
  unfold swt
  rw [if_pos hx]
  rfl
set_option maxRecDepth 20000 in
theorem v_168_156 (b : B3) (v0 : AV) (v1 : Option Nat) (v2 : AV) (v3 : AV) (st : List AV) (σ : Sto) (Q : Po) : Ev b 168 156 [v0, aR v1, v2, v3] st σ Q = (Ev b 168 157 [v0, aR v1, v2, v3] (aR v1 :: st) σ Q) := (Ev_of (k := 168) (pc := 156) (i := .aload_n 1) (len := 1) rfl _ _ _ _ _).trans rfl
set_option maxRecDepth 20000 in
theorem v_168_157 (b : B3) (v0 : Option Nat) (v1 : AV) (v2 : AV) (v3 : AV) (st : List AV) (σ : Sto) (Q : Po) : Ev b 168 157 [aR v0, v1, v2, v3] st σ Q = (Ev b 168 158 [aR v0, v1, v2, v3] (aR v0 :: st) σ Q) := (Ev_of (k := 168) (pc := 157) (i := .aload_n 0) (len := 1) rfl _ _ _ _ _).trans rfl
set_option maxRecDepth 20000 in
theorem v_168_158 (b : B3) (v0 : AV) (v1 : AV) (v2 : AV) (v3 : Int32) (st : List AV) (σ : Sto) (Q : Po) : Ev b 168 158 [v0, v1, v2, aI v3] st σ Q = (Ev b 168 159 [v0, v1, v2, aI v3] (aI v3 :: st) σ Q) := (Ev_of (k := 168) (pc := 158) (i := .iload_n 3) (len := 1) rfl _ _ _ _ _).trans rfl
set_option maxRecDepth 20000 in
theorem v_168_159 (b : B3) (v0 : AV) (v1 : AV) (v2 : AV) (v3 : AV) (st : List AV) (σ : Sto) (Q : Po) : Ev b 168 159 [v0, v1, v2, v3] st σ Q = (Ev b 168 160 [v0, v1, v2, v3] (aI 1 :: st) σ Q) := (Ev_of (k := 168) (pc := 159) (i := .iconst 1) (len := 1) rfl _ _ _ _ _).trans (congrArg (fun z => Ev b 168 160 [v0, v1, v2, v3] (aI z :: st) σ Q) ki_1)
set_option maxRecDepth 20000 in
theorem v_168_160 (b : B3) (v0 : AV) (v1 : AV) (v2 : AV) (v3 : AV) (st : List AV) (x y : Int32) (σ : Sto) (Q : Po) : Ev b 168 160 [v0, v1, v2, v3] (aI y :: aI x :: st) σ Q = (Ev b 168 161 [v0, v1, v2, v3] (aI (x + y) :: st) σ Q) := (Ev_of (k := 168) (pc := 160) (i := .iadd) (len := 1) rfl _ _ _ _ _).trans rfl
set_option maxRecDepth 20000 in
theorem v_168_161 (b : B3) (v0 : AV) (v1 : AV) (v2 : AV) (v3 : AV) (st : List AV) (i : Int32) (a : Nat) (σ : Sto) (Q : Po) : Ev b 168 161 [v0, v1, v2, v3] (aI i :: aR (some a) :: st) σ Q = (okX σ a i ∧ Ev b 168 162 [v0, v1, v2, v3] (aI (gi σ a i.toNatClampNeg) :: st) σ Q) := (Ev_of (k := 168) (pc := 161) (i := .iaload) (len := 1) rfl _ _ _ _ _).trans rfl
set_option maxRecDepth 20000 in
theorem v_168_162 (b : B3) (v0 : Option Nat) (v1 : AV) (v2 : AV) (v3 : AV) (st : List AV) (σ : Sto) (Q : Po) : Ev b 168 162 [aR v0, v1, v2, v3] st σ Q = (Ev b 168 163 [aR v0, v1, v2, v3] (aR v0 :: st) σ Q) := (Ev_of (k := 168) (pc := 162) (i := .aload_n 0) (len := 1) rfl _ _ _ _ _).trans rfl
set_option maxRecDepth 20000 in
theorem v_168_163 (b : B3) (v0 : AV) (v1 : AV) (v2 : AV) (v3 : Int32) (st : List AV) (σ : Sto) (Q : Po) : Ev b 168 163 [v0, v1, v2, aI v3] st σ Q = (Ev b 168 164 [v0, v1, v2, aI v3] (aI v3 :: st) σ Q) := (Ev_of (k := 168) (pc := 163) (i := .iload_n 3) (len := 1) rfl _ _ _ _ _).trans rfl
set_option maxRecDepth 20000 in
theorem v_168_164 (b : B3) (v0 : AV) (v1 : AV) (v2 : AV) (v3 : AV) (st : List AV) (σ : Sto) (Q : Po) : Ev b 168 164 [v0, v1, v2, v3] st σ Q = (Ev b 168 165 [v0, v1, v2, v3] (aI 2 :: st) σ Q) := (Ev_of (k := 168) (pc := 164) (i := .iconst 2) (len := 1) rfl _ _ _ _ _).trans (congrArg (fun z => Ev b 168 165 [v0, v1, v2, v3] (aI z :: st) σ Q) ki_2)
set_option maxRecDepth 20000 in
theorem v_168_165 (b : B3) (v0 : AV) (v1 : AV) (v2 : AV) (v3 : AV) (st : List AV) (x y : Int32) (σ : Sto) (Q : Po) : Ev b 168 165 [v0, v1, v2, v3] (aI y :: aI x :: st) σ Q = (Ev b 168 166 [v0, v1, v2, v3] (aI (x + y) :: st) σ Q) := (Ev_of (k := 168) (pc := 165) (i := .iadd) (len := 1) rfl _ _ _ _ _).trans rfl
set_option maxRecDepth 20000 in
theorem v_168_166 (b : B3) (v0 : AV) (v1 : AV) (v2 : AV) (v3 : AV) (st : List AV) (i : Int32) (a : Nat) (σ : Sto) (Q : Po) : Ev b 168 166 [v0, v1, v2, v3] (aI i :: aR (some a) :: st) σ Q = (okX σ a i ∧ Ev b 168 167 [v0, v1, v2, v3] (aI (gi σ a i.toNatClampNeg) :: st) σ Q) := (Ev_of (k := 168) (pc := 166) (i := .iaload) (len := 1) rfl _ _ _ _ _).trans rfl
set_option maxRecDepth 20000 in
theorem v_168_167 (b : B3) (v0 : Option Nat) (v1 : AV) (v2 : AV) (v3 : AV) (st : List AV) (σ : Sto) (Q : Po) : Ev b 168 167 [aR v0, v1, v2, v3] st σ Q = (Ev b 168 168 [aR v0, v1, v2, v3] (aR v0 :: st) σ Q) := (Ev_of (k := 168) (pc := 167) (i := .aload_n 0) (len := 1) rfl _ _ _ _ _).trans rfl
set_option maxRecDepth 20000 in
theorem v_168_168 (b : B3) (v0 : AV) (v1 : AV) (v2 : AV) (v3 : Int32) (st : List AV) (σ : Sto) (Q : Po) : Ev b 168 168 [v0, v1, v2, aI v3] st σ Q = (Ev b 168 169 [v0, v1, v2, aI v3] (aI v3 :: st) σ Q) := (Ev_of (k := 168) (pc := 168) (i := .iload_n 3) (len := 1) rfl _ _ _ _ _).trans rfl
set_option maxRecDepth 20000 in
theorem v_168_169 (b : B3) (v0 : AV) (v1 : AV) (v2 : AV) (v3 : AV) (st : List AV) (σ : Sto) (Q : Po) : Ev b 168 169 [v0, v1, v2, v3] st σ Q = (Ev b 168 170 [v0, v1, v2, v3] (aI 3 :: st) σ Q) := (Ev_of (k := 168) (pc := 169) (i := .iconst 3) (len := 1) rfl _ _ _ _ _).trans (congrArg (fun z => Ev b 168 170 [v0, v1, v2, v3] (aI z :: st) σ Q) ki_3)
set_option maxRecDepth 20000 in
theorem v_168_170 (b : B3) (v0 : AV) (v1 : AV) (v2 : AV) (v3 : AV) (st : List AV) (x y : Int32) (σ : Sto) (Q : Po) : Ev b 168 170 [v0, v1, v2, v3] (aI y :: aI x :: st) σ Q = (Ev b 168 171 [v0, v1, v2, v3] (aI (x + y) :: st) σ Q) := (Ev_of (k := 168) (pc := 170) (i := .iadd) (len := 1) rfl _ _ _ _ _).trans rfl
set_option maxRecDepth 20000 in
theorem v_168_171 (b : B3) (v0 : AV) (v1 : AV) (v2 : AV) (v3 : AV) (st : List AV) (i : Int32) (a : Nat) (σ : Sto) (Q : Po) : Ev b 168 171 [v0, v1, v2, v3] (aI i :: aR (some a) :: st) σ Q = (okX σ a i ∧ Ev b 168 172 [v0, v1, v2, v3] (aI (gi σ a i.toNatClampNeg) :: st) σ Q) := (Ev_of (k := 168) (pc := 171) (i := .iaload) (len := 1) rfl _ _ _ _ _).trans rfl
set_option maxRecDepth 20000 in
theorem v_168_172 (b : B3) (v0 : Option Nat) (v1 : AV) (v2 : AV) (v3 : AV) (st : List AV) (σ : Sto) (Q : Po) : Ev b 168 172 [aR v0, v1, v2, v3] st σ Q = (Ev b 168 173 [aR v0, v1, v2, v3] (aR v0 :: st) σ Q) := (Ev_of (k := 168) (pc := 172) (i := .aload_n 0) (len := 1) rfl _ _ _ _ _).trans rfl
set_option maxRecDepth 20000 in
theorem v_168_173 (b : B3) (v0 : AV) (v1 : AV) (v2 : AV) (v3 : Int32) (st : List AV) (σ : Sto) (Q : Po) : Ev b 168 173 [v0, v1, v2, aI v3] st σ Q = (Ev b 168 174 [v0, v1, v2, aI v3] (aI v3 :: st) σ Q) := (Ev_of (k := 168) (pc := 173) (i := .iload_n 3) (len := 1) rfl _ _ _ _ _).trans rfl
set_option maxRecDepth 20000 in
theorem v_168_174 (b : B3) (v0 : AV) (v1 : AV) (v2 : AV) (v3 : AV) (st : List AV) (σ : Sto) (Q : Po) : Ev b 168 174 [v0, v1, v2, v3] st σ Q = (Ev b 168 175 [v0, v1, v2, v3] (aI 4 :: st) σ Q) := (Ev_of (k := 168) (pc := 174) (i := .iconst 4) (len := 1) rfl _ _ _ _ _).trans (congrArg (fun z => Ev b 168 175 [v0, v1, v2, v3] (aI z :: st) σ Q) ki_4)
set_option maxRecDepth 20000 in
theorem v_168_175 (b : B3) (v0 : AV) (v1 : AV) (v2 : AV) (v3 : AV) (st : List AV) (x y : Int32) (σ : Sto) (Q : Po) : Ev b 168 175 [v0, v1, v2, v3] (aI y :: aI x :: st) σ Q = (Ev b 168 176 [v0, v1, v2, v3] (aI (x + y) :: st) σ Q) := (Ev_of (k := 168) (pc := 175) (i := .iadd) (len := 1) rfl _ _ _ _ _).trans rfl
set_option maxRecDepth 20000 in
theorem v_168_176 (b : B3) (v0 : AV) (v1 : AV) (v2 : AV) (v3 : AV) (st : List AV) (i : Int32) (a : Nat) (σ : Sto) (Q : Po) : Ev b 168 176 [v0, v1, v2, v3] (aI i :: aR (some a) :: st) σ Q = (okX σ a i ∧ Ev b 168 177 [v0, v1, v2, v3] (aI (gi σ a i.toNatClampNeg) :: st) σ Q) := (Ev_of (k := 168) (pc := 176) (i := .iaload) (len := 1) rfl _ _ _ _ _).trans rfl
set_option maxRecDepth 20000 in
theorem v_168_177 (b : B3) (v0 : Option Nat) (v1 : AV) (v2 : AV) (v3 : AV) (st : List AV) (σ : Sto) (Q : Po) : Ev b 168 177 [aR v0, v1, v2, v3] st σ Q = (Ev b 168 178 [aR v0, v1, v2, v3] (aR v0 :: st) σ Q) := (Ev_of (k := 168) (pc := 177) (i := .aload_n 0) (len := 1) rfl _ _ _ _ _).trans rfl
set_option maxRecDepth 20000 in
theorem v_168_178 (b : B3) (v0 : AV) (v1 : AV) (v2 : AV) (v3 : Int32) (st : List AV) (σ : Sto) (Q : Po) : Ev b 168 178 [v0, v1, v2, aI v3] st σ Q = (Ev b 168 179 [v0, v1, v2, aI v3] (aI v3 :: st) σ Q) := (Ev_of (k := 168) (pc := 178) (i := .iload_n 3) (len := 1) rfl _ _ _ _ _).trans rfl
set_option maxRecDepth 20000 in
theorem v_168_179 (b : B3) (v0 : AV) (v1 : AV) (v2 : AV) (v3 : AV) (st : List AV) (σ : Sto) (Q : Po) : Ev b 168 179 [v0, v1, v2, v3] st σ Q = (Ev b 168 180 [v0, v1, v2, v3] (aI 5 :: st) σ Q) := (Ev_of (k := 168) (pc := 179) (i := .iconst 5) (len := 1) rfl _ _ _ _ _).trans (congrArg (fun z => Ev b 168 180 [v0, v1, v2, v3] (aI z :: st) σ Q) ki_5)
set_option maxRecDepth 20000 in
theorem v_168_180 (b : B3) (v0 : AV) (v1 : AV) (v2 : AV) (v3 : AV) (st : List AV) (x y : Int32) (σ : Sto) (Q : Po) : Ev b 168 180 [v0, v1, v2, v3] (aI y :: aI x :: st) σ Q = (Ev b 168 181 [v0, v1, v2, v3] (aI (x + y) :: st) σ Q) := (Ev_of (k := 168) (pc := 180) (i := .iadd) (len := 1) rfl _ _ _ _ _).trans rfl
set_option maxRecDepth 20000 in
theorem v_168_181 (b : B3) (v0 : AV) (v1 : AV) (v2 : AV) (v3 : AV) (st : List AV) (i : Int32) (a : Nat) (σ : Sto) (Q : Po) : Ev b 168 181 [v0, v1, v2, v3] (aI i :: aR (some a) :: st) σ Q = (okX σ a i ∧ Ev b 168 182 [v0, v1, v2, v3] (aI (gi σ a i.toNatClampNeg) :: st) σ Q) := (Ev_of (k := 168) (pc := 181) (i := .iaload) (len := 1) rfl _ _ _ _ _).trans rfl
set_option maxRecDepth 20000 in
theorem v_168_182 (b : B3) (v0 : Option Nat) (v1 : AV) (v2 : AV) (v3 : AV) (st : List AV) (σ : Sto) (Q : Po) : Ev b 168 182 [aR v0, v1, v2, v3] st σ Q = (Ev b 168 183 [aR v0, v1, v2, v3] (aR v0 :: st) σ Q) := (Ev_of (k := 168) (pc := 182) (i := .aload_n 0) (len := 1) rfl _ _ _ _ _).trans rfl
set_option maxRecDepth 20000 in
theorem v_168_183 (b : B3) (v0 : AV) (v1 : AV) (v2 : AV) (v3 : Int32) (st : List AV) (σ : Sto) (Q : Po) : Ev b 168 183 [v0, v1, v2, aI v3] st σ Q = (Ev b 168 184 [v0, v1, v2, aI v3] (aI v3 :: st) σ Q) := (Ev_of (k := 168) (pc := 183) (i := .iload_n 3) (len := 1) rfl _ _ _ _ _).trans rfl
set_option maxRecDepth 20000 in
theorem v_168_184 (b : B3) (v0 : AV) (v1 : AV) (v2 : AV) (v3 : AV) (st : List AV) (σ : Sto) (Q : Po) : Ev b 168 184 [v0, v1, v2, v3] st σ Q = (Ev b 168 186 [v0, v1, v2, v3] (aI 6 :: st) σ Q) := (Ev_of (k := 168) (pc := 184) (i := .bipush 6) (len := 2) rfl _ _ _ _ _).trans (congrArg (fun z => Ev b 168 186 [v0, v1, v2, v3] (aI z :: st) σ Q) kb_6)
set_option maxRecDepth 20000 in
theorem v_168_186 (b : B3) (v0 : AV) (v1 : AV) (v2 : AV) (v3 : AV) (st : List AV) (x y : Int32) (σ : Sto) (Q : Po) : Ev b 168 186 [v0, v1, v2, v3] (aI y :: aI x :: st) σ Q = (Ev b 168 187 [v0, v1, v2, v3] (aI (x + y) :: st) σ Q) := (Ev_of (k := 168) (pc := 186) (i := .iadd) (len := 1) rfl _ _ _ _ _).trans rfl
set_option maxRecDepth 20000 in
theorem v_168_187 (b : B3) (v0 : AV) (v1 : AV) (v2 : AV) (v3 : AV) (st : List AV) (i : Int32) (a : Nat) (σ : Sto) (Q : Po) : Ev b 168 187 [v0, v1, v2, v3] (aI i :: aR (some a) :: st) σ Q = (okX σ a i ∧ Ev b 168 188 [v0, v1, v2, v3] (aI (gi σ a i.toNatClampNeg) :: st) σ Q) := (Ev_of (k := 168) (pc := 187) (i := .iaload) (len := 1) rfl _ _ _ _ _).trans rfl
set_option maxRecDepth 20000 in
theorem v_168_188 (b : B3) (v0 : Option Nat) (v1 : AV) (v2 : AV) (v3 : AV) (st : List AV) (σ : Sto) (Q : Po) : Ev b 168 188 [aR v0, v1, v2, v3] st σ Q = (Ev b 168 189 [aR v0, v1, v2, v3] (aR v0 :: st) σ Q) := (Ev_of (k := 168) (pc := 188) (i := .aload_n 0) (len := 1) rfl _ _ _ _ _).trans rfl
set_option maxRecDepth 20000 in
theorem v_168_189 (b : B3) (v0 : AV) (v1 : AV) (v2 : AV) (v3 : Int32) (st : List AV) (σ : Sto) (Q : Po) : Ev b 168 189 [v0, v1, v2, aI v3] st σ Q = (Ev b 168 190 [v0, v1, v2, aI v3] (aI v3 :: st) σ Q) := (Ev_of (k := 168) (pc := 189) (i := .iload_n 3) (len := 1) rfl _ _ _ _ _).trans rfl
set_option maxRecDepth 20000 in
theorem v_168_190 (b : B3) (v0 : AV) (v1 : AV) (v2 : AV) (v3 : AV) (st : List AV) (σ : Sto) (Q : Po) : Ev b 168 190 [v0, v1, v2, v3] st σ Q = (Ev b 168 192 [v0, v1, v2, v3] (aI 7 :: st) σ Q) := (Ev_of (k := 168) (pc := 190) (i := .bipush 7) (len := 2) rfl _ _ _ _ _).trans (congrArg (fun z => Ev b 168 192 [v0, v1, v2, v3] (aI z :: st) σ Q) kb_7)
set_option maxRecDepth 20000 in
theorem v_168_192 (b : B3) (v0 : AV) (v1 : AV) (v2 : AV) (v3 : AV) (st : List AV) (x y : Int32) (σ : Sto) (Q : Po) : Ev b 168 192 [v0, v1, v2, v3] (aI y :: aI x :: st) σ Q = (Ev b 168 193 [v0, v1, v2, v3] (aI (x + y) :: st) σ Q) := (Ev_of (k := 168) (pc := 192) (i := .iadd) (len := 1) rfl _ _ _ _ _).trans rfl
set_option maxRecDepth 20000 in
theorem v_168_193 (b : B3) (v0 : AV) (v1 : AV) (v2 : AV) (v3 : AV) (st : List AV) (i : Int32) (a : Nat) (σ : Sto) (Q : Po) : Ev b 168 193 [v0, v1, v2, v3] (aI i :: aR (some a) :: st) σ Q = (okX σ a i ∧ Ev b 168 194 [v0, v1, v2, v3] (aI (gi σ a i.toNatClampNeg) :: st) σ Q) := (Ev_of (k := 168) (pc := 193) (i := .iaload) (len := 1) rfl _ _ _ _ _).trans rfl
set_option maxRecDepth 20000 in
theorem v_168_194 (b : B3) (v0 : AV) (v1 : AV) (v2 : AV) (v3 : AV) (st : List AV) (x : Int32) (σ : Sto) (Q : Po) : Ev b 168 194 [v0, v1, v2, v3] (aI x :: st) σ Q = (Ev b 168 195 [v0, v1, v2, v3] (aL x.toInt64 :: st) σ Q) := (Ev_of (k := 168) (pc := 194) (i := .i2l) (len := 1) rfl _ _ _ _ _).trans rfl
set_option maxRecDepth 20000 in
theorem v_168_195 (b : B3) (v0 : AV) (v1 : AV) (v2 : AV) (v3 : AV) (st : List AV) (σ : Sto) (Q : Po) : Ev b 168 195 [v0, v1, v2, v3] st σ Q = (Ev b 168 197 [v0, v1, v2, v3] (aI 32 :: st) σ Q) := (Ev_of (k := 168) (pc := 195) (i := .bipush 32) (len := 2) rfl _ _ _ _ _).trans (congrArg (fun z => Ev b 168 197 [v0, v1, v2, v3] (aI z :: st) σ Q) kb_32)
set_option maxRecDepth 20000 in
theorem v_168_197 (b : B3) (v0 : AV) (v1 : AV) (v2 : AV) (v3 : AV) (st : List AV) (x : Int64) (y : Int32) (σ : Sto) (Q : Po) : Ev b 168 197 [v0, v1, v2, v3] (aI y :: aL x :: st) σ Q = (Ev b 168 198 [v0, v1, v2, v3] (aL (x <<< (y.toInt64 &&& 63)) :: st) σ Q) := (Ev_of (k := 168) (pc := 197) (i := .lshl) (len := 1) rfl _ _ _ _ _).trans rfl
set_option maxRecDepth 20000 in
theorem v_168_198 (b : B3) (v0 : Option Nat) (v1 : AV) (v2 : AV) (v3 : AV) (st : List AV) (σ : Sto) (Q : Po) : Ev b 168 198 [aR v0, v1, v2, v3] st σ Q = (Ev b 168 199 [aR v0, v1, v2, v3] (aR v0 :: st) σ Q) := (Ev_of (k := 168) (pc := 198) (i := .aload_n 0) (len := 1) rfl _ _ _ _ _).trans rfl
set_option maxRecDepth 20000 in
theorem v_168_199 (b : B3) (v0 : AV) (v1 : AV) (v2 : AV) (v3 : Int32) (st : List AV) (σ : Sto) (Q : Po) : Ev b 168 199 [v0, v1, v2, aI v3] st σ Q = (Ev b 168 200 [v0, v1, v2, aI v3] (aI v3 :: st) σ Q) := (Ev_of (k := 168) (pc := 199) (i := .iload_n 3) (len := 1) rfl _ _ _ _ _).trans rfl
set_option maxRecDepth 20000 in
theorem v_168_200 (b : B3) (v0 : AV) (v1 : AV) (v2 : AV) (v3 : AV) (st : List AV) (σ : Sto) (Q : Po) : Ev b 168 200 [v0, v1, v2, v3] st σ Q = (Ev b 168 202 [v0, v1, v2, v3] (aI 8 :: st) σ Q) := (Ev_of (k := 168) (pc := 200) (i := .bipush 8) (len := 2) rfl _ _ _ _ _).trans (congrArg (fun z => Ev b 168 202 [v0, v1, v2, v3] (aI z :: st) σ Q) kb_8)
set_option maxRecDepth 20000 in
theorem v_168_202 (b : B3) (v0 : AV) (v1 : AV) (v2 : AV) (v3 : AV) (st : List AV) (x y : Int32) (σ : Sto) (Q : Po) : Ev b 168 202 [v0, v1, v2, v3] (aI y :: aI x :: st) σ Q = (Ev b 168 203 [v0, v1, v2, v3] (aI (x + y) :: st) σ Q) := (Ev_of (k := 168) (pc := 202) (i := .iadd) (len := 1) rfl _ _ _ _ _).trans rfl
set_option maxRecDepth 20000 in
theorem v_168_203 (b : B3) (v0 : AV) (v1 : AV) (v2 : AV) (v3 : AV) (st : List AV) (i : Int32) (a : Nat) (σ : Sto) (Q : Po) : Ev b 168 203 [v0, v1, v2, v3] (aI i :: aR (some a) :: st) σ Q = (okX σ a i ∧ Ev b 168 204 [v0, v1, v2, v3] (aI (gi σ a i.toNatClampNeg) :: st) σ Q) := (Ev_of (k := 168) (pc := 203) (i := .iaload) (len := 1) rfl _ _ _ _ _).trans rfl
set_option maxRecDepth 20000 in
theorem v_168_204 (b : B3) (v0 : AV) (v1 : AV) (v2 : AV) (v3 : AV) (st : List AV) (x : Int32) (σ : Sto) (Q : Po) : Ev b 168 204 [v0, v1, v2, v3] (aI x :: st) σ Q = (Ev b 168 205 [v0, v1, v2, v3] (aL x.toInt64 :: st) σ Q) := (Ev_of (k := 168) (pc := 204) (i := .i2l) (len := 1) rfl _ _ _ _ _).trans rfl
set_option maxRecDepth 20000 in
theorem v_168_205 (b : B3) (v0 : AV) (v1 : AV) (v2 : AV) (v3 : AV) (st : List AV) (σ : Sto) (Q : Po) : Ev b 168 205 [v0, v1, v2, v3] st σ Q = (Ev b 168 208 [v0, v1, v2, v3] (aL 4294967295 :: st) σ Q) := (Ev_of (k := 168) (pc := 205) (i := .ldc2_w 13) (len := 3) rfl _ _ _ _ _).trans rfl
set_option maxRecDepth 20000 in
theorem v_168_208 (b : B3) (v0 : AV) (v1 : AV) (v2 : AV) (v3 : AV) (st : List AV) (x y : Int64) (σ : Sto) (Q : Po) : Ev b 168 208 [v0, v1, v2, v3] (aL y :: aL x :: st) σ Q = (Ev b 168 209 [v0, v1, v2, v3] (aL (x &&& y) :: st) σ Q) := (Ev_of (k := 168) (pc := 208) (i := .land) (len := 1) rfl _ _ _ _ _).trans rfl
set_option maxRecDepth 20000 in
theorem v_168_209 (b : B3) (v0 : AV) (v1 : AV) (v2 : AV) (v3 : AV) (st : List AV) (x y : Int64) (σ : Sto) (Q : Po) : Ev b 168 209 [v0, v1, v2, v3] (aL y :: aL x :: st) σ Q = (Ev b 168 210 [v0, v1, v2, v3] (aL (x ||| y) :: st) σ Q) := (Ev_of (k := 168) (pc := 209) (i := .lor) (len := 1) rfl _ _ _ _ _).trans rfl
set_option maxRecDepth 20000 in
theorem v_168_210 (b : B3) (v0 : Option Nat) (v1 : AV) (v2 : AV) (v3 : AV) (st : List AV) (σ : Sto) (Q : Po) : Ev b 168 210 [aR v0, v1, v2, v3] st σ Q = (Ev b 168 211 [aR v0, v1, v2, v3] (aR v0 :: st) σ Q) := (Ev_of (k := 168) (pc := 210) (i := .aload_n 0) (len := 1) rfl _ _ _ _ _).trans rfl
set_option maxRecDepth 20000 in
theorem v_168_211 (b : B3) (v0 : AV) (v1 : AV) (v2 : AV) (v3 : Int32) (st : List AV) (σ : Sto) (Q : Po) : Ev b 168 211 [v0, v1, v2, aI v3] st σ Q = (Ev b 168 212 [v0, v1, v2, aI v3] (aI v3 :: st) σ Q) := (Ev_of (k := 168) (pc := 211) (i := .iload_n 3) (len := 1) rfl _ _ _ _ _).trans rfl
set_option maxRecDepth 20000 in
theorem v_168_212 (b : B3) (v0 : AV) (v1 : AV) (v2 : AV) (v3 : AV) (st : List AV) (σ : Sto) (Q : Po) : Ev b 168 212 [v0, v1, v2, v3] st σ Q = (Ev b 168 214 [v0, v1, v2, v3] (aI 9 :: st) σ Q) := (Ev_of (k := 168) (pc := 212) (i := .bipush 9) (len := 2) rfl _ _ _ _ _).trans (congrArg (fun z => Ev b 168 214 [v0, v1, v2, v3] (aI z :: st) σ Q) kb_9)
set_option maxRecDepth 20000 in
theorem v_168_214 (b : B3) (v0 : AV) (v1 : AV) (v2 : AV) (v3 : AV) (st : List AV) (x y : Int32) (σ : Sto) (Q : Po) : Ev b 168 214 [v0, v1, v2, v3] (aI y :: aI x :: st) σ Q = (Ev b 168 215 [v0, v1, v2, v3] (aI (x + y) :: st) σ Q) := (Ev_of (k := 168) (pc := 214) (i := .iadd) (len := 1) rfl _ _ _ _ _).trans rfl
set_option maxRecDepth 20000 in
theorem v_168_215 (b : B3) (v0 : AV) (v1 : AV) (v2 : AV) (v3 : AV) (st : List AV) (i : Int32) (a : Nat) (σ : Sto) (Q : Po) : Ev b 168 215 [v0, v1, v2, v3] (aI i :: aR (some a) :: st) σ Q = (okX σ a i ∧ Ev b 168 216 [v0, v1, v2, v3] (aI (gi σ a i.toNatClampNeg) :: st) σ Q) := (Ev_of (k := 168) (pc := 215) (i := .iaload) (len := 1) rfl _ _ _ _ _).trans rfl
set_option maxRecDepth 20000 in
theorem v_168_216 (b : B3) (v0 : AV) (v1 : AV) (v2 : AV) (v3 : AV) (st : List AV) (x : Int32) (σ : Sto) (Q : Po) : Ev b 168 216 [v0, v1, v2, v3] (aI x :: st) σ Q = (Ev b 168 217 [v0, v1, v2, v3] (aL x.toInt64 :: st) σ Q) := (Ev_of (k := 168) (pc := 216) (i := .i2l) (len := 1) rfl _ _ _ _ _).trans rfl
set_option maxRecDepth 20000 in
theorem v_168_217 (b : B3) (v0 : AV) (v1 : AV) (v2 : AV) (v3 : AV) (st : List AV) (σ : Sto) (Q : Po) : Ev b 168 217 [v0, v1, v2, v3] st σ Q = (Ev b 168 219 [v0, v1, v2, v3] (aI 32 :: st) σ Q) := (Ev_of (k := 168) (pc := 217) (i := .bipush 32) (len := 2) rfl _ _ _ _ _).trans (congrArg (fun z => Ev b 168 219 [v0, v1, v2, v3] (aI z :: st) σ Q) kb_32)
set_option maxRecDepth 20000 in
theorem v_168_219 (b : B3) (v0 : AV) (v1 : AV) (v2 : AV) (v3 : AV) (st : List AV) (x : Int64) (y : Int32) (σ : Sto) (Q : Po) : Ev b 168 219 [v0, v1, v2, v3] (aI y :: aL x :: st) σ Q = (Ev b 168 220 [v0, v1, v2, v3] (aL (x <<< (y.toInt64 &&& 63)) :: st) σ Q) := (Ev_of (k := 168) (pc := 219) (i := .lshl) (len := 1) rfl _ _ _ _ _).trans rfl
set_option maxRecDepth 20000 in
theorem v_168_220 (b : B3) (v0 : Option Nat) (v1 : AV) (v2 : AV) (v3 : AV) (st : List AV) (σ : Sto) (Q : Po) : Ev b 168 220 [aR v0, v1, v2, v3] st σ Q = (Ev b 168 221 [aR v0, v1, v2, v3] (aR v0 :: st) σ Q) := (Ev_of (k := 168) (pc := 220) (i := .aload_n 0) (len := 1) rfl _ _ _ _ _).trans rfl
set_option maxRecDepth 20000 in
theorem v_168_221 (b : B3) (v0 : AV) (v1 : AV) (v2 : AV) (v3 : Int32) (st : List AV) (σ : Sto) (Q : Po) : Ev b 168 221 [v0, v1, v2, aI v3] st σ Q = (Ev b 168 222 [v0, v1, v2, aI v3] (aI v3 :: st) σ Q) := (Ev_of (k := 168) (pc := 221) (i := .iload_n 3) (len := 1) rfl _ _ _ _ _).trans rfl
set_option maxRecDepth 20000 in
theorem v_168_222 (b : B3) (v0 : AV) (v1 : AV) (v2 : AV) (v3 : AV) (st : List AV) (σ : Sto) (Q : Po) : Ev b 168 222 [v0, v1, v2, v3] st σ Q = (Ev b 168 224 [v0, v1, v2, v3] (aI 10 :: st) σ Q) := (Ev_of (k := 168) (pc := 222) (i := .bipush 10) (len := 2) rfl _ _ _ _ _).trans (congrArg (fun z => Ev b 168 224 [v0, v1, v2, v3] (aI z :: st) σ Q) kb_10)
set_option maxRecDepth 20000 in
theorem v_168_224 (b : B3) (v0 : AV) (v1 : AV) (v2 : AV) (v3 : AV) (st : List AV) (x y : Int32) (σ : Sto) (Q : Po) : Ev b 168 224 [v0, v1, v2, v3] (aI y :: aI x :: st) σ Q = (Ev b 168 225 [v0, v1, v2, v3] (aI (x + y) :: st) σ Q) := (Ev_of (k := 168) (pc := 224) (i := .iadd) (len := 1) rfl _ _ _ _ _).trans rfl
set_option maxRecDepth 20000 in
theorem v_168_225 (b : B3) (v0 : AV) (v1 : AV) (v2 : AV) (v3 : AV) (st : List AV) (i : Int32) (a : Nat) (σ : Sto) (Q : Po) : Ev b 168 225 [v0, v1, v2, v3] (aI i :: aR (some a) :: st) σ Q = (okX σ a i ∧ Ev b 168 226 [v0, v1, v2, v3] (aI (gi σ a i.toNatClampNeg) :: st) σ Q) := (Ev_of (k := 168) (pc := 225) (i := .iaload) (len := 1) rfl _ _ _ _ _).trans rfl
set_option maxRecDepth 20000 in
theorem v_168_226 (b : B3) (v0 : AV) (v1 : AV) (v2 : AV) (v3 : AV) (st : List AV) (x : Int32) (σ : Sto) (Q : Po) : Ev b 168 226 [v0, v1, v2, v3] (aI x :: st) σ Q = (Ev b 168 227 [v0, v1, v2, v3] (aL x.toInt64 :: st) σ Q) := (Ev_of (k := 168) (pc := 226) (i := .i2l) (len := 1) rfl _ _ _ _ _).trans rfl
set_option maxRecDepth 20000 in
theorem v_168_227 (b : B3) (v0 : AV) (v1 : AV) (v2 : AV) (v3 : AV) (st : List AV) (σ : Sto) (Q : Po) : Ev b 168 227 [v0, v1, v2, v3] st σ Q = (Ev b 168 230 [v0, v1, v2, v3] (aL 4294967295 :: st) σ Q) := (Ev_of (k := 168) (pc := 227) (i := .ldc2_w 13) (len := 3) rfl _ _ _ _ _).trans rfl
set_option maxRecDepth 20000 in
theorem v_168_230 (b : B3) (v0 : AV) (v1 : AV) (v2 : AV) (v3 : AV) (st : List AV) (x y : Int64) (σ : Sto) (Q : Po) : Ev b 168 230 [v0, v1, v2, v3] (aL y :: aL x :: st) σ Q = (Ev b 168 231 [v0, v1, v2, v3] (aL (x &&& y) :: st) σ Q) := (Ev_of (k := 168) (pc := 230) (i := .land) (len := 1) rfl _ _ _ _ _).trans rfl
set_option maxRecDepth 20000 in
theorem v_168_231 (b : B3) (v0 : AV) (v1 : AV) (v2 : AV) (v3 : AV) (st : List AV) (x y : Int64) (σ : Sto) (Q : Po) : Ev b 168 231 [v0, v1, v2, v3] (aL y :: aL x :: st) σ Q = (Ev b 168 232 [v0, v1, v2, v3] (aL (x ||| y) :: st) σ Q) := (Ev_of (k := 168) (pc := 231) (i := .lor) (len := 1) rfl _ _ _ _ _).trans rfl
set_option maxRecDepth 20000 in
theorem v_168_232 (d c s : Nat) (v0 : AV) (v1 : AV) (v2 : AV) (v3 : AV) (y0 : Int64) (y1 : Int64) (y2 : Int32) (y3 : Int32) (y4 : Int32) (y5 : Int32) (y6 : Int32) (y7 : Int32) (y8 : Nat) (σ : Sto) (Q : Po) : Ev (d + 1, c + 1, s + 12) 168 232 [v0, v1, v2, v3] [aL y0, aL y1, aI y2, aI y3, aI y4, aI y5, aI y6, aI y7, aR (some y8)] σ Q = (okO σ y8 5 ∧ CI d 60 [aR (some y8), aI y7, aI y6, aI y5, aI y4, aI y3, aI y2, aL y1, aL y0] σ (fun x2 σ2 => Ev (d + 1, c, s) 168 235 [v0, v1, v2, v3] [aI x2] σ2 Q)) := (g_inv (k := 168) (pc := 232) (x := 15) (i := .invokevirtual 15) rfl (Or.inl ⟨rfl, rfl⟩) rfl lq_7015).trans (congrArg (And (okO σ y8 5)) (vdo_I (k' := 60) (c1 := 1) (c2 := 12) (vs := [aR (some y8), aI y7, aI y6, aI y5, aI y4, aI y3, aI y2, aL y1, aL y0]) (rest := []) (Or.inl rfl) rfl rfl))
set_option maxRecDepth 20000 in
theorem v_168_235 (b : B3) (v0 : AV) (v1 : AV) (v2 : Option Nat) (v3 : AV) (st : List AV) (σ : Sto) (Q : Po) : Ev b 168 235 [v0, v1, aR v2, v3] st σ Q = (Ev b 168 236 [v0, v1, aR v2, v3] (aR v2 :: st) σ Q) := (Ev_of (k := 168) (pc := 235) (i := .aload_n 2) (len := 1) rfl _ _ _ _ _).trans rfl
set_option maxRecDepth 20000 in
theorem v_168_236 (b : B3) (v0 : Option Nat) (v1 : AV) (v2 : AV) (v3 : AV) (st : List AV) (σ : Sto) (Q : Po) : Ev b 168 236 [aR v0, v1, v2, v3] st σ Q = (Ev b 168 237 [aR v0, v1, v2, v3] (aR v0 :: st) σ Q) := (Ev_of (k := 168) (pc := 236) (i := .aload_n 0) (len := 1) rfl _ _ _ _ _).trans rfl
set_option maxRecDepth 20000 in
theorem v_168_237 (b : B3) (v0 : AV) (v1 : AV) (v2 : AV) (v3 : Int32) (st : List AV) (σ : Sto) (Q : Po) : Ev b 168 237 [v0, v1, v2, aI v3] st σ Q = (Ev b 168 238 [v0, v1, v2, aI v3] (aI v3 :: st) σ Q) := (Ev_of (k := 168) (pc := 237) (i := .iload_n 3) (len := 1) rfl _ _ _ _ _).trans rfl
set_option maxRecDepth 20000 in
theorem v_168_238 (b : B3) (v0 : AV) (v1 : AV) (v2 : AV) (v3 : AV) (st : List AV) (σ : Sto) (Q : Po) : Ev b 168 238 [v0, v1, v2, v3] st σ Q = (Ev b 168 239 [v0, v1, v2, v3] (aI 1 :: st) σ Q) := (Ev_of (k := 168) (pc := 238) (i := .iconst 1) (len := 1) rfl _ _ _ _ _).trans (congrArg (fun z => Ev b 168 239 [v0, v1, v2, v3] (aI z :: st) σ Q) ki_1)
set_option maxRecDepth 20000 in
theorem v_168_239 (b : B3) (v0 : AV) (v1 : AV) (v2 : AV) (v3 : AV) (st : List AV) (x y : Int32) (σ : Sto) (Q : Po) : Ev b 168 239 [v0, v1, v2, v3] (aI y :: aI x :: st) σ Q = (Ev b 168 240 [v0, v1, v2, v3] (aI (x + y) :: st) σ Q) := (Ev_of (k := 168) (pc := 239) (i := .iadd) (len := 1) rfl _ _ _ _ _).trans rfl
set_option maxRecDepth 20000 in
theorem v_168_240 (b : B3) (v0 : AV) (v1 : AV) (v2 : AV) (v3 : AV) (st : List AV) (i : Int32) (a : Nat) (σ : Sto) (Q : Po) : Ev b 168 240 [v0, v1, v2, v3] (aI i :: aR (some a) :: st) σ Q = (okX σ a i ∧ Ev b 168 241 [v0, v1, v2, v3] (aI (gi σ a i.toNatClampNeg) :: st) σ Q) := (Ev_of (k := 168) (pc := 240) (i := .iaload) (len := 1) rfl _ _ _ _ _).trans rfl
set_option maxRecDepth 20000 in
theorem v_168_241 (b : B3) (v0 : Option Nat) (v1 : AV) (v2 : AV) (v3 : AV) (st : List AV) (σ : Sto) (Q : Po) : Ev b 168 241 [aR v0, v1, v2, v3] st σ Q = (Ev b 168 242 [aR v0, v1, v2, v3] (aR v0 :: st) σ Q) := (Ev_of (k := 168) (pc := 241) (i := .aload_n 0) (len := 1) rfl _ _ _ _ _).trans rfl
set_option maxRecDepth 20000 in
theorem v_168_242 (b : B3) (v0 : AV) (v1 : AV) (v2 : AV) (v3 : Int32) (st : List AV) (σ : Sto) (Q : Po) : Ev b 168 242 [v0, v1, v2, aI v3] st σ Q = (Ev b 168 243 [v0, v1, v2, aI v3] (aI v3 :: st) σ Q) := (Ev_of (k := 168) (pc := 242) (i := .iload_n 3) (len := 1) rfl _ _ _ _ _).trans rfl
set_option maxRecDepth 20000 in
theorem v_168_243 (b : B3) (v0 : AV) (v1 : AV) (v2 : AV) (v3 : AV) (st : List AV) (σ : Sto) (Q : Po) : Ev b 168 243 [v0, v1, v2, v3] st σ Q = (Ev b 168 244 [v0, v1, v2, v3] (aI 2 :: st) σ Q) := (Ev_of (k := 168) (pc := 243) (i := .iconst 2) (len := 1) rfl _ _ _ _ _).trans (congrArg (fun z => Ev b 168 244 [v0, v1, v2, v3] (aI z :: st) σ Q) ki_2)
set_option maxRecDepth 20000 in
theorem v_168_244 (b : B3) (v0 : AV) (v1 : AV) (v2 : AV) (v3 : AV) (st : List AV) (x y : Int32) (σ : Sto) (Q : Po) : Ev b 168 244 [v0, v1, v2, v3] (aI y :: aI x :: st) σ Q = (Ev b 168 245 [v0, v1, v2, v3] (aI (x + y) :: st) σ Q) := (Ev_of (k := 168) (pc := 244) (i := .iadd) (len := 1) rfl _ _ _ _ _).trans rfl
set_option maxRecDepth 20000 in
theorem v_168_245 (b : B3) (v0 : AV) (v1 : AV) (v2 : AV) (v3 : AV) (st : List AV) (i : Int32) (a : Nat) (σ : Sto) (Q : Po) : Ev b 168 245 [v0, v1, v2, v3] (aI i :: aR (some a) :: st) σ Q = (okX σ a i ∧ Ev b 168 246 [v0, v1, v2, v3] (aI (gi σ a i.toNatClampNeg) :: st) σ Q) := (Ev_of (k := 168) (pc := 245) (i := .iaload) (len := 1) rfl _ _ _ _ _).trans rfl
set_option maxRecDepth 20000 in
theorem v_168_246 (b : B3) (v0 : Option Nat) (v1 : AV) (v2 : AV) (v3 : AV) (st : List AV) (σ : Sto) (Q : Po) : Ev b 168 246 [aR v0, v1, v2, v3] st σ Q = (Ev b 168 247 [aR v0, v1, v2, v3] (aR v0 :: st) σ Q) := (Ev_of (k := 168) (pc := 246) (i := .aload_n 0) (len := 1) rfl _ _ _ _ _).trans rfl
set_option maxRecDepth 20000 in
theorem v_168_247 (b : B3) (v0 : AV) (v1 : AV) (v2 : AV) (v3 : Int32) (st : List AV) (σ : Sto) (Q : Po) : Ev b 168 247 [v0, v1, v2, aI v3] st σ Q = (Ev b 168 248 [v0, v1, v2, aI v3] (aI v3 :: st) σ Q) := (Ev_of (k := 168) (pc := 247) (i := .iload_n 3) (len := 1) rfl _ _ _ _ _).trans rfl
set_option maxRecDepth 20000 in
theorem v_168_248 (b : B3) (v0 : AV) (v1 : AV) (v2 : AV) (v3 : AV) (st : List AV) (σ : Sto) (Q : Po) : Ev b 168 248 [v0, v1, v2, v3] st σ Q = (Ev b 168 249 [v0, v1, v2, v3] (aI 3 :: st) σ Q) := (Ev_of (k := 168) (pc := 248) (i := .iconst 3) (len := 1) rfl _ _ _ _ _).trans (congrArg (fun z => Ev b 168 249 [v0, v1, v2, v3] (aI z :: st) σ Q) ki_3)
set_option maxRecDepth 20000 in
theorem v_168_249 (b : B3) (v0 : AV) (v1 : AV) (v2 : AV) (v3 : AV) (st : List AV) (x y : Int32) (σ : Sto) (Q : Po) : Ev b 168 249 [v0, v1, v2, v3] (aI y :: aI x :: st) σ Q = (Ev b 168 250 [v0, v1, v2, v3] (aI (x + y) :: st) σ Q) := (Ev_of (k := 168) (pc := 249) (i := .iadd) (len := 1) rfl _ _ _ _ _).trans rfl
set_option maxRecDepth 20000 in
theorem v_168_250 (b : B3) (v0 : AV) (v1 : AV) (v2 : AV) (v3 : AV) (st : List AV) (i : Int32) (a : Nat) (σ : Sto) (Q : Po) : Ev b 168 250 [v0, v1, v2, v3] (aI i :: aR (some a) :: st) σ Q = (okX σ a i ∧ Ev b 168 251 [v0, v1, v2, v3] (aI (gi σ a i.toNatClampNeg) :: st) σ Q) := (Ev_of (k := 168) (pc := 250) (i := .iaload) (len := 1) rfl _ _ _ _ _).trans rfl
set_option maxRecDepth 20000 in
theorem v_168_251 (b : B3) (v0 : Option Nat) (v1 : AV) (v2 : AV) (v3 : AV) (st : List AV) (σ : Sto) (Q : Po) : Ev b 168 251 [aR v0, v1, v2, v3] st σ Q = (Ev b 168 252 [aR v0, v1, v2, v3] (aR v0 :: st) σ Q) := (Ev_of (k := 168) (pc := 251) (i := .aload_n 0) (len := 1) rfl _ _ _ _ _).trans rfl
set_option maxRecDepth 20000 in
theorem v_168_252 (b : B3) (v0 : AV) (v1 : AV) (v2 : AV) (v3 : Int32) (st : List AV) (σ : Sto) (Q : Po) : Ev b 168 252 [v0, v1, v2, aI v3] st σ Q = (Ev b 168 253 [v0, v1, v2, aI v3] (aI v3 :: st) σ Q) := (Ev_of (k := 168) (pc := 252) (i := .iload_n 3) (len := 1) rfl _ _ _ _ _).trans rfl
set_option maxRecDepth 20000 in
theorem v_168_253 (b : B3) (v0 : AV) (v1 : AV) (v2 : AV) (v3 : AV) (st : List AV) (σ : Sto) (Q : Po) : Ev b 168 253 [v0, v1, v2, v3] st σ Q = (Ev b 168 254 [v0, v1, v2, v3] (aI 4 :: st) σ Q) := (Ev_of (k := 168) (pc := 253) (i := .iconst 4) (len := 1) rfl _ _ _ _ _).trans (congrArg (fun z => Ev b 168 254 [v0, v1, v2, v3] (aI z :: st) σ Q) ki_4)
set_option maxRecDepth 20000 in
theorem v_168_254 (b : B3) (v0 : AV) (v1 : AV) (v2 : AV) (v3 : AV) (st : List AV) (x y : Int32) (σ : Sto) (Q : Po) : Ev b 168 254 [v0, v1, v2, v3] (aI y :: aI x :: st) σ Q = (Ev b 168 255 [v0, v1, v2, v3] (aI (x + y) :: st) σ Q) := (Ev_of (k := 168) (pc := 254) (i := .iadd) (len := 1) rfl _ _ _ _ _).trans rfl
set_option maxRecDepth 20000 in
theorem v_168_255 (b : B3) (v0 : AV) (v1 : AV) (v2 : AV) (v3 : AV) (st : List AV) (i : Int32) (a : Nat) (σ : Sto) (Q : Po) : Ev b 168 255 [v0, v1, v2, v3] (aI i :: aR (some a) :: st) σ Q = (okX σ a i ∧ Ev b 168 256 [v0, v1, v2, v3] (aI (gi σ a i.toNatClampNeg) :: st) σ Q) := (Ev_of (k := 168) (pc := 255) (i := .iaload) (len := 1) rfl _ _ _ _ _).trans rfl
set_option maxRecDepth 20000 in
theorem v_168_256 (b : B3) (v0 : Option Nat) (v1 : AV) (v2 : AV) (v3 : AV) (st : List AV) (σ : Sto) (Q : Po) : Ev b 168 256 [aR v0, v1, v2, v3] st σ Q = (Ev b 168 257 [aR v0, v1, v2, v3] (aR v0 :: st) σ Q) := (Ev_of (k := 168) (pc := 256) (i := .aload_n 0) (len := 1) rfl _ _ _ _ _).trans rfl
set_option maxRecDepth 20000 in
theorem v_168_257 (b : B3) (v0 : AV) (v1 : AV) (v2 : AV) (v3 : Int32) (st : List AV) (σ : Sto) (Q : Po) : Ev b 168 257 [v0, v1, v2, aI v3] st σ Q = (Ev b 168 258 [v0, v1, v2, aI v3] (aI v3 :: st) σ Q) := (Ev_of (k := 168) (pc := 257) (i := .iload_n 3) (len := 1) rfl _ _ _ _ _).trans rfl
set_option maxRecDepth 20000 in
theorem v_168_258 (b : B3) (v0 : AV) (v1 : AV) (v2 : AV) (v3 : AV) (st : List AV) (σ : Sto) (Q : Po) : Ev b 168 258 [v0, v1, v2, v3] st σ Q = (Ev b 168 259 [v0, v1, v2, v3] (aI 5 :: st) σ Q) := (Ev_of (k := 168) (pc := 258) (i := .iconst 5) (len := 1) rfl _ _ _ _ _).trans (congrArg (fun z => Ev b 168 259 [v0, v1, v2, v3] (aI z :: st) σ Q) ki_5)
set_option maxRecDepth 20000 in
theorem v_168_259 (b : B3) (v0 : AV) (v1 : AV) (v2 : AV) (v3 : AV) (st : List AV) (x y : Int32) (σ : Sto) (Q : Po) : Ev b 168 259 [v0, v1, v2, v3] (aI y :: aI x :: st) σ Q = (Ev b 168 260 [v0, v1, v2, v3] (aI (x + y) :: st) σ Q) := (Ev_of (k := 168) (pc := 259) (i := .iadd) (len := 1) rfl _ _ _ _ _).trans rfl
set_option maxRecDepth 20000 in
theorem v_168_260 (b : B3) (v0 : AV) (v1 : AV) (v2 : AV) (v3 : AV) (st : List AV) (i : Int32) (a : Nat) (σ : Sto) (Q : Po) : Ev b 168 260 [v0, v1, v2, v3] (aI i :: aR (some a) :: st) σ Q = (okX σ a i ∧ Ev b 168 261 [v0, v1, v2, v3] (aI (gi σ a i.toNatClampNeg) :: st) σ Q) := (Ev_of (k := 168) (pc := 260) (i := .iaload) (len := 1) rfl _ _ _ _ _).trans rfl
set_option maxRecDepth 20000 in
theorem v_168_261 (b : B3) (v0 : Option Nat) (v1 : AV) (v2 : AV) (v3 : AV) (st : List AV) (σ : Sto) (Q : Po) : Ev b 168 261 [aR v0, v1, v2, v3] st σ Q = (Ev b 168 262 [aR v0, v1, v2, v3] (aR v0 :: st) σ Q) := (Ev_of (k := 168) (pc := 261) (i := .aload_n 0) (len := 1) rfl _ _ _ _ _).trans rfl
set_option maxRecDepth 20000 in
theorem v_168_262 (b : B3) (v0 : AV) (v1 : AV) (v2 : AV) (v3 : Int32) (st : List AV) (σ : Sto) (Q : Po) : Ev b 168 262 [v0, v1, v2, aI v3] st σ Q = (Ev b 168 263 [v0, v1, v2, aI v3] (aI v3 :: st) σ Q) := (Ev_of (k := 168) (pc := 262) (i := .iload_n 3) (len := 1) rfl _ _ _ _ _).trans rfl
set_option maxRecDepth 20000 in
theorem v_168_263 (b : B3) (v0 : AV) (v1 : AV) (v2 : AV) (v3 : AV) (st : List AV) (σ : Sto) (Q : Po) : Ev b 168 263 [v0, v1, v2, v3] st σ Q = (Ev b 168 265 [v0, v1, v2, v3] (aI 6 :: st) σ Q) := (Ev_of (k := 168) (pc := 263) (i := .bipush 6) (len := 2) rfl _ _ _ _ _).trans (congrArg (fun z => Ev b 168 265 [v0, v1, v2, v3] (aI z :: st) σ Q) kb_6)
set_option maxRecDepth 20000 in
theorem v_168_265 (b : B3) (v0 : AV) (v1 : AV) (v2 : AV) (v3 : AV) (st : List AV) (x y : Int32) (σ : Sto) (Q : Po) : Ev b 168 265 [v0, v1, v2, v3] (aI y :: aI x :: st) σ Q = (Ev b 168 266 [v0, v1, v2, v3] (aI (x + y) :: st) σ Q) := (Ev_of (k := 168) (pc := 265) (i := .iadd) (len := 1) rfl _ _ _ _ _).trans rfl
set_option maxRecDepth 20000 in
theorem v_168_266 (b : B3) (v0 : AV) (v1 : AV) (v2 : AV) (v3 : AV) (st : List AV) (i : Int32) (a : Nat) (σ : Sto) (Q : Po) : Ev b 168 266 [v0, v1, v2, v3] (aI i :: aR (some a) :: st) σ Q = (okX σ a i ∧ Ev b 168 267 [v0, v1, v2, v3] (aI (gi σ a i.toNatClampNeg) :: st) σ Q) := (Ev_of (k := 168) (pc := 266) (i := .iaload) (len := 1) rfl _ _ _ _ _).trans rfl
set_option maxRecDepth 20000 in
theorem v_168_267 (b : B3) (v0 : Option Nat) (v1 : AV) (v2 : AV) (v3 : AV) (st : List AV) (σ : Sto) (Q : Po) : Ev b 168 267 [aR v0, v1, v2, v3] st σ Q = (Ev b 168 268 [aR v0, v1, v2, v3] (aR v0 :: st) σ Q) := (Ev_of (k := 168) (pc := 267) (i := .aload_n 0) (len := 1) rfl _ _ _ _ _).trans rfl
set_option maxRecDepth 20000 in
theorem v_168_268 (b : B3) (v0 : AV) (v1 : AV) (v2 : AV) (v3 : Int32) (st : List AV) (σ : Sto) (Q : Po) : Ev b 168 268 [v0, v1, v2, aI v3] st σ Q = (Ev b 168 269 [v0, v1, v2, aI v3] (aI v3 :: st) σ Q) := (Ev_of (k := 168) (pc := 268) (i := .iload_n 3) (len := 1) rfl _ _ _ _ _).trans rfl
set_option maxRecDepth 20000 in
theorem v_168_269 (b : B3) (v0 : AV) (v1 : AV) (v2 : AV) (v3 : AV) (st : List AV) (σ : Sto) (Q : Po) : Ev b 168 269 [v0, v1, v2, v3] st σ Q = (Ev b 168 271 [v0, v1, v2, v3] (aI 7 :: st) σ Q) := (Ev_of (k := 168) (pc := 269) (i := .bipush 7) (len := 2) rfl _ _ _ _ _).trans (congrArg (fun z => Ev b 168 271 [v0, v1, v2, v3] (aI z :: st) σ Q) kb_7)
set_option maxRecDepth 20000 in
theorem v_168_271 (b : B3) (v0 : AV) (v1 : AV) (v2 : AV) (v3 : AV) (st : List AV) (x y : Int32) (σ : Sto) (Q : Po) : Ev b 168 271 [v0, v1, v2, v3] (aI y :: aI x :: st) σ Q = (Ev b 168 272 [v0, v1, v2, v3] (aI (x + y) :: st) σ Q) := (Ev_of (k := 168) (pc := 271) (i := .iadd) (len := 1) rfl _ _ _ _ _).trans rfl
set_option maxRecDepth 20000 in
theorem v_168_272 (b : B3) (v0 : AV) (v1 : AV) (v2 : AV) (v3 : AV) (st : List AV) (i : Int32) (a : Nat) (σ : Sto) (Q : Po) : Ev b 168 272 [v0, v1, v2, v3] (aI i :: aR (some a) :: st) σ Q = (okX σ a i ∧ Ev b 168 273 [v0, v1, v2, v3] (aI (gi σ a i.toNatClampNeg) :: st) σ Q) := (Ev_of (k := 168) (pc := 272) (i := .iaload) (len := 1) rfl _ _ _ _ _).trans rfl
set_option maxRecDepth 20000 in
theorem v_168_273 (b : B3) (v0 : AV) (v1 : AV) (v2 : AV) (v3 : AV) (st : List AV) (x : Int32) (σ : Sto) (Q : Po) : Ev b 168 273 [v0, v1, v2, v3] (aI x :: st) σ Q = (Ev b 168 274 [v0, v1, v2, v3] (aL x.toInt64 :: st) σ Q) := (Ev_of (k := 168) (pc := 273) (i := .i2l) (len := 1) rfl _ _ _ _ _).trans rfl
set_option maxRecDepth 20000 in
theorem v_168_274 (b : B3) (v0 : AV) (v1 : AV) (v2 : AV) (v3 : AV) (st : List AV) (σ : Sto) (Q : Po) : Ev b 168 274 [v0, v1, v2, v3] st σ Q = (Ev b 168 276 [v0, v1, v2, v3] (aI 32 :: st) σ Q) := (Ev_of (k := 168) (pc := 274) (i := .bipush 32) (len := 2) rfl _ _ _ _ _).trans (congrArg (fun z => Ev b 168 276 [v0, v1, v2, v3] (aI z :: st) σ Q) kb_32)
set_option maxRecDepth 20000 in
theorem v_168_276 (b : B3) (v0 : AV) (v1 : AV) (v2 : AV) (v3 : AV) (st : List AV) (x : Int64) (y : Int32) (σ : Sto) (Q : Po) : Ev b 168 276 [v0, v1, v2, v3] (aI y :: aL x :: st) σ Q = (Ev b 168 277 [v0, v1, v2, v3] (aL (x <<< (y.toInt64 &&& 63)) :: st) σ Q) := (Ev_of (k := 168) (pc := 276) (i := .lshl) (len := 1) rfl _ _ _ _ _).trans rfl
set_option maxRecDepth 20000 in
theorem v_168_277 (b : B3) (v0 : Option Nat) (v1 : AV) (v2 : AV) (v3 : AV) (st : List AV) (σ : Sto) (Q : Po) : Ev b 168 277 [aR v0, v1, v2, v3] st σ Q = (Ev b 168 278 [aR v0, v1, v2, v3] (aR v0 :: st) σ Q) := (Ev_of (k := 168) (pc := 277) (i := .aload_n 0) (len := 1) rfl _ _ _ _ _).trans rfl
set_option maxRecDepth 20000 in
theorem v_168_278 (b : B3) (v0 : AV) (v1 : AV) (v2 : AV) (v3 : Int32) (st : List AV) (σ : Sto) (Q : Po) : Ev b 168 278 [v0, v1, v2, aI v3] st σ Q = (Ev b 168 279 [v0, v1, v2, aI v3] (aI v3 :: st) σ Q) := (Ev_of (k := 168) (pc := 278) (i := .iload_n 3) (len := 1) rfl _ _ _ _ _).trans rfl
set_option maxRecDepth 20000 in
theorem v_168_279 (b : B3) (v0 : AV) (v1 : AV) (v2 : AV) (v3 : AV) (st : List AV) (σ : Sto) (Q : Po) : Ev b 168 279 [v0, v1, v2, v3] st σ Q = (Ev b 168 281 [v0, v1, v2, v3] (aI 8 :: st) σ Q) := (Ev_of (k := 168) (pc := 279) (i := .bipush 8) (len := 2) rfl _ _ _ _ _).trans (congrArg (fun z => Ev b 168 281 [v0, v1, v2, v3] (aI z :: st) σ Q) kb_8)
set_option maxRecDepth 20000 in
theorem v_168_281 (b : B3) (v0 : AV) (v1 : AV) (v2 : AV) (v3 : AV) (st : List AV) (x y : Int32) (σ : Sto) (Q : Po) : Ev b 168 281 [v0, v1, v2, v3] (aI y :: aI x :: st) σ Q = (Ev b 168 282 [v0, v1, v2, v3] (aI (x + y) :: st) σ Q) := (Ev_of (k := 168) (pc := 281) (i := .iadd) (len := 1) rfl _ _ _ _ _).trans rfl
set_option maxRecDepth 20000 in
theorem v_168_282 (b : B3) (v0 : AV) (v1 : AV) (v2 : AV) (v3 : AV) (st : List AV) (i : Int32) (a : Nat) (σ : Sto) (Q : Po) : Ev b 168 282 [v0, v1, v2, v3] (aI i :: aR (some a) :: st) σ Q = (okX σ a i ∧ Ev b 168 283 [v0, v1, v2, v3] (aI (gi σ a i.toNatClampNeg) :: st) σ Q) := (Ev_of (k := 168) (pc := 282) (i := .iaload) (len := 1) rfl _ _ _ _ _).trans rfl
set_option maxRecDepth 20000 in
theorem v_168_283 (b : B3) (v0 : AV) (v1 : AV) (v2 : AV) (v3 : AV) (st : List AV) (x : Int32) (σ : Sto) (Q : Po) : Ev b 168 283 [v0, v1, v2, v3] (aI x :: st) σ Q = (Ev b 168 284 [v0, v1, v2, v3] (aL x.toInt64 :: st) σ Q) := (Ev_of (k := 168) (pc := 283) (i := .i2l) (len := 1) rfl _ _ _ _ _).trans rfl
set_option maxRecDepth 20000 in
theorem v_168_284 (b : B3) (v0 : AV) (v1 : AV) (v2 : AV) (v3 : AV) (st : List AV) (σ : Sto) (Q : Po) : Ev b 168 284 [v0, v1, v2, v3] st σ Q = (Ev b 168 287 [v0, v1, v2, v3] (aL 4294967295 :: st) σ Q) := (Ev_of (k := 168) (pc := 284) (i := .ldc2_w 13) (len := 3) rfl _ _ _ _ _).trans rfl
set_option maxRecDepth 20000 in
theorem v_168_287 (b : B3) (v0 : AV) (v1 : AV) (v2 : AV) (v3 : AV) (st : List AV) (x y : Int64) (σ : Sto) (Q : Po) : Ev b 168 287 [v0, v1, v2, v3] (aL y :: aL x :: st) σ Q = (Ev b 168 288 [v0, v1, v2, v3] (aL (x &&& y) :: st) σ Q) := (Ev_of (k := 168) (pc := 287) (i := .land) (len := 1) rfl _ _ _ _ _).trans rfl
set_option maxRecDepth 20000 in
theorem v_168_288 (b : B3) (v0 : AV) (v1 : AV) (v2 : AV) (v3 : AV) (st : List AV) (x y : Int64) (σ : Sto) (Q : Po) : Ev b 168 288 [v0, v1, v2, v3] (aL y :: aL x :: st) σ Q = (Ev b 168 289 [v0, v1, v2, v3] (aL (x ||| y) :: st) σ Q) := (Ev_of (k := 168) (pc := 288) (i := .lor) (len := 1) rfl _ _ _ _ _).trans rfl
set_option maxRecDepth 20000 in
theorem v_168_289 (b : B3) (v0 : Option Nat) (v1 : AV) (v2 : AV) (v3 : AV) (st : List AV) (σ : Sto) (Q : Po) : Ev b 168 289 [aR v0, v1, v2, v3] st σ Q = (Ev b 168 290 [aR v0, v1, v2, v3] (aR v0 :: st) σ Q) := (Ev_of (k := 168) (pc := 289) (i := .aload_n 0) (len := 1) rfl _ _ _ _ _).trans rfl
set_option maxRecDepth 20000 in
theorem v_168_290 (b : B3) (v0 : AV) (v1 : AV) (v2 : AV) (v3 : Int32) (st : List AV) (σ : Sto) (Q : Po) : Ev b 168 290 [v0, v1, v2, aI v3] st σ Q = (Ev b 168 291 [v0, v1, v2, aI v3] (aI v3 :: st) σ Q) := (Ev_of (k := 168) (pc := 290) (i := .iload_n 3) (len := 1) rfl _ _ _ _ _).trans rfl
set_option maxRecDepth 20000 in
theorem v_168_291 (b : B3) (v0 : AV) (v1 : AV) (v2 : AV) (v3 : AV) (st : List AV) (σ : Sto) (Q : Po) : Ev b 168 291 [v0, v1, v2, v3] st σ Q = (Ev b 168 293 [v0, v1, v2, v3] (aI 9 :: st) σ Q) := (Ev_of (k := 168) (pc := 291) (i := .bipush 9) (len := 2) rfl _ _ _ _ _).trans (congrArg (fun z => Ev b 168 293 [v0, v1, v2, v3] (aI z :: st) σ Q) kb_9)
set_option maxRecDepth 20000 in
theorem v_168_293 (b : B3) (v0 : AV) (v1 : AV) (v2 : AV) (v3 : AV) (st : List AV) (x y : Int32) (σ : Sto) (Q : Po) : Ev b 168 293 [v0, v1, v2, v3] (aI y :: aI x :: st) σ Q = (Ev b 168 294 [v0, v1, v2, v3] (aI (x + y) :: st) σ Q) := (Ev_of (k := 168) (pc := 293) (i := .iadd) (len := 1) rfl _ _ _ _ _).trans rfl
set_option maxRecDepth 20000 in
theorem v_168_294 (b : B3) (v0 : AV) (v1 : AV) (v2 : AV) (v3 : AV) (st : List AV) (i : Int32) (a : Nat) (σ : Sto) (Q : Po) : Ev b 168 294 [v0, v1, v2, v3] (aI i :: aR (some a) :: st) σ Q = (okX σ a i ∧ Ev b 168 295 [v0, v1, v2, v3] (aI (gi σ a i.toNatClampNeg) :: st) σ Q) := (Ev_of (k := 168) (pc := 294) (i := .iaload) (len := 1) rfl _ _ _ _ _).trans rfl
set_option maxRecDepth 20000 in
theorem v_168_295 (b : B3) (v0 : AV) (v1 : AV) (v2 : AV) (v3 : AV) (st : List AV) (x : Int32) (σ : Sto) (Q : Po) : Ev b 168 295 [v0, v1, v2, v3] (aI x :: st) σ Q = (Ev b 168 296 [v0, v1, v2, v3] (aL x.toInt64 :: st) σ Q) := (Ev_of (k := 168) (pc := 295) (i := .i2l) (len := 1) rfl _ _ _ _ _).trans rfl
set_option maxRecDepth 20000 in
theorem v_168_296 (b : B3) (v0 : AV) (v1 : AV) (v2 : AV) (v3 : AV) (st : List AV) (σ : Sto) (Q : Po) : Ev b 168 296 [v0, v1, v2, v3] st σ Q = (Ev b 168 298 [v0, v1, v2, v3] (aI 32 :: st) σ Q) := (Ev_of (k := 168) (pc := 296) (i := .bipush 32) (len := 2) rfl _ _ _ _ _).trans (congrArg (fun z => Ev b 168 298 [v0, v1, v2, v3] (aI z :: st) σ Q) kb_32)
set_option maxRecDepth 20000 in
theorem v_168_298 (b : B3) (v0 : AV) (v1 : AV) (v2 : AV) (v3 : AV) (st : List AV) (x : Int64) (y : Int32) (σ : Sto) (Q : Po) : Ev b 168 298 [v0, v1, v2, v3] (aI y :: aL x :: st) σ Q = (Ev b 168 299 [v0, v1, v2, v3] (aL (x <<< (y.toInt64 &&& 63)) :: st) σ Q) := (Ev_of (k := 168) (pc := 298) (i := .lshl) (len := 1) rfl _ _ _ _ _).trans rfl
set_option maxRecDepth 20000 in
theorem v_168_299 (b : B3) (v0 : Option Nat) (v1 : AV) (v2 : AV) (v3 : AV) (st : List AV) (σ : Sto) (Q : Po) : Ev b 168 299 [aR v0, v1, v2, v3] st σ Q = (Ev b 168 300 [aR v0, v1, v2, v3] (aR v0 :: st) σ Q) := (Ev_of (k := 168) (pc := 299) (i := .aload_n 0) (len := 1) rfl _ _ _ _ _).trans rfl
set_option maxRecDepth 20000 in
theorem v_168_300 (b : B3) (v0 : AV) (v1 : AV) (v2 : AV) (v3 : Int32) (st : List AV) (σ : Sto) (Q : Po) : Ev b 168 300 [v0, v1, v2, aI v3] st σ Q = (Ev b 168 301 [v0, v1, v2, aI v3] (aI v3 :: st) σ Q) := (Ev_of (k := 168) (pc := 300) (i := .iload_n 3) (len := 1) rfl _ _ _ _ _).trans rfl
set_option maxRecDepth 20000 in
theorem v_168_301 (b : B3) (v0 : AV) (v1 : AV) (v2 : AV) (v3 : AV) (st : List AV) (σ : Sto) (Q : Po) : Ev b 168 301 [v0, v1, v2, v3] st σ Q = (Ev b 168 303 [v0, v1, v2, v3] (aI 10 :: st) σ Q) := (Ev_of (k := 168) (pc := 301) (i := .bipush 10) (len := 2) rfl _ _ _ _ _).trans (congrArg (fun z => Ev b 168 303 [v0, v1, v2, v3] (aI z :: st) σ Q) kb_10)
set_option maxRecDepth 20000 in
theorem v_168_303 (b : B3) (v0 : AV) (v1 : AV) (v2 : AV) (v3 : AV) (st : List AV) (x y : Int32) (σ : Sto) (Q : Po) : Ev b 168 303 [v0, v1, v2, v3] (aI y :: aI x :: st) σ Q = (Ev b 168 304 [v0, v1, v2, v3] (aI (x + y) :: st) σ Q) := (Ev_of (k := 168) (pc := 303) (i := .iadd) (len := 1) rfl _ _ _ _ _).trans rfl
set_option maxRecDepth 20000 in
theorem v_168_304 (b : B3) (v0 : AV) (v1 : AV) (v2 : AV) (v3 : AV) (st : List AV) (i : Int32) (a : Nat) (σ : Sto) (Q : Po) : Ev b 168 304 [v0, v1, v2, v3] (aI i :: aR (some a) :: st) σ Q = (okX σ a i ∧ Ev b 168 305 [v0, v1, v2, v3] (aI (gi σ a i.toNatClampNeg) :: st) σ Q) := (Ev_of (k := 168) (pc := 304) (i := .iaload) (len := 1) rfl _ _ _ _ _).trans rfl
set_option maxRecDepth 20000 in
theorem v_168_305 (b : B3) (v0 : AV) (v1 : AV) (v2 : AV) (v3 : AV) (st : List AV) (x : Int32) (σ : Sto) (Q : Po) : Ev b 168 305 [v0, v1, v2, v3] (aI x :: st) σ Q = (Ev b 168 306 [v0, v1, v2, v3] (aL x.toInt64 :: st) σ Q) := (Ev_of (k := 168) (pc := 305) (i := .i2l) (len := 1) rfl _ _ _ _ _).trans rfl
set_option maxRecDepth 20000 in
theorem v_168_306 (b : B3) (v0 : AV) (v1 : AV) (v2 : AV) (v3 : AV) (st : List AV) (σ : Sto) (Q : Po) : Ev b 168 306 [v0, v1, v2, v3] st σ Q = (Ev b 168 309 [v0, v1, v2, v3] (aL 4294967295 :: st) σ Q) := (Ev_of (k := 168) (pc := 306) (i := .ldc2_w 13) (len := 3) rfl _ _ _ _ _).trans rfl
set_option maxRecDepth 20000 in
theorem v_168_309 (b : B3) (v0 : AV) (v1 : AV) (v2 : AV) (v3 : AV) (st : List AV) (x y : Int64) (σ : Sto) (Q : Po) : Ev b 168 309 [v0, v1, v2, v3] (aL y :: aL x :: st) σ Q = (Ev b 168 310 [v0, v1, v2, v3] (aL (x &&& y) :: st) σ Q) := (Ev_of (k := 168) (pc := 309) (i := .land) (len := 1) rfl _ _ _ _ _).trans rfl
set_option maxRecDepth 20000 in
theorem v_168_310 (b : B3) (v0 : AV) (v1 : AV) (v2 : AV) (v3 : AV) (st : List AV) (x y : Int64) (σ : Sto) (Q : Po) : Ev b 168 310 [v0, v1, v2, v3] (aL y :: aL x :: st) σ Q = (Ev b 168 311 [v0, v1, v2, v3] (aL (x ||| y) :: st) σ Q) := (Ev_of (k := 168) (pc := 310) (i := .lor) (len := 1) rfl _ _ _ _ _).trans rfl
set_option maxRecDepth 20000 in
theorem v_168_311 (d c s : Nat) (v0 : AV) (v1 : AV) (v2 : AV) (v3 : AV) (y0 : Int64) (y1 : Int64) (y2 : Int32) (y3 : Int32) (y4 : Int32) (y5 : Int32) (y6 : Int32) (y7 : Int32) (y8 : Nat) (y9 : Int32) (σ : Sto) (Q : Po) : Ev (d + 1, c, s) 168 311 [v0, v1, v2, v3] [aL y0, aL y1, aI y2, aI y3, aI y4, aI y5, aI y6, aI y7, aR (some y8), aI y9] σ Q = (okO σ y8 6 ∧ CI d 110 [aR (some y8), aI y7, aI y6, aI y5, aI y4, aI y3, aI y2, aL y1, aL y0] σ (fun x2 σ2 => Ev (d + 1, c, s) 168 314 [v0, v1, v2, v3] [aI x2, aI y9] σ2 Q)) := (g_inv (k := 168) (pc := 311) (x := 19) (i := .invokevirtual 19) rfl (Or.inl ⟨rfl, rfl⟩) rfl lq_7019).trans (congrArg (And (okO σ y8 6)) (vdo_I (k' := 110) (c1 := 0) (c2 := 0) (vs := [aR (some y8), aI y7, aI y6, aI y5, aI y4, aI y3, aI y2, aL y1, aL y0]) (rest := [aI y9]) (Or.inl rfl) rfl rfl))
set_option maxRecDepth 20000 in
theorem v_168_314 (b : B3) (v0 : AV) (v1 : AV) (v2 : AV) (v3 : AV) (st : List AV) (x y : Int32) (σ : Sto) (Q : Po) : Ev b 168 314 [v0, v1, v2, v3] (aI y :: aI x :: st) σ Q = ((x = y → Ev b 168 1195 [v0, v1, v2, v3] st σ Q) ∧ (¬ x = y → Ev b 168 317 [v0, v1, v2, v3] st σ Q)) := (Ev_of (k := 168) (pc := 314) (i := .if_icmp .eq 881) (len := 3) rfl _ _ _ _ _).trans rfl
set_option maxRecDepth 20000 in
theorem v_168_317 (b : B3) (v0 : AV) (v1 : AV) (v2 : AV) (v3 : AV) (st : List AV) (σ : Sto) (Q : Po) : Ev b 168 317 [v0, v1, v2, v3] st σ Q = (Ev b 168 318 [v0, v1, v2, v3] (aI 0 :: st) σ Q) := (Ev_of (k := 168) (pc := 317) (i := .iconst 0) (len := 1) rfl _ _ _ _ _).trans (congrArg (fun z => Ev b 168 318 [v0, v1, v2, v3] (aI z :: st) σ Q) ki_0)
set_option maxRecDepth 20000 in
theorem v_168_318 (b : B3) (v0 : AV) (v1 : AV) (v2 : AV) (v3 : AV) (x : Int32) (σ : Sto) (Q : Po) : Ev b 168 318 [v0, v1, v2, v3] [aI x] σ Q = ((x = 0 ∨ x = 1) ∧ Q (some (aI x)) σ) := (Ev_of (k := 168) (pc := 318) (i := .ireturn) (len := 1) rfl _ _ _ _ _).trans rfl
set_option maxRecDepth 20000 in
theorem v_168_319 (b : B3) (v0 : AV) (v1 : Option Nat) (v2 : AV) (v3 : AV) (st : List AV) (σ : Sto) (Q : Po) : Ev b 168 319 [v0, aR v1, v2, v3] st σ Q = (Ev b 168 320 [v0, aR v1, v2, v3] (aR v1 :: st) σ Q) := (Ev_of (k := 168) (pc := 319) (i := .aload_n 1) (len := 1) rfl _ _ _ _ _).trans rfl
set_option maxRecDepth 20000 in
theorem v_168_320 (b : B3) (v0 : Option Nat) (v1 : AV) (v2 : AV) (v3 : AV) (st : List AV) (σ : Sto) (Q : Po) : Ev b 168 320 [aR v0, v1, v2, v3] st σ Q = (Ev b 168 321 [aR v0, v1, v2, v3] (aR v0 :: st) σ Q) := (Ev_of (k := 168) (pc := 320) (i := .aload_n 0) (len := 1) rfl _ _ _ _ _).trans rfl
set_option maxRecDepth 20000 in
theorem v_168_321 (b : B3) (v0 : AV) (v1 : AV) (v2 : AV) (v3 : Int32) (st : List AV) (σ : Sto) (Q : Po) : Ev b 168 321 [v0, v1, v2, aI v3] st σ Q = (Ev b 168 322 [v0, v1, v2, aI v3] (aI v3 :: st) σ Q) := (Ev_of (k := 168) (pc := 321) (i := .iload_n 3) (len := 1) rfl _ _ _ _ _).trans rfl
set_option maxRecDepth 20000 in
theorem v_168_322 (b : B3) (v0 : AV) (v1 : AV) (v2 : AV) (v3 : AV) (st : List AV) (σ : Sto) (Q : Po) : Ev b 168 322 [v0, v1, v2, v3] st σ Q = (Ev b 168 323 [v0, v1, v2, v3] (aI 1 :: st) σ Q) := (Ev_of (k := 168) (pc := 322) (i := .iconst 1) (len := 1) rfl _ _ _ _ _).trans (congrArg (fun z => Ev b 168 323 [v0, v1, v2, v3] (aI z :: st) σ Q) ki_1)
set_option maxRecDepth 20000 in
theorem v_168_323 (b : B3) (v0 : AV) (v1 : AV) (v2 : AV) (v3 : AV) (st : List AV) (x y : Int32) (σ : Sto) (Q : Po) : Ev b 168 323 [v0, v1, v2, v3] (aI y :: aI x :: st) σ Q = (Ev b 168 324 [v0, v1, v2, v3] (aI (x + y) :: st) σ Q) := (Ev_of (k := 168) (pc := 323) (i := .iadd) (len := 1) rfl _ _ _ _ _).trans rfl
set_option maxRecDepth 20000 in
theorem v_168_324 (b : B3) (v0 : AV) (v1 : AV) (v2 : AV) (v3 : AV) (st : List AV) (i : Int32) (a : Nat) (σ : Sto) (Q : Po) : Ev b 168 324 [v0, v1, v2, v3] (aI i :: aR (some a) :: st) σ Q = (okX σ a i ∧ Ev b 168 325 [v0, v1, v2, v3] (aI (gi σ a i.toNatClampNeg) :: st) σ Q) := (Ev_of (k := 168) (pc := 324) (i := .iaload) (len := 1) rfl _ _ _ _ _).trans rfl
set_option maxRecDepth 20000 in
theorem v_168_325 (d c s : Nat) (v0 : AV) (v1 : AV) (v2 : AV) (v3 : AV) (y0 : Int32) (y1 : Nat) (σ : Sto) (Q : Po) : Ev (d + 1, c, s) 168 325 [v0, v1, v2, v3] [aI y0, aR (some y1)] σ Q = (okO σ y1 5 ∧ CI d 61 [aR (some y1), aI y0] σ (fun x2 σ2 => Ev (d + 1, c, s) 168 328 [v0, v1, v2, v3] [aI x2] σ2 Q)) := (g_inv (k := 168) (pc := 325) (x := 20) (i := .invokevirtual 20) rfl (Or.inl ⟨rfl, rfl⟩) rfl lq_7020).trans (congrArg (And (okO σ y1 5)) (vdo_I (k' := 61) (c1 := 0) (c2 := 0) (vs := [aR (some y1), aI y0]) (rest := []) (Or.inl rfl) rfl rfl))
set_option maxRecDepth 20000 in
theorem v_168_328 (b : B3) (v0 : AV) (v1 : AV) (v2 : Option Nat) (v3 : AV) (st : List AV) (σ : Sto) (Q : Po) : Ev b 168 328 [v0, v1, aR v2, v3] st σ Q = (Ev b 168 329 [v0, v1, aR v2, v3] (aR v2 :: st) σ Q) := (Ev_of (k := 168) (pc := 328) (i := .aload_n 2) (len := 1) rfl _ _ _ _ _).trans rfl
set_option maxRecDepth 20000 in
theorem v_168_329 (b : B3) (v0 : Option Nat) (v1 : AV) (v2 : AV) (v3 : AV) (st : List AV) (σ : Sto) (Q : Po) : Ev b 168 329 [aR v0, v1, v2, v3] st σ Q = (Ev b 168 330 [aR v0, v1, v2, v3] (aR v0 :: st) σ Q) := (Ev_of (k := 168) (pc := 329) (i := .aload_n 0) (len := 1) rfl _ _ _ _ _).trans rfl
set_option maxRecDepth 20000 in
theorem v_168_330 (b : B3) (v0 : AV) (v1 : AV) (v2 : AV) (v3 : Int32) (st : List AV) (σ : Sto) (Q : Po) : Ev b 168 330 [v0, v1, v2, aI v3] st σ Q = (Ev b 168 331 [v0, v1, v2, aI v3] (aI v3 :: st) σ Q) := (Ev_of (k := 168) (pc := 330) (i := .iload_n 3) (len := 1) rfl _ _ _ _ _).trans rfl
set_option maxRecDepth 20000 in
theorem v_168_331 (b : B3) (v0 : AV) (v1 : AV) (v2 : AV) (v3 : AV) (st : List AV) (σ : Sto) (Q : Po) : Ev b 168 331 [v0, v1, v2, v3] st σ Q = (Ev b 168 332 [v0, v1, v2, v3] (aI 1 :: st) σ Q) := (Ev_of (k := 168) (pc := 331) (i := .iconst 1) (len := 1) rfl _ _ _ _ _).trans (congrArg (fun z => Ev b 168 332 [v0, v1, v2, v3] (aI z :: st) σ Q) ki_1)
set_option maxRecDepth 20000 in
theorem v_168_332 (b : B3) (v0 : AV) (v1 : AV) (v2 : AV) (v3 : AV) (st : List AV) (x y : Int32) (σ : Sto) (Q : Po) : Ev b 168 332 [v0, v1, v2, v3] (aI y :: aI x :: st) σ Q = (Ev b 168 333 [v0, v1, v2, v3] (aI (x + y) :: st) σ Q) := (Ev_of (k := 168) (pc := 332) (i := .iadd) (len := 1) rfl _ _ _ _ _).trans rfl
set_option maxRecDepth 20000 in
theorem v_168_333 (b : B3) (v0 : AV) (v1 : AV) (v2 : AV) (v3 : AV) (st : List AV) (i : Int32) (a : Nat) (σ : Sto) (Q : Po) : Ev b 168 333 [v0, v1, v2, v3] (aI i :: aR (some a) :: st) σ Q = (okX σ a i ∧ Ev b 168 334 [v0, v1, v2, v3] (aI (gi σ a i.toNatClampNeg) :: st) σ Q) := (Ev_of (k := 168) (pc := 333) (i := .iaload) (len := 1) rfl _ _ _ _ _).trans rfl
set_option maxRecDepth 20000 in
theorem v_168_334 (d c s : Nat) (v0 : AV) (v1 : AV) (v2 : AV) (v3 : AV) (y0 : Int32) (y1 : Nat) (y2 : Int32) (σ : Sto) (Q : Po) : Ev (d + 1, c, s) 168 334 [v0, v1, v2, v3] [aI y0, aR (some y1), aI y2] σ Q = (okO σ y1 6 ∧ CI d 112 [aR (some y1), aI y0] σ (fun x2 σ2 => Ev (d + 1, c, s) 168 337 [v0, v1, v2, v3] [aI x2, aI y2] σ2 Q)) := (g_inv (k := 168) (pc := 334) (x := 24) (i := .invokevirtual 24) rfl (Or.inl ⟨rfl, rfl⟩) rfl lq_7024).trans (congrArg (And (okO σ y1 6)) (vdo_I (k' := 112) (c1 := 0) (c2 := 0) (vs := [aR (some y1), aI y0]) (rest := [aI y2]) (Or.inl rfl) rfl rfl))
set_option maxRecDepth 20000 in
theorem v_168_337 (b : B3) (v0 : AV) (v1 : AV) (v2 : AV) (v3 : AV) (st : List AV) (x y : Int32) (σ : Sto) (Q : Po) : Ev b 168 337 [v0, v1, v2, v3] (aI y :: aI x :: st) σ Q = ((x = y → Ev b 168 1195 [v0, v1, v2, v3] st σ Q) ∧ (¬ x = y → Ev b 168 340 [v0, v1, v2, v3] st σ Q)) := (Ev_of (k := 168) (pc := 337) (i := .if_icmp .eq 858) (len := 3) rfl _ _ _ _ _).trans rfl
set_option maxRecDepth 20000 in
theorem v_168_340 (b : B3) (v0 : AV) (v1 : AV) (v2 : AV) (v3 : AV) (st : List AV) (σ : Sto) (Q : Po) : Ev b 168 340 [v0, v1, v2, v3] st σ Q = (Ev b 168 341 [v0, v1, v2, v3] (aI 0 :: st) σ Q) := (Ev_of (k := 168) (pc := 340) (i := .iconst 0) (len := 1) rfl _ _ _ _ _).trans (congrArg (fun z => Ev b 168 341 [v0, v1, v2, v3] (aI z :: st) σ Q) ki_0)
set_option maxRecDepth 20000 in
theorem v_168_341 (b : B3) (v0 : AV) (v1 : AV) (v2 : AV) (v3 : AV) (x : Int32) (σ : Sto) (Q : Po) : Ev b 168 341 [v0, v1, v2, v3] [aI x] σ Q = ((x = 0 ∨ x = 1) ∧ Q (some (aI x)) σ) := (Ev_of (k := 168) (pc := 341) (i := .ireturn) (len := 1) rfl _ _ _ _ _).trans rfl
set_option maxRecDepth 20000 in
theorem v_168_342 (b : B3) (v0 : AV) (v1 : Option Nat) (v2 : AV) (v3 : AV) (st : List AV) (σ : Sto) (Q : Po) : Ev b 168 342 [v0, aR v1, v2, v3] st σ Q = (Ev b 168 343 [v0, aR v1, v2, v3] (aR v1 :: st) σ Q) := (Ev_of (k := 168) (pc := 342) (i := .aload_n 1) (len := 1) rfl _ _ _ _ _).trans rfl
set_option maxRecDepth 20000 in
theorem v_168_343 (b : B3) (v0 : Option Nat) (v1 : AV) (v2 : AV) (v3 : AV) (st : List AV) (σ : Sto) (Q : Po) : Ev b 168 343 [aR v0, v1, v2, v3] st σ Q = (Ev b 168 344 [aR v0, v1, v2, v3] (aR v0 :: st) σ Q) := (Ev_of (k := 168) (pc := 343) (i := .aload_n 0) (len := 1) rfl _ _ _ _ _).trans rfl
set_option maxRecDepth 20000 in
theorem v_168_344 (b : B3) (v0 : AV) (v1 : AV) (v2 : AV) (v3 : Int32) (st : List AV) (σ : Sto) (Q : Po) : Ev b 168 344 [v0, v1, v2, aI v3] st σ Q = (Ev b 168 345 [v0, v1, v2, aI v3] (aI v3 :: st) σ Q) := (Ev_of (k := 168) (pc := 344) (i := .iload_n 3) (len := 1) rfl _ _ _ _ _).trans rfl
set_option maxRecDepth 20000 in
theorem v_168_345 (b : B3) (v0 : AV) (v1 : AV) (v2 : AV) (v3 : AV) (st : List AV) (σ : Sto) (Q : Po) : Ev b 168 345 [v0, v1, v2, v3] st σ Q = (Ev b 168 346 [v0, v1, v2, v3] (aI 1 :: st) σ Q) := (Ev_of (k := 168) (pc := 345) (i := .iconst 1) (len := 1) rfl _ _ _ _ _).trans (congrArg (fun z => Ev b 168 346 [v0, v1, v2, v3] (aI z :: st) σ Q) ki_1)
set_option maxRecDepth 20000 in
theorem v_168_346 (b : B3) (v0 : AV) (v1 : AV) (v2 : AV) (v3 : AV) (st : List AV) (x y : Int32) (σ : Sto) (Q : Po) : Ev b 168 346 [v0, v1, v2, v3] (aI y :: aI x :: st) σ Q = (Ev b 168 347 [v0, v1, v2, v3] (aI (x + y) :: st) σ Q) := (Ev_of (k := 168) (pc := 346) (i := .iadd) (len := 1) rfl _ _ _ _ _).trans rfl
set_option maxRecDepth 20000 in
theorem v_168_347 (b : B3) (v0 : AV) (v1 : AV) (v2 : AV) (v3 : AV) (st : List AV) (i : Int32) (a : Nat) (σ : Sto) (Q : Po) : Ev b 168 347 [v0, v1, v2, v3] (aI i :: aR (some a) :: st) σ Q = (okX σ a i ∧ Ev b 168 348 [v0, v1, v2, v3] (aI (gi σ a i.toNatClampNeg) :: st) σ Q) := (Ev_of (k := 168) (pc := 347) (i := .iaload) (len := 1) rfl _ _ _ _ _).trans rfl
set_option maxRecDepth 20000 in
theorem v_168_348 (b : B3) (v0 : Option Nat) (v1 : AV) (v2 : AV) (v3 : AV) (st : List AV) (σ : Sto) (Q : Po) : Ev b 168 348 [aR v0, v1, v2, v3] st σ Q = (Ev b 168 349 [aR v0, v1, v2, v3] (aR v0 :: st) σ Q) := (Ev_of (k := 168) (pc := 348) (i := .aload_n 0) (len := 1) rfl _ _ _ _ _).trans rfl
set_option maxRecDepth 20000 in
theorem v_168_349 (b : B3) (v0 : AV) (v1 : AV) (v2 : AV) (v3 : Int32) (st : List AV) (σ : Sto) (Q : Po) : Ev b 168 349 [v0, v1, v2, aI v3] st σ Q = (Ev b 168 350 [v0, v1, v2, aI v3] (aI v3 :: st) σ Q) := (Ev_of (k := 168) (pc := 349) (i := .iload_n 3) (len := 1) rfl _ _ _ _ _).trans rfl
set_option maxRecDepth 20000 in
theorem v_168_350 (b : B3) (v0 : AV) (v1 : AV) (v2 : AV) (v3 : AV) (st : List AV) (σ : Sto) (Q : Po) : Ev b 168 350 [v0, v1, v2, v3] st σ Q = (Ev b 168 351 [v0, v1, v2, v3] (aI 2 :: st) σ Q) := (Ev_of (k := 168) (pc := 350) (i := .iconst 2) (len := 1) rfl _ _ _ _ _).trans (congrArg (fun z => Ev b 168 351 [v0, v1, v2, v3] (aI z :: st) σ Q) ki_2)
set_option maxRecDepth 20000 in
theorem v_168_351 (b : B3) (v0 : AV) (v1 : AV) (v2 : AV) (v3 : AV) (st : List AV) (x y : Int32) (σ : Sto) (Q : Po) : Ev b 168 351 [v0, v1, v2, v3] (aI y :: aI x :: st) σ Q = (Ev b 168 352 [v0, v1, v2, v3] (aI (x + y) :: st) σ Q) := (Ev_of (k := 168) (pc := 351) (i := .iadd) (len := 1) rfl _ _ _ _ _).trans rfl
set_option maxRecDepth 20000 in
theorem v_168_352 (b : B3) (v0 : AV) (v1 : AV) (v2 : AV) (v3 : AV) (st : List AV) (i : Int32) (a : Nat) (σ : Sto) (Q : Po) : Ev b 168 352 [v0, v1, v2, v3] (aI i :: aR (some a) :: st) σ Q = (okX σ a i ∧ Ev b 168 353 [v0, v1, v2, v3] (aI (gi σ a i.toNatClampNeg) :: st) σ Q) := (Ev_of (k := 168) (pc := 352) (i := .iaload) (len := 1) rfl _ _ _ _ _).trans rfl
set_option maxRecDepth 20000 in
theorem v_168_353 (b : B3) (v0 : Option Nat) (v1 : AV) (v2 : AV) (v3 : AV) (st : List AV) (σ : Sto) (Q : Po) : Ev b 168 353 [aR v0, v1, v2, v3] st σ Q = (Ev b 168 354 [aR v0, v1, v2, v3] (aR v0 :: st) σ Q) := (Ev_of (k := 168) (pc := 353) (i := .aload_n 0) (len := 1) rfl _ _ _ _ _).trans rfl
set_option maxRecDepth 20000 in
theorem v_168_354 (b : B3) (v0 : AV) (v1 : AV) (v2 : AV) (v3 : Int32) (st : List AV) (σ : Sto) (Q : Po) : Ev b 168 354 [v0, v1, v2, aI v3] st σ Q = (Ev b 168 355 [v0, v1, v2, aI v3] (aI v3 :: st) σ Q) := (Ev_of (k := 168) (pc := 354) (i := .iload_n 3) (len := 1) rfl _ _ _ _ _).trans rfl
set_option maxRecDepth 20000 in
theorem v_168_355 (b : B3) (v0 : AV) (v1 : AV) (v2 : AV) (v3 : AV) (st : List AV) (σ : Sto) (Q : Po) : Ev b 168 355 [v0, v1, v2, v3] st σ Q = (Ev b 168 356 [v0, v1, v2, v3] (aI 3 :: st) σ Q) := (Ev_of (k := 168) (pc := 355) (i := .iconst 3) (len := 1) rfl _ _ _ _ _).trans (congrArg (fun z => Ev b 168 356 [v0, v1, v2, v3] (aI z :: st) σ Q) ki_3)
set_option maxRecDepth 20000 in
theorem v_168_356 (b : B3) (v0 : AV) (v1 : AV) (v2 : AV) (v3 : AV) (st : List AV) (x y : Int32) (σ : Sto) (Q : Po) : Ev b 168 356 [v0, v1, v2, v3] (aI y :: aI x :: st) σ Q = (Ev b 168 357 [v0, v1, v2, v3] (aI (x + y) :: st) σ Q) := (Ev_of (k := 168) (pc := 356) (i := .iadd) (len := 1) rfl _ _ _ _ _).trans rfl
set_option maxRecDepth 20000 in
theorem v_168_357 (b : B3) (v0 : AV) (v1 : AV) (v2 : AV) (v3 : AV) (st : List AV) (i : Int32) (a : Nat) (σ : Sto) (Q : Po) : Ev b 168 357 [v0, v1, v2, v3] (aI i :: aR (some a) :: st) σ Q = (okX σ a i ∧ Ev b 168 358 [v0, v1, v2, v3] (aI (gi σ a i.toNatClampNeg) :: st) σ Q) := (Ev_of (k := 168) (pc := 357) (i := .iaload) (len := 1) rfl _ _ _ _ _).trans rfl
set_option maxRecDepth 20000 in
theorem v_168_358 (d c s : Nat) (v0 : AV) (v1 : AV) (v2 : AV) (v3 : AV) (y0 : Int32) (y1 : Int32) (y2 : Int32) (y3 : Nat) (σ : Sto) (Q : Po) : Ev (d + 1, c, s) 168 358 [v0, v1, v2, v3] [aI y0, aI y1, aI y2, aR (some y3)] σ Q = (okO σ y3 5 ∧ CI d 62 [aR (some y3), aI y2, aI y1, aI y0] σ (fun x2 σ2 => Ev (d + 1, c, s) 168 361 [v0, v1, v2, v3] [aI x2] σ2 Q)) := (g_inv (k := 168) (pc := 358) (x := 25) (i := .invokevirtual 25) rfl (Or.inl ⟨rfl, rfl⟩) rfl lq_7025).trans (congrArg (And (okO σ y3 5)) (vdo_I (k' := 62) (c1 := 0) (c2 := 0) (vs := [aR (some y3), aI y2, aI y1, aI y0]) (rest := []) (Or.inl rfl) rfl rfl))
set_option maxRecDepth 20000 in
theorem v_168_361 (b : B3) (v0 : AV) (v1 : AV) (v2 : Option Nat) (v3 : AV) (st : List AV) (σ : Sto) (Q : Po) : Ev b 168 361 [v0, v1, aR v2, v3] st σ Q = (Ev b 168 362 [v0, v1, aR v2, v3] (aR v2 :: st) σ Q) := (Ev_of (k := 168) (pc := 361) (i := .aload_n 2) (len := 1) rfl _ _ _ _ _).trans rfl
set_option maxRecDepth 20000 in
theorem v_168_362 (b : B3) (v0 : Option Nat) (v1 : AV) (v2 : AV) (v3 : AV) (st : List AV) (σ : Sto) (Q : Po) : Ev b 168 362 [aR v0, v1, v2, v3] st σ Q = (Ev b 168 363 [aR v0, v1, v2, v3] (aR v0 :: st) σ Q) := (Ev_of (k := 168) (pc := 362) (i := .aload_n 0) (len := 1) rfl _ _ _ _ _).trans rfl
set_option maxRecDepth 20000 in
theorem v_168_363 (b : B3) (v0 : AV) (v1 : AV) (v2 : AV) (v3 : Int32) (st : List AV) (σ : Sto) (Q : Po) : Ev b 168 363 [v0, v1, v2, aI v3] st σ Q = (Ev b 168 364 [v0, v1, v2, aI v3] (aI v3 :: st) σ Q) := (Ev_of (k := 168) (pc := 363) (i := .iload_n 3) (len := 1) rfl _ _ _ _ _).trans rfl
set_option maxRecDepth 20000 in
theorem v_168_364 (b : B3) (v0 : AV) (v1 : AV) (v2 : AV) (v3 : AV) (st : List AV) (σ : Sto) (Q : Po) : Ev b 168 364 [v0, v1, v2, v3] st σ Q = (Ev b 168 365 [v0, v1, v2, v3] (aI 1 :: st) σ Q) := (Ev_of (k := 168) (pc := 364) (i := .iconst 1) (len := 1) rfl _ _ _ _ _).trans (congrArg (fun z => Ev b 168 365 [v0, v1, v2, v3] (aI z :: st) σ Q) ki_1)
set_option maxRecDepth 20000 in
theorem v_168_365 (b : B3) (v0 : AV) (v1 : AV) (v2 : AV) (v3 : AV) (st : List AV) (x y : Int32) (σ : Sto) (Q : Po) : Ev b 168 365 [v0, v1, v2, v3] (aI y :: aI x :: st) σ Q = (Ev b 168 366 [v0, v1, v2, v3] (aI (x + y) :: st) σ Q) := (Ev_of (k := 168) (pc := 365) (i := .iadd) (len := 1) rfl _ _ _ _ _).trans rfl
set_option maxRecDepth 20000 in
theorem v_168_366 (b : B3) (v0 : AV) (v1 : AV) (v2 : AV) (v3 : AV) (st : List AV) (i : Int32) (a : Nat) (σ : Sto) (Q : Po) : Ev b 168 366 [v0, v1, v2, v3] (aI i :: aR (some a) :: st) σ Q = (okX σ a i ∧ Ev b 168 367 [v0, v1, v2, v3] (aI (gi σ a i.toNatClampNeg) :: st) σ Q) := (Ev_of (k := 168) (pc := 366) (i := .iaload) (len := 1) rfl _ _ _ _ _).trans rfl
set_option maxRecDepth 20000 in
theorem v_168_367 (b : B3) (v0 : Option Nat) (v1 : AV) (v2 : AV) (v3 : AV) (st : List AV) (σ : Sto) (Q : Po) : Ev b 168 367 [aR v0, v1, v2, v3] st σ Q = (Ev b 168 368 [aR v0, v1, v2, v3] (aR v0 :: st) σ Q) := (Ev_of (k := 168) (pc := 367) (i := .aload_n 0) (len := 1) rfl _ _ _ _ _).trans rfl
set_option maxRecDepth 20000 in
theorem v_168_368 (b : B3) (v0 : AV) (v1 : AV) (v2 : AV) (v3 : Int32) (st : List AV) (σ : Sto) (Q : Po) : Ev b 168 368 [v0, v1, v2, aI v3] st σ Q = (Ev b 168 369 [v0, v1, v2, aI v3] (aI v3 :: st) σ Q) := (Ev_of (k := 168) (pc := 368) (i := .iload_n 3) (len := 1) rfl _ _ _ _ _).trans rfl
set_option maxRecDepth 20000 in
theorem v_168_369 (b : B3) (v0 : AV) (v1 : AV) (v2 : AV) (v3 : AV) (st : List AV) (σ : Sto) (Q : Po) : Ev b 168 369 [v0, v1, v2, v3] st σ Q = (Ev b 168 370 [v0, v1, v2, v3] (aI 2 :: st) σ Q) := (Ev_of (k := 168) (pc := 369) (i := .iconst 2) (len := 1) rfl _ _ _ _ _).trans (congrArg (fun z => Ev b 168 370 [v0, v1, v2, v3] (aI z :: st) σ Q) ki_2)
set_option maxRecDepth 20000 in
theorem v_168_370 (b : B3) (v0 : AV) (v1 : AV) (v2 : AV) (v3 : AV) (st : List AV) (x y : Int32) (σ : Sto) (Q : Po) : Ev b 168 370 [v0, v1, v2, v3] (aI y :: aI x :: st) σ Q = (Ev b 168 371 [v0, v1, v2, v3] (aI (x + y) :: st) σ Q) := (Ev_of (k := 168) (pc := 370) (i := .iadd) (len := 1) rfl _ _ _ _ _).trans rfl
set_option maxRecDepth 20000 in
theorem v_168_371 (b : B3) (v0 : AV) (v1 : AV) (v2 : AV) (v3 : AV) (st : List AV) (i : Int32) (a : Nat) (σ : Sto) (Q : Po) : Ev b 168 371 [v0, v1, v2, v3] (aI i :: aR (some a) :: st) σ Q = (okX σ a i ∧ Ev b 168 372 [v0, v1, v2, v3] (aI (gi σ a i.toNatClampNeg) :: st) σ Q) := (Ev_of (k := 168) (pc := 371) (i := .iaload) (len := 1) rfl _ _ _ _ _).trans rfl
set_option maxRecDepth 20000 in
theorem v_168_372 (b : B3) (v0 : Option Nat) (v1 : AV) (v2 : AV) (v3 : AV) (st : List AV) (σ : Sto) (Q : Po) : Ev b 168 372 [aR v0, v1, v2, v3] st σ Q = (Ev b 168 373 [aR v0, v1, v2, v3] (aR v0 :: st) σ Q) := (Ev_of (k := 168) (pc := 372) (i := .aload_n 0) (len := 1) rfl _ _ _ _ _).trans rfl
set_option maxRecDepth 20000 in
theorem v_168_373 (b : B3) (v0 : AV) (v1 : AV) (v2 : AV) (v3 : Int32) (st : List AV) (σ : Sto) (Q : Po) : Ev b 168 373 [v0, v1, v2, aI v3] st σ Q = (Ev b 168 374 [v0, v1, v2, aI v3] (aI v3 :: st) σ Q) := (Ev_of (k := 168) (pc := 373) (i := .iload_n 3) (len := 1) rfl _ _ _ _ _).trans rfl
set_option maxRecDepth 20000 in
theorem v_168_374 (b : B3) (v0 : AV) (v1 : AV) (v2 : AV) (v3 : AV) (st : List AV) (σ : Sto) (Q : Po) : Ev b 168 374 [v0, v1, v2, v3] st σ Q = (Ev b 168 375 [v0, v1, v2, v3] (aI 3 :: st) σ Q) := (Ev_of (k := 168) (pc := 374) (i := .iconst 3) (len := 1) rfl _ _ _ _ _).trans (congrArg (fun z => Ev b 168 375 [v0, v1, v2, v3] (aI z :: st) σ Q) ki_3)
set_option maxRecDepth 20000 in
theorem v_168_375 (b : B3) (v0 : AV) (v1 : AV) (v2 : AV) (v3 : AV) (st : List AV) (x y : Int32) (σ : Sto) (Q : Po) : Ev b 168 375 [v0, v1, v2, v3] (aI y :: aI x :: st) σ Q = (Ev b 168 376 [v0, v1, v2, v3] (aI (x + y) :: st) σ Q) := (Ev_of (k := 168) (pc := 375) (i := .iadd) (len := 1) rfl _ _ _ _ _).trans rfl
set_option maxRecDepth 20000 in
theorem v_168_376 (b : B3) (v0 : AV) (v1 : AV) (v2 : AV) (v3 : AV) (st : List AV) (i : Int32) (a : Nat) (σ : Sto) (Q : Po) : Ev b 168 376 [v0, v1, v2, v3] (aI i :: aR (some a) :: st) σ Q = (okX σ a i ∧ Ev b 168 377 [v0, v1, v2, v3] (aI (gi σ a i.toNatClampNeg) :: st) σ Q) := (Ev_of (k := 168) (pc := 376) (i := .iaload) (len := 1) rfl _ _ _ _ _).trans rfl
set_option maxRecDepth 20000 in
theorem v_168_377 (d c s : Nat) (v0 : AV) (v1 : AV) (v2 : AV) (v3 : AV) (y0 : Int32) (y1 : Int32) (y2 : Int32) (y3 : Nat) (y4 : Int32) (σ : Sto) (Q : Po) : Ev (d + 1, c, s) 168 377 [v0, v1, v2, v3] [aI y0, aI y1, aI y2, aR (some y3), aI y4] σ Q = (okO σ y3 6 ∧ CI d 122 [aR (some y3), aI y2, aI y1, aI y0] σ (fun x2 σ2 => Ev (d + 1, c, s) 168 380 [v0, v1, v2, v3] [aI x2, aI y4] σ2 Q)) := (g_inv (k := 168) (pc := 377) (x := 29) (i := .invokevirtual 29) rfl (Or.inl ⟨rfl, rfl⟩) rfl lq_7029).trans (congrArg (And (okO σ y3 6)) (vdo_I (k' := 122) (c1 := 0) (c2 := 0) (vs := [aR (some y3), aI y2, aI y1, aI y0]) (rest := [aI y4]) (Or.inl rfl) rfl rfl))
set_option maxRecDepth 20000 in
theorem v_168_380 (b : B3) (v0 : AV) (v1 : AV) (v2 : AV) (v3 : AV) (st : List AV) (x y : Int32) (σ : Sto) (Q : Po) : Ev b 168 380 [v0, v1, v2, v3] (aI y :: aI x :: st) σ Q = ((x = y → Ev b 168 1195 [v0, v1, v2, v3] st σ Q) ∧ (¬ x = y → Ev b 168 383 [v0, v1, v2, v3] st σ Q)) := (Ev_of (k := 168) (pc := 380) (i := .if_icmp .eq 815) (len := 3) rfl _ _ _ _ _).trans rfl
set_option maxRecDepth 20000 in
theorem v_168_383 (b : B3) (v0 : AV) (v1 : AV) (v2 : AV) (v3 : AV) (st : List AV) (σ : Sto) (Q : Po) : Ev b 168 383 [v0, v1, v2, v3] st σ Q = (Ev b 168 384 [v0, v1, v2, v3] (aI 0 :: st) σ Q) := (Ev_of (k := 168) (pc := 383) (i := .iconst 0) (len := 1) rfl _ _ _ _ _).trans (congrArg (fun z => Ev b 168 384 [v0, v1, v2, v3] (aI z :: st) σ Q) ki_0)
set_option maxRecDepth 20000 in
theorem v_168_384 (b : B3) (v0 : AV) (v1 : AV) (v2 : AV) (v3 : AV) (x : Int32) (σ : Sto) (Q : Po) : Ev b 168 384 [v0, v1, v2, v3] [aI x] σ Q = ((x = 0 ∨ x = 1) ∧ Q (some (aI x)) σ) := (Ev_of (k := 168) (pc := 384) (i := .ireturn) (len := 1) rfl _ _ _ _ _).trans rfl
set_option maxRecDepth 20000 in
theorem v_168_385 (b : B3) (v0 : AV) (v1 : Option Nat) (v2 : AV) (v3 : AV) (st : List AV) (σ : Sto) (Q : Po) : Ev b 168 385 [v0, aR v1, v2, v3] st σ Q = (Ev b 168 386 [v0, aR v1, v2, v3] (aR v1 :: st) σ Q) := (Ev_of (k := 168) (pc := 385) (i := .aload_n 1) (len := 1) rfl _ _ _ _ _).trans rfl
set_option maxRecDepth 20000 in
theorem v_168_386 (b : B3) (v0 : Option Nat) (v1 : AV) (v2 : AV) (v3 : AV) (st : List AV) (σ : Sto) (Q : Po) : Ev b 168 386 [aR v0, v1, v2, v3] st σ Q = (Ev b 168 387 [aR v0, v1, v2, v3] (aR v0 :: st) σ Q) := (Ev_of (k := 168) (pc := 386) (i := .aload_n 0) (len := 1) rfl _ _ _ _ _).trans rfl
set_option maxRecDepth 20000 in
theorem v_168_387 (b : B3) (v0 : AV) (v1 : AV) (v2 : AV) (v3 : Int32) (st : List AV) (σ : Sto) (Q : Po) : Ev b 168 387 [v0, v1, v2, aI v3] st σ Q = (Ev b 168 388 [v0, v1, v2, aI v3] (aI v3 :: st) σ Q) := (Ev_of (k := 168) (pc := 387) (i := .iload_n 3) (len := 1) rfl _ _ _ _ _).trans rfl
set_option maxRecDepth 20000 in
theorem v_168_388 (b : B3) (v0 : AV) (v1 : AV) (v2 : AV) (v3 : AV) (st : List AV) (σ : Sto) (Q : Po) : Ev b 168 388 [v0, v1, v2, v3] st σ Q = (Ev b 168 389 [v0, v1, v2, v3] (aI 1 :: st) σ Q) := (Ev_of (k := 168) (pc := 388) (i := .iconst 1) (len := 1) rfl _ _ _ _ _).trans (congrArg (fun z => Ev b 168 389 [v0, v1, v2, v3] (aI z :: st) σ Q) ki_1)
set_option maxRecDepth 20000 in
theorem v_168_389 (b : B3) (v0 : AV) (v1 : AV) (v2 : AV) (v3 : AV) (st : List AV) (x y : Int32) (σ : Sto) (Q : Po) : Ev b 168 389 [v0, v1, v2, v3] (aI y :: aI x :: st) σ Q = (Ev b 168 390 [v0, v1, v2, v3] (aI (x + y) :: st) σ Q) := (Ev_of (k := 168) (pc := 389) (i := .iadd) (len := 1) rfl _ _ _ _ _).trans rfl
set_option maxRecDepth 20000 in
theorem v_168_390 (b : B3) (v0 : AV) (v1 : AV) (v2 : AV) (v3 : AV) (st : List AV) (i : Int32) (a : Nat) (σ : Sto) (Q : Po) : Ev b 168 390 [v0, v1, v2, v3] (aI i :: aR (some a) :: st) σ Q = (okX σ a i ∧ Ev b 168 391 [v0, v1, v2, v3] (aI (gi σ a i.toNatClampNeg) :: st) σ Q) := (Ev_of (k := 168) (pc := 390) (i := .iaload) (len := 1) rfl _ _ _ _ _).trans rfl
set_option maxRecDepth 20000 in
theorem v_168_391 (b : B3) (v0 : Option Nat) (v1 : AV) (v2 : AV) (v3 : AV) (st : List AV) (σ : Sto) (Q : Po) : Ev b 168 391 [aR v0, v1, v2, v3] st σ Q = (Ev b 168 392 [aR v0, v1, v2, v3] (aR v0 :: st) σ Q) := (Ev_of (k := 168) (pc := 391) (i := .aload_n 0) (len := 1) rfl _ _ _ _ _).trans rfl
set_option maxRecDepth 20000 in
theorem v_168_392 (b : B3) (v0 : AV) (v1 : AV) (v2 : AV) (v3 : Int32) (st : List AV) (σ : Sto) (Q : Po) : Ev b 168 392 [v0, v1, v2, aI v3] st σ Q = (Ev b 168 393 [v0, v1, v2, aI v3] (aI v3 :: st) σ Q) := (Ev_of (k := 168) (pc := 392) (i := .iload_n 3) (len := 1) rfl _ _ _ _ _).trans rfl
set_option maxRecDepth 20000 in
theorem v_168_393 (b : B3) (v0 : AV) (v1 : AV) (v2 : AV) (v3 : AV) (st : List AV) (σ : Sto) (Q : Po) : Ev b 168 393 [v0, v1, v2, v3] st σ Q = (Ev b 168 394 [v0, v1, v2, v3] (aI 2 :: st) σ Q) := (Ev_of (k := 168) (pc := 393) (i := .iconst 2) (len := 1) rfl _ _ _ _ _).trans (congrArg (fun z => Ev b 168 394 [v0, v1, v2, v3] (aI z :: st) σ Q) ki_2)
set_option maxRecDepth 20000 in
theorem v_168_394 (b : B3) (v0 : AV) (v1 : AV) (v2 : AV) (v3 : AV) (st : List AV) (x y : Int32) (σ : Sto) (Q : Po) : Ev b 168 394 [v0, v1, v2, v3] (aI y :: aI x :: st) σ Q = (Ev b 168 395 [v0, v1, v2, v3] (aI (x + y) :: st) σ Q) := (Ev_of (k := 168) (pc := 394) (i := .iadd) (len := 1) rfl _ _ _ _ _).trans rfl
set_option maxRecDepth 20000 in
theorem v_168_395 (b : B3) (v0 : AV) (v1 : AV) (v2 : AV) (v3 : AV) (st : List AV) (i : Int32) (a : Nat) (σ : Sto) (Q : Po) : Ev b 168 395 [v0, v1, v2, v3] (aI i :: aR (some a) :: st) σ Q = (okX σ a i ∧ Ev b 168 396 [v0, v1, v2, v3] (aI (gi σ a i.toNatClampNeg) :: st) σ Q) := (Ev_of (k := 168) (pc := 395) (i := .iaload) (len := 1) rfl _ _ _ _ _).trans rfl
set_option maxRecDepth 20000 in
theorem v_168_396 (b : B3) (v0 : Option Nat) (v1 : AV) (v2 : AV) (v3 : AV) (st : List AV) (σ : Sto) (Q : Po) : Ev b 168 396 [aR v0, v1, v2, v3] st σ Q = (Ev b 168 397 [aR v0, v1, v2, v3] (aR v0 :: st) σ Q) := (Ev_of (k := 168) (pc := 396) (i := .aload_n 0) (len := 1) rfl _ _ _ _ _).trans rfl
set_option maxRecDepth 20000 in
theorem v_168_397 (b : B3) (v0 : AV) (v1 : AV) (v2 : AV) (v3 : Int32) (st : List AV) (σ : Sto) (Q : Po) : Ev b 168 397 [v0, v1, v2, aI v3] st σ Q = (Ev b 168 398 [v0, v1, v2, aI v3] (aI v3 :: st) σ Q) := (Ev_of (k := 168) (pc := 397) (i := .iload_n 3) (len := 1) rfl _ _ _ _ _).trans rfl
set_option maxRecDepth 20000 in
theorem v_168_398 (b : B3) (v0 : AV) (v1 : AV) (v2 : AV) (v3 : AV) (st : List AV) (σ : Sto) (Q : Po) : Ev b 168 398 [v0, v1, v2, v3] st σ Q = (Ev b 168 399 [v0, v1, v2, v3] (aI 3 :: st) σ Q) := (Ev_of (k := 168) (pc := 398) (i := .iconst 3) (len := 1) rfl _ _ _ _ _).trans (congrArg (fun z => Ev b 168 399 [v0, v1, v2, v3] (aI z :: st) σ Q) ki_3)
set_option maxRecDepth 20000 in
theorem v_168_399 (b : B3) (v0 : AV) (v1 : AV) (v2 : AV) (v3 : AV) (st : List AV) (x y : Int32) (σ : Sto) (Q : Po) : Ev b 168 399 [v0, v1, v2, v3] (aI y :: aI x :: st) σ Q = (Ev b 168 400 [v0, v1, v2, v3] (aI (x + y) :: st) σ Q) := (Ev_of (k := 168) (pc := 399) (i := .iadd) (len := 1) rfl _ _ _ _ _).trans rfl
set_option maxRecDepth 20000 in
theorem v_168_400 (b : B3) (v0 : AV) (v1 : AV) (v2 : AV) (v3 : AV) (st : List AV) (i : Int32) (a : Nat) (σ : Sto) (Q : Po) : Ev b 168 400 [v0, v1, v2, v3] (aI i :: aR (some a) :: st) σ Q = (okX σ a i ∧ Ev b 168 401 [v0, v1, v2, v3] (aI (gi σ a i.toNatClampNeg) :: st) σ Q) := (Ev_of (k := 168) (pc := 400) (i := .iaload) (len := 1) rfl _ _ _ _ _).trans rfl
set_option maxRecDepth 20000 in
theorem v_168_401 (d c s : Nat) (v0 : AV) (v1 : AV) (v2 : AV) (v3 : AV) (y0 : Int32) (y1 : Int32) (y2 : Int32) (y3 : Nat) (σ : Sto) (Q : Po) : Ev (d + 1, c, s) 168 401 [v0, v1, v2, v3] [aI y0, aI y1, aI y2, aR (some y3)] σ Q = (okO σ y3 5 ∧ CI d 63 [aR (some y3), aI y2, aI y1, aI y0] σ (fun x2 σ2 => Ev (d + 1, c, s) 168 404 [v0, v1, v2, v3] [aI x2] σ2 Q)) := (g_inv (k := 168) (pc := 401) (x := 30) (i := .invokevirtual 30) rfl (Or.inl ⟨rfl, rfl⟩) rfl lq_7030).trans (congrArg (And (okO σ y3 5)) (vdo_I (k' := 63) (c1 := 0) (c2 := 0) (vs := [aR (some y3), aI y2, aI y1, aI y0]) (rest := []) (Or.inl rfl) rfl rfl))
set_option maxRecDepth 20000 in
theorem v_168_404 (b : B3) (v0 : AV) (v1 : AV) (v2 : Option Nat) (v3 : AV) (st : List AV) (σ : Sto) (Q : Po) : Ev b 168 404 [v0, v1, aR v2, v3] st σ Q = (Ev b 168 405 [v0, v1, aR v2, v3] (aR v2 :: st) σ Q) := (Ev_of (k := 168) (pc := 404) (i := .aload_n 2) (len := 1) rfl _ _ _ _ _).trans rfl
set_option maxRecDepth 20000 in
theorem v_168_405 (b : B3) (v0 : Option Nat) (v1 : AV) (v2 : AV) (v3 : AV) (st : List AV) (σ : Sto) (Q : Po) : Ev b 168 405 [aR v0, v1, v2, v3] st σ Q = (Ev b 168 406 [aR v0, v1, v2, v3] (aR v0 :: st) σ Q) := (Ev_of (k := 168) (pc := 405) (i := .aload_n 0) (len := 1) rfl _ _ _ _ _).trans rfl
set_option maxRecDepth 20000 in
theorem v_168_406 (b : B3) (v0 : AV) (v1 : AV) (v2 : AV) (v3 : Int32) (st : List AV) (σ : Sto) (Q : Po) : Ev b 168 406 [v0, v1, v2, aI v3] st σ Q = (Ev b 168 407 [v0, v1, v2, aI v3] (aI v3 :: st) σ Q) := (Ev_of (k := 168) (pc := 406) (i := .iload_n 3) (len := 1) rfl _ _ _ _ _).trans rfl
set_option maxRecDepth 20000 in
theorem v_168_407 (b : B3) (v0 : AV) (v1 : AV) (v2 : AV) (v3 : AV) (st : List AV) (σ : Sto) (Q : Po) : Ev b 168 407 [v0, v1, v2, v3] st σ Q = (Ev b 168 408 [v0, v1, v2, v3] (aI 1 :: st) σ Q) := (Ev_of (k := 168) (pc := 407) (i := .iconst 1) (len := 1) rfl _ _ _ _ _).trans (congrArg (fun z => Ev b 168 408 [v0, v1, v2, v3] (aI z :: st) σ Q) ki_1)
set_option maxRecDepth 20000 in
theorem v_168_408 (b : B3) (v0 : AV) (v1 : AV) (v2 : AV) (v3 : AV) (st : List AV) (x y : Int32) (σ : Sto) (Q : Po) : Ev b 168 408 [v0, v1, v2, v3] (aI y :: aI x :: st) σ Q = (Ev b 168 409 [v0, v1, v2, v3] (aI (x + y) :: st) σ Q) := (Ev_of (k := 168) (pc := 408) (i := .iadd) (len := 1) rfl _ _ _ _ _).trans rfl
set_option maxRecDepth 20000 in
theorem v_168_409 (b : B3) (v0 : AV) (v1 : AV) (v2 : AV) (v3 : AV) (st : List AV) (i : Int32) (a : Nat) (σ : Sto) (Q : Po) : Ev b 168 409 [v0, v1, v2, v3] (aI i :: aR (some a) :: st) σ Q = (okX σ a i ∧ Ev b 168 410 [v0, v1, v2, v3] (aI (gi σ a i.toNatClampNeg) :: st) σ Q) := (Ev_of (k := 168) (pc := 409) (i := .iaload) (len := 1) rfl _ _ _ _ _).trans rfl
set_option maxRecDepth 20000 in
theorem v_168_410 (b : B3) (v0 : Option Nat) (v1 : AV) (v2 : AV) (v3 : AV) (st : List AV) (σ : Sto) (Q : Po) : Ev b 168 410 [aR v0, v1, v2, v3] st σ Q = (Ev b 168 411 [aR v0, v1, v2, v3] (aR v0 :: st) σ Q) := (Ev_of (k := 168) (pc := 410) (i := .aload_n 0) (len := 1) rfl _ _ _ _ _).trans rfl
set_option maxRecDepth 20000 in
theorem v_168_411 (b : B3) (v0 : AV) (v1 : AV) (v2 : AV) (v3 : Int32) (st : List AV) (σ : Sto) (Q : Po) : Ev b 168 411 [v0, v1, v2, aI v3] st σ Q = (Ev b 168 412 [v0, v1, v2, aI v3] (aI v3 :: st) σ Q) := (Ev_of (k := 168) (pc := 411) (i := .iload_n 3) (len := 1) rfl _ _ _ _ _).trans rfl
set_option maxRecDepth 20000 in
theorem v_168_412 (b : B3) (v0 : AV) (v1 : AV) (v2 : AV) (v3 : AV) (st : List AV) (σ : Sto) (Q : Po) : Ev b 168 412 [v0, v1, v2, v3] st σ Q = (Ev b 168 413 [v0, v1, v2, v3] (aI 2 :: st) σ Q) := (Ev_of (k := 168) (pc := 412) (i := .iconst 2) (len := 1) rfl _ _ _ _ _).trans (congrArg (fun z => Ev b 168 413 [v0, v1, v2, v3] (aI z :: st) σ Q) ki_2)
set_option maxRecDepth 20000 in
theorem v_168_413 (b : B3) (v0 : AV) (v1 : AV) (v2 : AV) (v3 : AV) (st : List AV) (x y : Int32) (σ : Sto) (Q : Po) : Ev b 168 413 [v0, v1, v2, v3] (aI y :: aI x :: st) σ Q = (Ev b 168 414 [v0, v1, v2, v3] (aI (x + y) :: st) σ Q) := (Ev_of (k := 168) (pc := 413) (i := .iadd) (len := 1) rfl _ _ _ _ _).trans rfl
set_option maxRecDepth 20000 in
theorem v_168_414 (b : B3) (v0 : AV) (v1 : AV) (v2 : AV) (v3 : AV) (st : List AV) (i : Int32) (a : Nat) (σ : Sto) (Q : Po) : Ev b 168 414 [v0, v1, v2, v3] (aI i :: aR (some a) :: st) σ Q = (okX σ a i ∧ Ev b 168 415 [v0, v1, v2, v3] (aI (gi σ a i.toNatClampNeg) :: st) σ Q) := (Ev_of (k := 168) (pc := 414) (i := .iaload) (len := 1) rfl _ _ _ _ _).trans rfl
set_option maxRecDepth 20000 in
theorem v_168_415 (b : B3) (v0 : Option Nat) (v1 : AV) (v2 : AV) (v3 : AV) (st : List AV) (σ : Sto) (Q : Po) : Ev b 168 415 [aR v0, v1, v2, v3] st σ Q = (Ev b 168 416 [aR v0, v1, v2, v3] (aR v0 :: st) σ Q) := (Ev_of (k := 168) (pc := 415) (i := .aload_n 0) (len := 1) rfl _ _ _ _ _).trans rfl
set_option maxRecDepth 20000 in
theorem v_168_416 (b : B3) (v0 : AV) (v1 : AV) (v2 : AV) (v3 : Int32) (st : List AV) (σ : Sto) (Q : Po) : Ev b 168 416 [v0, v1, v2, aI v3] st σ Q = (Ev b 168 417 [v0, v1, v2, aI v3] (aI v3 :: st) σ Q) := (Ev_of (k := 168) (pc := 416) (i := .iload_n 3) (len := 1) rfl _ _ _ _ _).trans rfl
set_option maxRecDepth 20000 in
theorem v_168_417 (b : B3) (v0 : AV) (v1 : AV) (v2 : AV) (v3 : AV) (st : List AV) (σ : Sto) (Q : Po) : Ev b 168 417 [v0, v1, v2, v3] st σ Q = (Ev b 168 418 [v0, v1, v2, v3] (aI 3 :: st) σ Q) := (Ev_of (k := 168) (pc := 417) (i := .iconst 3) (len := 1) rfl _ _ _ _ _).trans (congrArg (fun z => Ev b 168 418 [v0, v1, v2, v3] (aI z :: st) σ Q) ki_3)
set_option maxRecDepth 20000 in
theorem v_168_418 (b : B3) (v0 : AV) (v1 : AV) (v2 : AV) (v3 : AV) (st : List AV) (x y : Int32) (σ : Sto) (Q : Po) : Ev b 168 418 [v0, v1, v2, v3] (aI y :: aI x :: st) σ Q = (Ev b 168 419 [v0, v1, v2, v3] (aI (x + y) :: st) σ Q) := (Ev_of (k := 168) (pc := 418) (i := .iadd) (len := 1) rfl _ _ _ _ _).trans rfl
set_option maxRecDepth 20000 in
theorem v_168_419 (b : B3) (v0 : AV) (v1 : AV) (v2 : AV) (v3 : AV) (st : List AV) (i : Int32) (a : Nat) (σ : Sto) (Q : Po) : Ev b 168 419 [v0, v1, v2, v3] (aI i :: aR (some a) :: st) σ Q = (okX σ a i ∧ Ev b 168 420 [v0, v1, v2, v3] (aI (gi σ a i.toNatClampNeg) :: st) σ Q) := (Ev_of (k := 168) (pc := 419) (i := .iaload) (len := 1) rfl _ _ _ _ _).trans rfl
set_option maxRecDepth 20000 in
theorem v_168_420 (d c s : Nat) (v0 : AV) (v1 : AV) (v2 : AV) (v3 : AV) (y0 : Int32) (y1 : Int32) (y2 : Int32) (y3 : Nat) (y4 : Int32) (σ : Sto) (Q : Po) : Ev (d + 1, c, s) 168 420 [v0, v1, v2, v3] [aI y0, aI y1, aI y2, aR (some y3), aI y4] σ Q = (okO σ y3 6 ∧ CI d 123 [aR (some y3), aI y2, aI y1, aI y0] σ (fun x2 σ2 => Ev (d + 1, c, s) 168 423 [v0, v1, v2, v3] [aI x2, aI y4] σ2 Q)) := (g_inv (k := 168) (pc := 420) (x := 33) (i := .invokevirtual 33) rfl (Or.inl ⟨rfl, rfl⟩) rfl lq_7033).trans (congrArg (And (okO σ y3 6)) (vdo_I (k' := 123) (c1 := 0) (c2 := 0) (vs := [aR (some y3), aI y2, aI y1, aI y0]) (rest := [aI y4]) (Or.inl rfl) rfl rfl))
set_option maxRecDepth 20000 in
theorem v_168_423 (b : B3) (v0 : AV) (v1 : AV) (v2 : AV) (v3 : AV) (st : List AV) (x y : Int32) (σ : Sto) (Q : Po) : Ev b 168 423 [v0, v1, v2, v3] (aI y :: aI x :: st) σ Q = ((x = y → Ev b 168 1195 [v0, v1, v2, v3] st σ Q) ∧ (¬ x = y → Ev b 168 426 [v0, v1, v2, v3] st σ Q)) := (Ev_of (k := 168) (pc := 423) (i := .if_icmp .eq 772) (len := 3) rfl _ _ _ _ _).trans rfl
set_option maxRecDepth 20000 in
theorem v_168_426 (b : B3) (v0 : AV) (v1 : AV) (v2 : AV) (v3 : AV) (st : List AV) (σ : Sto) (Q : Po) : Ev b 168 426 [v0, v1, v2, v3] st σ Q = (Ev b 168 427 [v0, v1, v2, v3] (aI 0 :: st) σ Q) := (Ev_of (k := 168) (pc := 426) (i := .iconst 0) (len := 1) rfl _ _ _ _ _).trans (congrArg (fun z => Ev b 168 427 [v0, v1, v2, v3] (aI z :: st) σ Q) ki_0)
set_option maxRecDepth 20000 in
theorem v_168_427 (b : B3) (v0 : AV) (v1 : AV) (v2 : AV) (v3 : AV) (x : Int32) (σ : Sto) (Q : Po) : Ev b 168 427 [v0, v1, v2, v3] [aI x] σ Q = ((x = 0 ∨ x = 1) ∧ Q (some (aI x)) σ) := (Ev_of (k := 168) (pc := 427) (i := .ireturn) (len := 1) rfl _ _ _ _ _).trans rfl
set_option maxRecDepth 20000 in
theorem v_168_428 (b : B3) (v0 : AV) (v1 : Option Nat) (v2 : AV) (v3 : AV) (st : List AV) (σ : Sto) (Q : Po) : Ev b 168 428 [v0, aR v1, v2, v3] st σ Q = (Ev b 168 429 [v0, aR v1, v2, v3] (aR v1 :: st) σ Q) := (Ev_of (k := 168) (pc := 428) (i := .aload_n 1) (len := 1) rfl _ _ _ _ _).trans rfl
set_option maxRecDepth 20000 in
theorem v_168_429 (b : B3) (v0 : Option Nat) (v1 : AV) (v2 : AV) (v3 : AV) (st : List AV) (σ : Sto) (Q : Po) : Ev b 168 429 [aR v0, v1, v2, v3] st σ Q = (Ev b 168 430 [aR v0, v1, v2, v3] (aR v0 :: st) σ Q) := (Ev_of (k := 168) (pc := 429) (i := .aload_n 0) (len := 1) rfl _ _ _ _ _).trans rfl
set_option maxRecDepth 20000 in
theorem v_168_430 (b : B3) (v0 : AV) (v1 : AV) (v2 : AV) (v3 : Int32) (st : List AV) (σ : Sto) (Q : Po) : Ev b 168 430 [v0, v1, v2, aI v3] st σ Q = (Ev b 168 431 [v0, v1, v2, aI v3] (aI v3 :: st) σ Q) := (Ev_of (k := 168) (pc := 430) (i := .iload_n 3) (len := 1) rfl _ _ _ _ _).trans rfl
set_option maxRecDepth 20000 in
theorem v_168_431 (b : B3) (v0 : AV) (v1 : AV) (v2 : AV) (v3 : AV) (st : List AV) (σ : Sto) (Q : Po) : Ev b 168 431 [v0, v1, v2, v3] st σ Q = (Ev b 168 432 [v0, v1, v2, v3] (aI 1 :: st) σ Q) := (Ev_of (k := 168) (pc := 431) (i := .iconst 1) (len := 1) rfl _ _ _ _ _).trans (congrArg (fun z => Ev b 168 432 [v0, v1, v2, v3] (aI z :: st) σ Q) ki_1)
set_option maxRecDepth 20000 in
theorem v_168_432 (b : B3) (v0 : AV) (v1 : AV) (v2 : AV) (v3 : AV) (st : List AV) (x y : Int32) (σ : Sto) (Q : Po) : Ev b 168 432 [v0, v1, v2, v3] (aI y :: aI x :: st) σ Q = (Ev b 168 433 [v0, v1, v2, v3] (aI (x + y) :: st) σ Q) := (Ev_of (k := 168) (pc := 432) (i := .iadd) (len := 1) rfl _ _ _ _ _).trans rfl
set_option maxRecDepth 20000 in
theorem v_168_433 (b : B3) (v0 : AV) (v1 : AV) (v2 : AV) (v3 : AV) (st : List AV) (i : Int32) (a : Nat) (σ : Sto) (Q : Po) : Ev b 168 433 [v0, v1, v2, v3] (aI i :: aR (some a) :: st) σ Q = (okX σ a i ∧ Ev b 168 434 [v0, v1, v2, v3] (aI (gi σ a i.toNatClampNeg) :: st) σ Q) := (Ev_of (k := 168) (pc := 433) (i := .iaload) (len := 1) rfl _ _ _ _ _).trans rfl
set_option maxRecDepth 20000 in
theorem v_168_434 (b : B3) (v0 : Option Nat) (v1 : AV) (v2 : AV) (v3 : AV) (st : List AV) (σ : Sto) (Q : Po) : Ev b 168 434 [aR v0, v1, v2, v3] st σ Q = (Ev b 168 435 [aR v0, v1, v2, v3] (aR v0 :: st) σ Q) := (Ev_of (k := 168) (pc := 434) (i := .aload_n 0) (len := 1) rfl _ _ _ _ _).trans rfl
set_option maxRecDepth 20000 in
theorem v_168_435 (b : B3) (v0 : AV) (v1 : AV) (v2 : AV) (v3 : Int32) (st : List AV) (σ : Sto) (Q : Po) : Ev b 168 435 [v0, v1, v2, aI v3] st σ Q = (Ev b 168 436 [v0, v1, v2, aI v3] (aI v3 :: st) σ Q) := (Ev_of (k := 168) (pc := 435) (i := .iload_n 3) (len := 1) rfl _ _ _ _ _).trans rfl
set_option maxRecDepth 20000 in
theorem v_168_436 (b : B3) (v0 : AV) (v1 : AV) (v2 : AV) (v3 : AV) (st : List AV) (σ : Sto) (Q : Po) : Ev b 168 436 [v0, v1, v2, v3] st σ Q = (Ev b 168 437 [v0, v1, v2, v3] (aI 2 :: st) σ Q) := (Ev_of (k := 168) (pc := 436) (i := .iconst 2) (len := 1) rfl _ _ _ _ _).trans (congrArg (fun z => Ev b 168 437 [v0, v1, v2, v3] (aI z :: st) σ Q) ki_2)
set_option maxRecDepth 20000 in
theorem v_168_437 (b : B3) (v0 : AV) (v1 : AV) (v2 : AV) (v3 : AV) (st : List AV) (x y : Int32) (σ : Sto) (Q : Po) : Ev b 168 437 [v0, v1, v2, v3] (aI y :: aI x :: st) σ Q = (Ev b 168 438 [v0, v1, v2, v3] (aI (x + y) :: st) σ Q) := (Ev_of (k := 168) (pc := 437) (i := .iadd) (len := 1) rfl _ _ _ _ _).trans rfl
set_option maxRecDepth 20000 in
theorem v_168_438 (b : B3) (v0 : AV) (v1 : AV) (v2 : AV) (v3 : AV) (st : List AV) (i : Int32) (a : Nat) (σ : Sto) (Q : Po) : Ev b 168 438 [v0, v1, v2, v3] (aI i :: aR (some a) :: st) σ Q = (okX σ a i ∧ Ev b 168 439 [v0, v1, v2, v3] (aI (gi σ a i.toNatClampNeg) :: st) σ Q) := (Ev_of (k := 168) (pc := 438) (i := .iaload) (len := 1) rfl _ _ _ _ _).trans rfl
set_option maxRecDepth 20000 in
theorem v_168_439 (d c s : Nat) (v0 : AV) (v1 : AV) (v2 : AV) (v3 : AV) (y0 : Int32) (y1 : Int32) (y2 : Nat) (σ : Sto) (Q : Po) : Ev (d + 1, c, s) 168 439 [v0, v1, v2, v3] [aI y0, aI y1, aR (some y2)] σ Q = (okO σ y2 5 ∧ CI d 64 [aR (some y2), aI y1, aI y0] σ (fun x2 σ2 => Ev (d + 1, c, s) 168 442 [v0, v1, v2, v3] [aI x2] σ2 Q)) := (g_inv (k := 168) (pc := 439) (x := 34) (i := .invokevirtual 34) rfl (Or.inl ⟨rfl, rfl⟩) rfl lq_7034).trans (congrArg (And (okO σ y2 5)) (vdo_I (k' := 64) (c1 := 0) (c2 := 0) (vs := [aR (some y2), aI y1, aI y0]) (rest := []) (Or.inl rfl) rfl rfl))
set_option maxRecDepth 20000 in
theorem v_168_442 (b : B3) (v0 : AV) (v1 : AV) (v2 : Option Nat) (v3 : AV) (st : List AV) (σ : Sto) (Q : Po) : Ev b 168 442 [v0, v1, aR v2, v3] st σ Q = (Ev b 168 443 [v0, v1, aR v2, v3] (aR v2 :: st) σ Q) := (Ev_of (k := 168) (pc := 442) (i := .aload_n 2) (len := 1) rfl _ _ _ _ _).trans rfl
set_option maxRecDepth 20000 in
theorem v_168_443 (b : B3) (v0 : Option Nat) (v1 : AV) (v2 : AV) (v3 : AV) (st : List AV) (σ : Sto) (Q : Po) : Ev b 168 443 [aR v0, v1, v2, v3] st σ Q = (Ev b 168 444 [aR v0, v1, v2, v3] (aR v0 :: st) σ Q) := (Ev_of (k := 168) (pc := 443) (i := .aload_n 0) (len := 1) rfl _ _ _ _ _).trans rfl
set_option maxRecDepth 20000 in
theorem v_168_444 (b : B3) (v0 : AV) (v1 : AV) (v2 : AV) (v3 : Int32) (st : List AV) (σ : Sto) (Q : Po) : Ev b 168 444 [v0, v1, v2, aI v3] st σ Q = (Ev b 168 445 [v0, v1, v2, aI v3] (aI v3 :: st) σ Q) := (Ev_of (k := 168) (pc := 444) (i := .iload_n 3) (len := 1) rfl _ _ _ _ _).trans rfl
set_option maxRecDepth 20000 in
theorem v_168_445 (b : B3) (v0 : AV) (v1 : AV) (v2 : AV) (v3 : AV) (st : List AV) (σ : Sto) (Q : Po) : Ev b 168 445 [v0, v1, v2, v3] st σ Q = (Ev b 168 446 [v0, v1, v2, v3] (aI 1 :: st) σ Q) := (Ev_of (k := 168) (pc := 445) (i := .iconst 1) (len := 1) rfl _ _ _ _ _).trans (congrArg (fun z => Ev b 168 446 [v0, v1, v2, v3] (aI z :: st) σ Q) ki_1)
set_option maxRecDepth 20000 in
theorem v_168_446 (b : B3) (v0 : AV) (v1 : AV) (v2 : AV) (v3 : AV) (st : List AV) (x y : Int32) (σ : Sto) (Q : Po) : Ev b 168 446 [v0, v1, v2, v3] (aI y :: aI x :: st) σ Q = (Ev b 168 447 [v0, v1, v2, v3] (aI (x + y) :: st) σ Q) := (Ev_of (k := 168) (pc := 446) (i := .iadd) (len := 1) rfl _ _ _ _ _).trans rfl
set_option maxRecDepth 20000 in
theorem v_168_447 (b : B3) (v0 : AV) (v1 : AV) (v2 : AV) (v3 : AV) (st : List AV) (i : Int32) (a : Nat) (σ : Sto) (Q : Po) : Ev b 168 447 [v0, v1, v2, v3] (aI i :: aR (some a) :: st) σ Q = (okX σ a i ∧ Ev b 168 448 [v0, v1, v2, v3] (aI (gi σ a i.toNatClampNeg) :: st) σ Q) := (Ev_of (k := 168) (pc := 447) (i := .iaload) (len := 1) rfl _ _ _ _ _).trans rfl
set_option maxRecDepth 20000 in
theorem v_168_448 (b : B3) (v0 : Option Nat) (v1 : AV) (v2 : AV) (v3 : AV) (st : List AV) (σ : Sto) (Q : Po) : Ev b 168 448 [aR v0, v1, v2, v3] st σ Q = (Ev b 168 449 [aR v0, v1, v2, v3] (aR v0 :: st) σ Q) := (Ev_of (k := 168) (pc := 448) (i := .aload_n 0) (len := 1) rfl _ _ _ _ _).trans rfl
set_option maxRecDepth 20000 in
theorem v_168_449 (b : B3) (v0 : AV) (v1 : AV) (v2 : AV) (v3 : Int32) (st : List AV) (σ : Sto) (Q : Po) : Ev b 168 449 [v0, v1, v2, aI v3] st σ Q = (Ev b 168 450 [v0, v1, v2, aI v3] (aI v3 :: st) σ Q) := (Ev_of (k := 168) (pc := 449) (i := .iload_n 3) (len := 1) rfl _ _ _ _ _).trans rfl
set_option maxRecDepth 20000 in
theorem v_168_450 (b : B3) (v0 : AV) (v1 : AV) (v2 : AV) (v3 : AV) (st : List AV) (σ : Sto) (Q : Po) : Ev b 168 450 [v0, v1, v2, v3] st σ Q = (Ev b 168 451 [v0, v1, v2, v3] (aI 2 :: st) σ Q) := (Ev_of (k := 168) (pc := 450) (i := .iconst 2) (len := 1) rfl _ _ _ _ _).trans (congrArg (fun z => Ev b 168 451 [v0, v1, v2, v3] (aI z :: st) σ Q) ki_2)
set_option maxRecDepth 20000 in
theorem v_168_451 (b : B3) (v0 : AV) (v1 : AV) (v2 : AV) (v3 : AV) (st : List AV) (x y : Int32) (σ : Sto) (Q : Po) : Ev b 168 451 [v0, v1, v2, v3] (aI y :: aI x :: st) σ Q = (Ev b 168 452 [v0, v1, v2, v3] (aI (x + y) :: st) σ Q) := (Ev_of (k := 168) (pc := 451) (i := .iadd) (len := 1) rfl _ _ _ _ _).trans rfl
set_option maxRecDepth 20000 in
theorem v_168_452 (b : B3) (v0 : AV) (v1 : AV) (v2 : AV) (v3 : AV) (st : List AV) (i : Int32) (a : Nat) (σ : Sto) (Q : Po) : Ev b 168 452 [v0, v1, v2, v3] (aI i :: aR (some a) :: st) σ Q = (okX σ a i ∧ Ev b 168 453 [v0, v1, v2, v3] (aI (gi σ a i.toNatClampNeg) :: st) σ Q) := (Ev_of (k := 168) (pc := 452) (i := .iaload) (len := 1) rfl _ _ _ _ _).trans rfl
set_option maxRecDepth 20000 in
theorem v_168_453 (d c s : Nat) (v0 : AV) (v1 : AV) (v2 : AV) (v3 : AV) (y0 : Int32) (y1 : Int32) (y2 : Nat) (y3 : Int32) (σ : Sto) (Q : Po) : Ev (d + 1, c, s) 168 453 [v0, v1, v2, v3] [aI y0, aI y1, aR (some y2), aI y3] σ Q = (okO σ y2 6 ∧ CI d 124 [aR (some y2), aI y1, aI y0] σ (fun x2 σ2 => Ev (d + 1, c, s) 168 456 [v0, v1, v2, v3] [aI x2, aI y3] σ2 Q)) := (g_inv (k := 168) (pc := 453) (x := 38) (i := .invokevirtual 38) rfl (Or.inl ⟨rfl, rfl⟩) rfl lq_7038).trans (congrArg (And (okO σ y2 6)) (vdo_I (k' := 124) (c1 := 0) (c2 := 0) (vs := [aR (some y2), aI y1, aI y0]) (rest := [aI y3]) (Or.inl rfl) rfl rfl))
set_option maxRecDepth 20000 in
theorem v_168_456 (b : B3) (v0 : AV) (v1 : AV) (v2 : AV) (v3 : AV) (st : List AV) (x y : Int32) (σ : Sto) (Q : Po) : Ev b 168 456 [v0, v1, v2, v3] (aI y :: aI x :: st) σ Q = ((x = y → Ev b 168 1195 [v0, v1, v2, v3] st σ Q) ∧ (¬ x = y → Ev b 168 459 [v0, v1, v2, v3] st σ Q)) := (Ev_of (k := 168) (pc := 456) (i := .if_icmp .eq 739) (len := 3) rfl _ _ _ _ _).trans rfl
set_option maxRecDepth 20000 in
theorem v_168_459 (b : B3) (v0 : AV) (v1 : AV) (v2 : AV) (v3 : AV) (st : List AV) (σ : Sto) (Q : Po) : Ev b 168 459 [v0, v1, v2, v3] st σ Q = (Ev b 168 460 [v0, v1, v2, v3] (aI 0 :: st) σ Q) := (Ev_of (k := 168) (pc := 459) (i := .iconst 0) (len := 1) rfl _ _ _ _ _).trans (congrArg (fun z => Ev b 168 460 [v0, v1, v2, v3] (aI z :: st) σ Q) ki_0)
set_option maxRecDepth 20000 in
theorem v_168_460 (b : B3) (v0 : AV) (v1 : AV) (v2 : AV) (v3 : AV) (x : Int32) (σ : Sto) (Q : Po) : Ev b 168 460 [v0, v1, v2, v3] [aI x] σ Q = ((x = 0 ∨ x = 1) ∧ Q (some (aI x)) σ) := (Ev_of (k := 168) (pc := 460) (i := .ireturn) (len := 1) rfl _ _ _ _ _).trans rfl
set_option maxRecDepth 20000 in
theorem v_168_461 (b : B3) (v0 : AV) (v1 : Option Nat) (v2 : AV) (v3 : AV) (st : List AV) (σ : Sto) (Q : Po) : Ev b 168 461 [v0, aR v1, v2, v3] st σ Q = (Ev b 168 462 [v0, aR v1, v2, v3] (aR v1 :: st) σ Q) := (Ev_of (k := 168) (pc := 461) (i := .aload_n 1) (len := 1) rfl _ _ _ _ _).trans rfl
set_option maxRecDepth 20000 in
theorem v_168_462 (b : B3) (v0 : Option Nat) (v1 : AV) (v2 : AV) (v3 : AV) (st : List AV) (σ : Sto) (Q : Po) : Ev b 168 462 [aR v0, v1, v2, v3] st σ Q = (Ev b 168 463 [aR v0, v1, v2, v3] (aR v0 :: st) σ Q) := (Ev_of (k := 168) (pc := 462) (i := .aload_n 0) (len := 1) rfl _ _ _ _ _).trans rfl
set_option maxRecDepth 20000 in
theorem v_168_463 (b : B3) (v0 : AV) (v1 : AV) (v2 : AV) (v3 : Int32) (st : List AV) (σ : Sto) (Q : Po) : Ev b 168 463 [v0, v1, v2, aI v3] st σ Q = (Ev b 168 464 [v0, v1, v2, aI v3] (aI v3 :: st) σ Q) := (Ev_of (k := 168) (pc := 463) (i := .iload_n 3) (len := 1) rfl _ _ _ _ _).trans rfl
set_option maxRecDepth 20000 in
theorem v_168_464 (b : B3) (v0 : AV) (v1 : AV) (v2 : AV) (v3 : AV) (st : List AV) (σ : Sto) (Q : Po) : Ev b 168 464 [v0, v1, v2, v3] st σ Q = (Ev b 168 465 [v0, v1, v2, v3] (aI 1 :: st) σ Q) := (Ev_of (k := 168) (pc := 464) (i := .iconst 1) (len := 1) rfl _ _ _ _ _).trans (congrArg (fun z => Ev b 168 465 [v0, v1, v2, v3] (aI z :: st) σ Q) ki_1)
set_option maxRecDepth 20000 in
theorem v_168_465 (b : B3) (v0 : AV) (v1 : AV) (v2 : AV) (v3 : AV) (st : List AV) (x y : Int32) (σ : Sto) (Q : Po) : Ev b 168 465 [v0, v1, v2, v3] (aI y :: aI x :: st) σ Q = (Ev b 168 466 [v0, v1, v2, v3] (aI (x + y) :: st) σ Q) := (Ev_of (k := 168) (pc := 465) (i := .iadd) (len := 1) rfl _ _ _ _ _).trans rfl
set_option maxRecDepth 20000 in
theorem v_168_466 (b : B3) (v0 : AV) (v1 : AV) (v2 : AV) (v3 : AV) (st : List AV) (i : Int32) (a : Nat) (σ : Sto) (Q : Po) : Ev b 168 466 [v0, v1, v2, v3] (aI i :: aR (some a) :: st) σ Q = (okX σ a i ∧ Ev b 168 467 [v0, v1, v2, v3] (aI (gi σ a i.toNatClampNeg) :: st) σ Q) := (Ev_of (k := 168) (pc := 466) (i := .iaload) (len := 1) rfl _ _ _ _ _).trans rfl
set_option maxRecDepth 20000 in
theorem v_168_467 (b : B3) (v0 : Option Nat) (v1 : AV) (v2 : AV) (v3 : AV) (st : List AV) (σ : Sto) (Q : Po) : Ev b 168 467 [aR v0, v1, v2, v3] st σ Q = (Ev b 168 468 [aR v0, v1, v2, v3] (aR v0 :: st) σ Q) := (Ev_of (k := 168) (pc := 467) (i := .aload_n 0) (len := 1) rfl _ _ _ _ _).trans rfl
set_option maxRecDepth 20000 in
theorem v_168_468 (b : B3) (v0 : AV) (v1 : AV) (v2 : AV) (v3 : Int32) (st : List AV) (σ : Sto) (Q : Po) : Ev b 168 468 [v0, v1, v2, aI v3] st σ Q = (Ev b 168 469 [v0, v1, v2, aI v3] (aI v3 :: st) σ Q) := (Ev_of (k := 168) (pc := 468) (i := .iload_n 3) (len := 1) rfl _ _ _ _ _).trans rfl
set_option maxRecDepth 20000 in
theorem v_168_469 (b : B3) (v0 : AV) (v1 : AV) (v2 : AV) (v3 : AV) (st : List AV) (σ : Sto) (Q : Po) : Ev b 168 469 [v0, v1, v2, v3] st σ Q = (Ev b 168 470 [v0, v1, v2, v3] (aI 2 :: st) σ Q) := (Ev_of (k := 168) (pc := 469) (i := .iconst 2) (len := 1) rfl _ _ _ _ _).trans (congrArg (fun z => Ev b 168 470 [v0, v1, v2, v3] (aI z :: st) σ Q) ki_2)
set_option maxRecDepth 20000 in
theorem v_168_470 (b : B3) (v0 : AV) (v1 : AV) (v2 : AV) (v3 : AV) (st : List AV) (x y : Int32) (σ : Sto) (Q : Po) : Ev b 168 470 [v0, v1, v2, v3] (aI y :: aI x :: st) σ Q = (Ev b 168 471 [v0, v1, v2, v3] (aI (x + y) :: st) σ Q) := (Ev_of (k := 168) (pc := 470) (i := .iadd) (len := 1) rfl _ _ _ _ _).trans rfl
set_option maxRecDepth 20000 in
theorem v_168_471 (b : B3) (v0 : AV) (v1 : AV) (v2 : AV) (v3 : AV) (st : List AV) (i : Int32) (a : Nat) (σ : Sto) (Q : Po) : Ev b 168 471 [v0, v1, v2, v3] (aI i :: aR (some a) :: st) σ Q = (okX σ a i ∧ Ev b 168 472 [v0, v1, v2, v3] (aI (gi σ a i.toNatClampNeg) :: st) σ Q) := (Ev_of (k := 168) (pc := 471) (i := .iaload) (len := 1) rfl _ _ _ _ _).trans rfl
set_option maxRecDepth 20000 in
theorem v_168_472 (d c s : Nat) (v0 : AV) (v1 : AV) (v2 : AV) (v3 : AV) (y0 : Int32) (y1 : Int32) (y2 : Nat) (σ : Sto) (Q : Po) : Ev (d + 1, c, s) 168 472 [v0, v1, v2, v3] [aI y0, aI y1, aR (some y2)] σ Q = (okO σ y2 5 ∧ CI d 65 [aR (some y2), aI y1, aI y0] σ (fun x2 σ2 => Ev (d + 1, c, s) 168 475 [v0, v1, v2, v3] [aI x2] σ2 Q)) := (g_inv (k := 168) (pc := 472) (x := 39) (i := .invokevirtual 39) rfl (Or.inl ⟨rfl, rfl⟩) rfl lq_7039).trans (congrArg (And (okO σ y2 5)) (vdo_I (k' := 65) (c1 := 0) (c2 := 0) (vs := [aR (some y2), aI y1, aI y0]) (rest := []) (Or.inl rfl) rfl rfl))
set_option maxRecDepth 20000 in
theorem v_168_475 (b : B3) (v0 : AV) (v1 : AV) (v2 : Option Nat) (v3 : AV) (st : List AV) (σ : Sto) (Q : Po) : Ev b 168 475 [v0, v1, aR v2, v3] st σ Q = (Ev b 168 476 [v0, v1, aR v2, v3] (aR v2 :: st) σ Q) := (Ev_of (k := 168) (pc := 475) (i := .aload_n 2) (len := 1) rfl _ _ _ _ _).trans rfl
set_option maxRecDepth 20000 in
theorem v_168_476 (b : B3) (v0 : Option Nat) (v1 : AV) (v2 : AV) (v3 : AV) (st : List AV) (σ : Sto) (Q : Po) : Ev b 168 476 [aR v0, v1, v2, v3] st σ Q = (Ev b 168 477 [aR v0, v1, v2, v3] (aR v0 :: st) σ Q) := (Ev_of (k := 168) (pc := 476) (i := .aload_n 0) (len := 1) rfl _ _ _ _ _).trans rfl
set_option maxRecDepth 20000 in
theorem v_168_477 (b : B3) (v0 : AV) (v1 : AV) (v2 : AV) (v3 : Int32) (st : List AV) (σ : Sto) (Q : Po) : Ev b 168 477 [v0, v1, v2, aI v3] st σ Q = (Ev b 168 478 [v0, v1, v2, aI v3] (aI v3 :: st) σ Q) := (Ev_of (k := 168) (pc := 477) (i := .iload_n 3) (len := 1) rfl _ _ _ _ _).trans rfl
set_option maxRecDepth 20000 in
theorem v_168_478 (b : B3) (v0 : AV) (v1 : AV) (v2 : AV) (v3 : AV) (st : List AV) (σ : Sto) (Q : Po) : Ev b 168 478 [v0, v1, v2, v3] st σ Q = (Ev b 168 479 [v0, v1, v2, v3] (aI 1 :: st) σ Q) := (Ev_of (k := 168) (pc := 478) (i := .iconst 1) (len := 1) rfl _ _ _ _ _).trans (congrArg (fun z => Ev b 168 479 [v0, v1, v2, v3] (aI z :: st) σ Q) ki_1)
set_option maxRecDepth 20000 in
theorem v_168_479 (b : B3) (v0 : AV) (v1 : AV) (v2 : AV) (v3 : AV) (st : List AV) (x y : Int32) (σ : Sto) (Q : Po) : Ev b 168 479 [v0, v1, v2, v3] (aI y :: aI x :: st) σ Q = (Ev b 168 480 [v0, v1, v2, v3] (aI (x + y) :: st) σ Q) := (Ev_of (k := 168) (pc := 479) (i := .iadd) (len := 1) rfl _ _ _ _ _).trans rfl
set_option maxRecDepth 20000 in
theorem v_168_480 (b : B3) (v0 : AV) (v1 : AV) (v2 : AV) (v3 : AV) (st : List AV) (i : Int32) (a : Nat) (σ : Sto) (Q : Po) : Ev b 168 480 [v0, v1, v2, v3] (aI i :: aR (some a) :: st) σ Q = (okX σ a i ∧ Ev b 168 481 [v0, v1, v2, v3] (aI (gi σ a i.toNatClampNeg) :: st) σ Q) := (Ev_of (k := 168) (pc := 480) (i := .iaload) (len := 1) rfl _ _ _ _ _).trans rfl
set_option maxRecDepth 20000 in
theorem v_168_481 (b : B3) (v0 : Option Nat) (v1 : AV) (v2 : AV) (v3 : AV) (st : List AV) (σ : Sto) (Q : Po) : Ev b 168 481 [aR v0, v1, v2, v3] st σ Q = (Ev b 168 482 [aR v0, v1, v2, v3] (aR v0 :: st) σ Q) := (Ev_of (k := 168) (pc := 481) (i := .aload_n 0) (len := 1) rfl _ _ _ _ _).trans rfl
set_option maxRecDepth 20000 in
theorem v_168_482 (b : B3) (v0 : AV) (v1 : AV) (v2 : AV) (v3 : Int32) (st : List AV) (σ : Sto) (Q : Po) : Ev b 168 482 [v0, v1, v2, aI v3] st σ Q = (Ev b 168 483 [v0, v1, v2, aI v3] (aI v3 :: st) σ Q) := (Ev_of (k := 168) (pc := 482) (i := .iload_n 3) (len := 1) rfl _ _ _ _ _).trans rfl
set_option maxRecDepth 20000 in
theorem v_168_483 (b : B3) (v0 : AV) (v1 : AV) (v2 : AV) (v3 : AV) (st : List AV) (σ : Sto) (Q : Po) : Ev b 168 483 [v0, v1, v2, v3] st σ Q = (Ev b 168 484 [v0, v1, v2, v3] (aI 2 :: st) σ Q) := (Ev_of (k := 168) (pc := 483) (i := .iconst 2) (len := 1) rfl _ _ _ _ _).trans (congrArg (fun z => Ev b 168 484 [v0, v1, v2, v3] (aI z :: st) σ Q) ki_2)
set_option maxRecDepth 20000 in
theorem v_168_484 (b : B3) (v0 : AV) (v1 : AV) (v2 : AV) (v3 : AV) (st : List AV) (x y : Int32) (σ : Sto) (Q : Po) : Ev b 168 484 [v0, v1, v2, v3] (aI y :: aI x :: st) σ Q = (Ev b 168 485 [v0, v1, v2, v3] (aI (x + y) :: st) σ Q) := (Ev_of (k := 168) (pc := 484) (i := .iadd) (len := 1) rfl _ _ _ _ _).trans rfl
set_option maxRecDepth 20000 in
theorem v_168_485 (b : B3) (v0 : AV) (v1 : AV) (v2 : AV) (v3 : AV) (st : List AV) (i : Int32) (a : Nat) (σ : Sto) (Q : Po) : Ev b 168 485 [v0, v1, v2, v3] (aI i :: aR (some a) :: st) σ Q = (okX σ a i ∧ Ev b 168 486 [v0, v1, v2, v3] (aI (gi σ a i.toNatClampNeg) :: st) σ Q) := (Ev_of (k := 168) (pc := 485) (i := .iaload) (len := 1) rfl _ _ _ _ _).trans rfl
set_option maxRecDepth 20000 in
theorem v_168_486 (d c s : Nat) (v0 : AV) (v1 : AV) (v2 : AV) (v3 : AV) (y0 : Int32) (y1 : Int32) (y2 : Nat) (y3 : Int32) (σ : Sto) (Q : Po) : Ev (d + 1, c, s) 168 486 [v0, v1, v2, v3] [aI y0, aI y1, aR (some y2), aI y3] σ Q = (okO σ y2 6 ∧ CI d 125 [aR (some y2), aI y1, aI y0] σ (fun x2 σ2 => Ev (d + 1, c, s) 168 489 [v0, v1, v2, v3] [aI x2, aI y3] σ2 Q)) := (g_inv (k := 168) (pc := 486) (x := 42) (i := .invokevirtual 42) rfl (Or.inl ⟨rfl, rfl⟩) rfl lq_7042).trans (congrArg (And (okO σ y2 6)) (vdo_I (k' := 125) (c1 := 0) (c2 := 0) (vs := [aR (some y2), aI y1, aI y0]) (rest := [aI y3]) (Or.inl rfl) rfl rfl))
set_option maxRecDepth 20000 in
theorem v_168_489 (b : B3) (v0 : AV) (v1 : AV) (v2 : AV) (v3 : AV) (st : List AV) (x y : Int32) (σ : Sto) (Q : Po) : Ev b 168 489 [v0, v1, v2, v3] (aI y :: aI x :: st) σ Q = ((x = y → Ev b 168 1195 [v0, v1, v2, v3] st σ Q) ∧ (¬ x = y → Ev b 168 492 [v0, v1, v2, v3] st σ Q)) := (Ev_of (k := 168) (pc := 489) (i := .if_icmp .eq 706) (len := 3) rfl _ _ _ _ _).trans rfl
set_option maxRecDepth 20000 in
theorem v_168_492 (b : B3) (v0 : AV) (v1 : AV) (v2 : AV) (v3 : AV) (st : List AV) (σ : Sto) (Q : Po) : Ev b 168 492 [v0, v1, v2, v3] st σ Q = (Ev b 168 493 [v0, v1, v2, v3] (aI 0 :: st) σ Q) := (Ev_of (k := 168) (pc := 492) (i := .iconst 0) (len := 1) rfl _ _ _ _ _).trans (congrArg (fun z => Ev b 168 493 [v0, v1, v2, v3] (aI z :: st) σ Q) ki_0)
set_option maxRecDepth 20000 in
theorem v_168_493 (b : B3) (v0 : AV) (v1 : AV) (v2 : AV) (v3 : AV) (x : Int32) (σ : Sto) (Q : Po) : Ev b 168 493 [v0, v1, v2, v3] [aI x] σ Q = ((x = 0 ∨ x = 1) ∧ Q (some (aI x)) σ) := (Ev_of (k := 168) (pc := 493) (i := .ireturn) (len := 1) rfl _ _ _ _ _).trans rfl
set_option maxRecDepth 20000 in
theorem v_168_494 (b : B3) (v0 : AV) (v1 : Option Nat) (v2 : AV) (v3 : AV) (st : List AV) (σ : Sto) (Q : Po) : Ev b 168 494 [v0, aR v1, v2, v3] st σ Q = (Ev b 168 495 [v0, aR v1, v2, v3] (aR v1 :: st) σ Q) := (Ev_of (k := 168) (pc := 494) (i := .aload_n 1) (len := 1) rfl _ _ _ _ _).trans rfl
set_option maxRecDepth 20000 in
theorem v_168_495 (b : B3) (v0 : Option Nat) (v1 : AV) (v2 : AV) (v3 : AV) (st : List AV) (σ : Sto) (Q : Po) : Ev b 168 495 [aR v0, v1, v2, v3] st σ Q = (Ev b 168 496 [aR v0, v1, v2, v3] (aR v0 :: st) σ Q) := (Ev_of (k := 168) (pc := 495) (i := .aload_n 0) (len := 1) rfl _ _ _ _ _).trans rfl
set_option maxRecDepth 20000 in
theorem v_168_496 (b : B3) (v0 : AV) (v1 : AV) (v2 : AV) (v3 : Int32) (st : List AV) (σ : Sto) (Q : Po) : Ev b 168 496 [v0, v1, v2, aI v3] st σ Q = (Ev b 168 497 [v0, v1, v2, aI v3] (aI v3 :: st) σ Q) := (Ev_of (k := 168) (pc := 496) (i := .iload_n 3) (len := 1) rfl _ _ _ _ _).trans rfl
set_option maxRecDepth 20000 in
theorem v_168_497 (b : B3) (v0 : AV) (v1 : AV) (v2 : AV) (v3 : AV) (st : List AV) (σ : Sto) (Q : Po) : Ev b 168 497 [v0, v1, v2, v3] st σ Q = (Ev b 168 498 [v0, v1, v2, v3] (aI 1 :: st) σ Q) := (Ev_of (k := 168) (pc := 497) (i := .iconst 1) (len := 1) rfl _ _ _ _ _).trans (congrArg (fun z => Ev b 168 498 [v0, v1, v2, v3] (aI z :: st) σ Q) ki_1)
set_option maxRecDepth 20000 in
theorem v_168_498 (b : B3) (v0 : AV) (v1 : AV) (v2 : AV) (v3 : AV) (st : List AV) (x y : Int32) (σ : Sto) (Q : Po) : Ev b 168 498 [v0, v1, v2, v3] (aI y :: aI x :: st) σ Q = (Ev b 168 499 [v0, v1, v2, v3] (aI (x + y) :: st) σ Q) := (Ev_of (k := 168) (pc := 498) (i := .iadd) (len := 1) rfl _ _ _ _ _).trans rfl
set_option maxRecDepth 20000 in
theorem v_168_499 (b : B3) (v0 : AV) (v1 : AV) (v2 : AV) (v3 : AV) (st : List AV) (i : Int32) (a : Nat) (σ : Sto) (Q : Po) : Ev b 168 499 [v0, v1, v2, v3] (aI i :: aR (some a) :: st) σ Q = (okX σ a i ∧ Ev b 168 500 [v0, v1, v2, v3] (aI (gi σ a i.toNatClampNeg) :: st) σ Q) := (Ev_of (k := 168) (pc := 499) (i := .iaload) (len := 1) rfl _ _ _ _ _).trans rfl
set_option maxRecDepth 20000 in
theorem v_168_500 (b : B3) (v0 : Option Nat) (v1 : AV) (v2 : AV) (v3 : AV) (st : List AV) (σ : Sto) (Q : Po) : Ev b 168 500 [aR v0, v1, v2, v3] st σ Q = (Ev b 168 501 [aR v0, v1, v2, v3] (aR v0 :: st) σ Q) := (Ev_of (k := 168) (pc := 500) (i := .aload_n 0) (len := 1) rfl _ _ _ _ _).trans rfl
set_option maxRecDepth 20000 in
theorem v_168_501 (b : B3) (v0 : AV) (v1 : AV) (v2 : AV) (v3 : Int32) (st : List AV) (σ : Sto) (Q : Po) : Ev b 168 501 [v0, v1, v2, aI v3] st σ Q = (Ev b 168 502 [v0, v1, v2, aI v3] (aI v3 :: st) σ Q) := (Ev_of (k := 168) (pc := 501) (i := .iload_n 3) (len := 1) rfl _ _ _ _ _).trans rfl
set_option maxRecDepth 20000 in
theorem v_168_502 (b : B3) (v0 : AV) (v1 : AV) (v2 : AV) (v3 : AV) (st : List AV) (σ : Sto) (Q : Po) : Ev b 168 502 [v0, v1, v2, v3] st σ Q = (Ev b 168 503 [v0, v1, v2, v3] (aI 2 :: st) σ Q) := (Ev_of (k := 168) (pc := 502) (i := .iconst 2) (len := 1) rfl _ _ _ _ _).trans (congrArg (fun z => Ev b 168 503 [v0, v1, v2, v3] (aI z :: st) σ Q) ki_2)
set_option maxRecDepth 20000 in
theorem v_168_503 (b : B3) (v0 : AV) (v1 : AV) (v2 : AV) (v3 : AV) (st : List AV) (x y : Int32) (σ : Sto) (Q : Po) : Ev b 168 503 [v0, v1, v2, v3] (aI y :: aI x :: st) σ Q = (Ev b 168 504 [v0, v1, v2, v3] (aI (x + y) :: st) σ Q) := (Ev_of (k := 168) (pc := 503) (i := .iadd) (len := 1) rfl _ _ _ _ _).trans rfl
set_option maxRecDepth 20000 in
theorem v_168_504 (b : B3) (v0 : AV) (v1 : AV) (v2 : AV) (v3 : AV) (st : List AV) (i : Int32) (a : Nat) (σ : Sto) (Q : Po) : Ev b 168 504 [v0, v1, v2, v3] (aI i :: aR (some a) :: st) σ Q = (okX σ a i ∧ Ev b 168 505 [v0, v1, v2, v3] (aI (gi σ a i.toNatClampNeg) :: st) σ Q) := (Ev_of (k := 168) (pc := 504) (i := .iaload) (len := 1) rfl _ _ _ _ _).trans rfl
set_option maxRecDepth 20000 in
theorem v_168_505 (b : B3) (v0 : Option Nat) (v1 : AV) (v2 : AV) (v3 : AV) (st : List AV) (σ : Sto) (Q : Po) : Ev b 168 505 [aR v0, v1, v2, v3] st σ Q = (Ev b 168 506 [aR v0, v1, v2, v3] (aR v0 :: st) σ Q) := (Ev_of (k := 168) (pc := 505) (i := .aload_n 0) (len := 1) rfl _ _ _ _ _).trans rfl
set_option maxRecDepth 20000 in
theorem v_168_506 (b : B3) (v0 : AV) (v1 : AV) (v2 : AV) (v3 : Int32) (st : List AV) (σ : Sto) (Q : Po) : Ev b 168 506 [v0, v1, v2, aI v3] st σ Q = (Ev b 168 507 [v0, v1, v2, aI v3] (aI v3 :: st) σ Q) := (Ev_of (k := 168) (pc := 506) (i := .iload_n 3) (len := 1) rfl _ _ _ _ _).trans rfl
set_option maxRecDepth 20000 in
theorem v_168_507 (b : B3) (v0 : AV) (v1 : AV) (v2 : AV) (v3 : AV) (st : List AV) (σ : Sto) (Q : Po) : Ev b 168 507 [v0, v1, v2, v3] st σ Q = (Ev b 168 508 [v0, v1, v2, v3] (aI 3 :: st) σ Q) := (Ev_of (k := 168) (pc := 507) (i := .iconst 3) (len := 1) rfl _ _ _ _ _).trans (congrArg (fun z => Ev b 168 508 [v0, v1, v2, v3] (aI z :: st) σ Q) ki_3)
set_option maxRecDepth 20000 in
theorem v_168_508 (b : B3) (v0 : AV) (v1 : AV) (v2 : AV) (v3 : AV) (st : List AV) (x y : Int32) (σ : Sto) (Q : Po) : Ev b 168 508 [v0, v1, v2, v3] (aI y :: aI x :: st) σ Q = (Ev b 168 509 [v0, v1, v2, v3] (aI (x + y) :: st) σ Q) := (Ev_of (k := 168) (pc := 508) (i := .iadd) (len := 1) rfl _ _ _ _ _).trans rfl
set_option maxRecDepth 20000 in
theorem v_168_509 (b : B3) (v0 : AV) (v1 : AV) (v2 : AV) (v3 : AV) (st : List AV) (i : Int32) (a : Nat) (σ : Sto) (Q : Po) : Ev b 168 509 [v0, v1, v2, v3] (aI i :: aR (some a) :: st) σ Q = (okX σ a i ∧ Ev b 168 510 [v0, v1, v2, v3] (aI (gi σ a i.toNatClampNeg) :: st) σ Q) := (Ev_of (k := 168) (pc := 509) (i := .iaload) (len := 1) rfl _ _ _ _ _).trans rfl
set_option maxRecDepth 20000 in
theorem v_168_510 (b : B3) (v0 : AV) (v1 : AV) (v2 : AV) (v3 : AV) (st : List AV) (x : Int32) (σ : Sto) (Q : Po) : Ev b 168 510 [v0, v1, v2, v3] (aI x :: st) σ Q = ((x = 0 → Ev b 168 517 [v0, v1, v2, v3] st σ Q) ∧ (¬ x = 0 → Ev b 168 513 [v0, v1, v2, v3] st σ Q)) := (Ev_of (k := 168) (pc := 510) (i := .ifCond .eq 7) (len := 3) rfl _ _ _ _ _).trans rfl
set_option maxRecDepth 20000 in
theorem v_168_513 (b : B3) (v0 : AV) (v1 : AV) (v2 : AV) (v3 : AV) (st : List AV) (σ : Sto) (Q : Po) : Ev b 168 513 [v0, v1, v2, v3] st σ Q = (Ev b 168 514 [v0, v1, v2, v3] (aI 1 :: st) σ Q) := (Ev_of (k := 168) (pc := 513) (i := .iconst 1) (len := 1) rfl _ _ _ _ _).trans (congrArg (fun z => Ev b 168 514 [v0, v1, v2, v3] (aI z :: st) σ Q) ki_1)
set_option maxRecDepth 20000 in
theorem v_168_514 (b : B3) (v0 : AV) (v1 : AV) (v2 : AV) (v3 : AV) (st : List AV) (σ : Sto) (Q : Po) : Ev b 168 514 [v0, v1, v2, v3] st σ Q = (Ev b 168 518 [v0, v1, v2, v3] st σ Q) := (Ev_of (k := 168) (pc := 514) (i := .goto 4) (len := 3) rfl _ _ _ _ _).trans rfl
set_option maxRecDepth 20000 in
theorem v_168_517 (b : B3) (v0 : AV) (v1 : AV) (v2 : AV) (v3 : AV) (st : List AV) (σ : Sto) (Q : Po) : Ev b 168 517 [v0, v1, v2, v3] st σ Q = (Ev b 168 518 [v0, v1, v2, v3] (aI 0 :: st) σ Q) := (Ev_of (k := 168) (pc := 517) (i := .iconst 0) (len := 1) rfl _ _ _ _ _).trans (congrArg (fun z => Ev b 168 518 [v0, v1, v2, v3] (aI z :: st) σ Q) ki_0)
set_option maxRecDepth 20000 in
theorem v_168_518 (b : B3) (v0 : Option Nat) (v1 : AV) (v2 : AV) (v3 : AV) (st : List AV) (σ : Sto) (Q : Po) : Ev b 168 518 [aR v0, v1, v2, v3] st σ Q = (Ev b 168 519 [aR v0, v1, v2, v3] (aR v0 :: st) σ Q) := (Ev_of (k := 168) (pc := 518) (i := .aload_n 0) (len := 1) rfl _ _ _ _ _).trans rfl
set_option maxRecDepth 20000 in
theorem v_168_519 (b : B3) (v0 : AV) (v1 : AV) (v2 : AV) (v3 : Int32) (st : List AV) (σ : Sto) (Q : Po) : Ev b 168 519 [v0, v1, v2, aI v3] st σ Q = (Ev b 168 520 [v0, v1, v2, aI v3] (aI v3 :: st) σ Q) := (Ev_of (k := 168) (pc := 519) (i := .iload_n 3) (len := 1) rfl _ _ _ _ _).trans rfl
set_option maxRecDepth 20000 in
theorem v_168_520 (b : B3) (v0 : AV) (v1 : AV) (v2 : AV) (v3 : AV) (st : List AV) (σ : Sto) (Q : Po) : Ev b 168 520 [v0, v1, v2, v3] st σ Q = (Ev b 168 521 [v0, v1, v2, v3] (aI 4 :: st) σ Q) := (Ev_of (k := 168) (pc := 520) (i := .iconst 4) (len := 1) rfl _ _ _ _ _).trans (congrArg (fun z => Ev b 168 521 [v0, v1, v2, v3] (aI z :: st) σ Q) ki_4)
set_option maxRecDepth 20000 in
theorem v_168_521 (b : B3) (v0 : AV) (v1 : AV) (v2 : AV) (v3 : AV) (st : List AV) (x y : Int32) (σ : Sto) (Q : Po) : Ev b 168 521 [v0, v1, v2, v3] (aI y :: aI x :: st) σ Q = (Ev b 168 522 [v0, v1, v2, v3] (aI (x + y) :: st) σ Q) := (Ev_of (k := 168) (pc := 521) (i := .iadd) (len := 1) rfl _ _ _ _ _).trans rfl
set_option maxRecDepth 20000 in
theorem v_168_522 (b : B3) (v0 : AV) (v1 : AV) (v2 : AV) (v3 : AV) (st : List AV) (i : Int32) (a : Nat) (σ : Sto) (Q : Po) : Ev b 168 522 [v0, v1, v2, v3] (aI i :: aR (some a) :: st) σ Q = (okX σ a i ∧ Ev b 168 523 [v0, v1, v2, v3] (aI (gi σ a i.toNatClampNeg) :: st) σ Q) := (Ev_of (k := 168) (pc := 522) (i := .iaload) (len := 1) rfl _ _ _ _ _).trans rfl
set_option maxRecDepth 20000 in
theorem v_168_523 (b : B3) (v0 : AV) (v1 : AV) (v2 : AV) (v3 : AV) (st : List AV) (x : Int32) (σ : Sto) (Q : Po) : Ev b 168 523 [v0, v1, v2, v3] (aI x :: st) σ Q = ((x = 0 → Ev b 168 530 [v0, v1, v2, v3] st σ Q) ∧ (¬ x = 0 → Ev b 168 526 [v0, v1, v2, v3] st σ Q)) := (Ev_of (k := 168) (pc := 523) (i := .ifCond .eq 7) (len := 3) rfl _ _ _ _ _).trans rfl
set_option maxRecDepth 20000 in
theorem v_168_526 (b : B3) (v0 : AV) (v1 : AV) (v2 : AV) (v3 : AV) (st : List AV) (σ : Sto) (Q : Po) : Ev b 168 526 [v0, v1, v2, v3] st σ Q = (Ev b 168 527 [v0, v1, v2, v3] (aI 1 :: st) σ Q) := (Ev_of (k := 168) (pc := 526) (i := .iconst 1) (len := 1) rfl _ _ _ _ _).trans (congrArg (fun z => Ev b 168 527 [v0, v1, v2, v3] (aI z :: st) σ Q) ki_1)
set_option maxRecDepth 20000 in
theorem v_168_527 (b : B3) (v0 : AV) (v1 : AV) (v2 : AV) (v3 : AV) (st : List AV) (σ : Sto) (Q : Po) : Ev b 168 527 [v0, v1, v2, v3] st σ Q = (Ev b 168 531 [v0, v1, v2, v3] st σ Q) := (Ev_of (k := 168) (pc := 527) (i := .goto 4) (len := 3) rfl _ _ _ _ _).trans rfl
set_option maxRecDepth 20000 in
theorem v_168_530 (b : B3) (v0 : AV) (v1 : AV) (v2 : AV) (v3 : AV) (st : List AV) (σ : Sto) (Q : Po) : Ev b 168 530 [v0, v1, v2, v3] st σ Q = (Ev b 168 531 [v0, v1, v2, v3] (aI 0 :: st) σ Q) := (Ev_of (k := 168) (pc := 530) (i := .iconst 0) (len := 1) rfl _ _ _ _ _).trans (congrArg (fun z => Ev b 168 531 [v0, v1, v2, v3] (aI z :: st) σ Q) ki_0)
set_option maxRecDepth 20000 in
theorem v_168_531 (d c s : Nat) (v0 : AV) (v1 : AV) (v2 : AV) (v3 : AV) (y0 : Int32) (y1 : Int32) (y2 : Int32) (y3 : Int32) (y4 : Nat) (σ : Sto) (Q : Po) : Ev (d + 1, c, s) 168 531 [v0, v1, v2, v3] [aI y0, aI y1, aI y2, aI y3, aR (some y4)] σ Q = (okO σ y4 5 ∧ CL d 66 [aR (some y4), aI y3, aI y2, aI y1, aI y0] σ (fun x2 σ2 => Ev (d + 1, c, s) 168 534 [v0, v1, v2, v3] [aL x2] σ2 Q)) := (g_inv (k := 168) (pc := 531) (x := 43) (i := .invokevirtual 43) rfl (Or.inl ⟨rfl, rfl⟩) rfl lq_7043).trans (congrArg (And (okO σ y4 5)) (vdo_L (k' := 66) (c1 := 0) (c2 := 0) (vs := [aR (some y4), aI y3, aI y2, aI y1, aI y0]) (rest := []) rfl rfl rfl))
set_option maxRecDepth 20000 in
theorem v_168_534 (b : B3) (v0 : AV) (v1 : AV) (v2 : Option Nat) (v3 : AV) (st : List AV) (σ : Sto) (Q : Po) : Ev b 168 534 [v0, v1, aR v2, v3] st σ Q = (Ev b 168 535 [v0, v1, aR v2, v3] (aR v2 :: st) σ Q) := (Ev_of (k := 168) (pc := 534) (i := .aload_n 2) (len := 1) rfl _ _ _ _ _).trans rfl
set_option maxRecDepth 20000 in
theorem v_168_535 (b : B3) (v0 : Option Nat) (v1 : AV) (v2 : AV) (v3 : AV) (st : List AV) (σ : Sto) (Q : Po) : Ev b 168 535 [aR v0, v1, v2, v3] st σ Q = (Ev b 168 536 [aR v0, v1, v2, v3] (aR v0 :: st) σ Q) := (Ev_of (k := 168) (pc := 535) (i := .aload_n 0) (len := 1) rfl _ _ _ _ _).trans rfl
set_option maxRecDepth 20000 in
theorem v_168_536 (b : B3) (v0 : AV) (v1 : AV) (v2 : AV) (v3 : Int32) (st : List AV) (σ : Sto) (Q : Po) : Ev b 168 536 [v0, v1, v2, aI v3] st σ Q = (Ev b 168 537 [v0, v1, v2, aI v3] (aI v3 :: st) σ Q) := (Ev_of (k := 168) (pc := 536) (i := .iload_n 3) (len := 1) rfl _ _ _ _ _).trans rfl
set_option maxRecDepth 20000 in
theorem v_168_537 (b : B3) (v0 : AV) (v1 : AV) (v2 : AV) (v3 : AV) (st : List AV) (σ : Sto) (Q : Po) : Ev b 168 537 [v0, v1, v2, v3] st σ Q = (Ev b 168 538 [v0, v1, v2, v3] (aI 1 :: st) σ Q) := (Ev_of (k := 168) (pc := 537) (i := .iconst 1) (len := 1) rfl _ _ _ _ _).trans (congrArg (fun z => Ev b 168 538 [v0, v1, v2, v3] (aI z :: st) σ Q) ki_1)
set_option maxRecDepth 20000 in
theorem v_168_538 (b : B3) (v0 : AV) (v1 : AV) (v2 : AV) (v3 : AV) (st : List AV) (x y : Int32) (σ : Sto) (Q : Po) : Ev b 168 538 [v0, v1, v2, v3] (aI y :: aI x :: st) σ Q = (Ev b 168 539 [v0, v1, v2, v3] (aI (x + y) :: st) σ Q) := (Ev_of (k := 168) (pc := 538) (i := .iadd) (len := 1) rfl _ _ _ _ _).trans rfl
set_option maxRecDepth 20000 in
theorem v_168_539 (b : B3) (v0 : AV) (v1 : AV) (v2 : AV) (v3 : AV) (st : List AV) (i : Int32) (a : Nat) (σ : Sto) (Q : Po) : Ev b 168 539 [v0, v1, v2, v3] (aI i :: aR (some a) :: st) σ Q = (okX σ a i ∧ Ev b 168 540 [v0, v1, v2, v3] (aI (gi σ a i.toNatClampNeg) :: st) σ Q) := (Ev_of (k := 168) (pc := 539) (i := .iaload) (len := 1) rfl _ _ _ _ _).trans rfl
set_option maxRecDepth 20000 in
theorem v_168_540 (b : B3) (v0 : Option Nat) (v1 : AV) (v2 : AV) (v3 : AV) (st : List AV) (σ : Sto) (Q : Po) : Ev b 168 540 [aR v0, v1, v2, v3] st σ Q = (Ev b 168 541 [aR v0, v1, v2, v3] (aR v0 :: st) σ Q) := (Ev_of (k := 168) (pc := 540) (i := .aload_n 0) (len := 1) rfl _ _ _ _ _).trans rfl
set_option maxRecDepth 20000 in
theorem v_168_541 (b : B3) (v0 : AV) (v1 : AV) (v2 : AV) (v3 : Int32) (st : List AV) (σ : Sto) (Q : Po) : Ev b 168 541 [v0, v1, v2, aI v3] st σ Q = (Ev b 168 542 [v0, v1, v2, aI v3] (aI v3 :: st) σ Q) := (Ev_of (k := 168) (pc := 541) (i := .iload_n 3) (len := 1) rfl _ _ _ _ _).trans rfl
set_option maxRecDepth 20000 in
theorem v_168_542 (b : B3) (v0 : AV) (v1 : AV) (v2 : AV) (v3 : AV) (st : List AV) (σ : Sto) (Q : Po) : Ev b 168 542 [v0, v1, v2, v3] st σ Q = (Ev b 168 543 [v0, v1, v2, v3] (aI 2 :: st) σ Q) := (Ev_of (k := 168) (pc := 542) (i := .iconst 2) (len := 1) rfl _ _ _ _ _).trans (congrArg (fun z => Ev b 168 543 [v0, v1, v2, v3] (aI z :: st) σ Q) ki_2)
set_option maxRecDepth 20000 in
theorem v_168_543 (b : B3) (v0 : AV) (v1 : AV) (v2 : AV) (v3 : AV) (st : List AV) (x y : Int32) (σ : Sto) (Q : Po) : Ev b 168 543 [v0, v1, v2, v3] (aI y :: aI x :: st) σ Q = (Ev b 168 544 [v0, v1, v2, v3] (aI (x + y) :: st) σ Q) := (Ev_of (k := 168) (pc := 543) (i := .iadd) (len := 1) rfl _ _ _ _ _).trans rfl
set_option maxRecDepth 20000 in
theorem v_168_544 (b : B3) (v0 : AV) (v1 : AV) (v2 : AV) (v3 : AV) (st : List AV) (i : Int32) (a : Nat) (σ : Sto) (Q : Po) : Ev b 168 544 [v0, v1, v2, v3] (aI i :: aR (some a) :: st) σ Q = (okX σ a i ∧ Ev b 168 545 [v0, v1, v2, v3] (aI (gi σ a i.toNatClampNeg) :: st) σ Q) := (Ev_of (k := 168) (pc := 544) (i := .iaload) (len := 1) rfl _ _ _ _ _).trans rfl
set_option maxRecDepth 20000 in
theorem v_168_545 (b : B3) (v0 : Option Nat) (v1 : AV) (v2 : AV) (v3 : AV) (st : List AV) (σ : Sto) (Q : Po) : Ev b 168 545 [aR v0, v1, v2, v3] st σ Q = (Ev b 168 546 [aR v0, v1, v2, v3] (aR v0 :: st) σ Q) := (Ev_of (k := 168) (pc := 545) (i := .aload_n 0) (len := 1) rfl _ _ _ _ _).trans rfl
set_option maxRecDepth 20000 in
theorem v_168_546 (b : B3) (v0 : AV) (v1 : AV) (v2 : AV) (v3 : Int32) (st : List AV) (σ : Sto) (Q : Po) : Ev b 168 546 [v0, v1, v2, aI v3] st σ Q = (Ev b 168 547 [v0, v1, v2, aI v3] (aI v3 :: st) σ Q) := (Ev_of (k := 168) (pc := 546) (i := .iload_n 3) (len := 1) rfl _ _ _ _ _).trans rfl
set_option maxRecDepth 20000 in
theorem v_168_547 (b : B3) (v0 : AV) (v1 : AV) (v2 : AV) (v3 : AV) (st : List AV) (σ : Sto) (Q : Po) : Ev b 168 547 [v0, v1, v2, v3] st σ Q = (Ev b 168 548 [v0, v1, v2, v3] (aI 3 :: st) σ Q) := (Ev_of (k := 168) (pc := 547) (i := .iconst 3) (len := 1) rfl _ _ _ _ _).trans (congrArg (fun z => Ev b 168 548 [v0, v1, v2, v3] (aI z :: st) σ Q) ki_3)
set_option maxRecDepth 20000 in
theorem v_168_548 (b : B3) (v0 : AV) (v1 : AV) (v2 : AV) (v3 : AV) (st : List AV) (x y : Int32) (σ : Sto) (Q : Po) : Ev b 168 548 [v0, v1, v2, v3] (aI y :: aI x :: st) σ Q = (Ev b 168 549 [v0, v1, v2, v3] (aI (x + y) :: st) σ Q) := (Ev_of (k := 168) (pc := 548) (i := .iadd) (len := 1) rfl _ _ _ _ _).trans rfl
set_option maxRecDepth 20000 in
theorem v_168_549 (b : B3) (v0 : AV) (v1 : AV) (v2 : AV) (v3 : AV) (st : List AV) (i : Int32) (a : Nat) (σ : Sto) (Q : Po) : Ev b 168 549 [v0, v1, v2, v3] (aI i :: aR (some a) :: st) σ Q = (okX σ a i ∧ Ev b 168 550 [v0, v1, v2, v3] (aI (gi σ a i.toNatClampNeg) :: st) σ Q) := (Ev_of (k := 168) (pc := 549) (i := .iaload) (len := 1) rfl _ _ _ _ _).trans rfl
set_option maxRecDepth 20000 in
theorem v_168_550 (b : B3) (v0 : AV) (v1 : AV) (v2 : AV) (v3 : AV) (st : List AV) (x : Int32) (σ : Sto) (Q : Po) : Ev b 168 550 [v0, v1, v2, v3] (aI x :: st) σ Q = ((x = 0 → Ev b 168 557 [v0, v1, v2, v3] st σ Q) ∧ (¬ x = 0 → Ev b 168 553 [v0, v1, v2, v3] st σ Q)) := (Ev_of (k := 168) (pc := 550) (i := .ifCond .eq 7) (len := 3) rfl _ _ _ _ _).trans rfl
set_option maxRecDepth 20000 in
theorem v_168_553 (b : B3) (v0 : AV) (v1 : AV) (v2 : AV) (v3 : AV) (st : List AV) (σ : Sto) (Q : Po) : Ev b 168 553 [v0, v1, v2, v3] st σ Q = (Ev b 168 554 [v0, v1, v2, v3] (aI 1 :: st) σ Q) := (Ev_of (k := 168) (pc := 553) (i := .iconst 1) (len := 1) rfl _ _ _ _ _).trans (congrArg (fun z => Ev b 168 554 [v0, v1, v2, v3] (aI z :: st) σ Q) ki_1)
set_option maxRecDepth 20000 in
theorem v_168_554 (b : B3) (v0 : AV) (v1 : AV) (v2 : AV) (v3 : AV) (st : List AV) (σ : Sto) (Q : Po) : Ev b 168 554 [v0, v1, v2, v3] st σ Q = (Ev b 168 558 [v0, v1, v2, v3] st σ Q) := (Ev_of (k := 168) (pc := 554) (i := .goto 4) (len := 3) rfl _ _ _ _ _).trans rfl
set_option maxRecDepth 20000 in
theorem v_168_557 (b : B3) (v0 : AV) (v1 : AV) (v2 : AV) (v3 : AV) (st : List AV) (σ : Sto) (Q : Po) : Ev b 168 557 [v0, v1, v2, v3] st σ Q = (Ev b 168 558 [v0, v1, v2, v3] (aI 0 :: st) σ Q) := (Ev_of (k := 168) (pc := 557) (i := .iconst 0) (len := 1) rfl _ _ _ _ _).trans (congrArg (fun z => Ev b 168 558 [v0, v1, v2, v3] (aI z :: st) σ Q) ki_0)
set_option maxRecDepth 20000 in
theorem v_168_558 (b : B3) (v0 : Option Nat) (v1 : AV) (v2 : AV) (v3 : AV) (st : List AV) (σ : Sto) (Q : Po) : Ev b 168 558 [aR v0, v1, v2, v3] st σ Q = (Ev b 168 559 [aR v0, v1, v2, v3] (aR v0 :: st) σ Q) := (Ev_of (k := 168) (pc := 558) (i := .aload_n 0) (len := 1) rfl _ _ _ _ _).trans rfl
set_option maxRecDepth 20000 in
theorem v_168_559 (b : B3) (v0 : AV) (v1 : AV) (v2 : AV) (v3 : Int32) (st : List AV) (σ : Sto) (Q : Po) : Ev b 168 559 [v0, v1, v2, aI v3] st σ Q = (Ev b 168 560 [v0, v1, v2, aI v3] (aI v3 :: st) σ Q) := (Ev_of (k := 168) (pc := 559) (i := .iload_n 3) (len := 1) rfl _ _ _ _ _).trans rfl
set_option maxRecDepth 20000 in
theorem v_168_560 (b : B3) (v0 : AV) (v1 : AV) (v2 : AV) (v3 : AV) (st : List AV) (σ : Sto) (Q : Po) : Ev b 168 560 [v0, v1, v2, v3] st σ Q = (Ev b 168 561 [v0, v1, v2, v3] (aI 4 :: st) σ Q) := (Ev_of (k := 168) (pc := 560) (i := .iconst 4) (len := 1) rfl _ _ _ _ _).trans (congrArg (fun z => Ev b 168 561 [v0, v1, v2, v3] (aI z :: st) σ Q) ki_4)
set_option maxRecDepth 20000 in
theorem v_168_561 (b : B3) (v0 : AV) (v1 : AV) (v2 : AV) (v3 : AV) (st : List AV) (x y : Int32) (σ : Sto) (Q : Po) : Ev b 168 561 [v0, v1, v2, v3] (aI y :: aI x :: st) σ Q = (Ev b 168 562 [v0, v1, v2, v3] (aI (x + y) :: st) σ Q) := (Ev_of (k := 168) (pc := 561) (i := .iadd) (len := 1) rfl _ _ _ _ _).trans rfl
set_option maxRecDepth 20000 in
theorem v_168_562 (b : B3) (v0 : AV) (v1 : AV) (v2 : AV) (v3 : AV) (st : List AV) (i : Int32) (a : Nat) (σ : Sto) (Q : Po) : Ev b 168 562 [v0, v1, v2, v3] (aI i :: aR (some a) :: st) σ Q = (okX σ a i ∧ Ev b 168 563 [v0, v1, v2, v3] (aI (gi σ a i.toNatClampNeg) :: st) σ Q) := (Ev_of (k := 168) (pc := 562) (i := .iaload) (len := 1) rfl _ _ _ _ _).trans rfl
set_option maxRecDepth 20000 in
theorem v_168_563 (b : B3) (v0 : AV) (v1 : AV) (v2 : AV) (v3 : AV) (st : List AV) (x : Int32) (σ : Sto) (Q : Po) : Ev b 168 563 [v0, v1, v2, v3] (aI x :: st) σ Q = ((x = 0 → Ev b 168 570 [v0, v1, v2, v3] st σ Q) ∧ (¬ x = 0 → Ev b 168 566 [v0, v1, v2, v3] st σ Q)) := (Ev_of (k := 168) (pc := 563) (i := .ifCond .eq 7) (len := 3) rfl _ _ _ _ _).trans rfl
set_option maxRecDepth 20000 in
theorem v_168_566 (b : B3) (v0 : AV) (v1 : AV) (v2 : AV) (v3 : AV) (st : List AV) (σ : Sto) (Q : Po) : Ev b 168 566 [v0, v1, v2, v3] st σ Q = (Ev b 168 567 [v0, v1, v2, v3] (aI 1 :: st) σ Q) := (Ev_of (k := 168) (pc := 566) (i := .iconst 1) (len := 1) rfl _ _ _ _ _).trans (congrArg (fun z => Ev b 168 567 [v0, v1, v2, v3] (aI z :: st) σ Q) ki_1)
set_option maxRecDepth 20000 in
theorem v_168_567 (b : B3) (v0 : AV) (v1 : AV) (v2 : AV) (v3 : AV) (st : List AV) (σ : Sto) (Q : Po) : Ev b 168 567 [v0, v1, v2, v3] st σ Q = (Ev b 168 571 [v0, v1, v2, v3] st σ Q) := (Ev_of (k := 168) (pc := 567) (i := .goto 4) (len := 3) rfl _ _ _ _ _).trans rfl
set_option maxRecDepth 20000 in
theorem v_168_570 (b : B3) (v0 : AV) (v1 : AV) (v2 : AV) (v3 : AV) (st : List AV) (σ : Sto) (Q : Po) : Ev b 168 570 [v0, v1, v2, v3] st σ Q = (Ev b 168 571 [v0, v1, v2, v3] (aI 0 :: st) σ Q) := (Ev_of (k := 168) (pc := 570) (i := .iconst 0) (len := 1) rfl _ _ _ _ _).trans (congrArg (fun z => Ev b 168 571 [v0, v1, v2, v3] (aI z :: st) σ Q) ki_0)
set_option maxRecDepth 20000 in
theorem v_168_571 (d c s : Nat) (v0 : AV) (v1 : AV) (v2 : AV) (v3 : AV) (y0 : Int32) (y1 : Int32) (y2 : Int32) (y3 : Int32) (y4 : Nat) (y5 : Int64) (σ : Sto) (Q : Po) : Ev (d + 1, c, s) 168 571 [v0, v1, v2, v3] [aI y0, aI y1, aI y2, aI y3, aR (some y4), aL y5] σ Q = (okO σ y4 6 ∧ CL d 142 [aR (some y4), aI y3, aI y2, aI y1, aI y0] σ (fun x2 σ2 => Ev (d + 1, c, s) 168 574 [v0, v1, v2, v3] [aL x2, aL y5] σ2 Q)) := (g_inv (k := 168) (pc := 571) (x := 47) (i := .invokevirtual 47) rfl (Or.inl ⟨rfl, rfl⟩) rfl lq_7047).trans (congrArg (And (okO σ y4 6)) (vdo_L (k' := 142) (c1 := 0) (c2 := 0) (vs := [aR (some y4), aI y3, aI y2, aI y1, aI y0]) (rest := [aL y5]) rfl rfl rfl))
set_option maxRecDepth 20000 in
theorem v_168_574 (b : B3) (v0 : AV) (v1 : AV) (v2 : AV) (v3 : AV) (st : List AV) (x y : Int64) (σ : Sto) (Q : Po) : Ev b 168 574 [v0, v1, v2, v3] (aL y :: aL x :: st) σ Q = (Ev b 168 575 [v0, v1, v2, v3] (aI (lg_cmp x y) :: st) σ Q) := (Ev_of (k := 168) (pc := 574) (i := .lcmp) (len := 1) rfl _ _ _ _ _).trans rfl
set_option maxRecDepth 20000 in
theorem v_168_575 (b : B3) (v0 : AV) (v1 : AV) (v2 : AV) (v3 : AV) (st : List AV) (x : Int32) (σ : Sto) (Q : Po) : Ev b 168 575 [v0, v1, v2, v3] (aI x :: st) σ Q = ((x = 0 → Ev b 168 1195 [v0, v1, v2, v3] st σ Q) ∧ (¬ x = 0 → Ev b 168 578 [v0, v1, v2, v3] st σ Q)) := (Ev_of (k := 168) (pc := 575) (i := .ifCond .eq 620) (len := 3) rfl _ _ _ _ _).trans rfl
set_option maxRecDepth 20000 in
theorem v_168_578 (b : B3) (v0 : AV) (v1 : AV) (v2 : AV) (v3 : AV) (st : List AV) (σ : Sto) (Q : Po) : Ev b 168 578 [v0, v1, v2, v3] st σ Q = (Ev b 168 579 [v0, v1, v2, v3] (aI 0 :: st) σ Q) := (Ev_of (k := 168) (pc := 578) (i := .iconst 0) (len := 1) rfl _ _ _ _ _).trans (congrArg (fun z => Ev b 168 579 [v0, v1, v2, v3] (aI z :: st) σ Q) ki_0)
set_option maxRecDepth 20000 in
theorem v_168_579 (b : B3) (v0 : AV) (v1 : AV) (v2 : AV) (v3 : AV) (x : Int32) (σ : Sto) (Q : Po) : Ev b 168 579 [v0, v1, v2, v3] [aI x] σ Q = ((x = 0 ∨ x = 1) ∧ Q (some (aI x)) σ) := (Ev_of (k := 168) (pc := 579) (i := .ireturn) (len := 1) rfl _ _ _ _ _).trans rfl
set_option maxRecDepth 20000 in
theorem v_168_580 (b : B3) (v0 : AV) (v1 : Option Nat) (v2 : AV) (v3 : AV) (st : List AV) (σ : Sto) (Q : Po) : Ev b 168 580 [v0, aR v1, v2, v3] st σ Q = (Ev b 168 581 [v0, aR v1, v2, v3] (aR v1 :: st) σ Q) := (Ev_of (k := 168) (pc := 580) (i := .aload_n 1) (len := 1) rfl _ _ _ _ _).trans rfl
set_option maxRecDepth 20000 in
theorem v_168_581 (b : B3) (v0 : Option Nat) (v1 : AV) (v2 : AV) (v3 : AV) (st : List AV) (σ : Sto) (Q : Po) : Ev b 168 581 [aR v0, v1, v2, v3] st σ Q = (Ev b 168 582 [aR v0, v1, v2, v3] (aR v0 :: st) σ Q) := (Ev_of (k := 168) (pc := 581) (i := .aload_n 0) (len := 1) rfl _ _ _ _ _).trans rfl
set_option maxRecDepth 20000 in
theorem v_168_582 (b : B3) (v0 : AV) (v1 : AV) (v2 : AV) (v3 : Int32) (st : List AV) (σ : Sto) (Q : Po) : Ev b 168 582 [v0, v1, v2, aI v3] st σ Q = (Ev b 168 583 [v0, v1, v2, aI v3] (aI v3 :: st) σ Q) := (Ev_of (k := 168) (pc := 582) (i := .iload_n 3) (len := 1) rfl _ _ _ _ _).trans rfl
set_option maxRecDepth 20000 in
theorem v_168_583 (b : B3) (v0 : AV) (v1 : AV) (v2 : AV) (v3 : AV) (st : List AV) (σ : Sto) (Q : Po) : Ev b 168 583 [v0, v1, v2, v3] st σ Q = (Ev b 168 584 [v0, v1, v2, v3] (aI 1 :: st) σ Q) := (Ev_of (k := 168) (pc := 583) (i := .iconst 1) (len := 1) rfl _ _ _ _ _).trans (congrArg (fun z => Ev b 168 584 [v0, v1, v2, v3] (aI z :: st) σ Q) ki_1)
set_option maxRecDepth 20000 in
theorem v_168_584 (b : B3) (v0 : AV) (v1 : AV) (v2 : AV) (v3 : AV) (st : List AV) (x y : Int32) (σ : Sto) (Q : Po) : Ev b 168 584 [v0, v1, v2, v3] (aI y :: aI x :: st) σ Q = (Ev b 168 585 [v0, v1, v2, v3] (aI (x + y) :: st) σ Q) := (Ev_of (k := 168) (pc := 584) (i := .iadd) (len := 1) rfl _ _ _ _ _).trans rfl
set_option maxRecDepth 20000 in
theorem v_168_585 (b : B3) (v0 : AV) (v1 : AV) (v2 : AV) (v3 : AV) (st : List AV) (i : Int32) (a : Nat) (σ : Sto) (Q : Po) : Ev b 168 585 [v0, v1, v2, v3] (aI i :: aR (some a) :: st) σ Q = (okX σ a i ∧ Ev b 168 586 [v0, v1, v2, v3] (aI (gi σ a i.toNatClampNeg) :: st) σ Q) := (Ev_of (k := 168) (pc := 585) (i := .iaload) (len := 1) rfl _ _ _ _ _).trans rfl
set_option maxRecDepth 20000 in
theorem v_168_586 (b : B3) (v0 : Option Nat) (v1 : AV) (v2 : AV) (v3 : AV) (st : List AV) (σ : Sto) (Q : Po) : Ev b 168 586 [aR v0, v1, v2, v3] st σ Q = (Ev b 168 587 [aR v0, v1, v2, v3] (aR v0 :: st) σ Q) := (Ev_of (k := 168) (pc := 586) (i := .aload_n 0) (len := 1) rfl _ _ _ _ _).trans rfl
set_option maxRecDepth 20000 in
theorem v_168_587 (b : B3) (v0 : AV) (v1 : AV) (v2 : AV) (v3 : Int32) (st : List AV) (σ : Sto) (Q : Po) : Ev b 168 587 [v0, v1, v2, aI v3] st σ Q = (Ev b 168 588 [v0, v1, v2, aI v3] (aI v3 :: st) σ Q) := (Ev_of (k := 168) (pc := 587) (i := .iload_n 3) (len := 1) rfl _ _ _ _ _).trans rfl
set_option maxRecDepth 20000 in
theorem v_168_588 (b : B3) (v0 : AV) (v1 : AV) (v2 : AV) (v3 : AV) (st : List AV) (σ : Sto) (Q : Po) : Ev b 168 588 [v0, v1, v2, v3] st σ Q = (Ev b 168 589 [v0, v1, v2, v3] (aI 2 :: st) σ Q) := (Ev_of (k := 168) (pc := 588) (i := .iconst 2) (len := 1) rfl _ _ _ _ _).trans (congrArg (fun z => Ev b 168 589 [v0, v1, v2, v3] (aI z :: st) σ Q) ki_2)
set_option maxRecDepth 20000 in
theorem v_168_589 (b : B3) (v0 : AV) (v1 : AV) (v2 : AV) (v3 : AV) (st : List AV) (x y : Int32) (σ : Sto) (Q : Po) : Ev b 168 589 [v0, v1, v2, v3] (aI y :: aI x :: st) σ Q = (Ev b 168 590 [v0, v1, v2, v3] (aI (x + y) :: st) σ Q) := (Ev_of (k := 168) (pc := 589) (i := .iadd) (len := 1) rfl _ _ _ _ _).trans rfl
set_option maxRecDepth 20000 in
theorem v_168_590 (b : B3) (v0 : AV) (v1 : AV) (v2 : AV) (v3 : AV) (st : List AV) (i : Int32) (a : Nat) (σ : Sto) (Q : Po) : Ev b 168 590 [v0, v1, v2, v3] (aI i :: aR (some a) :: st) σ Q = (okX σ a i ∧ Ev b 168 591 [v0, v1, v2, v3] (aI (gi σ a i.toNatClampNeg) :: st) σ Q) := (Ev_of (k := 168) (pc := 590) (i := .iaload) (len := 1) rfl _ _ _ _ _).trans rfl
set_option maxRecDepth 20000 in
theorem v_168_591 (d c s : Nat) (v0 : AV) (v1 : AV) (v2 : AV) (v3 : AV) (y0 : Int32) (y1 : Int32) (y2 : Nat) (σ : Sto) (Q : Po) : Ev (d + 1, c, s) 168 591 [v0, v1, v2, v3] [aI y0, aI y1, aR (some y2)] σ Q = (okO σ y2 5 ∧ CL d 67 [aR (some y2), aI y1, aI y0] σ (fun x2 σ2 => Ev (d + 1, c, s) 168 594 [v0, v1, v2, v3] [aL x2] σ2 Q)) := (g_inv (k := 168) (pc := 591) (x := 48) (i := .invokevirtual 48) rfl (Or.inl ⟨rfl, rfl⟩) rfl lq_7048).trans (congrArg (And (okO σ y2 5)) (vdo_L (k' := 67) (c1 := 0) (c2 := 0) (vs := [aR (some y2), aI y1, aI y0]) (rest := []) rfl rfl rfl))
set_option maxRecDepth 20000 in
theorem v_168_594 (b : B3) (v0 : AV) (v1 : AV) (v2 : Option Nat) (v3 : AV) (st : List AV) (σ : Sto) (Q : Po) : Ev b 168 594 [v0, v1, aR v2, v3] st σ Q = (Ev b 168 595 [v0, v1, aR v2, v3] (aR v2 :: st) σ Q) := (Ev_of (k := 168) (pc := 594) (i := .aload_n 2) (len := 1) rfl _ _ _ _ _).trans rfl
set_option maxRecDepth 20000 in
theorem v_168_595 (b : B3) (v0 : Option Nat) (v1 : AV) (v2 : AV) (v3 : AV) (st : List AV) (σ : Sto) (Q : Po) : Ev b 168 595 [aR v0, v1, v2, v3] st σ Q = (Ev b 168 596 [aR v0, v1, v2, v3] (aR v0 :: st) σ Q) := (Ev_of (k := 168) (pc := 595) (i := .aload_n 0) (len := 1) rfl _ _ _ _ _).trans rfl
set_option maxRecDepth 20000 in
theorem v_168_596 (b : B3) (v0 : AV) (v1 : AV) (v2 : AV) (v3 : Int32) (st : List AV) (σ : Sto) (Q : Po) : Ev b 168 596 [v0, v1, v2, aI v3] st σ Q = (Ev b 168 597 [v0, v1, v2, aI v3] (aI v3 :: st) σ Q) := (Ev_of (k := 168) (pc := 596) (i := .iload_n 3) (len := 1) rfl _ _ _ _ _).trans rfl
set_option maxRecDepth 20000 in
theorem v_168_597 (b : B3) (v0 : AV) (v1 : AV) (v2 : AV) (v3 : AV) (st : List AV) (σ : Sto) (Q : Po) : Ev b 168 597 [v0, v1, v2, v3] st σ Q = (Ev b 168 598 [v0, v1, v2, v3] (aI 1 :: st) σ Q) := (Ev_of (k := 168) (pc := 597) (i := .iconst 1) (len := 1) rfl _ _ _ _ _).trans (congrArg (fun z => Ev b 168 598 [v0, v1, v2, v3] (aI z :: st) σ Q) ki_1)
set_option maxRecDepth 20000 in
theorem v_168_598 (b : B3) (v0 : AV) (v1 : AV) (v2 : AV) (v3 : AV) (st : List AV) (x y : Int32) (σ : Sto) (Q : Po) : Ev b 168 598 [v0, v1, v2, v3] (aI y :: aI x :: st) σ Q = (Ev b 168 599 [v0, v1, v2, v3] (aI (x + y) :: st) σ Q) := (Ev_of (k := 168) (pc := 598) (i := .iadd) (len := 1) rfl _ _ _ _ _).trans rfl
set_option maxRecDepth 20000 in
theorem v_168_599 (b : B3) (v0 : AV) (v1 : AV) (v2 : AV) (v3 : AV) (st : List AV) (i : Int32) (a : Nat) (σ : Sto) (Q : Po) : Ev b 168 599 [v0, v1, v2, v3] (aI i :: aR (some a) :: st) σ Q = (okX σ a i ∧ Ev b 168 600 [v0, v1, v2, v3] (aI (gi σ a i.toNatClampNeg) :: st) σ Q) := (Ev_of (k := 168) (pc := 599) (i := .iaload) (len := 1) rfl _ _ _ _ _).trans rfl
set_option maxRecDepth 20000 in
theorem v_168_600 (b : B3) (v0 : Option Nat) (v1 : AV) (v2 : AV) (v3 : AV) (st : List AV) (σ : Sto) (Q : Po) : Ev b 168 600 [aR v0, v1, v2, v3] st σ Q = (Ev b 168 601 [aR v0, v1, v2, v3] (aR v0 :: st) σ Q) := (Ev_of (k := 168) (pc := 600) (i := .aload_n 0) (len := 1) rfl _ _ _ _ _).trans rfl
set_option maxRecDepth 20000 in
theorem v_168_601 (b : B3) (v0 : AV) (v1 : AV) (v2 : AV) (v3 : Int32) (st : List AV) (σ : Sto) (Q : Po) : Ev b 168 601 [v0, v1, v2, aI v3] st σ Q = (Ev b 168 602 [v0, v1, v2, aI v3] (aI v3 :: st) σ Q) := (Ev_of (k := 168) (pc := 601) (i := .iload_n 3) (len := 1) rfl _ _ _ _ _).trans rfl
set_option maxRecDepth 20000 in
theorem v_168_602 (b : B3) (v0 : AV) (v1 : AV) (v2 : AV) (v3 : AV) (st : List AV) (σ : Sto) (Q : Po) : Ev b 168 602 [v0, v1, v2, v3] st σ Q = (Ev b 168 603 [v0, v1, v2, v3] (aI 2 :: st) σ Q) := (Ev_of (k := 168) (pc := 602) (i := .iconst 2) (len := 1) rfl _ _ _ _ _).trans (congrArg (fun z => Ev b 168 603 [v0, v1, v2, v3] (aI z :: st) σ Q) ki_2)
set_option maxRecDepth 20000 in
theorem v_168_603 (b : B3) (v0 : AV) (v1 : AV) (v2 : AV) (v3 : AV) (st : List AV) (x y : Int32) (σ : Sto) (Q : Po) : Ev b 168 603 [v0, v1, v2, v3] (aI y :: aI x :: st) σ Q = (Ev b 168 604 [v0, v1, v2, v3] (aI (x + y) :: st) σ Q) := (Ev_of (k := 168) (pc := 603) (i := .iadd) (len := 1) rfl _ _ _ _ _).trans rfl
set_option maxRecDepth 20000 in
theorem v_168_604 (b : B3) (v0 : AV) (v1 : AV) (v2 : AV) (v3 : AV) (st : List AV) (i : Int32) (a : Nat) (σ : Sto) (Q : Po) : Ev b 168 604 [v0, v1, v2, v3] (aI i :: aR (some a) :: st) σ Q = (okX σ a i ∧ Ev b 168 605 [v0, v1, v2, v3] (aI (gi σ a i.toNatClampNeg) :: st) σ Q) := (Ev_of (k := 168) (pc := 604) (i := .iaload) (len := 1) rfl _ _ _ _ _).trans rfl
set_option maxRecDepth 20000 in
theorem v_168_605 (d c s : Nat) (v0 : AV) (v1 : AV) (v2 : AV) (v3 : AV) (y0 : Int32) (y1 : Int32) (y2 : Nat) (y3 : Int64) (σ : Sto) (Q : Po) : Ev (d + 1, c, s) 168 605 [v0, v1, v2, v3] [aI y0, aI y1, aR (some y2), aL y3] σ Q = (okO σ y2 6 ∧ CL d 131 [aR (some y2), aI y1, aI y0] σ (fun x2 σ2 => Ev (d + 1, c, s) 168 608 [v0, v1, v2, v3] [aL x2, aL y3] σ2 Q)) := (g_inv (k := 168) (pc := 605) (x := 52) (i := .invokevirtual 52) rfl (Or.inl ⟨rfl, rfl⟩) rfl lq_7052).trans (congrArg (And (okO σ y2 6)) (vdo_L (k' := 131) (c1 := 0) (c2 := 0) (vs := [aR (some y2), aI y1, aI y0]) (rest := [aL y3]) rfl rfl rfl))
set_option maxRecDepth 20000 in
theorem v_168_608 (b : B3) (v0 : AV) (v1 : AV) (v2 : AV) (v3 : AV) (st : List AV) (x y : Int64) (σ : Sto) (Q : Po) : Ev b 168 608 [v0, v1, v2, v3] (aL y :: aL x :: st) σ Q = (Ev b 168 609 [v0, v1, v2, v3] (aI (lg_cmp x y) :: st) σ Q) := (Ev_of (k := 168) (pc := 608) (i := .lcmp) (len := 1) rfl _ _ _ _ _).trans rfl
set_option maxRecDepth 20000 in
theorem v_168_609 (b : B3) (v0 : AV) (v1 : AV) (v2 : AV) (v3 : AV) (st : List AV) (x : Int32) (σ : Sto) (Q : Po) : Ev b 168 609 [v0, v1, v2, v3] (aI x :: st) σ Q = ((x = 0 → Ev b 168 1195 [v0, v1, v2, v3] st σ Q) ∧ (¬ x = 0 → Ev b 168 612 [v0, v1, v2, v3] st σ Q)) := (Ev_of (k := 168) (pc := 609) (i := .ifCond .eq 586) (len := 3) rfl _ _ _ _ _).trans rfl
set_option maxRecDepth 20000 in
theorem v_168_612 (b : B3) (v0 : AV) (v1 : AV) (v2 : AV) (v3 : AV) (st : List AV) (σ : Sto) (Q : Po) : Ev b 168 612 [v0, v1, v2, v3] st σ Q = (Ev b 168 613 [v0, v1, v2, v3] (aI 0 :: st) σ Q) := (Ev_of (k := 168) (pc := 612) (i := .iconst 0) (len := 1) rfl _ _ _ _ _).trans (congrArg (fun z => Ev b 168 613 [v0, v1, v2, v3] (aI z :: st) σ Q) ki_0)
set_option maxRecDepth 20000 in
theorem v_168_613 (b : B3) (v0 : AV) (v1 : AV) (v2 : AV) (v3 : AV) (x : Int32) (σ : Sto) (Q : Po) : Ev b 168 613 [v0, v1, v2, v3] [aI x] σ Q = ((x = 0 ∨ x = 1) ∧ Q (some (aI x)) σ) := (Ev_of (k := 168) (pc := 613) (i := .ireturn) (len := 1) rfl _ _ _ _ _).trans rfl
set_option maxRecDepth 20000 in
theorem v_168_614 (b : B3) (v0 : AV) (v1 : Option Nat) (v2 : AV) (v3 : AV) (st : List AV) (σ : Sto) (Q : Po) : Ev b 168 614 [v0, aR v1, v2, v3] st σ Q = (Ev b 168 615 [v0, aR v1, v2, v3] (aR v1 :: st) σ Q) := (Ev_of (k := 168) (pc := 614) (i := .aload_n 1) (len := 1) rfl _ _ _ _ _).trans rfl
set_option maxRecDepth 20000 in
theorem v_168_615 (b : B3) (v0 : Option Nat) (v1 : AV) (v2 : AV) (v3 : AV) (st : List AV) (σ : Sto) (Q : Po) : Ev b 168 615 [aR v0, v1, v2, v3] st σ Q = (Ev b 168 616 [aR v0, v1, v2, v3] (aR v0 :: st) σ Q) := (Ev_of (k := 168) (pc := 615) (i := .aload_n 0) (len := 1) rfl _ _ _ _ _).trans rfl
set_option maxRecDepth 20000 in
theorem v_168_616 (b : B3) (v0 : AV) (v1 : AV) (v2 : AV) (v3 : Int32) (st : List AV) (σ : Sto) (Q : Po) : Ev b 168 616 [v0, v1, v2, aI v3] st σ Q = (Ev b 168 617 [v0, v1, v2, aI v3] (aI v3 :: st) σ Q) := (Ev_of (k := 168) (pc := 616) (i := .iload_n 3) (len := 1) rfl _ _ _ _ _).trans rfl
set_option maxRecDepth 20000 in
theorem v_168_617 (b : B3) (v0 : AV) (v1 : AV) (v2 : AV) (v3 : AV) (st : List AV) (σ : Sto) (Q : Po) : Ev b 168 617 [v0, v1, v2, v3] st σ Q = (Ev b 168 618 [v0, v1, v2, v3] (aI 1 :: st) σ Q) := (Ev_of (k := 168) (pc := 617) (i := .iconst 1) (len := 1) rfl _ _ _ _ _).trans (congrArg (fun z => Ev b 168 618 [v0, v1, v2, v3] (aI z :: st) σ Q) ki_1)
set_option maxRecDepth 20000 in
theorem v_168_618 (b : B3) (v0 : AV) (v1 : AV) (v2 : AV) (v3 : AV) (st : List AV) (x y : Int32) (σ : Sto) (Q : Po) : Ev b 168 618 [v0, v1, v2, v3] (aI y :: aI x :: st) σ Q = (Ev b 168 619 [v0, v1, v2, v3] (aI (x + y) :: st) σ Q) := (Ev_of (k := 168) (pc := 618) (i := .iadd) (len := 1) rfl _ _ _ _ _).trans rfl
set_option maxRecDepth 20000 in
theorem v_168_619 (b : B3) (v0 : AV) (v1 : AV) (v2 : AV) (v3 : AV) (st : List AV) (i : Int32) (a : Nat) (σ : Sto) (Q : Po) : Ev b 168 619 [v0, v1, v2, v3] (aI i :: aR (some a) :: st) σ Q = (okX σ a i ∧ Ev b 168 620 [v0, v1, v2, v3] (aI (gi σ a i.toNatClampNeg) :: st) σ Q) := (Ev_of (k := 168) (pc := 619) (i := .iaload) (len := 1) rfl _ _ _ _ _).trans rfl
set_option maxRecDepth 20000 in
theorem v_168_620 (b : B3) (v0 : Option Nat) (v1 : AV) (v2 : AV) (v3 : AV) (st : List AV) (σ : Sto) (Q : Po) : Ev b 168 620 [aR v0, v1, v2, v3] st σ Q = (Ev b 168 621 [aR v0, v1, v2, v3] (aR v0 :: st) σ Q) := (Ev_of (k := 168) (pc := 620) (i := .aload_n 0) (len := 1) rfl _ _ _ _ _).trans rfl
set_option maxRecDepth 20000 in
theorem v_168_621 (b : B3) (v0 : AV) (v1 : AV) (v2 : AV) (v3 : Int32) (st : List AV) (σ : Sto) (Q : Po) : Ev b 168 621 [v0, v1, v2, aI v3] st σ Q = (Ev b 168 622 [v0, v1, v2, aI v3] (aI v3 :: st) σ Q) := (Ev_of (k := 168) (pc := 621) (i := .iload_n 3) (len := 1) rfl _ _ _ _ _).trans rfl
set_option maxRecDepth 20000 in
theorem v_168_622 (b : B3) (v0 : AV) (v1 : AV) (v2 : AV) (v3 : AV) (st : List AV) (σ : Sto) (Q : Po) : Ev b 168 622 [v0, v1, v2, v3] st σ Q = (Ev b 168 623 [v0, v1, v2, v3] (aI 2 :: st) σ Q) := (Ev_of (k := 168) (pc := 622) (i := .iconst 2) (len := 1) rfl _ _ _ _ _).trans (congrArg (fun z => Ev b 168 623 [v0, v1, v2, v3] (aI z :: st) σ Q) ki_2)
set_option maxRecDepth 20000 in
theorem v_168_623 (b : B3) (v0 : AV) (v1 : AV) (v2 : AV) (v3 : AV) (st : List AV) (x y : Int32) (σ : Sto) (Q : Po) : Ev b 168 623 [v0, v1, v2, v3] (aI y :: aI x :: st) σ Q = (Ev b 168 624 [v0, v1, v2, v3] (aI (x + y) :: st) σ Q) := (Ev_of (k := 168) (pc := 623) (i := .iadd) (len := 1) rfl _ _ _ _ _).trans rfl
set_option maxRecDepth 20000 in
theorem v_168_624 (b : B3) (v0 : AV) (v1 : AV) (v2 : AV) (v3 : AV) (st : List AV) (i : Int32) (a : Nat) (σ : Sto) (Q : Po) : Ev b 168 624 [v0, v1, v2, v3] (aI i :: aR (some a) :: st) σ Q = (okX σ a i ∧ Ev b 168 625 [v0, v1, v2, v3] (aI (gi σ a i.toNatClampNeg) :: st) σ Q) := (Ev_of (k := 168) (pc := 624) (i := .iaload) (len := 1) rfl _ _ _ _ _).trans rfl
set_option maxRecDepth 20000 in
theorem v_168_625 (b : B3) (v0 : Option Nat) (v1 : AV) (v2 : AV) (v3 : AV) (st : List AV) (σ : Sto) (Q : Po) : Ev b 168 625 [aR v0, v1, v2, v3] st σ Q = (Ev b 168 626 [aR v0, v1, v2, v3] (aR v0 :: st) σ Q) := (Ev_of (k := 168) (pc := 625) (i := .aload_n 0) (len := 1) rfl _ _ _ _ _).trans rfl
set_option maxRecDepth 20000 in
theorem v_168_626 (b : B3) (v0 : AV) (v1 : AV) (v2 : AV) (v3 : Int32) (st : List AV) (σ : Sto) (Q : Po) : Ev b 168 626 [v0, v1, v2, aI v3] st σ Q = (Ev b 168 627 [v0, v1, v2, aI v3] (aI v3 :: st) σ Q) := (Ev_of (k := 168) (pc := 626) (i := .iload_n 3) (len := 1) rfl _ _ _ _ _).trans rfl
set_option maxRecDepth 20000 in
theorem v_168_627 (b : B3) (v0 : AV) (v1 : AV) (v2 : AV) (v3 : AV) (st : List AV) (σ : Sto) (Q : Po) : Ev b 168 627 [v0, v1, v2, v3] st σ Q = (Ev b 168 628 [v0, v1, v2, v3] (aI 3 :: st) σ Q) := (Ev_of (k := 168) (pc := 627) (i := .iconst 3) (len := 1) rfl _ _ _ _ _).trans (congrArg (fun z => Ev b 168 628 [v0, v1, v2, v3] (aI z :: st) σ Q) ki_3)
set_option maxRecDepth 20000 in
theorem v_168_628 (b : B3) (v0 : AV) (v1 : AV) (v2 : AV) (v3 : AV) (st : List AV) (x y : Int32) (σ : Sto) (Q : Po) : Ev b 168 628 [v0, v1, v2, v3] (aI y :: aI x :: st) σ Q = (Ev b 168 629 [v0, v1, v2, v3] (aI (x + y) :: st) σ Q) := (Ev_of (k := 168) (pc := 628) (i := .iadd) (len := 1) rfl _ _ _ _ _).trans rfl
set_option maxRecDepth 20000 in
theorem v_168_629 (b : B3) (v0 : AV) (v1 : AV) (v2 : AV) (v3 : AV) (st : List AV) (i : Int32) (a : Nat) (σ : Sto) (Q : Po) : Ev b 168 629 [v0, v1, v2, v3] (aI i :: aR (some a) :: st) σ Q = (okX σ a i ∧ Ev b 168 630 [v0, v1, v2, v3] (aI (gi σ a i.toNatClampNeg) :: st) σ Q) := (Ev_of (k := 168) (pc := 629) (i := .iaload) (len := 1) rfl _ _ _ _ _).trans rfl
set_option maxRecDepth 20000 in
theorem v_168_630 (d c s : Nat) (v0 : AV) (v1 : AV) (v2 : AV) (v3 : AV) (y0 : Int32) (y1 : Int32) (y2 : Int32) (y3 : Nat) (σ : Sto) (Q : Po) : Ev (d + 1, c, s) 168 630 [v0, v1, v2, v3] [aI y0, aI y1, aI y2, aR (some y3)] σ Q = (okO σ y3 5 ∧ CL d 68 [aR (some y3), aI y2, aI y1, aI y0] σ (fun x2 σ2 => Ev (d + 1, c, s) 168 633 [v0, v1, v2, v3] [aL x2] σ2 Q)) := (g_inv (k := 168) (pc := 630) (x := 53) (i := .invokevirtual 53) rfl (Or.inl ⟨rfl, rfl⟩) rfl lq_7053).trans (congrArg (And (okO σ y3 5)) (vdo_L (k' := 68) (c1 := 0) (c2 := 0) (vs := [aR (some y3), aI y2, aI y1, aI y0]) (rest := []) rfl rfl rfl))
set_option maxRecDepth 20000 in
theorem v_168_633 (b : B3) (v0 : AV) (v1 : AV) (v2 : Option Nat) (v3 : AV) (st : List AV) (σ : Sto) (Q : Po) : Ev b 168 633 [v0, v1, aR v2, v3] st σ Q = (Ev b 168 634 [v0, v1, aR v2, v3] (aR v2 :: st) σ Q) := (Ev_of (k := 168) (pc := 633) (i := .aload_n 2) (len := 1) rfl _ _ _ _ _).trans rfl
set_option maxRecDepth 20000 in
theorem v_168_634 (b : B3) (v0 : Option Nat) (v1 : AV) (v2 : AV) (v3 : AV) (st : List AV) (σ : Sto) (Q : Po) : Ev b 168 634 [aR v0, v1, v2, v3] st σ Q = (Ev b 168 635 [aR v0, v1, v2, v3] (aR v0 :: st) σ Q) := (Ev_of (k := 168) (pc := 634) (i := .aload_n 0) (len := 1) rfl _ _ _ _ _).trans rfl
set_option maxRecDepth 20000 in
theorem v_168_635 (b : B3) (v0 : AV) (v1 : AV) (v2 : AV) (v3 : Int32) (st : List AV) (σ : Sto) (Q : Po) : Ev b 168 635 [v0, v1, v2, aI v3] st σ Q = (Ev b 168 636 [v0, v1, v2, aI v3] (aI v3 :: st) σ Q) := (Ev_of (k := 168) (pc := 635) (i := .iload_n 3) (len := 1) rfl _ _ _ _ _).trans rfl
set_option maxRecDepth 20000 in
theorem v_168_636 (b : B3) (v0 : AV) (v1 : AV) (v2 : AV) (v3 : AV) (st : List AV) (σ : Sto) (Q : Po) : Ev b 168 636 [v0, v1, v2, v3] st σ Q = (Ev b 168 637 [v0, v1, v2, v3] (aI 1 :: st) σ Q) := (Ev_of (k := 168) (pc := 636) (i := .iconst 1) (len := 1) rfl _ _ _ _ _).trans (congrArg (fun z => Ev b 168 637 [v0, v1, v2, v3] (aI z :: st) σ Q) ki_1)
set_option maxRecDepth 20000 in
theorem v_168_637 (b : B3) (v0 : AV) (v1 : AV) (v2 : AV) (v3 : AV) (st : List AV) (x y : Int32) (σ : Sto) (Q : Po) : Ev b 168 637 [v0, v1, v2, v3] (aI y :: aI x :: st) σ Q = (Ev b 168 638 [v0, v1, v2, v3] (aI (x + y) :: st) σ Q) := (Ev_of (k := 168) (pc := 637) (i := .iadd) (len := 1) rfl _ _ _ _ _).trans rfl
set_option maxRecDepth 20000 in
theorem v_168_638 (b : B3) (v0 : AV) (v1 : AV) (v2 : AV) (v3 : AV) (st : List AV) (i : Int32) (a : Nat) (σ : Sto) (Q : Po) : Ev b 168 638 [v0, v1, v2, v3] (aI i :: aR (some a) :: st) σ Q = (okX σ a i ∧ Ev b 168 639 [v0, v1, v2, v3] (aI (gi σ a i.toNatClampNeg) :: st) σ Q) := (Ev_of (k := 168) (pc := 638) (i := .iaload) (len := 1) rfl _ _ _ _ _).trans rfl
set_option maxRecDepth 20000 in
theorem v_168_639 (b : B3) (v0 : Option Nat) (v1 : AV) (v2 : AV) (v3 : AV) (st : List AV) (σ : Sto) (Q : Po) : Ev b 168 639 [aR v0, v1, v2, v3] st σ Q = (Ev b 168 640 [aR v0, v1, v2, v3] (aR v0 :: st) σ Q) := (Ev_of (k := 168) (pc := 639) (i := .aload_n 0) (len := 1) rfl _ _ _ _ _).trans rfl
set_option maxRecDepth 20000 in
theorem v_168_640 (b : B3) (v0 : AV) (v1 : AV) (v2 : AV) (v3 : Int32) (st : List AV) (σ : Sto) (Q : Po) : Ev b 168 640 [v0, v1, v2, aI v3] st σ Q = (Ev b 168 641 [v0, v1, v2, aI v3] (aI v3 :: st) σ Q) := (Ev_of (k := 168) (pc := 640) (i := .iload_n 3) (len := 1) rfl _ _ _ _ _).trans rfl
set_option maxRecDepth 20000 in
theorem v_168_641 (b : B3) (v0 : AV) (v1 : AV) (v2 : AV) (v3 : AV) (st : List AV) (σ : Sto) (Q : Po) : Ev b 168 641 [v0, v1, v2, v3] st σ Q = (Ev b 168 642 [v0, v1, v2, v3] (aI 2 :: st) σ Q) := (Ev_of (k := 168) (pc := 641) (i := .iconst 2) (len := 1) rfl _ _ _ _ _).trans (congrArg (fun z => Ev b 168 642 [v0, v1, v2, v3] (aI z :: st) σ Q) ki_2)
set_option maxRecDepth 20000 in
theorem v_168_642 (b : B3) (v0 : AV) (v1 : AV) (v2 : AV) (v3 : AV) (st : List AV) (x y : Int32) (σ : Sto) (Q : Po) : Ev b 168 642 [v0, v1, v2, v3] (aI y :: aI x :: st) σ Q = (Ev b 168 643 [v0, v1, v2, v3] (aI (x + y) :: st) σ Q) := (Ev_of (k := 168) (pc := 642) (i := .iadd) (len := 1) rfl _ _ _ _ _).trans rfl
set_option maxRecDepth 20000 in
theorem v_168_643 (b : B3) (v0 : AV) (v1 : AV) (v2 : AV) (v3 : AV) (st : List AV) (i : Int32) (a : Nat) (σ : Sto) (Q : Po) : Ev b 168 643 [v0, v1, v2, v3] (aI i :: aR (some a) :: st) σ Q = (okX σ a i ∧ Ev b 168 644 [v0, v1, v2, v3] (aI (gi σ a i.toNatClampNeg) :: st) σ Q) := (Ev_of (k := 168) (pc := 643) (i := .iaload) (len := 1) rfl _ _ _ _ _).trans rfl
set_option maxRecDepth 20000 in
theorem v_168_644 (b : B3) (v0 : Option Nat) (v1 : AV) (v2 : AV) (v3 : AV) (st : List AV) (σ : Sto) (Q : Po) : Ev b 168 644 [aR v0, v1, v2, v3] st σ Q = (Ev b 168 645 [aR v0, v1, v2, v3] (aR v0 :: st) σ Q) := (Ev_of (k := 168) (pc := 644) (i := .aload_n 0) (len := 1) rfl _ _ _ _ _).trans rfl
set_option maxRecDepth 20000 in
theorem v_168_645 (b : B3) (v0 : AV) (v1 : AV) (v2 : AV) (v3 : Int32) (st : List AV) (σ : Sto) (Q : Po) : Ev b 168 645 [v0, v1, v2, aI v3] st σ Q = (Ev b 168 646 [v0, v1, v2, aI v3] (aI v3 :: st) σ Q) := (Ev_of (k := 168) (pc := 645) (i := .iload_n 3) (len := 1) rfl _ _ _ _ _).trans rfl
set_option maxRecDepth 20000 in
theorem v_168_646 (b : B3) (v0 : AV) (v1 : AV) (v2 : AV) (v3 : AV) (st : List AV) (σ : Sto) (Q : Po) : Ev b 168 646 [v0, v1, v2, v3] st σ Q = (Ev b 168 647 [v0, v1, v2, v3] (aI 3 :: st) σ Q) := (Ev_of (k := 168) (pc := 646) (i := .iconst 3) (len := 1) rfl _ _ _ _ _).trans (congrArg (fun z => Ev b 168 647 [v0, v1, v2, v3] (aI z :: st) σ Q) ki_3)
set_option maxRecDepth 20000 in
theorem v_168_647 (b : B3) (v0 : AV) (v1 : AV) (v2 : AV) (v3 : AV) (st : List AV) (x y : Int32) (σ : Sto) (Q : Po) : Ev b 168 647 [v0, v1, v2, v3] (aI y :: aI x :: st) σ Q = (Ev b 168 648 [v0, v1, v2, v3] (aI (x + y) :: st) σ Q) := (Ev_of (k := 168) (pc := 647) (i := .iadd) (len := 1) rfl _ _ _ _ _).trans rfl
set_option maxRecDepth 20000 in
theorem v_168_648 (b : B3) (v0 : AV) (v1 : AV) (v2 : AV) (v3 : AV) (st : List AV) (i : Int32) (a : Nat) (σ : Sto) (Q : Po) : Ev b 168 648 [v0, v1, v2, v3] (aI i :: aR (some a) :: st) σ Q = (okX σ a i ∧ Ev b 168 649 [v0, v1, v2, v3] (aI (gi σ a i.toNatClampNeg) :: st) σ Q) := (Ev_of (k := 168) (pc := 648) (i := .iaload) (len := 1) rfl _ _ _ _ _).trans rfl
set_option maxRecDepth 20000 in
theorem v_168_649 (d c s : Nat) (v0 : AV) (v1 : AV) (v2 : AV) (v3 : AV) (y0 : Int32) (y1 : Int32) (y2 : Int32) (y3 : Nat) (y4 : Int64) (σ : Sto) (Q : Po) : Ev (d + 1, c, s) 168 649 [v0, v1, v2, v3] [aI y0, aI y1, aI y2, aR (some y3), aL y4] σ Q = (okO σ y3 6 ∧ CL d 132 [aR (some y3), aI y2, aI y1, aI y0] σ (fun x2 σ2 => Ev (d + 1, c, s) 168 652 [v0, v1, v2, v3] [aL x2, aL y4] σ2 Q)) := (g_inv (k := 168) (pc := 649) (x := 57) (i := .invokevirtual 57) rfl (Or.inl ⟨rfl, rfl⟩) rfl lq_7057).trans (congrArg (And (okO σ y3 6)) (vdo_L (k' := 132) (c1 := 0) (c2 := 0) (vs := [aR (some y3), aI y2, aI y1, aI y0]) (rest := [aL y4]) rfl rfl rfl))
set_option maxRecDepth 20000 in
theorem v_168_652 (b : B3) (v0 : AV) (v1 : AV) (v2 : AV) (v3 : AV) (st : List AV) (x y : Int64) (σ : Sto) (Q : Po) : Ev b 168 652 [v0, v1, v2, v3] (aL y :: aL x :: st) σ Q = (Ev b 168 653 [v0, v1, v2, v3] (aI (lg_cmp x y) :: st) σ Q) := (Ev_of (k := 168) (pc := 652) (i := .lcmp) (len := 1) rfl _ _ _ _ _).trans rfl
set_option maxRecDepth 20000 in
theorem v_168_653 (b : B3) (v0 : AV) (v1 : AV) (v2 : AV) (v3 : AV) (st : List AV) (x : Int32) (σ : Sto) (Q : Po) : Ev b 168 653 [v0, v1, v2, v3] (aI x :: st) σ Q = ((x = 0 → Ev b 168 1195 [v0, v1, v2, v3] st σ Q) ∧ (¬ x = 0 → Ev b 168 656 [v0, v1, v2, v3] st σ Q)) := (Ev_of (k := 168) (pc := 653) (i := .ifCond .eq 542) (len := 3) rfl _ _ _ _ _).trans rfl
set_option maxRecDepth 20000 in
theorem v_168_656 (b : B3) (v0 : AV) (v1 : AV) (v2 : AV) (v3 : AV) (st : List AV) (σ : Sto) (Q : Po) : Ev b 168 656 [v0, v1, v2, v3] st σ Q = (Ev b 168 657 [v0, v1, v2, v3] (aI 0 :: st) σ Q) := (Ev_of (k := 168) (pc := 656) (i := .iconst 0) (len := 1) rfl _ _ _ _ _).trans (congrArg (fun z => Ev b 168 657 [v0, v1, v2, v3] (aI z :: st) σ Q) ki_0)
set_option maxRecDepth 20000 in
theorem v_168_657 (b : B3) (v0 : AV) (v1 : AV) (v2 : AV) (v3 : AV) (x : Int32) (σ : Sto) (Q : Po) : Ev b 168 657 [v0, v1, v2, v3] [aI x] σ Q = ((x = 0 ∨ x = 1) ∧ Q (some (aI x)) σ) := (Ev_of (k := 168) (pc := 657) (i := .ireturn) (len := 1) rfl _ _ _ _ _).trans rfl
set_option maxRecDepth 20000 in
theorem v_168_658 (b : B3) (v0 : AV) (v1 : Option Nat) (v2 : AV) (v3 : AV) (st : List AV) (σ : Sto) (Q : Po) : Ev b 168 658 [v0, aR v1, v2, v3] st σ Q = (Ev b 168 659 [v0, aR v1, v2, v3] (aR v1 :: st) σ Q) := (Ev_of (k := 168) (pc := 658) (i := .aload_n 1) (len := 1) rfl _ _ _ _ _).trans rfl
set_option maxRecDepth 20000 in
theorem v_168_659 (b : B3) (v0 : Option Nat) (v1 : AV) (v2 : AV) (v3 : AV) (st : List AV) (σ : Sto) (Q : Po) : Ev b 168 659 [aR v0, v1, v2, v3] st σ Q = (Ev b 168 660 [aR v0, v1, v2, v3] (aR v0 :: st) σ Q) := (Ev_of (k := 168) (pc := 659) (i := .aload_n 0) (len := 1) rfl _ _ _ _ _).trans rfl
set_option maxRecDepth 20000 in
theorem v_168_660 (b : B3) (v0 : AV) (v1 : AV) (v2 : AV) (v3 : Int32) (st : List AV) (σ : Sto) (Q : Po) : Ev b 168 660 [v0, v1, v2, aI v3] st σ Q = (Ev b 168 661 [v0, v1, v2, aI v3] (aI v3 :: st) σ Q) := (Ev_of (k := 168) (pc := 660) (i := .iload_n 3) (len := 1) rfl _ _ _ _ _).trans rfl
set_option maxRecDepth 20000 in
theorem v_168_661 (b : B3) (v0 : AV) (v1 : AV) (v2 : AV) (v3 : AV) (st : List AV) (σ : Sto) (Q : Po) : Ev b 168 661 [v0, v1, v2, v3] st σ Q = (Ev b 168 662 [v0, v1, v2, v3] (aI 1 :: st) σ Q) := (Ev_of (k := 168) (pc := 661) (i := .iconst 1) (len := 1) rfl _ _ _ _ _).trans (congrArg (fun z => Ev b 168 662 [v0, v1, v2, v3] (aI z :: st) σ Q) ki_1)
set_option maxRecDepth 20000 in
theorem v_168_662 (b : B3) (v0 : AV) (v1 : AV) (v2 : AV) (v3 : AV) (st : List AV) (x y : Int32) (σ : Sto) (Q : Po) : Ev b 168 662 [v0, v1, v2, v3] (aI y :: aI x :: st) σ Q = (Ev b 168 663 [v0, v1, v2, v3] (aI (x + y) :: st) σ Q) := (Ev_of (k := 168) (pc := 662) (i := .iadd) (len := 1) rfl _ _ _ _ _).trans rfl
set_option maxRecDepth 20000 in
theorem v_168_663 (b : B3) (v0 : AV) (v1 : AV) (v2 : AV) (v3 : AV) (st : List AV) (i : Int32) (a : Nat) (σ : Sto) (Q : Po) : Ev b 168 663 [v0, v1, v2, v3] (aI i :: aR (some a) :: st) σ Q = (okX σ a i ∧ Ev b 168 664 [v0, v1, v2, v3] (aI (gi σ a i.toNatClampNeg) :: st) σ Q) := (Ev_of (k := 168) (pc := 663) (i := .iaload) (len := 1) rfl _ _ _ _ _).trans rfl
set_option maxRecDepth 20000 in
theorem v_168_664 (d c s : Nat) (v0 : AV) (v1 : AV) (v2 : AV) (v3 : AV) (y0 : Int32) (y1 : Nat) (σ : Sto) (Q : Po) : Ev (d + 1, c, s) 168 664 [v0, v1, v2, v3] [aI y0, aR (some y1)] σ Q = (okO σ y1 5 ∧ CI d 69 [aR (some y1), aI y0] σ (fun x2 σ2 => Ev (d + 1, c, s) 168 667 [v0, v1, v2, v3] [aI x2] σ2 Q)) := (g_inv (k := 168) (pc := 664) (x := 58) (i := .invokevirtual 58) rfl (Or.inl ⟨rfl, rfl⟩) rfl lq_7058).trans (congrArg (And (okO σ y1 5)) (vdo_I (k' := 69) (c1 := 0) (c2 := 0) (vs := [aR (some y1), aI y0]) (rest := []) (Or.inl rfl) rfl rfl))
set_option maxRecDepth 20000 in
theorem v_168_667 (b : B3) (v0 : AV) (v1 : AV) (v2 : Option Nat) (v3 : AV) (st : List AV) (σ : Sto) (Q : Po) : Ev b 168 667 [v0, v1, aR v2, v3] st σ Q = (Ev b 168 668 [v0, v1, aR v2, v3] (aR v2 :: st) σ Q) := (Ev_of (k := 168) (pc := 667) (i := .aload_n 2) (len := 1) rfl _ _ _ _ _).trans rfl
set_option maxRecDepth 20000 in
theorem v_168_668 (b : B3) (v0 : Option Nat) (v1 : AV) (v2 : AV) (v3 : AV) (st : List AV) (σ : Sto) (Q : Po) : Ev b 168 668 [aR v0, v1, v2, v3] st σ Q = (Ev b 168 669 [aR v0, v1, v2, v3] (aR v0 :: st) σ Q) := (Ev_of (k := 168) (pc := 668) (i := .aload_n 0) (len := 1) rfl _ _ _ _ _).trans rfl
set_option maxRecDepth 20000 in
theorem v_168_669 (b : B3) (v0 : AV) (v1 : AV) (v2 : AV) (v3 : Int32) (st : List AV) (σ : Sto) (Q : Po) : Ev b 168 669 [v0, v1, v2, aI v3] st σ Q = (Ev b 168 670 [v0, v1, v2, aI v3] (aI v3 :: st) σ Q) := (Ev_of (k := 168) (pc := 669) (i := .iload_n 3) (len := 1) rfl _ _ _ _ _).trans rfl
set_option maxRecDepth 20000 in
theorem v_168_670 (b : B3) (v0 : AV) (v1 : AV) (v2 : AV) (v3 : AV) (st : List AV) (σ : Sto) (Q : Po) : Ev b 168 670 [v0, v1, v2, v3] st σ Q = (Ev b 168 671 [v0, v1, v2, v3] (aI 1 :: st) σ Q) := (Ev_of (k := 168) (pc := 670) (i := .iconst 1) (len := 1) rfl _ _ _ _ _).trans (congrArg (fun z => Ev b 168 671 [v0, v1, v2, v3] (aI z :: st) σ Q) ki_1)
set_option maxRecDepth 20000 in
theorem v_168_671 (b : B3) (v0 : AV) (v1 : AV) (v2 : AV) (v3 : AV) (st : List AV) (x y : Int32) (σ : Sto) (Q : Po) : Ev b 168 671 [v0, v1, v2, v3] (aI y :: aI x :: st) σ Q = (Ev b 168 672 [v0, v1, v2, v3] (aI (x + y) :: st) σ Q) := (Ev_of (k := 168) (pc := 671) (i := .iadd) (len := 1) rfl _ _ _ _ _).trans rfl
set_option maxRecDepth 20000 in
theorem v_168_672 (b : B3) (v0 : AV) (v1 : AV) (v2 : AV) (v3 : AV) (st : List AV) (i : Int32) (a : Nat) (σ : Sto) (Q : Po) : Ev b 168 672 [v0, v1, v2, v3] (aI i :: aR (some a) :: st) σ Q = (okX σ a i ∧ Ev b 168 673 [v0, v1, v2, v3] (aI (gi σ a i.toNatClampNeg) :: st) σ Q) := (Ev_of (k := 168) (pc := 672) (i := .iaload) (len := 1) rfl _ _ _ _ _).trans rfl
set_option maxRecDepth 20000 in
theorem v_168_673 (d c s : Nat) (v0 : AV) (v1 : AV) (v2 : AV) (v3 : AV) (y0 : Int32) (y1 : Nat) (y2 : Int32) (σ : Sto) (Q : Po) : Ev (d + 1, c, s) 168 673 [v0, v1, v2, v3] [aI y0, aR (some y1), aI y2] σ Q = (okO σ y1 6 ∧ CI d 134 [aR (some y1), aI y0] σ (fun x2 σ2 => Ev (d + 1, c, s) 168 676 [v0, v1, v2, v3] [aI x2, aI y2] σ2 Q)) := (g_inv (k := 168) (pc := 673) (x := 61) (i := .invokevirtual 61) rfl (Or.inl ⟨rfl, rfl⟩) rfl lq_7061).trans (congrArg (And (okO σ y1 6)) (vdo_I (k' := 134) (c1 := 0) (c2 := 0) (vs := [aR (some y1), aI y0]) (rest := [aI y2]) (Or.inl rfl) rfl rfl))
set_option maxRecDepth 20000 in
theorem v_168_676 (b : B3) (v0 : AV) (v1 : AV) (v2 : AV) (v3 : AV) (st : List AV) (x y : Int32) (σ : Sto) (Q : Po) : Ev b 168 676 [v0, v1, v2, v3] (aI y :: aI x :: st) σ Q = ((x = y → Ev b 168 1195 [v0, v1, v2, v3] st σ Q) ∧ (¬ x = y → Ev b 168 679 [v0, v1, v2, v3] st σ Q)) := (Ev_of (k := 168) (pc := 676) (i := .if_icmp .eq 519) (len := 3) rfl _ _ _ _ _).trans rfl
set_option maxRecDepth 20000 in
theorem v_168_679 (b : B3) (v0 : AV) (v1 : AV) (v2 : AV) (v3 : AV) (st : List AV) (σ : Sto) (Q : Po) : Ev b 168 679 [v0, v1, v2, v3] st σ Q = (Ev b 168 680 [v0, v1, v2, v3] (aI 0 :: st) σ Q) := (Ev_of (k := 168) (pc := 679) (i := .iconst 0) (len := 1) rfl _ _ _ _ _).trans (congrArg (fun z => Ev b 168 680 [v0, v1, v2, v3] (aI z :: st) σ Q) ki_0)
set_option maxRecDepth 20000 in
theorem v_168_680 (b : B3) (v0 : AV) (v1 : AV) (v2 : AV) (v3 : AV) (x : Int32) (σ : Sto) (Q : Po) : Ev b 168 680 [v0, v1, v2, v3] [aI x] σ Q = ((x = 0 ∨ x = 1) ∧ Q (some (aI x)) σ) := (Ev_of (k := 168) (pc := 680) (i := .ireturn) (len := 1) rfl _ _ _ _ _).trans rfl
set_option maxRecDepth 20000 in
theorem v_168_681 (b : B3) (v0 : AV) (v1 : Option Nat) (v2 : AV) (v3 : AV) (st : List AV) (σ : Sto) (Q : Po) : Ev b 168 681 [v0, aR v1, v2, v3] st σ Q = (Ev b 168 682 [v0, aR v1, v2, v3] (aR v1 :: st) σ Q) := (Ev_of (k := 168) (pc := 681) (i := .aload_n 1) (len := 1) rfl _ _ _ _ _).trans rfl
set_option maxRecDepth 20000 in
theorem v_168_682 (d c s : Nat) (v0 : AV) (v1 : AV) (v2 : AV) (v3 : AV) (y0 : Nat) (σ : Sto) (Q : Po) : Ev (d + 1, c, s) 168 682 [v0, v1, v2, v3] [aR (some y0)] σ Q = (okO σ y0 5 ∧ CI d 70 [aR (some y0)] σ (fun x2 σ2 => Ev (d + 1, c, s) 168 685 [v0, v1, v2, v3] [aI x2] σ2 Q)) := (g_inv (k := 168) (pc := 682) (x := 62) (i := .invokevirtual 62) rfl (Or.inl ⟨rfl, rfl⟩) rfl lq_7062).trans (congrArg (And (okO σ y0 5)) (vdo_I (k' := 70) (c1 := 0) (c2 := 0) (vs := [aR (some y0)]) (rest := []) (Or.inl rfl) rfl rfl))
set_option maxRecDepth 20000 in
theorem v_168_685 (b : B3) (v0 : AV) (v1 : AV) (v2 : Option Nat) (v3 : AV) (st : List AV) (σ : Sto) (Q : Po) : Ev b 168 685 [v0, v1, aR v2, v3] st σ Q = (Ev b 168 686 [v0, v1, aR v2, v3] (aR v2 :: st) σ Q) := (Ev_of (k := 168) (pc := 685) (i := .aload_n 2) (len := 1) rfl _ _ _ _ _).trans rfl
set_option maxRecDepth 20000 in
theorem v_168_686 (d c s : Nat) (v0 : AV) (v1 : AV) (v2 : AV) (v3 : AV) (y0 : Nat) (y1 : Int32) (σ : Sto) (Q : Po) : Ev (d + 1, c, s) 168 686 [v0, v1, v2, v3] [aR (some y0), aI y1] σ Q = (okO σ y0 6 ∧ CI d 135 [aR (some y0)] σ (fun x2 σ2 => Ev (d + 1, c, s) 168 689 [v0, v1, v2, v3] [aI x2, aI y1] σ2 Q)) := (g_inv (k := 168) (pc := 686) (x := 66) (i := .invokevirtual 66) rfl (Or.inl ⟨rfl, rfl⟩) rfl lq_7066).trans (congrArg (And (okO σ y0 6)) (vdo_I (k' := 135) (c1 := 0) (c2 := 0) (vs := [aR (some y0)]) (rest := [aI y1]) (Or.inl rfl) rfl rfl))
set_option maxRecDepth 20000 in
theorem v_168_689 (b : B3) (v0 : AV) (v1 : AV) (v2 : AV) (v3 : AV) (st : List AV) (x y : Int32) (σ : Sto) (Q : Po) : Ev b 168 689 [v0, v1, v2, v3] (aI y :: aI x :: st) σ Q = ((x = y → Ev b 168 1195 [v0, v1, v2, v3] st σ Q) ∧ (¬ x = y → Ev b 168 692 [v0, v1, v2, v3] st σ Q)) := (Ev_of (k := 168) (pc := 689) (i := .if_icmp .eq 506) (len := 3) rfl _ _ _ _ _).trans rfl
set_option maxRecDepth 20000 in
theorem v_168_692 (b : B3) (v0 : AV) (v1 : AV) (v2 : AV) (v3 : AV) (st : List AV) (σ : Sto) (Q : Po) : Ev b 168 692 [v0, v1, v2, v3] st σ Q = (Ev b 168 693 [v0, v1, v2, v3] (aI 0 :: st) σ Q) := (Ev_of (k := 168) (pc := 692) (i := .iconst 0) (len := 1) rfl _ _ _ _ _).trans (congrArg (fun z => Ev b 168 693 [v0, v1, v2, v3] (aI z :: st) σ Q) ki_0)
set_option maxRecDepth 20000 in
theorem v_168_693 (b : B3) (v0 : AV) (v1 : AV) (v2 : AV) (v3 : AV) (x : Int32) (σ : Sto) (Q : Po) : Ev b 168 693 [v0, v1, v2, v3] [aI x] σ Q = ((x = 0 ∨ x = 1) ∧ Q (some (aI x)) σ) := (Ev_of (k := 168) (pc := 693) (i := .ireturn) (len := 1) rfl _ _ _ _ _).trans rfl
set_option maxRecDepth 20000 in
theorem v_168_694 (b : B3) (v0 : AV) (v1 : Option Nat) (v2 : AV) (v3 : AV) (st : List AV) (σ : Sto) (Q : Po) : Ev b 168 694 [v0, aR v1, v2, v3] st σ Q = (Ev b 168 695 [v0, aR v1, v2, v3] (aR v1 :: st) σ Q) := (Ev_of (k := 168) (pc := 694) (i := .aload_n 1) (len := 1) rfl _ _ _ _ _).trans rfl
set_option maxRecDepth 20000 in
theorem v_168_695 (b : B3) (v0 : Option Nat) (v1 : AV) (v2 : AV) (v3 : AV) (st : List AV) (σ : Sto) (Q : Po) : Ev b 168 695 [aR v0, v1, v2, v3] st σ Q = (Ev b 168 696 [aR v0, v1, v2, v3] (aR v0 :: st) σ Q) := (Ev_of (k := 168) (pc := 695) (i := .aload_n 0) (len := 1) rfl _ _ _ _ _).trans rfl
set_option maxRecDepth 20000 in
theorem v_168_696 (b : B3) (v0 : AV) (v1 : AV) (v2 : AV) (v3 : Int32) (st : List AV) (σ : Sto) (Q : Po) : Ev b 168 696 [v0, v1, v2, aI v3] st σ Q = (Ev b 168 697 [v0, v1, v2, aI v3] (aI v3 :: st) σ Q) := (Ev_of (k := 168) (pc := 696) (i := .iload_n 3) (len := 1) rfl _ _ _ _ _).trans rfl
set_option maxRecDepth 20000 in
theorem v_168_697 (b : B3) (v0 : AV) (v1 : AV) (v2 : AV) (v3 : AV) (st : List AV) (σ : Sto) (Q : Po) : Ev b 168 697 [v0, v1, v2, v3] st σ Q = (Ev b 168 698 [v0, v1, v2, v3] (aI 1 :: st) σ Q) := (Ev_of (k := 168) (pc := 697) (i := .iconst 1) (len := 1) rfl _ _ _ _ _).trans (congrArg (fun z => Ev b 168 698 [v0, v1, v2, v3] (aI z :: st) σ Q) ki_1)
set_option maxRecDepth 20000 in
theorem v_168_698 (b : B3) (v0 : AV) (v1 : AV) (v2 : AV) (v3 : AV) (st : List AV) (x y : Int32) (σ : Sto) (Q : Po) : Ev b 168 698 [v0, v1, v2, v3] (aI y :: aI x :: st) σ Q = (Ev b 168 699 [v0, v1, v2, v3] (aI (x + y) :: st) σ Q) := (Ev_of (k := 168) (pc := 698) (i := .iadd) (len := 1) rfl _ _ _ _ _).trans rfl
set_option maxRecDepth 20000 in
theorem v_168_699 (b : B3) (v0 : AV) (v1 : AV) (v2 : AV) (v3 : AV) (st : List AV) (i : Int32) (a : Nat) (σ : Sto) (Q : Po) : Ev b 168 699 [v0, v1, v2, v3] (aI i :: aR (some a) :: st) σ Q = (okX σ a i ∧ Ev b 168 700 [v0, v1, v2, v3] (aI (gi σ a i.toNatClampNeg) :: st) σ Q) := (Ev_of (k := 168) (pc := 699) (i := .iaload) (len := 1) rfl _ _ _ _ _).trans rfl
set_option maxRecDepth 20000 in
theorem v_168_700 (d c s : Nat) (v0 : AV) (v1 : AV) (v2 : AV) (v3 : AV) (y0 : Int32) (y1 : Nat) (σ : Sto) (Q : Po) : Ev (d + 1, c, s) 168 700 [v0, v1, v2, v3] [aI y0, aR (some y1)] σ Q = (okO σ y1 5 ∧ CL d 71 [aR (some y1), aI y0] σ (fun x2 σ2 => Ev (d + 1, c, s) 168 703 [v0, v1, v2, v3] [aL x2] σ2 Q)) := (g_inv (k := 168) (pc := 700) (x := 67) (i := .invokevirtual 67) rfl (Or.inl ⟨rfl, rfl⟩) rfl lq_7067).trans (congrArg (And (okO σ y1 5)) (vdo_L (k' := 71) (c1 := 0) (c2 := 0) (vs := [aR (some y1), aI y0]) (rest := []) rfl rfl rfl))
set_option maxRecDepth 20000 in
theorem v_168_703 (b : B3) (v0 : AV) (v1 : AV) (v2 : Option Nat) (v3 : AV) (st : List AV) (σ : Sto) (Q : Po) : Ev b 168 703 [v0, v1, aR v2, v3] st σ Q = (Ev b 168 704 [v0, v1, aR v2, v3] (aR v2 :: st) σ Q) := (Ev_of (k := 168) (pc := 703) (i := .aload_n 2) (len := 1) rfl _ _ _ _ _).trans rfl
set_option maxRecDepth 20000 in
theorem v_168_704 (b : B3) (v0 : Option Nat) (v1 : AV) (v2 : AV) (v3 : AV) (st : List AV) (σ : Sto) (Q : Po) : Ev b 168 704 [aR v0, v1, v2, v3] st σ Q = (Ev b 168 705 [aR v0, v1, v2, v3] (aR v0 :: st) σ Q) := (Ev_of (k := 168) (pc := 704) (i := .aload_n 0) (len := 1) rfl _ _ _ _ _).trans rfl
set_option maxRecDepth 20000 in
theorem v_168_705 (b : B3) (v0 : AV) (v1 : AV) (v2 : AV) (v3 : Int32) (st : List AV) (σ : Sto) (Q : Po) : Ev b 168 705 [v0, v1, v2, aI v3] st σ Q = (Ev b 168 706 [v0, v1, v2, aI v3] (aI v3 :: st) σ Q) := (Ev_of (k := 168) (pc := 705) (i := .iload_n 3) (len := 1) rfl _ _ _ _ _).trans rfl
set_option maxRecDepth 20000 in
theorem v_168_706 (b : B3) (v0 : AV) (v1 : AV) (v2 : AV) (v3 : AV) (st : List AV) (σ : Sto) (Q : Po) : Ev b 168 706 [v0, v1, v2, v3] st σ Q = (Ev b 168 707 [v0, v1, v2, v3] (aI 1 :: st) σ Q) := (Ev_of (k := 168) (pc := 706) (i := .iconst 1) (len := 1) rfl _ _ _ _ _).trans (congrArg (fun z => Ev b 168 707 [v0, v1, v2, v3] (aI z :: st) σ Q) ki_1)
set_option maxRecDepth 20000 in
theorem v_168_707 (b : B3) (v0 : AV) (v1 : AV) (v2 : AV) (v3 : AV) (st : List AV) (x y : Int32) (σ : Sto) (Q : Po) : Ev b 168 707 [v0, v1, v2, v3] (aI y :: aI x :: st) σ Q = (Ev b 168 708 [v0, v1, v2, v3] (aI (x + y) :: st) σ Q) := (Ev_of (k := 168) (pc := 707) (i := .iadd) (len := 1) rfl _ _ _ _ _).trans rfl
set_option maxRecDepth 20000 in
theorem v_168_708 (b : B3) (v0 : AV) (v1 : AV) (v2 : AV) (v3 : AV) (st : List AV) (i : Int32) (a : Nat) (σ : Sto) (Q : Po) : Ev b 168 708 [v0, v1, v2, v3] (aI i :: aR (some a) :: st) σ Q = (okX σ a i ∧ Ev b 168 709 [v0, v1, v2, v3] (aI (gi σ a i.toNatClampNeg) :: st) σ Q) := (Ev_of (k := 168) (pc := 708) (i := .iaload) (len := 1) rfl _ _ _ _ _).trans rfl
set_option maxRecDepth 20000 in
theorem v_168_709 (d c s : Nat) (v0 : AV) (v1 : AV) (v2 : AV) (v3 : AV) (y0 : Int32) (y1 : Nat) (y2 : Int64) (σ : Sto) (Q : Po) : Ev (d + 1, c, s) 168 709 [v0, v1, v2, v3] [aI y0, aR (some y1), aL y2] σ Q = (okO σ y1 6 ∧ CL d 136 [aR (some y1), aI y0] σ (fun x2 σ2 => Ev (d + 1, c, s) 168 712 [v0, v1, v2, v3] [aL x2, aL y2] σ2 Q)) := (g_inv (k := 168) (pc := 709) (x := 71) (i := .invokevirtual 71) rfl (Or.inl ⟨rfl, rfl⟩) rfl lq_7071).trans (congrArg (And (okO σ y1 6)) (vdo_L (k' := 136) (c1 := 0) (c2 := 0) (vs := [aR (some y1), aI y0]) (rest := [aL y2]) rfl rfl rfl))
set_option maxRecDepth 20000 in
theorem v_168_712 (b : B3) (v0 : AV) (v1 : AV) (v2 : AV) (v3 : AV) (st : List AV) (x y : Int64) (σ : Sto) (Q : Po) : Ev b 168 712 [v0, v1, v2, v3] (aL y :: aL x :: st) σ Q = (Ev b 168 713 [v0, v1, v2, v3] (aI (lg_cmp x y) :: st) σ Q) := (Ev_of (k := 168) (pc := 712) (i := .lcmp) (len := 1) rfl _ _ _ _ _).trans rfl
set_option maxRecDepth 20000 in
theorem v_168_713 (b : B3) (v0 : AV) (v1 : AV) (v2 : AV) (v3 : AV) (st : List AV) (x : Int32) (σ : Sto) (Q : Po) : Ev b 168 713 [v0, v1, v2, v3] (aI x :: st) σ Q = ((x = 0 → Ev b 168 1195 [v0, v1, v2, v3] st σ Q) ∧ (¬ x = 0 → Ev b 168 716 [v0, v1, v2, v3] st σ Q)) := (Ev_of (k := 168) (pc := 713) (i := .ifCond .eq 482) (len := 3) rfl _ _ _ _ _).trans rfl
set_option maxRecDepth 20000 in
theorem v_168_716 (b : B3) (v0 : AV) (v1 : AV) (v2 : AV) (v3 : AV) (st : List AV) (σ : Sto) (Q : Po) : Ev b 168 716 [v0, v1, v2, v3] st σ Q = (Ev b 168 717 [v0, v1, v2, v3] (aI 0 :: st) σ Q) := (Ev_of (k := 168) (pc := 716) (i := .iconst 0) (len := 1) rfl _ _ _ _ _).trans (congrArg (fun z => Ev b 168 717 [v0, v1, v2, v3] (aI z :: st) σ Q) ki_0)
set_option maxRecDepth 20000 in
theorem v_168_717 (b : B3) (v0 : AV) (v1 : AV) (v2 : AV) (v3 : AV) (x : Int32) (σ : Sto) (Q : Po) : Ev b 168 717 [v0, v1, v2, v3] [aI x] σ Q = ((x = 0 ∨ x = 1) ∧ Q (some (aI x)) σ) := (Ev_of (k := 168) (pc := 717) (i := .ireturn) (len := 1) rfl _ _ _ _ _).trans rfl
set_option maxRecDepth 20000 in
theorem v_168_718 (b : B3) (v0 : AV) (v1 : Option Nat) (v2 : AV) (v3 : AV) (st : List AV) (σ : Sto) (Q : Po) : Ev b 168 718 [v0, aR v1, v2, v3] st σ Q = (Ev b 168 719 [v0, aR v1, v2, v3] (aR v1 :: st) σ Q) := (Ev_of (k := 168) (pc := 718) (i := .aload_n 1) (len := 1) rfl _ _ _ _ _).trans rfl
set_option maxRecDepth 20000 in
theorem v_168_719 (b : B3) (v0 : Option Nat) (v1 : AV) (v2 : AV) (v3 : AV) (st : List AV) (σ : Sto) (Q : Po) : Ev b 168 719 [aR v0, v1, v2, v3] st σ Q = (Ev b 168 720 [aR v0, v1, v2, v3] (aR v0 :: st) σ Q) := (Ev_of (k := 168) (pc := 719) (i := .aload_n 0) (len := 1) rfl _ _ _ _ _).trans rfl
set_option maxRecDepth 20000 in
theorem v_168_720 (b : B3) (v0 : AV) (v1 : AV) (v2 : AV) (v3 : Int32) (st : List AV) (σ : Sto) (Q : Po) : Ev b 168 720 [v0, v1, v2, aI v3] st σ Q = (Ev b 168 721 [v0, v1, v2, aI v3] (aI v3 :: st) σ Q) := (Ev_of (k := 168) (pc := 720) (i := .iload_n 3) (len := 1) rfl _ _ _ _ _).trans rfl
set_option maxRecDepth 20000 in
theorem v_168_721 (b : B3) (v0 : AV) (v1 : AV) (v2 : AV) (v3 : AV) (st : List AV) (σ : Sto) (Q : Po) : Ev b 168 721 [v0, v1, v2, v3] st σ Q = (Ev b 168 722 [v0, v1, v2, v3] (aI 1 :: st) σ Q) := (Ev_of (k := 168) (pc := 721) (i := .iconst 1) (len := 1) rfl _ _ _ _ _).trans (congrArg (fun z => Ev b 168 722 [v0, v1, v2, v3] (aI z :: st) σ Q) ki_1)
set_option maxRecDepth 20000 in
theorem v_168_722 (b : B3) (v0 : AV) (v1 : AV) (v2 : AV) (v3 : AV) (st : List AV) (x y : Int32) (σ : Sto) (Q : Po) : Ev b 168 722 [v0, v1, v2, v3] (aI y :: aI x :: st) σ Q = (Ev b 168 723 [v0, v1, v2, v3] (aI (x + y) :: st) σ Q) := (Ev_of (k := 168) (pc := 722) (i := .iadd) (len := 1) rfl _ _ _ _ _).trans rfl
set_option maxRecDepth 20000 in
theorem v_168_723 (b : B3) (v0 : AV) (v1 : AV) (v2 : AV) (v3 : AV) (st : List AV) (i : Int32) (a : Nat) (σ : Sto) (Q : Po) : Ev b 168 723 [v0, v1, v2, v3] (aI i :: aR (some a) :: st) σ Q = (okX σ a i ∧ Ev b 168 724 [v0, v1, v2, v3] (aI (gi σ a i.toNatClampNeg) :: st) σ Q) := (Ev_of (k := 168) (pc := 723) (i := .iaload) (len := 1) rfl _ _ _ _ _).trans rfl
set_option maxRecDepth 20000 in
theorem v_168_724 (b : B3) (v0 : Option Nat) (v1 : AV) (v2 : AV) (v3 : AV) (st : List AV) (σ : Sto) (Q : Po) : Ev b 168 724 [aR v0, v1, v2, v3] st σ Q = (Ev b 168 725 [aR v0, v1, v2, v3] (aR v0 :: st) σ Q) := (Ev_of (k := 168) (pc := 724) (i := .aload_n 0) (len := 1) rfl _ _ _ _ _).trans rfl
set_option maxRecDepth 20000 in
theorem v_168_725 (b : B3) (v0 : AV) (v1 : AV) (v2 : AV) (v3 : Int32) (st : List AV) (σ : Sto) (Q : Po) : Ev b 168 725 [v0, v1, v2, aI v3] st σ Q = (Ev b 168 726 [v0, v1, v2, aI v3] (aI v3 :: st) σ Q) := (Ev_of (k := 168) (pc := 725) (i := .iload_n 3) (len := 1) rfl _ _ _ _ _).trans rfl
set_option maxRecDepth 20000 in
theorem v_168_726 (b : B3) (v0 : AV) (v1 : AV) (v2 : AV) (v3 : AV) (st : List AV) (σ : Sto) (Q : Po) : Ev b 168 726 [v0, v1, v2, v3] st σ Q = (Ev b 168 727 [v0, v1, v2, v3] (aI 2 :: st) σ Q) := (Ev_of (k := 168) (pc := 726) (i := .iconst 2) (len := 1) rfl _ _ _ _ _).trans (congrArg (fun z => Ev b 168 727 [v0, v1, v2, v3] (aI z :: st) σ Q) ki_2)
set_option maxRecDepth 20000 in
theorem v_168_727 (b : B3) (v0 : AV) (v1 : AV) (v2 : AV) (v3 : AV) (st : List AV) (x y : Int32) (σ : Sto) (Q : Po) : Ev b 168 727 [v0, v1, v2, v3] (aI y :: aI x :: st) σ Q = (Ev b 168 728 [v0, v1, v2, v3] (aI (x + y) :: st) σ Q) := (Ev_of (k := 168) (pc := 727) (i := .iadd) (len := 1) rfl _ _ _ _ _).trans rfl
set_option maxRecDepth 20000 in
theorem v_168_728 (b : B3) (v0 : AV) (v1 : AV) (v2 : AV) (v3 : AV) (st : List AV) (i : Int32) (a : Nat) (σ : Sto) (Q : Po) : Ev b 168 728 [v0, v1, v2, v3] (aI i :: aR (some a) :: st) σ Q = (okX σ a i ∧ Ev b 168 729 [v0, v1, v2, v3] (aI (gi σ a i.toNatClampNeg) :: st) σ Q) := (Ev_of (k := 168) (pc := 728) (i := .iaload) (len := 1) rfl _ _ _ _ _).trans rfl
set_option maxRecDepth 20000 in
theorem v_168_729 (b : B3) (v0 : AV) (v1 : AV) (v2 : AV) (v3 : AV) (st : List AV) (x : Int32) (σ : Sto) (Q : Po) : Ev b 168 729 [v0, v1, v2, v3] (aI x :: st) σ Q = (Ev b 168 730 [v0, v1, v2, v3] (aL x.toInt64 :: st) σ Q) := (Ev_of (k := 168) (pc := 729) (i := .i2l) (len := 1) rfl _ _ _ _ _).trans rfl
set_option maxRecDepth 20000 in
theorem v_168_730 (b : B3) (v0 : AV) (v1 : AV) (v2 : AV) (v3 : AV) (st : List AV) (σ : Sto) (Q : Po) : Ev b 168 730 [v0, v1, v2, v3] st σ Q = (Ev b 168 732 [v0, v1, v2, v3] (aI 32 :: st) σ Q) := (Ev_of (k := 168) (pc := 730) (i := .bipush 32) (len := 2) rfl _ _ _ _ _).trans (congrArg (fun z => Ev b 168 732 [v0, v1, v2, v3] (aI z :: st) σ Q) kb_32)
set_option maxRecDepth 20000 in
theorem v_168_732 (b : B3) (v0 : AV) (v1 : AV) (v2 : AV) (v3 : AV) (st : List AV) (x : Int64) (y : Int32) (σ : Sto) (Q : Po) : Ev b 168 732 [v0, v1, v2, v3] (aI y :: aL x :: st) σ Q = (Ev b 168 733 [v0, v1, v2, v3] (aL (x <<< (y.toInt64 &&& 63)) :: st) σ Q) := (Ev_of (k := 168) (pc := 732) (i := .lshl) (len := 1) rfl _ _ _ _ _).trans rfl
set_option maxRecDepth 20000 in
theorem v_168_733 (b : B3) (v0 : Option Nat) (v1 : AV) (v2 : AV) (v3 : AV) (st : List AV) (σ : Sto) (Q : Po) : Ev b 168 733 [aR v0, v1, v2, v3] st σ Q = (Ev b 168 734 [aR v0, v1, v2, v3] (aR v0 :: st) σ Q) := (Ev_of (k := 168) (pc := 733) (i := .aload_n 0) (len := 1) rfl _ _ _ _ _).trans rfl
set_option maxRecDepth 20000 in
theorem v_168_734 (b : B3) (v0 : AV) (v1 : AV) (v2 : AV) (v3 : Int32) (st : List AV) (σ : Sto) (Q : Po) : Ev b 168 734 [v0, v1, v2, aI v3] st σ Q = (Ev b 168 735 [v0, v1, v2, aI v3] (aI v3 :: st) σ Q) := (Ev_of (k := 168) (pc := 734) (i := .iload_n 3) (len := 1) rfl _ _ _ _ _).trans rfl
set_option maxRecDepth 20000 in
theorem v_168_735 (b : B3) (v0 : AV) (v1 : AV) (v2 : AV) (v3 : AV) (st : List AV) (σ : Sto) (Q : Po) : Ev b 168 735 [v0, v1, v2, v3] st σ Q = (Ev b 168 736 [v0, v1, v2, v3] (aI 3 :: st) σ Q) := (Ev_of (k := 168) (pc := 735) (i := .iconst 3) (len := 1) rfl _ _ _ _ _).trans (congrArg (fun z => Ev b 168 736 [v0, v1, v2, v3] (aI z :: st) σ Q) ki_3)
set_option maxRecDepth 20000 in
theorem v_168_736 (b : B3) (v0 : AV) (v1 : AV) (v2 : AV) (v3 : AV) (st : List AV) (x y : Int32) (σ : Sto) (Q : Po) : Ev b 168 736 [v0, v1, v2, v3] (aI y :: aI x :: st) σ Q = (Ev b 168 737 [v0, v1, v2, v3] (aI (x + y) :: st) σ Q) := (Ev_of (k := 168) (pc := 736) (i := .iadd) (len := 1) rfl _ _ _ _ _).trans rfl
set_option maxRecDepth 20000 in
theorem v_168_737 (b : B3) (v0 : AV) (v1 : AV) (v2 : AV) (v3 : AV) (st : List AV) (i : Int32) (a : Nat) (σ : Sto) (Q : Po) : Ev b 168 737 [v0, v1, v2, v3] (aI i :: aR (some a) :: st) σ Q = (okX σ a i ∧ Ev b 168 738 [v0, v1, v2, v3] (aI (gi σ a i.toNatClampNeg) :: st) σ Q) := (Ev_of (k := 168) (pc := 737) (i := .iaload) (len := 1) rfl _ _ _ _ _).trans rfl
set_option maxRecDepth 20000 in
theorem v_168_738 (b : B3) (v0 : AV) (v1 : AV) (v2 : AV) (v3 : AV) (st : List AV) (x : Int32) (σ : Sto) (Q : Po) : Ev b 168 738 [v0, v1, v2, v3] (aI x :: st) σ Q = (Ev b 168 739 [v0, v1, v2, v3] (aL x.toInt64 :: st) σ Q) := (Ev_of (k := 168) (pc := 738) (i := .i2l) (len := 1) rfl _ _ _ _ _).trans rfl
set_option maxRecDepth 20000 in
theorem v_168_739 (b : B3) (v0 : AV) (v1 : AV) (v2 : AV) (v3 : AV) (st : List AV) (σ : Sto) (Q : Po) : Ev b 168 739 [v0, v1, v2, v3] st σ Q = (Ev b 168 742 [v0, v1, v2, v3] (aL 4294967295 :: st) σ Q) := (Ev_of (k := 168) (pc := 739) (i := .ldc2_w 13) (len := 3) rfl _ _ _ _ _).trans rfl
set_option maxRecDepth 20000 in
theorem v_168_742 (b : B3) (v0 : AV) (v1 : AV) (v2 : AV) (v3 : AV) (st : List AV) (x y : Int64) (σ : Sto) (Q : Po) : Ev b 168 742 [v0, v1, v2, v3] (aL y :: aL x :: st) σ Q = (Ev b 168 743 [v0, v1, v2, v3] (aL (x &&& y) :: st) σ Q) := (Ev_of (k := 168) (pc := 742) (i := .land) (len := 1) rfl _ _ _ _ _).trans rfl
set_option maxRecDepth 20000 in
theorem v_168_743 (b : B3) (v0 : AV) (v1 : AV) (v2 : AV) (v3 : AV) (st : List AV) (x y : Int64) (σ : Sto) (Q : Po) : Ev b 168 743 [v0, v1, v2, v3] (aL y :: aL x :: st) σ Q = (Ev b 168 744 [v0, v1, v2, v3] (aL (x ||| y) :: st) σ Q) := (Ev_of (k := 168) (pc := 743) (i := .lor) (len := 1) rfl _ _ _ _ _).trans rfl
set_option maxRecDepth 20000 in
theorem v_168_744 (d c s : Nat) (v0 : AV) (v1 : AV) (v2 : AV) (v3 : AV) (y0 : Int64) (y1 : Int32) (y2 : Nat) (σ : Sto) (Q : Po) : Ev (d + 1, c, s) 168 744 [v0, v1, v2, v3] [aL y0, aI y1, aR (some y2)] σ Q = (okO σ y2 5 ∧ CI d 72 [aR (some y2), aI y1, aL y0] σ (fun x2 σ2 => Ev (d + 1, c, s) 168 747 [v0, v1, v2, v3] [aI x2] σ2 Q)) := (g_inv (k := 168) (pc := 744) (x := 72) (i := .invokevirtual 72) rfl (Or.inl ⟨rfl, rfl⟩) rfl lq_7072).trans (congrArg (And (okO σ y2 5)) (vdo_I (k' := 72) (c1 := 0) (c2 := 0) (vs := [aR (some y2), aI y1, aL y0]) (rest := []) (Or.inl rfl) rfl rfl))
set_option maxRecDepth 20000 in
theorem v_168_747 (b : B3) (v0 : AV) (v1 : AV) (v2 : Option Nat) (v3 : AV) (st : List AV) (σ : Sto) (Q : Po) : Ev b 168 747 [v0, v1, aR v2, v3] st σ Q = (Ev b 168 748 [v0, v1, aR v2, v3] (aR v2 :: st) σ Q) := (Ev_of (k := 168) (pc := 747) (i := .aload_n 2) (len := 1) rfl _ _ _ _ _).trans rfl
set_option maxRecDepth 20000 in
theorem v_168_748 (b : B3) (v0 : Option Nat) (v1 : AV) (v2 : AV) (v3 : AV) (st : List AV) (σ : Sto) (Q : Po) : Ev b 168 748 [aR v0, v1, v2, v3] st σ Q = (Ev b 168 749 [aR v0, v1, v2, v3] (aR v0 :: st) σ Q) := (Ev_of (k := 168) (pc := 748) (i := .aload_n 0) (len := 1) rfl _ _ _ _ _).trans rfl
set_option maxRecDepth 20000 in
theorem v_168_749 (b : B3) (v0 : AV) (v1 : AV) (v2 : AV) (v3 : Int32) (st : List AV) (σ : Sto) (Q : Po) : Ev b 168 749 [v0, v1, v2, aI v3] st σ Q = (Ev b 168 750 [v0, v1, v2, aI v3] (aI v3 :: st) σ Q) := (Ev_of (k := 168) (pc := 749) (i := .iload_n 3) (len := 1) rfl _ _ _ _ _).trans rfl
set_option maxRecDepth 20000 in
theorem v_168_750 (b : B3) (v0 : AV) (v1 : AV) (v2 : AV) (v3 : AV) (st : List AV) (σ : Sto) (Q : Po) : Ev b 168 750 [v0, v1, v2, v3] st σ Q = (Ev b 168 751 [v0, v1, v2, v3] (aI 1 :: st) σ Q) := (Ev_of (k := 168) (pc := 750) (i := .iconst 1) (len := 1) rfl _ _ _ _ _).trans (congrArg (fun z => Ev b 168 751 [v0, v1, v2, v3] (aI z :: st) σ Q) ki_1)
set_option maxRecDepth 20000 in
theorem v_168_751 (b : B3) (v0 : AV) (v1 : AV) (v2 : AV) (v3 : AV) (st : List AV) (x y : Int32) (σ : Sto) (Q : Po) : Ev b 168 751 [v0, v1, v2, v3] (aI y :: aI x :: st) σ Q = (Ev b 168 752 [v0, v1, v2, v3] (aI (x + y) :: st) σ Q) := (Ev_of (k := 168) (pc := 751) (i := .iadd) (len := 1) rfl _ _ _ _ _).trans rfl
set_option maxRecDepth 20000 in
theorem v_168_752 (b : B3) (v0 : AV) (v1 : AV) (v2 : AV) (v3 : AV) (st : List AV) (i : Int32) (a : Nat) (σ : Sto) (Q : Po) : Ev b 168 752 [v0, v1, v2, v3] (aI i :: aR (some a) :: st) σ Q = (okX σ a i ∧ Ev b 168 753 [v0, v1, v2, v3] (aI (gi σ a i.toNatClampNeg) :: st) σ Q) := (Ev_of (k := 168) (pc := 752) (i := .iaload) (len := 1) rfl _ _ _ _ _).trans rfl
set_option maxRecDepth 20000 in
theorem v_168_753 (b : B3) (v0 : Option Nat) (v1 : AV) (v2 : AV) (v3 : AV) (st : List AV) (σ : Sto) (Q : Po) : Ev b 168 753 [aR v0, v1, v2, v3] st σ Q = (Ev b 168 754 [aR v0, v1, v2, v3] (aR v0 :: st) σ Q) := (Ev_of (k := 168) (pc := 753) (i := .aload_n 0) (len := 1) rfl _ _ _ _ _).trans rfl
set_option maxRecDepth 20000 in
theorem v_168_754 (b : B3) (v0 : AV) (v1 : AV) (v2 : AV) (v3 : Int32) (st : List AV) (σ : Sto) (Q : Po) : Ev b 168 754 [v0, v1, v2, aI v3] st σ Q = (Ev b 168 755 [v0, v1, v2, aI v3] (aI v3 :: st) σ Q) := (Ev_of (k := 168) (pc := 754) (i := .iload_n 3) (len := 1) rfl _ _ _ _ _).trans rfl
set_option maxRecDepth 20000 in
theorem v_168_755 (b : B3) (v0 : AV) (v1 : AV) (v2 : AV) (v3 : AV) (st : List AV) (σ : Sto) (Q : Po) : Ev b 168 755 [v0, v1, v2, v3] st σ Q = (Ev b 168 756 [v0, v1, v2, v3] (aI 2 :: st) σ Q) := (Ev_of (k := 168) (pc := 755) (i := .iconst 2) (len := 1) rfl _ _ _ _ _).trans (congrArg (fun z => Ev b 168 756 [v0, v1, v2, v3] (aI z :: st) σ Q) ki_2)
set_option maxRecDepth 20000 in
theorem v_168_756 (b : B3) (v0 : AV) (v1 : AV) (v2 : AV) (v3 : AV) (st : List AV) (x y : Int32) (σ : Sto) (Q : Po) : Ev b 168 756 [v0, v1, v2, v3] (aI y :: aI x :: st) σ Q = (Ev b 168 757 [v0, v1, v2, v3] (aI (x + y) :: st) σ Q) := (Ev_of (k := 168) (pc := 756) (i := .iadd) (len := 1) rfl _ _ _ _ _).trans rfl
set_option maxRecDepth 20000 in
theorem v_168_757 (b : B3) (v0 : AV) (v1 : AV) (v2 : AV) (v3 : AV) (st : List AV) (i : Int32) (a : Nat) (σ : Sto) (Q : Po) : Ev b 168 757 [v0, v1, v2, v3] (aI i :: aR (some a) :: st) σ Q = (okX σ a i ∧ Ev b 168 758 [v0, v1, v2, v3] (aI (gi σ a i.toNatClampNeg) :: st) σ Q) := (Ev_of (k := 168) (pc := 757) (i := .iaload) (len := 1) rfl _ _ _ _ _).trans rfl
set_option maxRecDepth 20000 in
theorem v_168_758 (b : B3) (v0 : AV) (v1 : AV) (v2 : AV) (v3 : AV) (st : List AV) (x : Int32) (σ : Sto) (Q : Po) : Ev b 168 758 [v0, v1, v2, v3] (aI x :: st) σ Q = (Ev b 168 759 [v0, v1, v2, v3] (aL x.toInt64 :: st) σ Q) := (Ev_of (k := 168) (pc := 758) (i := .i2l) (len := 1) rfl _ _ _ _ _).trans rfl
set_option maxRecDepth 20000 in
theorem v_168_759 (b : B3) (v0 : AV) (v1 : AV) (v2 : AV) (v3 : AV) (st : List AV) (σ : Sto) (Q : Po) : Ev b 168 759 [v0, v1, v2, v3] st σ Q = (Ev b 168 761 [v0, v1, v2, v3] (aI 32 :: st) σ Q) := (Ev_of (k := 168) (pc := 759) (i := .bipush 32) (len := 2) rfl _ _ _ _ _).trans (congrArg (fun z => Ev b 168 761 [v0, v1, v2, v3] (aI z :: st) σ Q) kb_32)
set_option maxRecDepth 20000 in
theorem v_168_761 (b : B3) (v0 : AV) (v1 : AV) (v2 : AV) (v3 : AV) (st : List AV) (x : Int64) (y : Int32) (σ : Sto) (Q : Po) : Ev b 168 761 [v0, v1, v2, v3] (aI y :: aL x :: st) σ Q = (Ev b 168 762 [v0, v1, v2, v3] (aL (x <<< (y.toInt64 &&& 63)) :: st) σ Q) := (Ev_of (k := 168) (pc := 761) (i := .lshl) (len := 1) rfl _ _ _ _ _).trans rfl
set_option maxRecDepth 20000 in
theorem v_168_762 (b : B3) (v0 : Option Nat) (v1 : AV) (v2 : AV) (v3 : AV) (st : List AV) (σ : Sto) (Q : Po) : Ev b 168 762 [aR v0, v1, v2, v3] st σ Q = (Ev b 168 763 [aR v0, v1, v2, v3] (aR v0 :: st) σ Q) := (Ev_of (k := 168) (pc := 762) (i := .aload_n 0) (len := 1) rfl _ _ _ _ _).trans rfl
set_option maxRecDepth 20000 in
theorem v_168_763 (b : B3) (v0 : AV) (v1 : AV) (v2 : AV) (v3 : Int32) (st : List AV) (σ : Sto) (Q : Po) : Ev b 168 763 [v0, v1, v2, aI v3] st σ Q = (Ev b 168 764 [v0, v1, v2, aI v3] (aI v3 :: st) σ Q) := (Ev_of (k := 168) (pc := 763) (i := .iload_n 3) (len := 1) rfl _ _ _ _ _).trans rfl
set_option maxRecDepth 20000 in
theorem v_168_764 (b : B3) (v0 : AV) (v1 : AV) (v2 : AV) (v3 : AV) (st : List AV) (σ : Sto) (Q : Po) : Ev b 168 764 [v0, v1, v2, v3] st σ Q = (Ev b 168 765 [v0, v1, v2, v3] (aI 3 :: st) σ Q) := (Ev_of (k := 168) (pc := 764) (i := .iconst 3) (len := 1) rfl _ _ _ _ _).trans (congrArg (fun z => Ev b 168 765 [v0, v1, v2, v3] (aI z :: st) σ Q) ki_3)
set_option maxRecDepth 20000 in
theorem v_168_765 (b : B3) (v0 : AV) (v1 : AV) (v2 : AV) (v3 : AV) (st : List AV) (x y : Int32) (σ : Sto) (Q : Po) : Ev b 168 765 [v0, v1, v2, v3] (aI y :: aI x :: st) σ Q = (Ev b 168 766 [v0, v1, v2, v3] (aI (x + y) :: st) σ Q) := (Ev_of (k := 168) (pc := 765) (i := .iadd) (len := 1) rfl _ _ _ _ _).trans rfl
set_option maxRecDepth 20000 in
theorem v_168_766 (b : B3) (v0 : AV) (v1 : AV) (v2 : AV) (v3 : AV) (st : List AV) (i : Int32) (a : Nat) (σ : Sto) (Q : Po) : Ev b 168 766 [v0, v1, v2, v3] (aI i :: aR (some a) :: st) σ Q = (okX σ a i ∧ Ev b 168 767 [v0, v1, v2, v3] (aI (gi σ a i.toNatClampNeg) :: st) σ Q) := (Ev_of (k := 168) (pc := 766) (i := .iaload) (len := 1) rfl _ _ _ _ _).trans rfl
set_option maxRecDepth 20000 in
theorem v_168_767 (b : B3) (v0 : AV) (v1 : AV) (v2 : AV) (v3 : AV) (st : List AV) (x : Int32) (σ : Sto) (Q : Po) : Ev b 168 767 [v0, v1, v2, v3] (aI x :: st) σ Q = (Ev b 168 768 [v0, v1, v2, v3] (aL x.toInt64 :: st) σ Q) := (Ev_of (k := 168) (pc := 767) (i := .i2l) (len := 1) rfl _ _ _ _ _).trans rfl
set_option maxRecDepth 20000 in
theorem v_168_768 (b : B3) (v0 : AV) (v1 : AV) (v2 : AV) (v3 : AV) (st : List AV) (σ : Sto) (Q : Po) : Ev b 168 768 [v0, v1, v2, v3] st σ Q = (Ev b 168 771 [v0, v1, v2, v3] (aL 4294967295 :: st) σ Q) := (Ev_of (k := 168) (pc := 768) (i := .ldc2_w 13) (len := 3) rfl _ _ _ _ _).trans rfl
set_option maxRecDepth 20000 in
theorem v_168_771 (b : B3) (v0 : AV) (v1 : AV) (v2 : AV) (v3 : AV) (st : List AV) (x y : Int64) (σ : Sto) (Q : Po) : Ev b 168 771 [v0, v1, v2, v3] (aL y :: aL x :: st) σ Q = (Ev b 168 772 [v0, v1, v2, v3] (aL (x &&& y) :: st) σ Q) := (Ev_of (k := 168) (pc := 771) (i := .land) (len := 1) rfl _ _ _ _ _).trans rfl
set_option maxRecDepth 20000 in
theorem v_168_772 (b : B3) (v0 : AV) (v1 : AV) (v2 : AV) (v3 : AV) (st : List AV) (x y : Int64) (σ : Sto) (Q : Po) : Ev b 168 772 [v0, v1, v2, v3] (aL y :: aL x :: st) σ Q = (Ev b 168 773 [v0, v1, v2, v3] (aL (x ||| y) :: st) σ Q) := (Ev_of (k := 168) (pc := 772) (i := .lor) (len := 1) rfl _ _ _ _ _).trans rfl
set_option maxRecDepth 20000 in
theorem v_168_773 (d c s : Nat) (v0 : AV) (v1 : AV) (v2 : AV) (v3 : AV) (y0 : Int64) (y1 : Int32) (y2 : Nat) (y3 : Int32) (σ : Sto) (Q : Po) : Ev (d + 1, c, s) 168 773 [v0, v1, v2, v3] [aL y0, aI y1, aR (some y2), aI y3] σ Q = (okO σ y2 6 ∧ CI d 138 [aR (some y2), aI y1, aL y0] σ (fun x2 σ2 => Ev (d + 1, c, s) 168 776 [v0, v1, v2, v3] [aI x2, aI y3] σ2 Q)) := (g_inv (k := 168) (pc := 773) (x := 76) (i := .invokevirtual 76) rfl (Or.inl ⟨rfl, rfl⟩) rfl lq_7076).trans (congrArg (And (okO σ y2 6)) (vdo_I (k' := 138) (c1 := 0) (c2 := 0) (vs := [aR (some y2), aI y1, aL y0]) (rest := [aI y3]) (Or.inl rfl) rfl rfl))
set_option maxRecDepth 20000 in
theorem v_168_776 (b : B3) (v0 : AV) (v1 : AV) (v2 : AV) (v3 : AV) (st : List AV) (x y : Int32) (σ : Sto) (Q : Po) : Ev b 168 776 [v0, v1, v2, v3] (aI y :: aI x :: st) σ Q = ((x = y → Ev b 168 1195 [v0, v1, v2, v3] st σ Q) ∧ (¬ x = y → Ev b 168 779 [v0, v1, v2, v3] st σ Q)) := (Ev_of (k := 168) (pc := 776) (i := .if_icmp .eq 419) (len := 3) rfl _ _ _ _ _).trans rfl
set_option maxRecDepth 20000 in
theorem v_168_779 (b : B3) (v0 : AV) (v1 : AV) (v2 : AV) (v3 : AV) (st : List AV) (σ : Sto) (Q : Po) : Ev b 168 779 [v0, v1, v2, v3] st σ Q = (Ev b 168 780 [v0, v1, v2, v3] (aI 0 :: st) σ Q) := (Ev_of (k := 168) (pc := 779) (i := .iconst 0) (len := 1) rfl _ _ _ _ _).trans (congrArg (fun z => Ev b 168 780 [v0, v1, v2, v3] (aI z :: st) σ Q) ki_0)
set_option maxRecDepth 20000 in
theorem v_168_780 (b : B3) (v0 : AV) (v1 : AV) (v2 : AV) (v3 : AV) (x : Int32) (σ : Sto) (Q : Po) : Ev b 168 780 [v0, v1, v2, v3] [aI x] σ Q = ((x = 0 ∨ x = 1) ∧ Q (some (aI x)) σ) := (Ev_of (k := 168) (pc := 780) (i := .ireturn) (len := 1) rfl _ _ _ _ _).trans rfl
set_option maxRecDepth 20000 in
theorem v_168_781 (b : B3) (v0 : AV) (v1 : Option Nat) (v2 : AV) (v3 : AV) (st : List AV) (σ : Sto) (Q : Po) : Ev b 168 781 [v0, aR v1, v2, v3] st σ Q = (Ev b 168 782 [v0, aR v1, v2, v3] (aR v1 :: st) σ Q) := (Ev_of (k := 168) (pc := 781) (i := .aload_n 1) (len := 1) rfl _ _ _ _ _).trans rfl
set_option maxRecDepth 20000 in
theorem v_168_782 (d c s : Nat) (v0 : AV) (v1 : AV) (v2 : AV) (v3 : AV) (y0 : Nat) (σ : Sto) (Q : Po) : Ev (d + 1, c, s) 168 782 [v0, v1, v2, v3] [aR (some y0)] σ Q = (okO σ y0 5 ∧ CI d 73 [aR (some y0)] σ (fun x2 σ2 => Ev (d + 1, c, s) 168 785 [v0, v1, v2, v3] [aI x2] σ2 Q)) := (g_inv (k := 168) (pc := 782) (x := 77) (i := .invokevirtual 77) rfl (Or.inl ⟨rfl, rfl⟩) rfl lq_7077).trans (congrArg (And (okO σ y0 5)) (vdo_I (k' := 73) (c1 := 0) (c2 := 0) (vs := [aR (some y0)]) (rest := []) (Or.inl rfl) rfl rfl))
set_option maxRecDepth 20000 in
theorem v_168_785 (b : B3) (v0 : AV) (v1 : AV) (v2 : Option Nat) (v3 : AV) (st : List AV) (σ : Sto) (Q : Po) : Ev b 168 785 [v0, v1, aR v2, v3] st σ Q = (Ev b 168 786 [v0, v1, aR v2, v3] (aR v2 :: st) σ Q) := (Ev_of (k := 168) (pc := 785) (i := .aload_n 2) (len := 1) rfl _ _ _ _ _).trans rfl
set_option maxRecDepth 20000 in
theorem v_168_786 (d c s : Nat) (v0 : AV) (v1 : AV) (v2 : AV) (v3 : AV) (y0 : Nat) (y1 : Int32) (σ : Sto) (Q : Po) : Ev (d + 1, c, s) 168 786 [v0, v1, v2, v3] [aR (some y0), aI y1] σ Q = (okO σ y0 6 ∧ CI d 139 [aR (some y0)] σ (fun x2 σ2 => Ev (d + 1, c, s) 168 789 [v0, v1, v2, v3] [aI x2, aI y1] σ2 Q)) := (g_inv (k := 168) (pc := 786) (x := 80) (i := .invokevirtual 80) rfl (Or.inl ⟨rfl, rfl⟩) rfl lq_7080).trans (congrArg (And (okO σ y0 6)) (vdo_I (k' := 139) (c1 := 0) (c2 := 0) (vs := [aR (some y0)]) (rest := [aI y1]) (Or.inl rfl) rfl rfl))
set_option maxRecDepth 20000 in
theorem v_168_789 (b : B3) (v0 : AV) (v1 : AV) (v2 : AV) (v3 : AV) (st : List AV) (x y : Int32) (σ : Sto) (Q : Po) : Ev b 168 789 [v0, v1, v2, v3] (aI y :: aI x :: st) σ Q = ((x = y → Ev b 168 1195 [v0, v1, v2, v3] st σ Q) ∧ (¬ x = y → Ev b 168 792 [v0, v1, v2, v3] st σ Q)) := (Ev_of (k := 168) (pc := 789) (i := .if_icmp .eq 406) (len := 3) rfl _ _ _ _ _).trans rfl
set_option maxRecDepth 20000 in
theorem v_168_792 (b : B3) (v0 : AV) (v1 : AV) (v2 : AV) (v3 : AV) (st : List AV) (σ : Sto) (Q : Po) : Ev b 168 792 [v0, v1, v2, v3] st σ Q = (Ev b 168 793 [v0, v1, v2, v3] (aI 0 :: st) σ Q) := (Ev_of (k := 168) (pc := 792) (i := .iconst 0) (len := 1) rfl _ _ _ _ _).trans (congrArg (fun z => Ev b 168 793 [v0, v1, v2, v3] (aI z :: st) σ Q) ki_0)
set_option maxRecDepth 20000 in
theorem v_168_793 (b : B3) (v0 : AV) (v1 : AV) (v2 : AV) (v3 : AV) (x : Int32) (σ : Sto) (Q : Po) : Ev b 168 793 [v0, v1, v2, v3] [aI x] σ Q = ((x = 0 ∨ x = 1) ∧ Q (some (aI x)) σ) := (Ev_of (k := 168) (pc := 793) (i := .ireturn) (len := 1) rfl _ _ _ _ _).trans rfl
set_option maxRecDepth 20000 in
theorem v_168_794 (b : B3) (v0 : AV) (v1 : Option Nat) (v2 : AV) (v3 : AV) (st : List AV) (σ : Sto) (Q : Po) : Ev b 168 794 [v0, aR v1, v2, v3] st σ Q = (Ev b 168 795 [v0, aR v1, v2, v3] (aR v1 :: st) σ Q) := (Ev_of (k := 168) (pc := 794) (i := .aload_n 1) (len := 1) rfl _ _ _ _ _).trans rfl
set_option maxRecDepth 20000 in
theorem v_168_795 (b : B3) (v0 : Option Nat) (v1 : AV) (v2 : AV) (v3 : AV) (st : List AV) (σ : Sto) (Q : Po) : Ev b 168 795 [aR v0, v1, v2, v3] st σ Q = (Ev b 168 796 [aR v0, v1, v2, v3] (aR v0 :: st) σ Q) := (Ev_of (k := 168) (pc := 795) (i := .aload_n 0) (len := 1) rfl _ _ _ _ _).trans rfl
set_option maxRecDepth 20000 in
theorem v_168_796 (b : B3) (v0 : AV) (v1 : AV) (v2 : AV) (v3 : Int32) (st : List AV) (σ : Sto) (Q : Po) : Ev b 168 796 [v0, v1, v2, aI v3] st σ Q = (Ev b 168 797 [v0, v1, v2, aI v3] (aI v3 :: st) σ Q) := (Ev_of (k := 168) (pc := 796) (i := .iload_n 3) (len := 1) rfl _ _ _ _ _).trans rfl
set_option maxRecDepth 20000 in
theorem v_168_797 (b : B3) (v0 : AV) (v1 : AV) (v2 : AV) (v3 : AV) (st : List AV) (σ : Sto) (Q : Po) : Ev b 168 797 [v0, v1, v2, v3] st σ Q = (Ev b 168 798 [v0, v1, v2, v3] (aI 1 :: st) σ Q) := (Ev_of (k := 168) (pc := 797) (i := .iconst 1) (len := 1) rfl _ _ _ _ _).trans (congrArg (fun z => Ev b 168 798 [v0, v1, v2, v3] (aI z :: st) σ Q) ki_1)
set_option maxRecDepth 20000 in
theorem v_168_798 (b : B3) (v0 : AV) (v1 : AV) (v2 : AV) (v3 : AV) (st : List AV) (x y : Int32) (σ : Sto) (Q : Po) : Ev b 168 798 [v0, v1, v2, v3] (aI y :: aI x :: st) σ Q = (Ev b 168 799 [v0, v1, v2, v3] (aI (x + y) :: st) σ Q) := (Ev_of (k := 168) (pc := 798) (i := .iadd) (len := 1) rfl _ _ _ _ _).trans rfl
set_option maxRecDepth 20000 in
theorem v_168_799 (b : B3) (v0 : AV) (v1 : AV) (v2 : AV) (v3 : AV) (st : List AV) (i : Int32) (a : Nat) (σ : Sto) (Q : Po) : Ev b 168 799 [v0, v1, v2, v3] (aI i :: aR (some a) :: st) σ Q = (okX σ a i ∧ Ev b 168 800 [v0, v1, v2, v3] (aI (gi σ a i.toNatClampNeg) :: st) σ Q) := (Ev_of (k := 168) (pc := 799) (i := .iaload) (len := 1) rfl _ _ _ _ _).trans rfl
set_option maxRecDepth 20000 in
theorem v_168_800 (b : B3) (v0 : Option Nat) (v1 : AV) (v2 : AV) (v3 : AV) (st : List AV) (σ : Sto) (Q : Po) : Ev b 168 800 [aR v0, v1, v2, v3] st σ Q = (Ev b 168 801 [aR v0, v1, v2, v3] (aR v0 :: st) σ Q) := (Ev_of (k := 168) (pc := 800) (i := .aload_n 0) (len := 1) rfl _ _ _ _ _).trans rfl
set_option maxRecDepth 20000 in
theorem v_168_801 (b : B3) (v0 : AV) (v1 : AV) (v2 : AV) (v3 : Int32) (st : List AV) (σ : Sto) (Q : Po) : Ev b 168 801 [v0, v1, v2, aI v3] st σ Q = (Ev b 168 802 [v0, v1, v2, aI v3] (aI v3 :: st) σ Q) := (Ev_of (k := 168) (pc := 801) (i := .iload_n 3) (len := 1) rfl _ _ _ _ _).trans rfl
set_option maxRecDepth 20000 in
theorem v_168_802 (b : B3) (v0 : AV) (v1 : AV) (v2 : AV) (v3 : AV) (st : List AV) (σ : Sto) (Q : Po) : Ev b 168 802 [v0, v1, v2, v3] st σ Q = (Ev b 168 803 [v0, v1, v2, v3] (aI 2 :: st) σ Q) := (Ev_of (k := 168) (pc := 802) (i := .iconst 2) (len := 1) rfl _ _ _ _ _).trans (congrArg (fun z => Ev b 168 803 [v0, v1, v2, v3] (aI z :: st) σ Q) ki_2)
set_option maxRecDepth 20000 in
theorem v_168_803 (b : B3) (v0 : AV) (v1 : AV) (v2 : AV) (v3 : AV) (st : List AV) (x y : Int32) (σ : Sto) (Q : Po) : Ev b 168 803 [v0, v1, v2, v3] (aI y :: aI x :: st) σ Q = (Ev b 168 804 [v0, v1, v2, v3] (aI (x + y) :: st) σ Q) := (Ev_of (k := 168) (pc := 803) (i := .iadd) (len := 1) rfl _ _ _ _ _).trans rfl
set_option maxRecDepth 20000 in
theorem v_168_804 (b : B3) (v0 : AV) (v1 : AV) (v2 : AV) (v3 : AV) (st : List AV) (i : Int32) (a : Nat) (σ : Sto) (Q : Po) : Ev b 168 804 [v0, v1, v2, v3] (aI i :: aR (some a) :: st) σ Q = (okX σ a i ∧ Ev b 168 805 [v0, v1, v2, v3] (aI (gi σ a i.toNatClampNeg) :: st) σ Q) := (Ev_of (k := 168) (pc := 804) (i := .iaload) (len := 1) rfl _ _ _ _ _).trans rfl
set_option maxRecDepth 20000 in
theorem v_168_805 (d c s : Nat) (v0 : AV) (v1 : AV) (v2 : AV) (v3 : AV) (y0 : Int32) (y1 : Int32) (y2 : Nat) (σ : Sto) (Q : Po) : Ev (d + 1, c, s) 168 805 [v0, v1, v2, v3] [aI y0, aI y1, aR (some y2)] σ Q = (okO σ y2 5 ∧ CI d 74 [aR (some y2), aI y1, aI y0] σ (fun x2 σ2 => Ev (d + 1, c, s) 168 808 [v0, v1, v2, v3] [aI x2] σ2 Q)) := (g_inv (k := 168) (pc := 805) (x := 81) (i := .invokevirtual 81) rfl (Or.inl ⟨rfl, rfl⟩) rfl lq_7081).trans (congrArg (And (okO σ y2 5)) (vdo_I (k' := 74) (c1 := 0) (c2 := 0) (vs := [aR (some y2), aI y1, aI y0]) (rest := []) (Or.inl rfl) rfl rfl))
set_option maxRecDepth 20000 in
theorem v_168_808 (b : B3) (v0 : AV) (v1 : AV) (v2 : Option Nat) (v3 : AV) (st : List AV) (σ : Sto) (Q : Po) : Ev b 168 808 [v0, v1, aR v2, v3] st σ Q = (Ev b 168 809 [v0, v1, aR v2, v3] (aR v2 :: st) σ Q) := (Ev_of (k := 168) (pc := 808) (i := .aload_n 2) (len := 1) rfl _ _ _ _ _).trans rfl
set_option maxRecDepth 20000 in
theorem v_168_809 (b : B3) (v0 : Option Nat) (v1 : AV) (v2 : AV) (v3 : AV) (st : List AV) (σ : Sto) (Q : Po) : Ev b 168 809 [aR v0, v1, v2, v3] st σ Q = (Ev b 168 810 [aR v0, v1, v2, v3] (aR v0 :: st) σ Q) := (Ev_of (k := 168) (pc := 809) (i := .aload_n 0) (len := 1) rfl _ _ _ _ _).trans rfl
set_option maxRecDepth 20000 in
theorem v_168_810 (b : B3) (v0 : AV) (v1 : AV) (v2 : AV) (v3 : Int32) (st : List AV) (σ : Sto) (Q : Po) : Ev b 168 810 [v0, v1, v2, aI v3] st σ Q = (Ev b 168 811 [v0, v1, v2, aI v3] (aI v3 :: st) σ Q) := (Ev_of (k := 168) (pc := 810) (i := .iload_n 3) (len := 1) rfl _ _ _ _ _).trans rfl
set_option maxRecDepth 20000 in
theorem v_168_811 (b : B3) (v0 : AV) (v1 : AV) (v2 : AV) (v3 : AV) (st : List AV) (σ : Sto) (Q : Po) : Ev b 168 811 [v0, v1, v2, v3] st σ Q = (Ev b 168 812 [v0, v1, v2, v3] (aI 1 :: st) σ Q) := (Ev_of (k := 168) (pc := 811) (i := .iconst 1) (len := 1) rfl _ _ _ _ _).trans (congrArg (fun z => Ev b 168 812 [v0, v1, v2, v3] (aI z :: st) σ Q) ki_1)
set_option maxRecDepth 20000 in
theorem v_168_812 (b : B3) (v0 : AV) (v1 : AV) (v2 : AV) (v3 : AV) (st : List AV) (x y : Int32) (σ : Sto) (Q : Po) : Ev b 168 812 [v0, v1, v2, v3] (aI y :: aI x :: st) σ Q = (Ev b 168 813 [v0, v1, v2, v3] (aI (x + y) :: st) σ Q) := (Ev_of (k := 168) (pc := 812) (i := .iadd) (len := 1) rfl _ _ _ _ _).trans rfl
set_option maxRecDepth 20000 in
theorem v_168_813 (b : B3) (v0 : AV) (v1 : AV) (v2 : AV) (v3 : AV) (st : List AV) (i : Int32) (a : Nat) (σ : Sto) (Q : Po) : Ev b 168 813 [v0, v1, v2, v3] (aI i :: aR (some a) :: st) σ Q = (okX σ a i ∧ Ev b 168 814 [v0, v1, v2, v3] (aI (gi σ a i.toNatClampNeg) :: st) σ Q) := (Ev_of (k := 168) (pc := 813) (i := .iaload) (len := 1) rfl _ _ _ _ _).trans rfl
set_option maxRecDepth 20000 in
theorem v_168_814 (b : B3) (v0 : Option Nat) (v1 : AV) (v2 : AV) (v3 : AV) (st : List AV) (σ : Sto) (Q : Po) : Ev b 168 814 [aR v0, v1, v2, v3] st σ Q = (Ev b 168 815 [aR v0, v1, v2, v3] (aR v0 :: st) σ Q) := (Ev_of (k := 168) (pc := 814) (i := .aload_n 0) (len := 1) rfl _ _ _ _ _).trans rfl
set_option maxRecDepth 20000 in
theorem v_168_815 (b : B3) (v0 : AV) (v1 : AV) (v2 : AV) (v3 : Int32) (st : List AV) (σ : Sto) (Q : Po) : Ev b 168 815 [v0, v1, v2, aI v3] st σ Q = (Ev b 168 816 [v0, v1, v2, aI v3] (aI v3 :: st) σ Q) := (Ev_of (k := 168) (pc := 815) (i := .iload_n 3) (len := 1) rfl _ _ _ _ _).trans rfl
set_option maxRecDepth 20000 in
theorem v_168_816 (b : B3) (v0 : AV) (v1 : AV) (v2 : AV) (v3 : AV) (st : List AV) (σ : Sto) (Q : Po) : Ev b 168 816 [v0, v1, v2, v3] st σ Q = (Ev b 168 817 [v0, v1, v2, v3] (aI 2 :: st) σ Q) := (Ev_of (k := 168) (pc := 816) (i := .iconst 2) (len := 1) rfl _ _ _ _ _).trans (congrArg (fun z => Ev b 168 817 [v0, v1, v2, v3] (aI z :: st) σ Q) ki_2)
set_option maxRecDepth 20000 in
theorem v_168_817 (b : B3) (v0 : AV) (v1 : AV) (v2 : AV) (v3 : AV) (st : List AV) (x y : Int32) (σ : Sto) (Q : Po) : Ev b 168 817 [v0, v1, v2, v3] (aI y :: aI x :: st) σ Q = (Ev b 168 818 [v0, v1, v2, v3] (aI (x + y) :: st) σ Q) := (Ev_of (k := 168) (pc := 817) (i := .iadd) (len := 1) rfl _ _ _ _ _).trans rfl
set_option maxRecDepth 20000 in
theorem v_168_818 (b : B3) (v0 : AV) (v1 : AV) (v2 : AV) (v3 : AV) (st : List AV) (i : Int32) (a : Nat) (σ : Sto) (Q : Po) : Ev b 168 818 [v0, v1, v2, v3] (aI i :: aR (some a) :: st) σ Q = (okX σ a i ∧ Ev b 168 819 [v0, v1, v2, v3] (aI (gi σ a i.toNatClampNeg) :: st) σ Q) := (Ev_of (k := 168) (pc := 818) (i := .iaload) (len := 1) rfl _ _ _ _ _).trans rfl
set_option maxRecDepth 20000 in
theorem v_168_819 (d c s : Nat) (v0 : AV) (v1 : AV) (v2 : AV) (v3 : AV) (y0 : Int32) (y1 : Int32) (y2 : Nat) (y3 : Int32) (σ : Sto) (Q : Po) : Ev (d + 1, c, s) 168 819 [v0, v1, v2, v3] [aI y0, aI y1, aR (some y2), aI y3] σ Q = (okO σ y2 6 ∧ CI d 146 [aR (some y2), aI y1, aI y0] σ (fun x2 σ2 => Ev (d + 1, c, s) 168 822 [v0, v1, v2, v3] [aI x2, aI y3] σ2 Q)) := (g_inv (k := 168) (pc := 819) (x := 84) (i := .invokevirtual 84) rfl (Or.inl ⟨rfl, rfl⟩) rfl lq_7084).trans (congrArg (And (okO σ y2 6)) (vdo_I (k' := 146) (c1 := 0) (c2 := 0) (vs := [aR (some y2), aI y1, aI y0]) (rest := [aI y3]) (Or.inl rfl) rfl rfl))
set_option maxRecDepth 20000 in
theorem v_168_822 (b : B3) (v0 : AV) (v1 : AV) (v2 : AV) (v3 : AV) (st : List AV) (x y : Int32) (σ : Sto) (Q : Po) : Ev b 168 822 [v0, v1, v2, v3] (aI y :: aI x :: st) σ Q = ((x = y → Ev b 168 1195 [v0, v1, v2, v3] st σ Q) ∧ (¬ x = y → Ev b 168 825 [v0, v1, v2, v3] st σ Q)) := (Ev_of (k := 168) (pc := 822) (i := .if_icmp .eq 373) (len := 3) rfl _ _ _ _ _).trans rfl
set_option maxRecDepth 20000 in
theorem v_168_825 (b : B3) (v0 : AV) (v1 : AV) (v2 : AV) (v3 : AV) (st : List AV) (σ : Sto) (Q : Po) : Ev b 168 825 [v0, v1, v2, v3] st σ Q = (Ev b 168 826 [v0, v1, v2, v3] (aI 0 :: st) σ Q) := (Ev_of (k := 168) (pc := 825) (i := .iconst 0) (len := 1) rfl _ _ _ _ _).trans (congrArg (fun z => Ev b 168 826 [v0, v1, v2, v3] (aI z :: st) σ Q) ki_0)
set_option maxRecDepth 20000 in
theorem v_168_826 (b : B3) (v0 : AV) (v1 : AV) (v2 : AV) (v3 : AV) (x : Int32) (σ : Sto) (Q : Po) : Ev b 168 826 [v0, v1, v2, v3] [aI x] σ Q = ((x = 0 ∨ x = 1) ∧ Q (some (aI x)) σ) := (Ev_of (k := 168) (pc := 826) (i := .ireturn) (len := 1) rfl _ _ _ _ _).trans rfl
set_option maxRecDepth 20000 in
theorem v_168_827 (b : B3) (v0 : AV) (v1 : Option Nat) (v2 : AV) (v3 : AV) (st : List AV) (σ : Sto) (Q : Po) : Ev b 168 827 [v0, aR v1, v2, v3] st σ Q = (Ev b 168 828 [v0, aR v1, v2, v3] (aR v1 :: st) σ Q) := (Ev_of (k := 168) (pc := 827) (i := .aload_n 1) (len := 1) rfl _ _ _ _ _).trans rfl
set_option maxRecDepth 20000 in
theorem v_168_828 (b : B3) (v0 : Option Nat) (v1 : AV) (v2 : AV) (v3 : AV) (st : List AV) (σ : Sto) (Q : Po) : Ev b 168 828 [aR v0, v1, v2, v3] st σ Q = (Ev b 168 829 [aR v0, v1, v2, v3] (aR v0 :: st) σ Q) := (Ev_of (k := 168) (pc := 828) (i := .aload_n 0) (len := 1) rfl _ _ _ _ _).trans rfl
set_option maxRecDepth 20000 in
theorem v_168_829 (b : B3) (v0 : AV) (v1 : AV) (v2 : AV) (v3 : Int32) (st : List AV) (σ : Sto) (Q : Po) : Ev b 168 829 [v0, v1, v2, aI v3] st σ Q = (Ev b 168 830 [v0, v1, v2, aI v3] (aI v3 :: st) σ Q) := (Ev_of (k := 168) (pc := 829) (i := .iload_n 3) (len := 1) rfl _ _ _ _ _).trans rfl
set_option maxRecDepth 20000 in
theorem v_168_830 (b : B3) (v0 : AV) (v1 : AV) (v2 : AV) (v3 : AV) (st : List AV) (σ : Sto) (Q : Po) : Ev b 168 830 [v0, v1, v2, v3] st σ Q = (Ev b 168 831 [v0, v1, v2, v3] (aI 1 :: st) σ Q) := (Ev_of (k := 168) (pc := 830) (i := .iconst 1) (len := 1) rfl _ _ _ _ _).trans (congrArg (fun z => Ev b 168 831 [v0, v1, v2, v3] (aI z :: st) σ Q) ki_1)
set_option maxRecDepth 20000 in
theorem v_168_831 (b : B3) (v0 : AV) (v1 : AV) (v2 : AV) (v3 : AV) (st : List AV) (x y : Int32) (σ : Sto) (Q : Po) : Ev b 168 831 [v0, v1, v2, v3] (aI y :: aI x :: st) σ Q = (Ev b 168 832 [v0, v1, v2, v3] (aI (x + y) :: st) σ Q) := (Ev_of (k := 168) (pc := 831) (i := .iadd) (len := 1) rfl _ _ _ _ _).trans rfl
set_option maxRecDepth 20000 in
theorem v_168_832 (b : B3) (v0 : AV) (v1 : AV) (v2 : AV) (v3 : AV) (st : List AV) (i : Int32) (a : Nat) (σ : Sto) (Q : Po) : Ev b 168 832 [v0, v1, v2, v3] (aI i :: aR (some a) :: st) σ Q = (okX σ a i ∧ Ev b 168 833 [v0, v1, v2, v3] (aI (gi σ a i.toNatClampNeg) :: st) σ Q) := (Ev_of (k := 168) (pc := 832) (i := .iaload) (len := 1) rfl _ _ _ _ _).trans rfl
set_option maxRecDepth 20000 in
theorem v_168_833 (b : B3) (v0 : Option Nat) (v1 : AV) (v2 : AV) (v3 : AV) (st : List AV) (σ : Sto) (Q : Po) : Ev b 168 833 [aR v0, v1, v2, v3] st σ Q = (Ev b 168 834 [aR v0, v1, v2, v3] (aR v0 :: st) σ Q) := (Ev_of (k := 168) (pc := 833) (i := .aload_n 0) (len := 1) rfl _ _ _ _ _).trans rfl
set_option maxRecDepth 20000 in
theorem v_168_834 (b : B3) (v0 : AV) (v1 : AV) (v2 : AV) (v3 : Int32) (st : List AV) (σ : Sto) (Q : Po) : Ev b 168 834 [v0, v1, v2, aI v3] st σ Q = (Ev b 168 835 [v0, v1, v2, aI v3] (aI v3 :: st) σ Q) := (Ev_of (k := 168) (pc := 834) (i := .iload_n 3) (len := 1) rfl _ _ _ _ _).trans rfl
set_option maxRecDepth 20000 in
theorem v_168_835 (b : B3) (v0 : AV) (v1 : AV) (v2 : AV) (v3 : AV) (st : List AV) (σ : Sto) (Q : Po) : Ev b 168 835 [v0, v1, v2, v3] st σ Q = (Ev b 168 836 [v0, v1, v2, v3] (aI 2 :: st) σ Q) := (Ev_of (k := 168) (pc := 835) (i := .iconst 2) (len := 1) rfl _ _ _ _ _).trans (congrArg (fun z => Ev b 168 836 [v0, v1, v2, v3] (aI z :: st) σ Q) ki_2)
set_option maxRecDepth 20000 in
theorem v_168_836 (b : B3) (v0 : AV) (v1 : AV) (v2 : AV) (v3 : AV) (st : List AV) (x y : Int32) (σ : Sto) (Q : Po) : Ev b 168 836 [v0, v1, v2, v3] (aI y :: aI x :: st) σ Q = (Ev b 168 837 [v0, v1, v2, v3] (aI (x + y) :: st) σ Q) := (Ev_of (k := 168) (pc := 836) (i := .iadd) (len := 1) rfl _ _ _ _ _).trans rfl
set_option maxRecDepth 20000 in
theorem v_168_837 (b : B3) (v0 : AV) (v1 : AV) (v2 : AV) (v3 : AV) (st : List AV) (i : Int32) (a : Nat) (σ : Sto) (Q : Po) : Ev b 168 837 [v0, v1, v2, v3] (aI i :: aR (some a) :: st) σ Q = (okX σ a i ∧ Ev b 168 838 [v0, v1, v2, v3] (aI (gi σ a i.toNatClampNeg) :: st) σ Q) := (Ev_of (k := 168) (pc := 837) (i := .iaload) (len := 1) rfl _ _ _ _ _).trans rfl
set_option maxRecDepth 20000 in
theorem v_168_838 (d c s : Nat) (v0 : AV) (v1 : AV) (v2 : AV) (v3 : AV) (y0 : Int32) (y1 : Int32) (y2 : Nat) (σ : Sto) (Q : Po) : Ev (d + 1, c, s) 168 838 [v0, v1, v2, v3] [aI y0, aI y1, aR (some y2)] σ Q = (okO σ y2 5 ∧ CL d 75 [aR (some y2), aI y1, aI y0] σ (fun x2 σ2 => Ev (d + 1, c, s) 168 841 [v0, v1, v2, v3] [aL x2] σ2 Q)) := (g_inv (k := 168) (pc := 838) (x := 85) (i := .invokevirtual 85) rfl (Or.inl ⟨rfl, rfl⟩) rfl lq_7085).trans (congrArg (And (okO σ y2 5)) (vdo_L (k' := 75) (c1 := 0) (c2 := 0) (vs := [aR (some y2), aI y1, aI y0]) (rest := []) rfl rfl rfl))
set_option maxRecDepth 20000 in
theorem v_168_841 (b : B3) (v0 : AV) (v1 : AV) (v2 : Option Nat) (v3 : AV) (st : List AV) (σ : Sto) (Q : Po) : Ev b 168 841 [v0, v1, aR v2, v3] st σ Q = (Ev b 168 842 [v0, v1, aR v2, v3] (aR v2 :: st) σ Q) := (Ev_of (k := 168) (pc := 841) (i := .aload_n 2) (len := 1) rfl _ _ _ _ _).trans rfl
set_option maxRecDepth 20000 in
theorem v_168_842 (b : B3) (v0 : Option Nat) (v1 : AV) (v2 : AV) (v3 : AV) (st : List AV) (σ : Sto) (Q : Po) : Ev b 168 842 [aR v0, v1, v2, v3] st σ Q = (Ev b 168 843 [aR v0, v1, v2, v3] (aR v0 :: st) σ Q) := (Ev_of (k := 168) (pc := 842) (i := .aload_n 0) (len := 1) rfl _ _ _ _ _).trans rfl
set_option maxRecDepth 20000 in
theorem v_168_843 (b : B3) (v0 : AV) (v1 : AV) (v2 : AV) (v3 : Int32) (st : List AV) (σ : Sto) (Q : Po) : Ev b 168 843 [v0, v1, v2, aI v3] st σ Q = (Ev b 168 844 [v0, v1, v2, aI v3] (aI v3 :: st) σ Q) := (Ev_of (k := 168) (pc := 843) (i := .iload_n 3) (len := 1) rfl _ _ _ _ _).trans rfl
set_option maxRecDepth 20000 in
theorem v_168_844 (b : B3) (v0 : AV) (v1 : AV) (v2 : AV) (v3 : AV) (st : List AV) (σ : Sto) (Q : Po) : Ev b 168 844 [v0, v1, v2, v3] st σ Q = (Ev b 168 845 [v0, v1, v2, v3] (aI 1 :: st) σ Q) := (Ev_of (k := 168) (pc := 844) (i := .iconst 1) (len := 1) rfl _ _ _ _ _).trans (congrArg (fun z => Ev b 168 845 [v0, v1, v2, v3] (aI z :: st) σ Q) ki_1)
set_option maxRecDepth 20000 in
theorem v_168_845 (b : B3) (v0 : AV) (v1 : AV) (v2 : AV) (v3 : AV) (st : List AV) (x y : Int32) (σ : Sto) (Q : Po) : Ev b 168 845 [v0, v1, v2, v3] (aI y :: aI x :: st) σ Q = (Ev b 168 846 [v0, v1, v2, v3] (aI (x + y) :: st) σ Q) := (Ev_of (k := 168) (pc := 845) (i := .iadd) (len := 1) rfl _ _ _ _ _).trans rfl
set_option maxRecDepth 20000 in
theorem v_168_846 (b : B3) (v0 : AV) (v1 : AV) (v2 : AV) (v3 : AV) (st : List AV) (i : Int32) (a : Nat) (σ : Sto) (Q : Po) : Ev b 168 846 [v0, v1, v2, v3] (aI i :: aR (some a) :: st) σ Q = (okX σ a i ∧ Ev b 168 847 [v0, v1, v2, v3] (aI (gi σ a i.toNatClampNeg) :: st) σ Q) := (Ev_of (k := 168) (pc := 846) (i := .iaload) (len := 1) rfl _ _ _ _ _).trans rfl
set_option maxRecDepth 20000 in
theorem v_168_847 (b : B3) (v0 : Option Nat) (v1 : AV) (v2 : AV) (v3 : AV) (st : List AV) (σ : Sto) (Q : Po) : Ev b 168 847 [aR v0, v1, v2, v3] st σ Q = (Ev b 168 848 [aR v0, v1, v2, v3] (aR v0 :: st) σ Q) := (Ev_of (k := 168) (pc := 847) (i := .aload_n 0) (len := 1) rfl _ _ _ _ _).trans rfl
set_option maxRecDepth 20000 in
theorem v_168_848 (b : B3) (v0 : AV) (v1 : AV) (v2 : AV) (v3 : Int32) (st : List AV) (σ : Sto) (Q : Po) : Ev b 168 848 [v0, v1, v2, aI v3] st σ Q = (Ev b 168 849 [v0, v1, v2, aI v3] (aI v3 :: st) σ Q) := (Ev_of (k := 168) (pc := 848) (i := .iload_n 3) (len := 1) rfl _ _ _ _ _).trans rfl
set_option maxRecDepth 20000 in
theorem v_168_849 (b : B3) (v0 : AV) (v1 : AV) (v2 : AV) (v3 : AV) (st : List AV) (σ : Sto) (Q : Po) : Ev b 168 849 [v0, v1, v2, v3] st σ Q = (Ev b 168 850 [v0, v1, v2, v3] (aI 2 :: st) σ Q) := (Ev_of (k := 168) (pc := 849) (i := .iconst 2) (len := 1) rfl _ _ _ _ _).trans (congrArg (fun z => Ev b 168 850 [v0, v1, v2, v3] (aI z :: st) σ Q) ki_2)
set_option maxRecDepth 20000 in
theorem v_168_850 (b : B3) (v0 : AV) (v1 : AV) (v2 : AV) (v3 : AV) (st : List AV) (x y : Int32) (σ : Sto) (Q : Po) : Ev b 168 850 [v0, v1, v2, v3] (aI y :: aI x :: st) σ Q = (Ev b 168 851 [v0, v1, v2, v3] (aI (x + y) :: st) σ Q) := (Ev_of (k := 168) (pc := 850) (i := .iadd) (len := 1) rfl _ _ _ _ _).trans rfl
set_option maxRecDepth 20000 in
theorem v_168_851 (b : B3) (v0 : AV) (v1 : AV) (v2 : AV) (v3 : AV) (st : List AV) (i : Int32) (a : Nat) (σ : Sto) (Q : Po) : Ev b 168 851 [v0, v1, v2, v3] (aI i :: aR (some a) :: st) σ Q = (okX σ a i ∧ Ev b 168 852 [v0, v1, v2, v3] (aI (gi σ a i.toNatClampNeg) :: st) σ Q) := (Ev_of (k := 168) (pc := 851) (i := .iaload) (len := 1) rfl _ _ _ _ _).trans rfl
set_option maxRecDepth 20000 in
theorem v_168_852 (d c s : Nat) (v0 : AV) (v1 : AV) (v2 : AV) (v3 : AV) (y0 : Int32) (y1 : Int32) (y2 : Nat) (y3 : Int64) (σ : Sto) (Q : Po) : Ev (d + 1, c, s) 168 852 [v0, v1, v2, v3] [aI y0, aI y1, aR (some y2), aL y3] σ Q = (okO σ y2 6 ∧ CL d 147 [aR (some y2), aI y1, aI y0] σ (fun x2 σ2 => Ev (d + 1, c, s) 168 855 [v0, v1, v2, v3] [aL x2, aL y3] σ2 Q)) := (g_inv (k := 168) (pc := 852) (x := 88) (i := .invokevirtual 88) rfl (Or.inl ⟨rfl, rfl⟩) rfl lq_7088).trans (congrArg (And (okO σ y2 6)) (vdo_L (k' := 147) (c1 := 0) (c2 := 0) (vs := [aR (some y2), aI y1, aI y0]) (rest := [aL y3]) rfl rfl rfl))
set_option maxRecDepth 20000 in
theorem v_168_855 (b : B3) (v0 : AV) (v1 : AV) (v2 : AV) (v3 : AV) (st : List AV) (x y : Int64) (σ : Sto) (Q : Po) : Ev b 168 855 [v0, v1, v2, v3] (aL y :: aL x :: st) σ Q = (Ev b 168 856 [v0, v1, v2, v3] (aI (lg_cmp x y) :: st) σ Q) := (Ev_of (k := 168) (pc := 855) (i := .lcmp) (len := 1) rfl _ _ _ _ _).trans rfl
set_option maxRecDepth 20000 in
theorem v_168_856 (b : B3) (v0 : AV) (v1 : AV) (v2 : AV) (v3 : AV) (st : List AV) (x : Int32) (σ : Sto) (Q : Po) : Ev b 168 856 [v0, v1, v2, v3] (aI x :: st) σ Q = ((x = 0 → Ev b 168 1195 [v0, v1, v2, v3] st σ Q) ∧ (¬ x = 0 → Ev b 168 859 [v0, v1, v2, v3] st σ Q)) := (Ev_of (k := 168) (pc := 856) (i := .ifCond .eq 339) (len := 3) rfl _ _ _ _ _).trans rfl
set_option maxRecDepth 20000 in
theorem v_168_859 (b : B3) (v0 : AV) (v1 : AV) (v2 : AV) (v3 : AV) (st : List AV) (σ : Sto) (Q : Po) : Ev b 168 859 [v0, v1, v2, v3] st σ Q = (Ev b 168 860 [v0, v1, v2, v3] (aI 0 :: st) σ Q) := (Ev_of (k := 168) (pc := 859) (i := .iconst 0) (len := 1) rfl _ _ _ _ _).trans (congrArg (fun z => Ev b 168 860 [v0, v1, v2, v3] (aI z :: st) σ Q) ki_0)
set_option maxRecDepth 20000 in
theorem v_168_860 (b : B3) (v0 : AV) (v1 : AV) (v2 : AV) (v3 : AV) (x : Int32) (σ : Sto) (Q : Po) : Ev b 168 860 [v0, v1, v2, v3] [aI x] σ Q = ((x = 0 ∨ x = 1) ∧ Q (some (aI x)) σ) := (Ev_of (k := 168) (pc := 860) (i := .ireturn) (len := 1) rfl _ _ _ _ _).trans rfl
set_option maxRecDepth 20000 in
theorem v_168_861 (b : B3) (v0 : AV) (v1 : Option Nat) (v2 : AV) (v3 : AV) (st : List AV) (σ : Sto) (Q : Po) : Ev b 168 861 [v0, aR v1, v2, v3] st σ Q = (Ev b 168 862 [v0, aR v1, v2, v3] (aR v1 :: st) σ Q) := (Ev_of (k := 168) (pc := 861) (i := .aload_n 1) (len := 1) rfl _ _ _ _ _).trans rfl
set_option maxRecDepth 20000 in
theorem v_168_862 (b : B3) (v0 : Option Nat) (v1 : AV) (v2 : AV) (v3 : AV) (st : List AV) (σ : Sto) (Q : Po) : Ev b 168 862 [aR v0, v1, v2, v3] st σ Q = (Ev b 168 863 [aR v0, v1, v2, v3] (aR v0 :: st) σ Q) := (Ev_of (k := 168) (pc := 862) (i := .aload_n 0) (len := 1) rfl _ _ _ _ _).trans rfl
set_option maxRecDepth 20000 in
theorem v_168_863 (b : B3) (v0 : AV) (v1 : AV) (v2 : AV) (v3 : Int32) (st : List AV) (σ : Sto) (Q : Po) : Ev b 168 863 [v0, v1, v2, aI v3] st σ Q = (Ev b 168 864 [v0, v1, v2, aI v3] (aI v3 :: st) σ Q) := (Ev_of (k := 168) (pc := 863) (i := .iload_n 3) (len := 1) rfl _ _ _ _ _).trans rfl
set_option maxRecDepth 20000 in
theorem v_168_864 (b : B3) (v0 : AV) (v1 : AV) (v2 : AV) (v3 : AV) (st : List AV) (σ : Sto) (Q : Po) : Ev b 168 864 [v0, v1, v2, v3] st σ Q = (Ev b 168 865 [v0, v1, v2, v3] (aI 1 :: st) σ Q) := (Ev_of (k := 168) (pc := 864) (i := .iconst 1) (len := 1) rfl _ _ _ _ _).trans (congrArg (fun z => Ev b 168 865 [v0, v1, v2, v3] (aI z :: st) σ Q) ki_1)
set_option maxRecDepth 20000 in
theorem v_168_865 (b : B3) (v0 : AV) (v1 : AV) (v2 : AV) (v3 : AV) (st : List AV) (x y : Int32) (σ : Sto) (Q : Po) : Ev b 168 865 [v0, v1, v2, v3] (aI y :: aI x :: st) σ Q = (Ev b 168 866 [v0, v1, v2, v3] (aI (x + y) :: st) σ Q) := (Ev_of (k := 168) (pc := 865) (i := .iadd) (len := 1) rfl _ _ _ _ _).trans rfl
set_option maxRecDepth 20000 in
theorem v_168_866 (b : B3) (v0 : AV) (v1 : AV) (v2 : AV) (v3 : AV) (st : List AV) (i : Int32) (a : Nat) (σ : Sto) (Q : Po) : Ev b 168 866 [v0, v1, v2, v3] (aI i :: aR (some a) :: st) σ Q = (okX σ a i ∧ Ev b 168 867 [v0, v1, v2, v3] (aI (gi σ a i.toNatClampNeg) :: st) σ Q) := (Ev_of (k := 168) (pc := 866) (i := .iaload) (len := 1) rfl _ _ _ _ _).trans rfl
set_option maxRecDepth 20000 in
theorem v_168_867 (b : B3) (v0 : Option Nat) (v1 : AV) (v2 : AV) (v3 : AV) (st : List AV) (σ : Sto) (Q : Po) : Ev b 168 867 [aR v0, v1, v2, v3] st σ Q = (Ev b 168 868 [aR v0, v1, v2, v3] (aR v0 :: st) σ Q) := (Ev_of (k := 168) (pc := 867) (i := .aload_n 0) (len := 1) rfl _ _ _ _ _).trans rfl
set_option maxRecDepth 20000 in
theorem v_168_868 (b : B3) (v0 : AV) (v1 : AV) (v2 : AV) (v3 : Int32) (st : List AV) (σ : Sto) (Q : Po) : Ev b 168 868 [v0, v1, v2, aI v3] st σ Q = (Ev b 168 869 [v0, v1, v2, aI v3] (aI v3 :: st) σ Q) := (Ev_of (k := 168) (pc := 868) (i := .iload_n 3) (len := 1) rfl _ _ _ _ _).trans rfl
set_option maxRecDepth 20000 in
theorem v_168_869 (b : B3) (v0 : AV) (v1 : AV) (v2 : AV) (v3 : AV) (st : List AV) (σ : Sto) (Q : Po) : Ev b 168 869 [v0, v1, v2, v3] st σ Q = (Ev b 168 870 [v0, v1, v2, v3] (aI 2 :: st) σ Q) := (Ev_of (k := 168) (pc := 869) (i := .iconst 2) (len := 1) rfl _ _ _ _ _).trans (congrArg (fun z => Ev b 168 870 [v0, v1, v2, v3] (aI z :: st) σ Q) ki_2)
set_option maxRecDepth 20000 in
theorem v_168_870 (b : B3) (v0 : AV) (v1 : AV) (v2 : AV) (v3 : AV) (st : List AV) (x y : Int32) (σ : Sto) (Q : Po) : Ev b 168 870 [v0, v1, v2, v3] (aI y :: aI x :: st) σ Q = (Ev b 168 871 [v0, v1, v2, v3] (aI (x + y) :: st) σ Q) := (Ev_of (k := 168) (pc := 870) (i := .iadd) (len := 1) rfl _ _ _ _ _).trans rfl
set_option maxRecDepth 20000 in
theorem v_168_871 (b : B3) (v0 : AV) (v1 : AV) (v2 : AV) (v3 : AV) (st : List AV) (i : Int32) (a : Nat) (σ : Sto) (Q : Po) : Ev b 168 871 [v0, v1, v2, v3] (aI i :: aR (some a) :: st) σ Q = (okX σ a i ∧ Ev b 168 872 [v0, v1, v2, v3] (aI (gi σ a i.toNatClampNeg) :: st) σ Q) := (Ev_of (k := 168) (pc := 871) (i := .iaload) (len := 1) rfl _ _ _ _ _).trans rfl
set_option maxRecDepth 20000 in
theorem v_168_872 (d c s : Nat) (v0 : AV) (v1 : AV) (v2 : AV) (v3 : AV) (y0 : Int32) (y1 : Int32) (y2 : Nat) (σ : Sto) (Q : Po) : Ev (d + 1, c, s) 168 872 [v0, v1, v2, v3] [aI y0, aI y1, aR (some y2)] σ Q = (okO σ y2 5 ∧ CL d 76 [aR (some y2), aI y1, aI y0] σ (fun x2 σ2 => Ev (d + 1, c, s) 168 875 [v0, v1, v2, v3] [aL x2] σ2 Q)) := (g_inv (k := 168) (pc := 872) (x := 89) (i := .invokevirtual 89) rfl (Or.inl ⟨rfl, rfl⟩) rfl lq_7089).trans (congrArg (And (okO σ y2 5)) (vdo_L (k' := 76) (c1 := 0) (c2 := 0) (vs := [aR (some y2), aI y1, aI y0]) (rest := []) rfl rfl rfl))
set_option maxRecDepth 20000 in
theorem v_168_875 (b : B3) (v0 : AV) (v1 : AV) (v2 : Option Nat) (v3 : AV) (st : List AV) (σ : Sto) (Q : Po) : Ev b 168 875 [v0, v1, aR v2, v3] st σ Q = (Ev b 168 876 [v0, v1, aR v2, v3] (aR v2 :: st) σ Q) := (Ev_of (k := 168) (pc := 875) (i := .aload_n 2) (len := 1) rfl _ _ _ _ _).trans rfl
set_option maxRecDepth 20000 in
theorem v_168_876 (b : B3) (v0 : Option Nat) (v1 : AV) (v2 : AV) (v3 : AV) (st : List AV) (σ : Sto) (Q : Po) : Ev b 168 876 [aR v0, v1, v2, v3] st σ Q = (Ev b 168 877 [aR v0, v1, v2, v3] (aR v0 :: st) σ Q) := (Ev_of (k := 168) (pc := 876) (i := .aload_n 0) (len := 1) rfl _ _ _ _ _).trans rfl
set_option maxRecDepth 20000 in
theorem v_168_877 (b : B3) (v0 : AV) (v1 : AV) (v2 : AV) (v3 : Int32) (st : List AV) (σ : Sto) (Q : Po) : Ev b 168 877 [v0, v1, v2, aI v3] st σ Q = (Ev b 168 878 [v0, v1, v2, aI v3] (aI v3 :: st) σ Q) := (Ev_of (k := 168) (pc := 877) (i := .iload_n 3) (len := 1) rfl _ _ _ _ _).trans rfl
set_option maxRecDepth 20000 in
theorem v_168_878 (b : B3) (v0 : AV) (v1 : AV) (v2 : AV) (v3 : AV) (st : List AV) (σ : Sto) (Q : Po) : Ev b 168 878 [v0, v1, v2, v3] st σ Q = (Ev b 168 879 [v0, v1, v2, v3] (aI 1 :: st) σ Q) := (Ev_of (k := 168) (pc := 878) (i := .iconst 1) (len := 1) rfl _ _ _ _ _).trans (congrArg (fun z => Ev b 168 879 [v0, v1, v2, v3] (aI z :: st) σ Q) ki_1)
set_option maxRecDepth 20000 in
theorem v_168_879 (b : B3) (v0 : AV) (v1 : AV) (v2 : AV) (v3 : AV) (st : List AV) (x y : Int32) (σ : Sto) (Q : Po) : Ev b 168 879 [v0, v1, v2, v3] (aI y :: aI x :: st) σ Q = (Ev b 168 880 [v0, v1, v2, v3] (aI (x + y) :: st) σ Q) := (Ev_of (k := 168) (pc := 879) (i := .iadd) (len := 1) rfl _ _ _ _ _).trans rfl
set_option maxRecDepth 20000 in
theorem v_168_880 (b : B3) (v0 : AV) (v1 : AV) (v2 : AV) (v3 : AV) (st : List AV) (i : Int32) (a : Nat) (σ : Sto) (Q : Po) : Ev b 168 880 [v0, v1, v2, v3] (aI i :: aR (some a) :: st) σ Q = (okX σ a i ∧ Ev b 168 881 [v0, v1, v2, v3] (aI (gi σ a i.toNatClampNeg) :: st) σ Q) := (Ev_of (k := 168) (pc := 880) (i := .iaload) (len := 1) rfl _ _ _ _ _).trans rfl
set_option maxRecDepth 20000 in
theorem v_168_881 (b : B3) (v0 : Option Nat) (v1 : AV) (v2 : AV) (v3 : AV) (st : List AV) (σ : Sto) (Q : Po) : Ev b 168 881 [aR v0, v1, v2, v3] st σ Q = (Ev b 168 882 [aR v0, v1, v2, v3] (aR v0 :: st) σ Q) := (Ev_of (k := 168) (pc := 881) (i := .aload_n 0) (len := 1) rfl _ _ _ _ _).trans rfl
set_option maxRecDepth 20000 in
theorem v_168_882 (b : B3) (v0 : AV) (v1 : AV) (v2 : AV) (v3 : Int32) (st : List AV) (σ : Sto) (Q : Po) : Ev b 168 882 [v0, v1, v2, aI v3] st σ Q = (Ev b 168 883 [v0, v1, v2, aI v3] (aI v3 :: st) σ Q) := (Ev_of (k := 168) (pc := 882) (i := .iload_n 3) (len := 1) rfl _ _ _ _ _).trans rfl
set_option maxRecDepth 20000 in
theorem v_168_883 (b : B3) (v0 : AV) (v1 : AV) (v2 : AV) (v3 : AV) (st : List AV) (σ : Sto) (Q : Po) : Ev b 168 883 [v0, v1, v2, v3] st σ Q = (Ev b 168 884 [v0, v1, v2, v3] (aI 2 :: st) σ Q) := (Ev_of (k := 168) (pc := 883) (i := .iconst 2) (len := 1) rfl _ _ _ _ _).trans (congrArg (fun z => Ev b 168 884 [v0, v1, v2, v3] (aI z :: st) σ Q) ki_2)
set_option maxRecDepth 20000 in
theorem v_168_884 (b : B3) (v0 : AV) (v1 : AV) (v2 : AV) (v3 : AV) (st : List AV) (x y : Int32) (σ : Sto) (Q : Po) : Ev b 168 884 [v0, v1, v2, v3] (aI y :: aI x :: st) σ Q = (Ev b 168 885 [v0, v1, v2, v3] (aI (x + y) :: st) σ Q) := (Ev_of (k := 168) (pc := 884) (i := .iadd) (len := 1) rfl _ _ _ _ _).trans rfl
set_option maxRecDepth 20000 in
theorem v_168_885 (b : B3) (v0 : AV) (v1 : AV) (v2 : AV) (v3 : AV) (st : List AV) (i : Int32) (a : Nat) (σ : Sto) (Q : Po) : Ev b 168 885 [v0, v1, v2, v3] (aI i :: aR (some a) :: st) σ Q = (okX σ a i ∧ Ev b 168 886 [v0, v1, v2, v3] (aI (gi σ a i.toNatClampNeg) :: st) σ Q) := (Ev_of (k := 168) (pc := 885) (i := .iaload) (len := 1) rfl _ _ _ _ _).trans rfl
set_option maxRecDepth 20000 in
theorem v_168_886 (d c s : Nat) (v0 : AV) (v1 : AV) (v2 : AV) (v3 : AV) (y0 : Int32) (y1 : Int32) (y2 : Nat) (y3 : Int64) (σ : Sto) (Q : Po) : Ev (d + 1, c, s) 168 886 [v0, v1, v2, v3] [aI y0, aI y1, aR (some y2), aL y3] σ Q = (okO σ y2 6 ∧ CL d 148 [aR (some y2), aI y1, aI y0] σ (fun x2 σ2 => Ev (d + 1, c, s) 168 889 [v0, v1, v2, v3] [aL x2, aL y3] σ2 Q)) := (g_inv (k := 168) (pc := 886) (x := 92) (i := .invokevirtual 92) rfl (Or.inl ⟨rfl, rfl⟩) rfl lq_7092).trans (congrArg (And (okO σ y2 6)) (vdo_L (k' := 148) (c1 := 0) (c2 := 0) (vs := [aR (some y2), aI y1, aI y0]) (rest := [aL y3]) rfl rfl rfl))
set_option maxRecDepth 20000 in
theorem v_168_889 (b : B3) (v0 : AV) (v1 : AV) (v2 : AV) (v3 : AV) (st : List AV) (x y : Int64) (σ : Sto) (Q : Po) : Ev b 168 889 [v0, v1, v2, v3] (aL y :: aL x :: st) σ Q = (Ev b 168 890 [v0, v1, v2, v3] (aI (lg_cmp x y) :: st) σ Q) := (Ev_of (k := 168) (pc := 889) (i := .lcmp) (len := 1) rfl _ _ _ _ _).trans rfl
set_option maxRecDepth 20000 in
theorem v_168_890 (b : B3) (v0 : AV) (v1 : AV) (v2 : AV) (v3 : AV) (st : List AV) (x : Int32) (σ : Sto) (Q : Po) : Ev b 168 890 [v0, v1, v2, v3] (aI x :: st) σ Q = ((x = 0 → Ev b 168 1195 [v0, v1, v2, v3] st σ Q) ∧ (¬ x = 0 → Ev b 168 893 [v0, v1, v2, v3] st σ Q)) := (Ev_of (k := 168) (pc := 890) (i := .ifCond .eq 305) (len := 3) rfl _ _ _ _ _).trans rfl
set_option maxRecDepth 20000 in
theorem v_168_893 (b : B3) (v0 : AV) (v1 : AV) (v2 : AV) (v3 : AV) (st : List AV) (σ : Sto) (Q : Po) : Ev b 168 893 [v0, v1, v2, v3] st σ Q = (Ev b 168 894 [v0, v1, v2, v3] (aI 0 :: st) σ Q) := (Ev_of (k := 168) (pc := 893) (i := .iconst 0) (len := 1) rfl _ _ _ _ _).trans (congrArg (fun z => Ev b 168 894 [v0, v1, v2, v3] (aI z :: st) σ Q) ki_0)
set_option maxRecDepth 20000 in
theorem v_168_894 (b : B3) (v0 : AV) (v1 : AV) (v2 : AV) (v3 : AV) (x : Int32) (σ : Sto) (Q : Po) : Ev b 168 894 [v0, v1, v2, v3] [aI x] σ Q = ((x = 0 ∨ x = 1) ∧ Q (some (aI x)) σ) := (Ev_of (k := 168) (pc := 894) (i := .ireturn) (len := 1) rfl _ _ _ _ _).trans rfl
set_option maxRecDepth 20000 in
theorem v_168_895 (b : B3) (v0 : AV) (v1 : Option Nat) (v2 : AV) (v3 : AV) (st : List AV) (σ : Sto) (Q : Po) : Ev b 168 895 [v0, aR v1, v2, v3] st σ Q = (Ev b 168 896 [v0, aR v1, v2, v3] (aR v1 :: st) σ Q) := (Ev_of (k := 168) (pc := 895) (i := .aload_n 1) (len := 1) rfl _ _ _ _ _).trans rfl
set_option maxRecDepth 20000 in
theorem v_168_896 (b : B3) (v0 : Option Nat) (v1 : AV) (v2 : AV) (v3 : AV) (st : List AV) (σ : Sto) (Q : Po) : Ev b 168 896 [aR v0, v1, v2, v3] st σ Q = (Ev b 168 897 [aR v0, v1, v2, v3] (aR v0 :: st) σ Q) := (Ev_of (k := 168) (pc := 896) (i := .aload_n 0) (len := 1) rfl _ _ _ _ _).trans rfl
set_option maxRecDepth 20000 in
theorem v_168_897 (b : B3) (v0 : AV) (v1 : AV) (v2 : AV) (v3 : Int32) (st : List AV) (σ : Sto) (Q : Po) : Ev b 168 897 [v0, v1, v2, aI v3] st σ Q = (Ev b 168 898 [v0, v1, v2, aI v3] (aI v3 :: st) σ Q) := (Ev_of (k := 168) (pc := 897) (i := .iload_n 3) (len := 1) rfl _ _ _ _ _).trans rfl
set_option maxRecDepth 20000 in
theorem v_168_898 (b : B3) (v0 : AV) (v1 : AV) (v2 : AV) (v3 : AV) (st : List AV) (σ : Sto) (Q : Po) : Ev b 168 898 [v0, v1, v2, v3] st σ Q = (Ev b 168 899 [v0, v1, v2, v3] (aI 1 :: st) σ Q) := (Ev_of (k := 168) (pc := 898) (i := .iconst 1) (len := 1) rfl _ _ _ _ _).trans (congrArg (fun z => Ev b 168 899 [v0, v1, v2, v3] (aI z :: st) σ Q) ki_1)
set_option maxRecDepth 20000 in
theorem v_168_899 (b : B3) (v0 : AV) (v1 : AV) (v2 : AV) (v3 : AV) (st : List AV) (x y : Int32) (σ : Sto) (Q : Po) : Ev b 168 899 [v0, v1, v2, v3] (aI y :: aI x :: st) σ Q = (Ev b 168 900 [v0, v1, v2, v3] (aI (x + y) :: st) σ Q) := (Ev_of (k := 168) (pc := 899) (i := .iadd) (len := 1) rfl _ _ _ _ _).trans rfl
set_option maxRecDepth 20000 in
theorem v_168_900 (b : B3) (v0 : AV) (v1 : AV) (v2 : AV) (v3 : AV) (st : List AV) (i : Int32) (a : Nat) (σ : Sto) (Q : Po) : Ev b 168 900 [v0, v1, v2, v3] (aI i :: aR (some a) :: st) σ Q = (okX σ a i ∧ Ev b 168 901 [v0, v1, v2, v3] (aI (gi σ a i.toNatClampNeg) :: st) σ Q) := (Ev_of (k := 168) (pc := 900) (i := .iaload) (len := 1) rfl _ _ _ _ _).trans rfl
set_option maxRecDepth 20000 in
theorem v_168_901 (b : B3) (v0 : Option Nat) (v1 : AV) (v2 : AV) (v3 : AV) (st : List AV) (σ : Sto) (Q : Po) : Ev b 168 901 [aR v0, v1, v2, v3] st σ Q = (Ev b 168 902 [aR v0, v1, v2, v3] (aR v0 :: st) σ Q) := (Ev_of (k := 168) (pc := 901) (i := .aload_n 0) (len := 1) rfl _ _ _ _ _).trans rfl
set_option maxRecDepth 20000 in
theorem v_168_902 (b : B3) (v0 : AV) (v1 : AV) (v2 : AV) (v3 : Int32) (st : List AV) (σ : Sto) (Q : Po) : Ev b 168 902 [v0, v1, v2, aI v3] st σ Q = (Ev b 168 903 [v0, v1, v2, aI v3] (aI v3 :: st) σ Q) := (Ev_of (k := 168) (pc := 902) (i := .iload_n 3) (len := 1) rfl _ _ _ _ _).trans rfl
set_option maxRecDepth 20000 in
theorem v_168_903 (b : B3) (v0 : AV) (v1 : AV) (v2 : AV) (v3 : AV) (st : List AV) (σ : Sto) (Q : Po) : Ev b 168 903 [v0, v1, v2, v3] st σ Q = (Ev b 168 904 [v0, v1, v2, v3] (aI 2 :: st) σ Q) := (Ev_of (k := 168) (pc := 903) (i := .iconst 2) (len := 1) rfl _ _ _ _ _).trans (congrArg (fun z => Ev b 168 904 [v0, v1, v2, v3] (aI z :: st) σ Q) ki_2)
set_option maxRecDepth 20000 in
theorem v_168_904 (b : B3) (v0 : AV) (v1 : AV) (v2 : AV) (v3 : AV) (st : List AV) (x y : Int32) (σ : Sto) (Q : Po) : Ev b 168 904 [v0, v1, v2, v3] (aI y :: aI x :: st) σ Q = (Ev b 168 905 [v0, v1, v2, v3] (aI (x + y) :: st) σ Q) := (Ev_of (k := 168) (pc := 904) (i := .iadd) (len := 1) rfl _ _ _ _ _).trans rfl
set_option maxRecDepth 20000 in
theorem v_168_905 (b : B3) (v0 : AV) (v1 : AV) (v2 : AV) (v3 : AV) (st : List AV) (i : Int32) (a : Nat) (σ : Sto) (Q : Po) : Ev b 168 905 [v0, v1, v2, v3] (aI i :: aR (some a) :: st) σ Q = (okX σ a i ∧ Ev b 168 906 [v0, v1, v2, v3] (aI (gi σ a i.toNatClampNeg) :: st) σ Q) := (Ev_of (k := 168) (pc := 905) (i := .iaload) (len := 1) rfl _ _ _ _ _).trans rfl
set_option maxRecDepth 20000 in
theorem v_168_906 (d c s : Nat) (v0 : AV) (v1 : AV) (v2 : AV) (v3 : AV) (y0 : Int32) (y1 : Int32) (y2 : Nat) (σ : Sto) (Q : Po) : Ev (d + 1, c, s) 168 906 [v0, v1, v2, v3] [aI y0, aI y1, aR (some y2)] σ Q = (okO σ y2 5 ∧ CI d 77 [aR (some y2), aI y1, aI y0] σ (fun x2 σ2 => Ev (d + 1, c, s) 168 909 [v0, v1, v2, v3] [aI x2] σ2 Q)) := (g_inv (k := 168) (pc := 906) (x := 93) (i := .invokevirtual 93) rfl (Or.inl ⟨rfl, rfl⟩) rfl lq_7093).trans (congrArg (And (okO σ y2 5)) (vdo_I (k' := 77) (c1 := 0) (c2 := 0) (vs := [aR (some y2), aI y1, aI y0]) (rest := []) (Or.inl rfl) rfl rfl))
set_option maxRecDepth 20000 in
theorem v_168_909 (b : B3) (v0 : AV) (v1 : AV) (v2 : Option Nat) (v3 : AV) (st : List AV) (σ : Sto) (Q : Po) : Ev b 168 909 [v0, v1, aR v2, v3] st σ Q = (Ev b 168 910 [v0, v1, aR v2, v3] (aR v2 :: st) σ Q) := (Ev_of (k := 168) (pc := 909) (i := .aload_n 2) (len := 1) rfl _ _ _ _ _).trans rfl
set_option maxRecDepth 20000 in
theorem v_168_910 (b : B3) (v0 : Option Nat) (v1 : AV) (v2 : AV) (v3 : AV) (st : List AV) (σ : Sto) (Q : Po) : Ev b 168 910 [aR v0, v1, v2, v3] st σ Q = (Ev b 168 911 [aR v0, v1, v2, v3] (aR v0 :: st) σ Q) := (Ev_of (k := 168) (pc := 910) (i := .aload_n 0) (len := 1) rfl _ _ _ _ _).trans rfl
set_option maxRecDepth 20000 in
theorem v_168_911 (b : B3) (v0 : AV) (v1 : AV) (v2 : AV) (v3 : Int32) (st : List AV) (σ : Sto) (Q : Po) : Ev b 168 911 [v0, v1, v2, aI v3] st σ Q = (Ev b 168 912 [v0, v1, v2, aI v3] (aI v3 :: st) σ Q) := (Ev_of (k := 168) (pc := 911) (i := .iload_n 3) (len := 1) rfl _ _ _ _ _).trans rfl
set_option maxRecDepth 20000 in
theorem v_168_912 (b : B3) (v0 : AV) (v1 : AV) (v2 : AV) (v3 : AV) (st : List AV) (σ : Sto) (Q : Po) : Ev b 168 912 [v0, v1, v2, v3] st σ Q = (Ev b 168 913 [v0, v1, v2, v3] (aI 1 :: st) σ Q) := (Ev_of (k := 168) (pc := 912) (i := .iconst 1) (len := 1) rfl _ _ _ _ _).trans (congrArg (fun z => Ev b 168 913 [v0, v1, v2, v3] (aI z :: st) σ Q) ki_1)
set_option maxRecDepth 20000 in
theorem v_168_913 (b : B3) (v0 : AV) (v1 : AV) (v2 : AV) (v3 : AV) (st : List AV) (x y : Int32) (σ : Sto) (Q : Po) : Ev b 168 913 [v0, v1, v2, v3] (aI y :: aI x :: st) σ Q = (Ev b 168 914 [v0, v1, v2, v3] (aI (x + y) :: st) σ Q) := (Ev_of (k := 168) (pc := 913) (i := .iadd) (len := 1) rfl _ _ _ _ _).trans rfl
set_option maxRecDepth 20000 in
theorem v_168_914 (b : B3) (v0 : AV) (v1 : AV) (v2 : AV) (v3 : AV) (st : List AV) (i : Int32) (a : Nat) (σ : Sto) (Q : Po) : Ev b 168 914 [v0, v1, v2, v3] (aI i :: aR (some a) :: st) σ Q = (okX σ a i ∧ Ev b 168 915 [v0, v1, v2, v3] (aI (gi σ a i.toNatClampNeg) :: st) σ Q) := (Ev_of (k := 168) (pc := 914) (i := .iaload) (len := 1) rfl _ _ _ _ _).trans rfl
set_option maxRecDepth 20000 in
theorem v_168_915 (b : B3) (v0 : Option Nat) (v1 : AV) (v2 : AV) (v3 : AV) (st : List AV) (σ : Sto) (Q : Po) : Ev b 168 915 [aR v0, v1, v2, v3] st σ Q = (Ev b 168 916 [aR v0, v1, v2, v3] (aR v0 :: st) σ Q) := (Ev_of (k := 168) (pc := 915) (i := .aload_n 0) (len := 1) rfl _ _ _ _ _).trans rfl
set_option maxRecDepth 20000 in
theorem v_168_916 (b : B3) (v0 : AV) (v1 : AV) (v2 : AV) (v3 : Int32) (st : List AV) (σ : Sto) (Q : Po) : Ev b 168 916 [v0, v1, v2, aI v3] st σ Q = (Ev b 168 917 [v0, v1, v2, aI v3] (aI v3 :: st) σ Q) := (Ev_of (k := 168) (pc := 916) (i := .iload_n 3) (len := 1) rfl _ _ _ _ _).trans rfl
set_option maxRecDepth 20000 in
theorem v_168_917 (b : B3) (v0 : AV) (v1 : AV) (v2 : AV) (v3 : AV) (st : List AV) (σ : Sto) (Q : Po) : Ev b 168 917 [v0, v1, v2, v3] st σ Q = (Ev b 168 918 [v0, v1, v2, v3] (aI 2 :: st) σ Q) := (Ev_of (k := 168) (pc := 917) (i := .iconst 2) (len := 1) rfl _ _ _ _ _).trans (congrArg (fun z => Ev b 168 918 [v0, v1, v2, v3] (aI z :: st) σ Q) ki_2)
set_option maxRecDepth 20000 in
theorem v_168_918 (b : B3) (v0 : AV) (v1 : AV) (v2 : AV) (v3 : AV) (st : List AV) (x y : Int32) (σ : Sto) (Q : Po) : Ev b 168 918 [v0, v1, v2, v3] (aI y :: aI x :: st) σ Q = (Ev b 168 919 [v0, v1, v2, v3] (aI (x + y) :: st) σ Q) := (Ev_of (k := 168) (pc := 918) (i := .iadd) (len := 1) rfl _ _ _ _ _).trans rfl
set_option maxRecDepth 20000 in
theorem v_168_919 (b : B3) (v0 : AV) (v1 : AV) (v2 : AV) (v3 : AV) (st : List AV) (i : Int32) (a : Nat) (σ : Sto) (Q : Po) : Ev b 168 919 [v0, v1, v2, v3] (aI i :: aR (some a) :: st) σ Q = (okX σ a i ∧ Ev b 168 920 [v0, v1, v2, v3] (aI (gi σ a i.toNatClampNeg) :: st) σ Q) := (Ev_of (k := 168) (pc := 919) (i := .iaload) (len := 1) rfl _ _ _ _ _).trans rfl
set_option maxRecDepth 20000 in
theorem v_168_920 (d c s : Nat) (v0 : AV) (v1 : AV) (v2 : AV) (v3 : AV) (y0 : Int32) (y1 : Int32) (y2 : Nat) (y3 : Int32) (σ : Sto) (Q : Po) : Ev (d + 1, c, s) 168 920 [v0, v1, v2, v3] [aI y0, aI y1, aR (some y2), aI y3] σ Q = (okO σ y2 6 ∧ CI d 149 [aR (some y2), aI y1, aI y0] σ (fun x2 σ2 => Ev (d + 1, c, s) 168 923 [v0, v1, v2, v3] [aI x2, aI y3] σ2 Q)) := (g_inv (k := 168) (pc := 920) (x := 96) (i := .invokevirtual 96) rfl (Or.inl ⟨rfl, rfl⟩) rfl lq_7096).trans (congrArg (And (okO σ y2 6)) (vdo_I (k' := 149) (c1 := 0) (c2 := 0) (vs := [aR (some y2), aI y1, aI y0]) (rest := [aI y3]) (Or.inl rfl) rfl rfl))
set_option maxRecDepth 20000 in
theorem v_168_923 (b : B3) (v0 : AV) (v1 : AV) (v2 : AV) (v3 : AV) (st : List AV) (x y : Int32) (σ : Sto) (Q : Po) : Ev b 168 923 [v0, v1, v2, v3] (aI y :: aI x :: st) σ Q = ((x = y → Ev b 168 1195 [v0, v1, v2, v3] st σ Q) ∧ (¬ x = y → Ev b 168 926 [v0, v1, v2, v3] st σ Q)) := (Ev_of (k := 168) (pc := 923) (i := .if_icmp .eq 272) (len := 3) rfl _ _ _ _ _).trans rfl
set_option maxRecDepth 20000 in
theorem v_168_926 (b : B3) (v0 : AV) (v1 : AV) (v2 : AV) (v3 : AV) (st : List AV) (σ : Sto) (Q : Po) : Ev b 168 926 [v0, v1, v2, v3] st σ Q = (Ev b 168 927 [v0, v1, v2, v3] (aI 0 :: st) σ Q) := (Ev_of (k := 168) (pc := 926) (i := .iconst 0) (len := 1) rfl _ _ _ _ _).trans (congrArg (fun z => Ev b 168 927 [v0, v1, v2, v3] (aI z :: st) σ Q) ki_0)
set_option maxRecDepth 20000 in
theorem v_168_927 (b : B3) (v0 : AV) (v1 : AV) (v2 : AV) (v3 : AV) (x : Int32) (σ : Sto) (Q : Po) : Ev b 168 927 [v0, v1, v2, v3] [aI x] σ Q = ((x = 0 ∨ x = 1) ∧ Q (some (aI x)) σ) := (Ev_of (k := 168) (pc := 927) (i := .ireturn) (len := 1) rfl _ _ _ _ _).trans rfl
set_option maxRecDepth 20000 in
theorem v_168_928 (b : B3) (v0 : AV) (v1 : Option Nat) (v2 : AV) (v3 : AV) (st : List AV) (σ : Sto) (Q : Po) : Ev b 168 928 [v0, aR v1, v2, v3] st σ Q = (Ev b 168 929 [v0, aR v1, v2, v3] (aR v1 :: st) σ Q) := (Ev_of (k := 168) (pc := 928) (i := .aload_n 1) (len := 1) rfl _ _ _ _ _).trans rfl
set_option maxRecDepth 20000 in
theorem v_168_929 (b : B3) (v0 : Option Nat) (v1 : AV) (v2 : AV) (v3 : AV) (st : List AV) (σ : Sto) (Q : Po) : Ev b 168 929 [aR v0, v1, v2, v3] st σ Q = (Ev b 168 930 [aR v0, v1, v2, v3] (aR v0 :: st) σ Q) := (Ev_of (k := 168) (pc := 929) (i := .aload_n 0) (len := 1) rfl _ _ _ _ _).trans rfl
set_option maxRecDepth 20000 in
theorem v_168_930 (b : B3) (v0 : AV) (v1 : AV) (v2 : AV) (v3 : Int32) (st : List AV) (σ : Sto) (Q : Po) : Ev b 168 930 [v0, v1, v2, aI v3] st σ Q = (Ev b 168 931 [v0, v1, v2, aI v3] (aI v3 :: st) σ Q) := (Ev_of (k := 168) (pc := 930) (i := .iload_n 3) (len := 1) rfl _ _ _ _ _).trans rfl
set_option maxRecDepth 20000 in
theorem v_168_931 (b : B3) (v0 : AV) (v1 : AV) (v2 : AV) (v3 : AV) (st : List AV) (σ : Sto) (Q : Po) : Ev b 168 931 [v0, v1, v2, v3] st σ Q = (Ev b 168 932 [v0, v1, v2, v3] (aI 1 :: st) σ Q) := (Ev_of (k := 168) (pc := 931) (i := .iconst 1) (len := 1) rfl _ _ _ _ _).trans (congrArg (fun z => Ev b 168 932 [v0, v1, v2, v3] (aI z :: st) σ Q) ki_1)
set_option maxRecDepth 20000 in
theorem v_168_932 (b : B3) (v0 : AV) (v1 : AV) (v2 : AV) (v3 : AV) (st : List AV) (x y : Int32) (σ : Sto) (Q : Po) : Ev b 168 932 [v0, v1, v2, v3] (aI y :: aI x :: st) σ Q = (Ev b 168 933 [v0, v1, v2, v3] (aI (x + y) :: st) σ Q) := (Ev_of (k := 168) (pc := 932) (i := .iadd) (len := 1) rfl _ _ _ _ _).trans rfl
set_option maxRecDepth 20000 in
theorem v_168_933 (b : B3) (v0 : AV) (v1 : AV) (v2 : AV) (v3 : AV) (st : List AV) (i : Int32) (a : Nat) (σ : Sto) (Q : Po) : Ev b 168 933 [v0, v1, v2, v3] (aI i :: aR (some a) :: st) σ Q = (okX σ a i ∧ Ev b 168 934 [v0, v1, v2, v3] (aI (gi σ a i.toNatClampNeg) :: st) σ Q) := (Ev_of (k := 168) (pc := 933) (i := .iaload) (len := 1) rfl _ _ _ _ _).trans rfl
set_option maxRecDepth 20000 in
theorem v_168_934 (d c s : Nat) (v0 : AV) (v1 : AV) (v2 : AV) (v3 : AV) (y0 : Int32) (y1 : Nat) (σ : Sto) (Q : Po) : Ev (d + 1, c, s) 168 934 [v0, v1, v2, v3] [aI y0, aR (some y1)] σ Q = (okO σ y1 5 ∧ CI d 78 [aR (some y1), aI y0] σ (fun x2 σ2 => Ev (d + 1, c, s) 168 937 [v0, v1, v2, v3] [aI x2] σ2 Q)) := (g_inv (k := 168) (pc := 934) (x := 97) (i := .invokevirtual 97) rfl (Or.inl ⟨rfl, rfl⟩) rfl lq_7097).trans (congrArg (And (okO σ y1 5)) (vdo_I (k' := 78) (c1 := 0) (c2 := 0) (vs := [aR (some y1), aI y0]) (rest := []) (Or.inl rfl) rfl rfl))
set_option maxRecDepth 20000 in
theorem v_168_937 (b : B3) (v0 : AV) (v1 : AV) (v2 : Option Nat) (v3 : AV) (st : List AV) (σ : Sto) (Q : Po) : Ev b 168 937 [v0, v1, aR v2, v3] st σ Q = (Ev b 168 938 [v0, v1, aR v2, v3] (aR v2 :: st) σ Q) := (Ev_of (k := 168) (pc := 937) (i := .aload_n 2) (len := 1) rfl _ _ _ _ _).trans rfl
set_option maxRecDepth 20000 in
theorem v_168_938 (b : B3) (v0 : Option Nat) (v1 : AV) (v2 : AV) (v3 : AV) (st : List AV) (σ : Sto) (Q : Po) : Ev b 168 938 [aR v0, v1, v2, v3] st σ Q = (Ev b 168 939 [aR v0, v1, v2, v3] (aR v0 :: st) σ Q) := (Ev_of (k := 168) (pc := 938) (i := .aload_n 0) (len := 1) rfl _ _ _ _ _).trans rfl
set_option maxRecDepth 20000 in
theorem v_168_939 (b : B3) (v0 : AV) (v1 : AV) (v2 : AV) (v3 : Int32) (st : List AV) (σ : Sto) (Q : Po) : Ev b 168 939 [v0, v1, v2, aI v3] st σ Q = (Ev b 168 940 [v0, v1, v2, aI v3] (aI v3 :: st) σ Q) := (Ev_of (k := 168) (pc := 939) (i := .iload_n 3) (len := 1) rfl _ _ _ _ _).trans rfl
set_option maxRecDepth 20000 in
theorem v_168_940 (b : B3) (v0 : AV) (v1 : AV) (v2 : AV) (v3 : AV) (st : List AV) (σ : Sto) (Q : Po) : Ev b 168 940 [v0, v1, v2, v3] st σ Q = (Ev b 168 941 [v0, v1, v2, v3] (aI 1 :: st) σ Q) := (Ev_of (k := 168) (pc := 940) (i := .iconst 1) (len := 1) rfl _ _ _ _ _).trans (congrArg (fun z => Ev b 168 941 [v0, v1, v2, v3] (aI z :: st) σ Q) ki_1)
set_option maxRecDepth 20000 in
theorem v_168_941 (b : B3) (v0 : AV) (v1 : AV) (v2 : AV) (v3 : AV) (st : List AV) (x y : Int32) (σ : Sto) (Q : Po) : Ev b 168 941 [v0, v1, v2, v3] (aI y :: aI x :: st) σ Q = (Ev b 168 942 [v0, v1, v2, v3] (aI (x + y) :: st) σ Q) := (Ev_of (k := 168) (pc := 941) (i := .iadd) (len := 1) rfl _ _ _ _ _).trans rfl
set_option maxRecDepth 20000 in
theorem v_168_942 (b : B3) (v0 : AV) (v1 : AV) (v2 : AV) (v3 : AV) (st : List AV) (i : Int32) (a : Nat) (σ : Sto) (Q : Po) : Ev b 168 942 [v0, v1, v2, v3] (aI i :: aR (some a) :: st) σ Q = (okX σ a i ∧ Ev b 168 943 [v0, v1, v2, v3] (aI (gi σ a i.toNatClampNeg) :: st) σ Q) := (Ev_of (k := 168) (pc := 942) (i := .iaload) (len := 1) rfl _ _ _ _ _).trans rfl
set_option maxRecDepth 20000 in
theorem v_168_943 (d c s : Nat) (v0 : AV) (v1 : AV) (v2 : AV) (v3 : AV) (y0 : Int32) (y1 : Nat) (y2 : Int32) (σ : Sto) (Q : Po) : Ev (d + 1, c, s) 168 943 [v0, v1, v2, v3] [aI y0, aR (some y1), aI y2] σ Q = (okO σ y1 6 ∧ CI d 150 [aR (some y1), aI y0] σ (fun x2 σ2 => Ev (d + 1, c, s) 168 946 [v0, v1, v2, v3] [aI x2, aI y2] σ2 Q)) := (g_inv (k := 168) (pc := 943) (x := 100) (i := .invokevirtual 100) rfl (Or.inl ⟨rfl, rfl⟩) rfl lq_7100).trans (congrArg (And (okO σ y1 6)) (vdo_I (k' := 150) (c1 := 0) (c2 := 0) (vs := [aR (some y1), aI y0]) (rest := [aI y2]) (Or.inl rfl) rfl rfl))
set_option maxRecDepth 20000 in
theorem v_168_946 (b : B3) (v0 : AV) (v1 : AV) (v2 : AV) (v3 : AV) (st : List AV) (x y : Int32) (σ : Sto) (Q : Po) : Ev b 168 946 [v0, v1, v2, v3] (aI y :: aI x :: st) σ Q = ((x = y → Ev b 168 1195 [v0, v1, v2, v3] st σ Q) ∧ (¬ x = y → Ev b 168 949 [v0, v1, v2, v3] st σ Q)) := (Ev_of (k := 168) (pc := 946) (i := .if_icmp .eq 249) (len := 3) rfl _ _ _ _ _).trans rfl
set_option maxRecDepth 20000 in
theorem v_168_949 (b : B3) (v0 : AV) (v1 : AV) (v2 : AV) (v3 : AV) (st : List AV) (σ : Sto) (Q : Po) : Ev b 168 949 [v0, v1, v2, v3] st σ Q = (Ev b 168 950 [v0, v1, v2, v3] (aI 0 :: st) σ Q) := (Ev_of (k := 168) (pc := 949) (i := .iconst 0) (len := 1) rfl _ _ _ _ _).trans (congrArg (fun z => Ev b 168 950 [v0, v1, v2, v3] (aI z :: st) σ Q) ki_0)
set_option maxRecDepth 20000 in
theorem v_168_950 (b : B3) (v0 : AV) (v1 : AV) (v2 : AV) (v3 : AV) (x : Int32) (σ : Sto) (Q : Po) : Ev b 168 950 [v0, v1, v2, v3] [aI x] σ Q = ((x = 0 ∨ x = 1) ∧ Q (some (aI x)) σ) := (Ev_of (k := 168) (pc := 950) (i := .ireturn) (len := 1) rfl _ _ _ _ _).trans rfl
set_option maxRecDepth 20000 in
theorem v_168_951 (b : B3) (v0 : AV) (v1 : Option Nat) (v2 : AV) (v3 : AV) (st : List AV) (σ : Sto) (Q : Po) : Ev b 168 951 [v0, aR v1, v2, v3] st σ Q = (Ev b 168 952 [v0, aR v1, v2, v3] (aR v1 :: st) σ Q) := (Ev_of (k := 168) (pc := 951) (i := .aload_n 1) (len := 1) rfl _ _ _ _ _).trans rfl
set_option maxRecDepth 20000 in
theorem v_168_952 (b : B3) (v0 : Option Nat) (v1 : AV) (v2 : AV) (v3 : AV) (st : List AV) (σ : Sto) (Q : Po) : Ev b 168 952 [aR v0, v1, v2, v3] st σ Q = (Ev b 168 953 [aR v0, v1, v2, v3] (aR v0 :: st) σ Q) := (Ev_of (k := 168) (pc := 952) (i := .aload_n 0) (len := 1) rfl _ _ _ _ _).trans rfl
set_option maxRecDepth 20000 in
theorem v_168_953 (b : B3) (v0 : AV) (v1 : AV) (v2 : AV) (v3 : Int32) (st : List AV) (σ : Sto) (Q : Po) : Ev b 168 953 [v0, v1, v2, aI v3] st σ Q = (Ev b 168 954 [v0, v1, v2, aI v3] (aI v3 :: st) σ Q) := (Ev_of (k := 168) (pc := 953) (i := .iload_n 3) (len := 1) rfl _ _ _ _ _).trans rfl
set_option maxRecDepth 20000 in
theorem v_168_954 (b : B3) (v0 : AV) (v1 : AV) (v2 : AV) (v3 : AV) (st : List AV) (σ : Sto) (Q : Po) : Ev b 168 954 [v0, v1, v2, v3] st σ Q = (Ev b 168 955 [v0, v1, v2, v3] (aI 1 :: st) σ Q) := (Ev_of (k := 168) (pc := 954) (i := .iconst 1) (len := 1) rfl _ _ _ _ _).trans (congrArg (fun z => Ev b 168 955 [v0, v1, v2, v3] (aI z :: st) σ Q) ki_1)
set_option maxRecDepth 20000 in
theorem v_168_955 (b : B3) (v0 : AV) (v1 : AV) (v2 : AV) (v3 : AV) (st : List AV) (x y : Int32) (σ : Sto) (Q : Po) : Ev b 168 955 [v0, v1, v2, v3] (aI y :: aI x :: st) σ Q = (Ev b 168 956 [v0, v1, v2, v3] (aI (x + y) :: st) σ Q) := (Ev_of (k := 168) (pc := 955) (i := .iadd) (len := 1) rfl _ _ _ _ _).trans rfl
set_option maxRecDepth 20000 in
theorem v_168_956 (b : B3) (v0 : AV) (v1 : AV) (v2 : AV) (v3 : AV) (st : List AV) (i : Int32) (a : Nat) (σ : Sto) (Q : Po) : Ev b 168 956 [v0, v1, v2, v3] (aI i :: aR (some a) :: st) σ Q = (okX σ a i ∧ Ev b 168 957 [v0, v1, v2, v3] (aI (gi σ a i.toNatClampNeg) :: st) σ Q) := (Ev_of (k := 168) (pc := 956) (i := .iaload) (len := 1) rfl _ _ _ _ _).trans rfl
set_option maxRecDepth 20000 in
theorem v_168_957 (d c s : Nat) (v0 : AV) (v1 : AV) (v2 : AV) (v3 : AV) (y0 : Int32) (y1 : Nat) (σ : Sto) (Q : Po) : Ev (d + 1, c, s) 168 957 [v0, v1, v2, v3] [aI y0, aR (some y1)] σ Q = (okO σ y1 5 ∧ CI d 79 [aR (some y1), aI y0] σ (fun x2 σ2 => Ev (d + 1, c, s) 168 960 [v0, v1, v2, v3] [aI x2] σ2 Q)) := (g_inv (k := 168) (pc := 957) (x := 101) (i := .invokevirtual 101) rfl (Or.inl ⟨rfl, rfl⟩) rfl lq_7101).trans (congrArg (And (okO σ y1 5)) (vdo_I (k' := 79) (c1 := 0) (c2 := 0) (vs := [aR (some y1), aI y0]) (rest := []) (Or.inl rfl) rfl rfl))
set_option maxRecDepth 20000 in
theorem v_168_960 (b : B3) (v0 : AV) (v1 : AV) (v2 : Option Nat) (v3 : AV) (st : List AV) (σ : Sto) (Q : Po) : Ev b 168 960 [v0, v1, aR v2, v3] st σ Q = (Ev b 168 961 [v0, v1, aR v2, v3] (aR v2 :: st) σ Q) := (Ev_of (k := 168) (pc := 960) (i := .aload_n 2) (len := 1) rfl _ _ _ _ _).trans rfl
set_option maxRecDepth 20000 in
theorem v_168_961 (b : B3) (v0 : Option Nat) (v1 : AV) (v2 : AV) (v3 : AV) (st : List AV) (σ : Sto) (Q : Po) : Ev b 168 961 [aR v0, v1, v2, v3] st σ Q = (Ev b 168 962 [aR v0, v1, v2, v3] (aR v0 :: st) σ Q) := (Ev_of (k := 168) (pc := 961) (i := .aload_n 0) (len := 1) rfl _ _ _ _ _).trans rfl
set_option maxRecDepth 20000 in
theorem v_168_962 (b : B3) (v0 : AV) (v1 : AV) (v2 : AV) (v3 : Int32) (st : List AV) (σ : Sto) (Q : Po) : Ev b 168 962 [v0, v1, v2, aI v3] st σ Q = (Ev b 168 963 [v0, v1, v2, aI v3] (aI v3 :: st) σ Q) := (Ev_of (k := 168) (pc := 962) (i := .iload_n 3) (len := 1) rfl _ _ _ _ _).trans rfl
set_option maxRecDepth 20000 in
theorem v_168_963 (b : B3) (v0 : AV) (v1 : AV) (v2 : AV) (v3 : AV) (st : List AV) (σ : Sto) (Q : Po) : Ev b 168 963 [v0, v1, v2, v3] st σ Q = (Ev b 168 964 [v0, v1, v2, v3] (aI 1 :: st) σ Q) := (Ev_of (k := 168) (pc := 963) (i := .iconst 1) (len := 1) rfl _ _ _ _ _).trans (congrArg (fun z => Ev b 168 964 [v0, v1, v2, v3] (aI z :: st) σ Q) ki_1)
set_option maxRecDepth 20000 in
theorem v_168_964 (b : B3) (v0 : AV) (v1 : AV) (v2 : AV) (v3 : AV) (st : List AV) (x y : Int32) (σ : Sto) (Q : Po) : Ev b 168 964 [v0, v1, v2, v3] (aI y :: aI x :: st) σ Q = (Ev b 168 965 [v0, v1, v2, v3] (aI (x + y) :: st) σ Q) := (Ev_of (k := 168) (pc := 964) (i := .iadd) (len := 1) rfl _ _ _ _ _).trans rfl
set_option maxRecDepth 20000 in
theorem v_168_965 (b : B3) (v0 : AV) (v1 : AV) (v2 : AV) (v3 : AV) (st : List AV) (i : Int32) (a : Nat) (σ : Sto) (Q : Po) : Ev b 168 965 [v0, v1, v2, v3] (aI i :: aR (some a) :: st) σ Q = (okX σ a i ∧ Ev b 168 966 [v0, v1, v2, v3] (aI (gi σ a i.toNatClampNeg) :: st) σ Q) := (Ev_of (k := 168) (pc := 965) (i := .iaload) (len := 1) rfl _ _ _ _ _).trans rfl
set_option maxRecDepth 20000 in
theorem v_168_966 (d c s : Nat) (v0 : AV) (v1 : AV) (v2 : AV) (v3 : AV) (y0 : Int32) (y1 : Nat) (y2 : Int32) (σ : Sto) (Q : Po) : Ev (d + 1, c, s) 168 966 [v0, v1, v2, v3] [aI y0, aR (some y1), aI y2] σ Q = (okO σ y1 6 ∧ CI d 152 [aR (some y1), aI y0] σ (fun x2 σ2 => Ev (d + 1, c, s) 168 969 [v0, v1, v2, v3] [aI x2, aI y2] σ2 Q)) := (g_inv (k := 168) (pc := 966) (x := 104) (i := .invokevirtual 104) rfl (Or.inl ⟨rfl, rfl⟩) rfl lq_7104).trans (congrArg (And (okO σ y1 6)) (vdo_I (k' := 152) (c1 := 0) (c2 := 0) (vs := [aR (some y1), aI y0]) (rest := [aI y2]) (Or.inl rfl) rfl rfl))
set_option maxRecDepth 20000 in
theorem v_168_969 (b : B3) (v0 : AV) (v1 : AV) (v2 : AV) (v3 : AV) (st : List AV) (x y : Int32) (σ : Sto) (Q : Po) : Ev b 168 969 [v0, v1, v2, v3] (aI y :: aI x :: st) σ Q = ((x = y → Ev b 168 1195 [v0, v1, v2, v3] st σ Q) ∧ (¬ x = y → Ev b 168 972 [v0, v1, v2, v3] st σ Q)) := (Ev_of (k := 168) (pc := 969) (i := .if_icmp .eq 226) (len := 3) rfl _ _ _ _ _).trans rfl
set_option maxRecDepth 20000 in
theorem v_168_972 (b : B3) (v0 : AV) (v1 : AV) (v2 : AV) (v3 : AV) (st : List AV) (σ : Sto) (Q : Po) : Ev b 168 972 [v0, v1, v2, v3] st σ Q = (Ev b 168 973 [v0, v1, v2, v3] (aI 0 :: st) σ Q) := (Ev_of (k := 168) (pc := 972) (i := .iconst 0) (len := 1) rfl _ _ _ _ _).trans (congrArg (fun z => Ev b 168 973 [v0, v1, v2, v3] (aI z :: st) σ Q) ki_0)
set_option maxRecDepth 20000 in
theorem v_168_973 (b : B3) (v0 : AV) (v1 : AV) (v2 : AV) (v3 : AV) (x : Int32) (σ : Sto) (Q : Po) : Ev b 168 973 [v0, v1, v2, v3] [aI x] σ Q = ((x = 0 ∨ x = 1) ∧ Q (some (aI x)) σ) := (Ev_of (k := 168) (pc := 973) (i := .ireturn) (len := 1) rfl _ _ _ _ _).trans rfl
set_option maxRecDepth 20000 in
theorem v_168_974 (b : B3) (v0 : AV) (v1 : Option Nat) (v2 : AV) (v3 : AV) (st : List AV) (σ : Sto) (Q : Po) : Ev b 168 974 [v0, aR v1, v2, v3] st σ Q = (Ev b 168 975 [v0, aR v1, v2, v3] (aR v1 :: st) σ Q) := (Ev_of (k := 168) (pc := 974) (i := .aload_n 1) (len := 1) rfl _ _ _ _ _).trans rfl
set_option maxRecDepth 20000 in
theorem v_168_975 (b : B3) (v0 : Option Nat) (v1 : AV) (v2 : AV) (v3 : AV) (st : List AV) (σ : Sto) (Q : Po) : Ev b 168 975 [aR v0, v1, v2, v3] st σ Q = (Ev b 168 976 [aR v0, v1, v2, v3] (aR v0 :: st) σ Q) := (Ev_of (k := 168) (pc := 975) (i := .aload_n 0) (len := 1) rfl _ _ _ _ _).trans rfl
set_option maxRecDepth 20000 in
theorem v_168_976 (b : B3) (v0 : AV) (v1 : AV) (v2 : AV) (v3 : Int32) (st : List AV) (σ : Sto) (Q : Po) : Ev b 168 976 [v0, v1, v2, aI v3] st σ Q = (Ev b 168 977 [v0, v1, v2, aI v3] (aI v3 :: st) σ Q) := (Ev_of (k := 168) (pc := 976) (i := .iload_n 3) (len := 1) rfl _ _ _ _ _).trans rfl
set_option maxRecDepth 20000 in
theorem v_168_977 (b : B3) (v0 : AV) (v1 : AV) (v2 : AV) (v3 : AV) (st : List AV) (σ : Sto) (Q : Po) : Ev b 168 977 [v0, v1, v2, v3] st σ Q = (Ev b 168 978 [v0, v1, v2, v3] (aI 1 :: st) σ Q) := (Ev_of (k := 168) (pc := 977) (i := .iconst 1) (len := 1) rfl _ _ _ _ _).trans (congrArg (fun z => Ev b 168 978 [v0, v1, v2, v3] (aI z :: st) σ Q) ki_1)
set_option maxRecDepth 20000 in
theorem v_168_978 (b : B3) (v0 : AV) (v1 : AV) (v2 : AV) (v3 : AV) (st : List AV) (x y : Int32) (σ : Sto) (Q : Po) : Ev b 168 978 [v0, v1, v2, v3] (aI y :: aI x :: st) σ Q = (Ev b 168 979 [v0, v1, v2, v3] (aI (x + y) :: st) σ Q) := (Ev_of (k := 168) (pc := 978) (i := .iadd) (len := 1) rfl _ _ _ _ _).trans rfl
set_option maxRecDepth 20000 in
theorem v_168_979 (b : B3) (v0 : AV) (v1 : AV) (v2 : AV) (v3 : AV) (st : List AV) (i : Int32) (a : Nat) (σ : Sto) (Q : Po) : Ev b 168 979 [v0, v1, v2, v3] (aI i :: aR (some a) :: st) σ Q = (okX σ a i ∧ Ev b 168 980 [v0, v1, v2, v3] (aI (gi σ a i.toNatClampNeg) :: st) σ Q) := (Ev_of (k := 168) (pc := 979) (i := .iaload) (len := 1) rfl _ _ _ _ _).trans rfl
set_option maxRecDepth 20000 in
theorem v_168_980 (d c s : Nat) (v0 : AV) (v1 : AV) (v2 : AV) (v3 : AV) (y0 : Int32) (y1 : Nat) (σ : Sto) (Q : Po) : Ev (d + 1, c, s) 168 980 [v0, v1, v2, v3] [aI y0, aR (some y1)] σ Q = (okO σ y1 5 ∧ CI d 80 [aR (some y1), aI y0] σ (fun x2 σ2 => Ev (d + 1, c, s) 168 983 [v0, v1, v2, v3] [aI x2] σ2 Q)) := (g_inv (k := 168) (pc := 980) (x := 105) (i := .invokevirtual 105) rfl (Or.inl ⟨rfl, rfl⟩) rfl lq_7105).trans (congrArg (And (okO σ y1 5)) (vdo_I (k' := 80) (c1 := 0) (c2 := 0) (vs := [aR (some y1), aI y0]) (rest := []) (Or.inl rfl) rfl rfl))
set_option maxRecDepth 20000 in
theorem v_168_983 (b : B3) (v0 : AV) (v1 : AV) (v2 : Option Nat) (v3 : AV) (st : List AV) (σ : Sto) (Q : Po) : Ev b 168 983 [v0, v1, aR v2, v3] st σ Q = (Ev b 168 984 [v0, v1, aR v2, v3] (aR v2 :: st) σ Q) := (Ev_of (k := 168) (pc := 983) (i := .aload_n 2) (len := 1) rfl _ _ _ _ _).trans rfl
set_option maxRecDepth 20000 in
theorem v_168_984 (b : B3) (v0 : Option Nat) (v1 : AV) (v2 : AV) (v3 : AV) (st : List AV) (σ : Sto) (Q : Po) : Ev b 168 984 [aR v0, v1, v2, v3] st σ Q = (Ev b 168 985 [aR v0, v1, v2, v3] (aR v0 :: st) σ Q) := (Ev_of (k := 168) (pc := 984) (i := .aload_n 0) (len := 1) rfl _ _ _ _ _).trans rfl
set_option maxRecDepth 20000 in
theorem v_168_985 (b : B3) (v0 : AV) (v1 : AV) (v2 : AV) (v3 : Int32) (st : List AV) (σ : Sto) (Q : Po) : Ev b 168 985 [v0, v1, v2, aI v3] st σ Q = (Ev b 168 986 [v0, v1, v2, aI v3] (aI v3 :: st) σ Q) := (Ev_of (k := 168) (pc := 985) (i := .iload_n 3) (len := 1) rfl _ _ _ _ _).trans rfl
set_option maxRecDepth 20000 in
theorem v_168_986 (b : B3) (v0 : AV) (v1 : AV) (v2 : AV) (v3 : AV) (st : List AV) (σ : Sto) (Q : Po) : Ev b 168 986 [v0, v1, v2, v3] st σ Q = (Ev b 168 987 [v0, v1, v2, v3] (aI 1 :: st) σ Q) := (Ev_of (k := 168) (pc := 986) (i := .iconst 1) (len := 1) rfl _ _ _ _ _).trans (congrArg (fun z => Ev b 168 987 [v0, v1, v2, v3] (aI z :: st) σ Q) ki_1)
set_option maxRecDepth 20000 in
theorem v_168_987 (b : B3) (v0 : AV) (v1 : AV) (v2 : AV) (v3 : AV) (st : List AV) (x y : Int32) (σ : Sto) (Q : Po) : Ev b 168 987 [v0, v1, v2, v3] (aI y :: aI x :: st) σ Q = (Ev b 168 988 [v0, v1, v2, v3] (aI (x + y) :: st) σ Q) := (Ev_of (k := 168) (pc := 987) (i := .iadd) (len := 1) rfl _ _ _ _ _).trans rfl
set_option maxRecDepth 20000 in
theorem v_168_988 (b : B3) (v0 : AV) (v1 : AV) (v2 : AV) (v3 : AV) (st : List AV) (i : Int32) (a : Nat) (σ : Sto) (Q : Po) : Ev b 168 988 [v0, v1, v2, v3] (aI i :: aR (some a) :: st) σ Q = (okX σ a i ∧ Ev b 168 989 [v0, v1, v2, v3] (aI (gi σ a i.toNatClampNeg) :: st) σ Q) := (Ev_of (k := 168) (pc := 988) (i := .iaload) (len := 1) rfl _ _ _ _ _).trans rfl
set_option maxRecDepth 20000 in
theorem v_168_989 (d c s : Nat) (v0 : AV) (v1 : AV) (v2 : AV) (v3 : AV) (y0 : Int32) (y1 : Nat) (y2 : Int32) (σ : Sto) (Q : Po) : Ev (d + 1, c, s) 168 989 [v0, v1, v2, v3] [aI y0, aR (some y1), aI y2] σ Q = (okO σ y1 6 ∧ CI d 153 [aR (some y1), aI y0] σ (fun x2 σ2 => Ev (d + 1, c, s) 168 992 [v0, v1, v2, v3] [aI x2, aI y2] σ2 Q)) := (g_inv (k := 168) (pc := 989) (x := 108) (i := .invokevirtual 108) rfl (Or.inl ⟨rfl, rfl⟩) rfl lq_7108).trans (congrArg (And (okO σ y1 6)) (vdo_I (k' := 153) (c1 := 0) (c2 := 0) (vs := [aR (some y1), aI y0]) (rest := [aI y2]) (Or.inl rfl) rfl rfl))
set_option maxRecDepth 20000 in
theorem v_168_992 (b : B3) (v0 : AV) (v1 : AV) (v2 : AV) (v3 : AV) (st : List AV) (x y : Int32) (σ : Sto) (Q : Po) : Ev b 168 992 [v0, v1, v2, v3] (aI y :: aI x :: st) σ Q = ((x = y → Ev b 168 1195 [v0, v1, v2, v3] st σ Q) ∧ (¬ x = y → Ev b 168 995 [v0, v1, v2, v3] st σ Q)) := (Ev_of (k := 168) (pc := 992) (i := .if_icmp .eq 203) (len := 3) rfl _ _ _ _ _).trans rfl
set_option maxRecDepth 20000 in
theorem v_168_995 (b : B3) (v0 : AV) (v1 : AV) (v2 : AV) (v3 : AV) (st : List AV) (σ : Sto) (Q : Po) : Ev b 168 995 [v0, v1, v2, v3] st σ Q = (Ev b 168 996 [v0, v1, v2, v3] (aI 0 :: st) σ Q) := (Ev_of (k := 168) (pc := 995) (i := .iconst 0) (len := 1) rfl _ _ _ _ _).trans (congrArg (fun z => Ev b 168 996 [v0, v1, v2, v3] (aI z :: st) σ Q) ki_0)
set_option maxRecDepth 20000 in
theorem v_168_996 (b : B3) (v0 : AV) (v1 : AV) (v2 : AV) (v3 : AV) (x : Int32) (σ : Sto) (Q : Po) : Ev b 168 996 [v0, v1, v2, v3] [aI x] σ Q = ((x = 0 ∨ x = 1) ∧ Q (some (aI x)) σ) := (Ev_of (k := 168) (pc := 996) (i := .ireturn) (len := 1) rfl _ _ _ _ _).trans rfl
set_option maxRecDepth 20000 in
theorem v_168_997 (b : B3) (v0 : AV) (v1 : Option Nat) (v2 : AV) (v3 : AV) (st : List AV) (σ : Sto) (Q : Po) : Ev b 168 997 [v0, aR v1, v2, v3] st σ Q = (Ev b 168 998 [v0, aR v1, v2, v3] (aR v1 :: st) σ Q) := (Ev_of (k := 168) (pc := 997) (i := .aload_n 1) (len := 1) rfl _ _ _ _ _).trans rfl
set_option maxRecDepth 20000 in
theorem v_168_998 (b : B3) (v0 : Option Nat) (v1 : AV) (v2 : AV) (v3 : AV) (st : List AV) (σ : Sto) (Q : Po) : Ev b 168 998 [aR v0, v1, v2, v3] st σ Q = (Ev b 168 999 [aR v0, v1, v2, v3] (aR v0 :: st) σ Q) := (Ev_of (k := 168) (pc := 998) (i := .aload_n 0) (len := 1) rfl _ _ _ _ _).trans rfl
set_option maxRecDepth 20000 in
theorem v_168_999 (b : B3) (v0 : AV) (v1 : AV) (v2 : AV) (v3 : Int32) (st : List AV) (σ : Sto) (Q : Po) : Ev b 168 999 [v0, v1, v2, aI v3] st σ Q = (Ev b 168 1000 [v0, v1, v2, aI v3] (aI v3 :: st) σ Q) := (Ev_of (k := 168) (pc := 999) (i := .iload_n 3) (len := 1) rfl _ _ _ _ _).trans rfl
set_option maxRecDepth 20000 in
theorem v_168_1000 (b : B3) (v0 : AV) (v1 : AV) (v2 : AV) (v3 : AV) (st : List AV) (σ : Sto) (Q : Po) : Ev b 168 1000 [v0, v1, v2, v3] st σ Q = (Ev b 168 1001 [v0, v1, v2, v3] (aI 1 :: st) σ Q) := (Ev_of (k := 168) (pc := 1000) (i := .iconst 1) (len := 1) rfl _ _ _ _ _).trans (congrArg (fun z => Ev b 168 1001 [v0, v1, v2, v3] (aI z :: st) σ Q) ki_1)
set_option maxRecDepth 20000 in
theorem v_168_1001 (b : B3) (v0 : AV) (v1 : AV) (v2 : AV) (v3 : AV) (st : List AV) (x y : Int32) (σ : Sto) (Q : Po) : Ev b 168 1001 [v0, v1, v2, v3] (aI y :: aI x :: st) σ Q = (Ev b 168 1002 [v0, v1, v2, v3] (aI (x + y) :: st) σ Q) := (Ev_of (k := 168) (pc := 1001) (i := .iadd) (len := 1) rfl _ _ _ _ _).trans rfl
set_option maxRecDepth 20000 in
theorem v_168_1002 (b : B3) (v0 : AV) (v1 : AV) (v2 : AV) (v3 : AV) (st : List AV) (i : Int32) (a : Nat) (σ : Sto) (Q : Po) : Ev b 168 1002 [v0, v1, v2, v3] (aI i :: aR (some a) :: st) σ Q = (okX σ a i ∧ Ev b 168 1003 [v0, v1, v2, v3] (aI (gi σ a i.toNatClampNeg) :: st) σ Q) := (Ev_of (k := 168) (pc := 1002) (i := .iaload) (len := 1) rfl _ _ _ _ _).trans rfl
set_option maxRecDepth 20000 in
theorem v_168_1003 (d c s : Nat) (v0 : AV) (v1 : AV) (v2 : AV) (v3 : AV) (y0 : Int32) (y1 : Nat) (σ : Sto) (Q : Po) : Ev (d + 1, c, s) 168 1003 [v0, v1, v2, v3] [aI y0, aR (some y1)] σ Q = (okO σ y1 5 ∧ CI d 81 [aR (some y1), aI y0] σ (fun x2 σ2 => Ev (d + 1, c, s) 168 1006 [v0, v1, v2, v3] [aI x2] σ2 Q)) := (g_inv (k := 168) (pc := 1003) (x := 109) (i := .invokevirtual 109) rfl (Or.inl ⟨rfl, rfl⟩) rfl lq_7109).trans (congrArg (And (okO σ y1 5)) (vdo_I (k' := 81) (c1 := 0) (c2 := 0) (vs := [aR (some y1), aI y0]) (rest := []) (Or.inl rfl) rfl rfl))
set_option maxRecDepth 20000 in
theorem v_168_1006 (b : B3) (v0 : AV) (v1 : AV) (v2 : Option Nat) (v3 : AV) (st : List AV) (σ : Sto) (Q : Po) : Ev b 168 1006 [v0, v1, aR v2, v3] st σ Q = (Ev b 168 1007 [v0, v1, aR v2, v3] (aR v2 :: st) σ Q) := (Ev_of (k := 168) (pc := 1006) (i := .aload_n 2) (len := 1) rfl _ _ _ _ _).trans rfl
set_option maxRecDepth 20000 in
theorem v_168_1007 (b : B3) (v0 : Option Nat) (v1 : AV) (v2 : AV) (v3 : AV) (st : List AV) (σ : Sto) (Q : Po) : Ev b 168 1007 [aR v0, v1, v2, v3] st σ Q = (Ev b 168 1008 [aR v0, v1, v2, v3] (aR v0 :: st) σ Q) := (Ev_of (k := 168) (pc := 1007) (i := .aload_n 0) (len := 1) rfl _ _ _ _ _).trans rfl
set_option maxRecDepth 20000 in
theorem v_168_1008 (b : B3) (v0 : AV) (v1 : AV) (v2 : AV) (v3 : Int32) (st : List AV) (σ : Sto) (Q : Po) : Ev b 168 1008 [v0, v1, v2, aI v3] st σ Q = (Ev b 168 1009 [v0, v1, v2, aI v3] (aI v3 :: st) σ Q) := (Ev_of (k := 168) (pc := 1008) (i := .iload_n 3) (len := 1) rfl _ _ _ _ _).trans rfl
set_option maxRecDepth 20000 in
theorem v_168_1009 (b : B3) (v0 : AV) (v1 : AV) (v2 : AV) (v3 : AV) (st : List AV) (σ : Sto) (Q : Po) : Ev b 168 1009 [v0, v1, v2, v3] st σ Q = (Ev b 168 1010 [v0, v1, v2, v3] (aI 1 :: st) σ Q) := (Ev_of (k := 168) (pc := 1009) (i := .iconst 1) (len := 1) rfl _ _ _ _ _).trans (congrArg (fun z => Ev b 168 1010 [v0, v1, v2, v3] (aI z :: st) σ Q) ki_1)
set_option maxRecDepth 20000 in
theorem v_168_1010 (b : B3) (v0 : AV) (v1 : AV) (v2 : AV) (v3 : AV) (st : List AV) (x y : Int32) (σ : Sto) (Q : Po) : Ev b 168 1010 [v0, v1, v2, v3] (aI y :: aI x :: st) σ Q = (Ev b 168 1011 [v0, v1, v2, v3] (aI (x + y) :: st) σ Q) := (Ev_of (k := 168) (pc := 1010) (i := .iadd) (len := 1) rfl _ _ _ _ _).trans rfl
set_option maxRecDepth 20000 in
theorem v_168_1011 (b : B3) (v0 : AV) (v1 : AV) (v2 : AV) (v3 : AV) (st : List AV) (i : Int32) (a : Nat) (σ : Sto) (Q : Po) : Ev b 168 1011 [v0, v1, v2, v3] (aI i :: aR (some a) :: st) σ Q = (okX σ a i ∧ Ev b 168 1012 [v0, v1, v2, v3] (aI (gi σ a i.toNatClampNeg) :: st) σ Q) := (Ev_of (k := 168) (pc := 1011) (i := .iaload) (len := 1) rfl _ _ _ _ _).trans rfl
set_option maxRecDepth 20000 in
theorem v_168_1012 (d c s : Nat) (v0 : AV) (v1 : AV) (v2 : AV) (v3 : AV) (y0 : Int32) (y1 : Nat) (y2 : Int32) (σ : Sto) (Q : Po) : Ev (d + 1, c, s) 168 1012 [v0, v1, v2, v3] [aI y0, aR (some y1), aI y2] σ Q = (okO σ y1 6 ∧ CI d 154 [aR (some y1), aI y0] σ (fun x2 σ2 => Ev (d + 1, c, s) 168 1015 [v0, v1, v2, v3] [aI x2, aI y2] σ2 Q)) := (g_inv (k := 168) (pc := 1012) (x := 112) (i := .invokevirtual 112) rfl (Or.inl ⟨rfl, rfl⟩) rfl lq_7112).trans (congrArg (And (okO σ y1 6)) (vdo_I (k' := 154) (c1 := 0) (c2 := 0) (vs := [aR (some y1), aI y0]) (rest := [aI y2]) (Or.inl rfl) rfl rfl))
set_option maxRecDepth 20000 in
theorem v_168_1015 (b : B3) (v0 : AV) (v1 : AV) (v2 : AV) (v3 : AV) (st : List AV) (x y : Int32) (σ : Sto) (Q : Po) : Ev b 168 1015 [v0, v1, v2, v3] (aI y :: aI x :: st) σ Q = ((x = y → Ev b 168 1195 [v0, v1, v2, v3] st σ Q) ∧ (¬ x = y → Ev b 168 1018 [v0, v1, v2, v3] st σ Q)) := (Ev_of (k := 168) (pc := 1015) (i := .if_icmp .eq 180) (len := 3) rfl _ _ _ _ _).trans rfl
set_option maxRecDepth 20000 in
theorem v_168_1018 (b : B3) (v0 : AV) (v1 : AV) (v2 : AV) (v3 : AV) (st : List AV) (σ : Sto) (Q : Po) : Ev b 168 1018 [v0, v1, v2, v3] st σ Q = (Ev b 168 1019 [v0, v1, v2, v3] (aI 0 :: st) σ Q) := (Ev_of (k := 168) (pc := 1018) (i := .iconst 0) (len := 1) rfl _ _ _ _ _).trans (congrArg (fun z => Ev b 168 1019 [v0, v1, v2, v3] (aI z :: st) σ Q) ki_0)
set_option maxRecDepth 20000 in
theorem v_168_1019 (b : B3) (v0 : AV) (v1 : AV) (v2 : AV) (v3 : AV) (x : Int32) (σ : Sto) (Q : Po) : Ev b 168 1019 [v0, v1, v2, v3] [aI x] σ Q = ((x = 0 ∨ x = 1) ∧ Q (some (aI x)) σ) := (Ev_of (k := 168) (pc := 1019) (i := .ireturn) (len := 1) rfl _ _ _ _ _).trans rfl
set_option maxRecDepth 20000 in
theorem v_168_1020 (b : B3) (v0 : AV) (v1 : Option Nat) (v2 : AV) (v3 : AV) (st : List AV) (σ : Sto) (Q : Po) : Ev b 168 1020 [v0, aR v1, v2, v3] st σ Q = (Ev b 168 1021 [v0, aR v1, v2, v3] (aR v1 :: st) σ Q) := (Ev_of (k := 168) (pc := 1020) (i := .aload_n 1) (len := 1) rfl _ _ _ _ _).trans rfl
set_option maxRecDepth 20000 in
theorem v_168_1021 (b : B3) (v0 : Option Nat) (v1 : AV) (v2 : AV) (v3 : AV) (st : List AV) (σ : Sto) (Q : Po) : Ev b 168 1021 [aR v0, v1, v2, v3] st σ Q = (Ev b 168 1022 [aR v0, v1, v2, v3] (aR v0 :: st) σ Q) := (Ev_of (k := 168) (pc := 1021) (i := .aload_n 0) (len := 1) rfl _ _ _ _ _).trans rfl
set_option maxRecDepth 20000 in
theorem v_168_1022 (b : B3) (v0 : AV) (v1 : AV) (v2 : AV) (v3 : Int32) (st : List AV) (σ : Sto) (Q : Po) : Ev b 168 1022 [v0, v1, v2, aI v3] st σ Q = (Ev b 168 1023 [v0, v1, v2, aI v3] (aI v3 :: st) σ Q) := (Ev_of (k := 168) (pc := 1022) (i := .iload_n 3) (len := 1) rfl _ _ _ _ _).trans rfl
set_option maxRecDepth 20000 in
theorem v_168_1023 (b : B3) (v0 : AV) (v1 : AV) (v2 : AV) (v3 : AV) (st : List AV) (σ : Sto) (Q : Po) : Ev b 168 1023 [v0, v1, v2, v3] st σ Q = (Ev b 168 1024 [v0, v1, v2, v3] (aI 1 :: st) σ Q) := (Ev_of (k := 168) (pc := 1023) (i := .iconst 1) (len := 1) rfl _ _ _ _ _).trans (congrArg (fun z => Ev b 168 1024 [v0, v1, v2, v3] (aI z :: st) σ Q) ki_1)
set_option maxRecDepth 20000 in
theorem v_168_1024 (b : B3) (v0 : AV) (v1 : AV) (v2 : AV) (v3 : AV) (st : List AV) (x y : Int32) (σ : Sto) (Q : Po) : Ev b 168 1024 [v0, v1, v2, v3] (aI y :: aI x :: st) σ Q = (Ev b 168 1025 [v0, v1, v2, v3] (aI (x + y) :: st) σ Q) := (Ev_of (k := 168) (pc := 1024) (i := .iadd) (len := 1) rfl _ _ _ _ _).trans rfl
set_option maxRecDepth 20000 in
theorem v_168_1025 (b : B3) (v0 : AV) (v1 : AV) (v2 : AV) (v3 : AV) (st : List AV) (i : Int32) (a : Nat) (σ : Sto) (Q : Po) : Ev b 168 1025 [v0, v1, v2, v3] (aI i :: aR (some a) :: st) σ Q = (okX σ a i ∧ Ev b 168 1026 [v0, v1, v2, v3] (aI (gi σ a i.toNatClampNeg) :: st) σ Q) := (Ev_of (k := 168) (pc := 1025) (i := .iaload) (len := 1) rfl _ _ _ _ _).trans rfl
set_option maxRecDepth 20000 in
theorem v_168_1026 (d c s : Nat) (v0 : AV) (v1 : AV) (v2 : AV) (v3 : AV) (y0 : Int32) (y1 : Nat) (σ : Sto) (Q : Po) : Ev (d + 1, c, s) 168 1026 [v0, v1, v2, v3] [aI y0, aR (some y1)] σ Q = (okO σ y1 5 ∧ CI d 82 [aR (some y1), aI y0] σ (fun x2 σ2 => Ev (d + 1, c, s) 168 1029 [v0, v1, v2, v3] [aI x2] σ2 Q)) := (g_inv (k := 168) (pc := 1026) (x := 113) (i := .invokevirtual 113) rfl (Or.inl ⟨rfl, rfl⟩) rfl lq_7113).trans (congrArg (And (okO σ y1 5)) (vdo_I (k' := 82) (c1 := 0) (c2 := 0) (vs := [aR (some y1), aI y0]) (rest := []) (Or.inl rfl) rfl rfl))
set_option maxRecDepth 20000 in
theorem v_168_1029 (b : B3) (v0 : AV) (v1 : AV) (v2 : Option Nat) (v3 : AV) (st : List AV) (σ : Sto) (Q : Po) : Ev b 168 1029 [v0, v1, aR v2, v3] st σ Q = (Ev b 168 1030 [v0, v1, aR v2, v3] (aR v2 :: st) σ Q) := (Ev_of (k := 168) (pc := 1029) (i := .aload_n 2) (len := 1) rfl _ _ _ _ _).trans rfl
set_option maxRecDepth 20000 in
theorem v_168_1030 (b : B3) (v0 : Option Nat) (v1 : AV) (v2 : AV) (v3 : AV) (st : List AV) (σ : Sto) (Q : Po) : Ev b 168 1030 [aR v0, v1, v2, v3] st σ Q = (Ev b 168 1031 [aR v0, v1, v2, v3] (aR v0 :: st) σ Q) := (Ev_of (k := 168) (pc := 1030) (i := .aload_n 0) (len := 1) rfl _ _ _ _ _).trans rfl
set_option maxRecDepth 20000 in
theorem v_168_1031 (b : B3) (v0 : AV) (v1 : AV) (v2 : AV) (v3 : Int32) (st : List AV) (σ : Sto) (Q : Po) : Ev b 168 1031 [v0, v1, v2, aI v3] st σ Q = (Ev b 168 1032 [v0, v1, v2, aI v3] (aI v3 :: st) σ Q) := (Ev_of (k := 168) (pc := 1031) (i := .iload_n 3) (len := 1) rfl _ _ _ _ _).trans rfl
set_option maxRecDepth 20000 in
theorem v_168_1032 (b : B3) (v0 : AV) (v1 : AV) (v2 : AV) (v3 : AV) (st : List AV) (σ : Sto) (Q : Po) : Ev b 168 1032 [v0, v1, v2, v3] st σ Q = (Ev b 168 1033 [v0, v1, v2, v3] (aI 1 :: st) σ Q) := (Ev_of (k := 168) (pc := 1032) (i := .iconst 1) (len := 1) rfl _ _ _ _ _).trans (congrArg (fun z => Ev b 168 1033 [v0, v1, v2, v3] (aI z :: st) σ Q) ki_1)
set_option maxRecDepth 20000 in
theorem v_168_1033 (b : B3) (v0 : AV) (v1 : AV) (v2 : AV) (v3 : AV) (st : List AV) (x y : Int32) (σ : Sto) (Q : Po) : Ev b 168 1033 [v0, v1, v2, v3] (aI y :: aI x :: st) σ Q = (Ev b 168 1034 [v0, v1, v2, v3] (aI (x + y) :: st) σ Q) := (Ev_of (k := 168) (pc := 1033) (i := .iadd) (len := 1) rfl _ _ _ _ _).trans rfl
set_option maxRecDepth 20000 in
theorem v_168_1034 (b : B3) (v0 : AV) (v1 : AV) (v2 : AV) (v3 : AV) (st : List AV) (i : Int32) (a : Nat) (σ : Sto) (Q : Po) : Ev b 168 1034 [v0, v1, v2, v3] (aI i :: aR (some a) :: st) σ Q = (okX σ a i ∧ Ev b 168 1035 [v0, v1, v2, v3] (aI (gi σ a i.toNatClampNeg) :: st) σ Q) := (Ev_of (k := 168) (pc := 1034) (i := .iaload) (len := 1) rfl _ _ _ _ _).trans rfl
set_option maxRecDepth 20000 in
theorem v_168_1035 (d c s : Nat) (v0 : AV) (v1 : AV) (v2 : AV) (v3 : AV) (y0 : Int32) (y1 : Nat) (y2 : Int32) (σ : Sto) (Q : Po) : Ev (d + 1, c, s) 168 1035 [v0, v1, v2, v3] [aI y0, aR (some y1), aI y2] σ Q = (okO σ y1 6 ∧ CI d 156 [aR (some y1), aI y0] σ (fun x2 σ2 => Ev (d + 1, c, s) 168 1038 [v0, v1, v2, v3] [aI x2, aI y2] σ2 Q)) := (g_inv (k := 168) (pc := 1035) (x := 116) (i := .invokevirtual 116) rfl (Or.inl ⟨rfl, rfl⟩) rfl lq_7116).trans (congrArg (And (okO σ y1 6)) (vdo_I (k' := 156) (c1 := 0) (c2 := 0) (vs := [aR (some y1), aI y0]) (rest := [aI y2]) (Or.inl rfl) rfl rfl))
set_option maxRecDepth 20000 in
theorem v_168_1038 (b : B3) (v0 : AV) (v1 : AV) (v2 : AV) (v3 : AV) (st : List AV) (x y : Int32) (σ : Sto) (Q : Po) : Ev b 168 1038 [v0, v1, v2, v3] (aI y :: aI x :: st) σ Q = ((x = y → Ev b 168 1195 [v0, v1, v2, v3] st σ Q) ∧ (¬ x = y → Ev b 168 1041 [v0, v1, v2, v3] st σ Q)) := (Ev_of (k := 168) (pc := 1038) (i := .if_icmp .eq 157) (len := 3) rfl _ _ _ _ _).trans rfl
set_option maxRecDepth 20000 in
theorem v_168_1041 (b : B3) (v0 : AV) (v1 : AV) (v2 : AV) (v3 : AV) (st : List AV) (σ : Sto) (Q : Po) : Ev b 168 1041 [v0, v1, v2, v3] st σ Q = (Ev b 168 1042 [v0, v1, v2, v3] (aI 0 :: st) σ Q) := (Ev_of (k := 168) (pc := 1041) (i := .iconst 0) (len := 1) rfl _ _ _ _ _).trans (congrArg (fun z => Ev b 168 1042 [v0, v1, v2, v3] (aI z :: st) σ Q) ki_0)
set_option maxRecDepth 20000 in
theorem v_168_1042 (b : B3) (v0 : AV) (v1 : AV) (v2 : AV) (v3 : AV) (x : Int32) (σ : Sto) (Q : Po) : Ev b 168 1042 [v0, v1, v2, v3] [aI x] σ Q = ((x = 0 ∨ x = 1) ∧ Q (some (aI x)) σ) := (Ev_of (k := 168) (pc := 1042) (i := .ireturn) (len := 1) rfl _ _ _ _ _).trans rfl
set_option maxRecDepth 20000 in
theorem v_168_1043 (b : B3) (v0 : AV) (v1 : Option Nat) (v2 : AV) (v3 : AV) (st : List AV) (σ : Sto) (Q : Po) : Ev b 168 1043 [v0, aR v1, v2, v3] st σ Q = (Ev b 168 1044 [v0, aR v1, v2, v3] (aR v1 :: st) σ Q) := (Ev_of (k := 168) (pc := 1043) (i := .aload_n 1) (len := 1) rfl _ _ _ _ _).trans rfl
set_option maxRecDepth 20000 in
theorem v_168_1044 (b : B3) (v0 : Option Nat) (v1 : AV) (v2 : AV) (v3 : AV) (st : List AV) (σ : Sto) (Q : Po) : Ev b 168 1044 [aR v0, v1, v2, v3] st σ Q = (Ev b 168 1045 [aR v0, v1, v2, v3] (aR v0 :: st) σ Q) := (Ev_of (k := 168) (pc := 1044) (i := .aload_n 0) (len := 1) rfl _ _ _ _ _).trans rfl
set_option maxRecDepth 20000 in
theorem v_168_1045 (b : B3) (v0 : AV) (v1 : AV) (v2 : AV) (v3 : Int32) (st : List AV) (σ : Sto) (Q : Po) : Ev b 168 1045 [v0, v1, v2, aI v3] st σ Q = (Ev b 168 1046 [v0, v1, v2, aI v3] (aI v3 :: st) σ Q) := (Ev_of (k := 168) (pc := 1045) (i := .iload_n 3) (len := 1) rfl _ _ _ _ _).trans rfl
set_option maxRecDepth 20000 in
theorem v_168_1046 (b : B3) (v0 : AV) (v1 : AV) (v2 : AV) (v3 : AV) (st : List AV) (σ : Sto) (Q : Po) : Ev b 168 1046 [v0, v1, v2, v3] st σ Q = (Ev b 168 1047 [v0, v1, v2, v3] (aI 1 :: st) σ Q) := (Ev_of (k := 168) (pc := 1046) (i := .iconst 1) (len := 1) rfl _ _ _ _ _).trans (congrArg (fun z => Ev b 168 1047 [v0, v1, v2, v3] (aI z :: st) σ Q) ki_1)
set_option maxRecDepth 20000 in
theorem v_168_1047 (b : B3) (v0 : AV) (v1 : AV) (v2 : AV) (v3 : AV) (st : List AV) (x y : Int32) (σ : Sto) (Q : Po) : Ev b 168 1047 [v0, v1, v2, v3] (aI y :: aI x :: st) σ Q = (Ev b 168 1048 [v0, v1, v2, v3] (aI (x + y) :: st) σ Q) := (Ev_of (k := 168) (pc := 1047) (i := .iadd) (len := 1) rfl _ _ _ _ _).trans rfl
set_option maxRecDepth 20000 in
theorem v_168_1048 (b : B3) (v0 : AV) (v1 : AV) (v2 : AV) (v3 : AV) (st : List AV) (i : Int32) (a : Nat) (σ : Sto) (Q : Po) : Ev b 168 1048 [v0, v1, v2, v3] (aI i :: aR (some a) :: st) σ Q = (okX σ a i ∧ Ev b 168 1049 [v0, v1, v2, v3] (aI (gi σ a i.toNatClampNeg) :: st) σ Q) := (Ev_of (k := 168) (pc := 1048) (i := .iaload) (len := 1) rfl _ _ _ _ _).trans rfl
set_option maxRecDepth 20000 in
theorem v_168_1049 (b : B3) (v0 : Option Nat) (v1 : AV) (v2 : AV) (v3 : AV) (st : List AV) (σ : Sto) (Q : Po) : Ev b 168 1049 [aR v0, v1, v2, v3] st σ Q = (Ev b 168 1050 [aR v0, v1, v2, v3] (aR v0 :: st) σ Q) := (Ev_of (k := 168) (pc := 1049) (i := .aload_n 0) (len := 1) rfl _ _ _ _ _).trans rfl
set_option maxRecDepth 20000 in
theorem v_168_1050 (b : B3) (v0 : AV) (v1 : AV) (v2 : AV) (v3 : Int32) (st : List AV) (σ : Sto) (Q : Po) : Ev b 168 1050 [v0, v1, v2, aI v3] st σ Q = (Ev b 168 1051 [v0, v1, v2, aI v3] (aI v3 :: st) σ Q) := (Ev_of (k := 168) (pc := 1050) (i := .iload_n 3) (len := 1) rfl _ _ _ _ _).trans rfl
set_option maxRecDepth 20000 in
theorem v_168_1051 (b : B3) (v0 : AV) (v1 : AV) (v2 : AV) (v3 : AV) (st : List AV) (σ : Sto) (Q : Po) : Ev b 168 1051 [v0, v1, v2, v3] st σ Q = (Ev b 168 1052 [v0, v1, v2, v3] (aI 2 :: st) σ Q) := (Ev_of (k := 168) (pc := 1051) (i := .iconst 2) (len := 1) rfl _ _ _ _ _).trans (congrArg (fun z => Ev b 168 1052 [v0, v1, v2, v3] (aI z :: st) σ Q) ki_2)
set_option maxRecDepth 20000 in
theorem v_168_1052 (b : B3) (v0 : AV) (v1 : AV) (v2 : AV) (v3 : AV) (st : List AV) (x y : Int32) (σ : Sto) (Q : Po) : Ev b 168 1052 [v0, v1, v2, v3] (aI y :: aI x :: st) σ Q = (Ev b 168 1053 [v0, v1, v2, v3] (aI (x + y) :: st) σ Q) := (Ev_of (k := 168) (pc := 1052) (i := .iadd) (len := 1) rfl _ _ _ _ _).trans rfl
set_option maxRecDepth 20000 in
theorem v_168_1053 (b : B3) (v0 : AV) (v1 : AV) (v2 : AV) (v3 : AV) (st : List AV) (i : Int32) (a : Nat) (σ : Sto) (Q : Po) : Ev b 168 1053 [v0, v1, v2, v3] (aI i :: aR (some a) :: st) σ Q = (okX σ a i ∧ Ev b 168 1054 [v0, v1, v2, v3] (aI (gi σ a i.toNatClampNeg) :: st) σ Q) := (Ev_of (k := 168) (pc := 1053) (i := .iaload) (len := 1) rfl _ _ _ _ _).trans rfl
set_option maxRecDepth 20000 in
theorem v_168_1054 (b : B3) (v0 : Option Nat) (v1 : AV) (v2 : AV) (v3 : AV) (st : List AV) (σ : Sto) (Q : Po) : Ev b 168 1054 [aR v0, v1, v2, v3] st σ Q = (Ev b 168 1055 [aR v0, v1, v2, v3] (aR v0 :: st) σ Q) := (Ev_of (k := 168) (pc := 1054) (i := .aload_n 0) (len := 1) rfl _ _ _ _ _).trans rfl
set_option maxRecDepth 20000 in
theorem v_168_1055 (b : B3) (v0 : AV) (v1 : AV) (v2 : AV) (v3 : Int32) (st : List AV) (σ : Sto) (Q : Po) : Ev b 168 1055 [v0, v1, v2, aI v3] st σ Q = (Ev b 168 1056 [v0, v1, v2, aI v3] (aI v3 :: st) σ Q) := (Ev_of (k := 168) (pc := 1055) (i := .iload_n 3) (len := 1) rfl _ _ _ _ _).trans rfl
set_option maxRecDepth 20000 in
theorem v_168_1056 (b : B3) (v0 : AV) (v1 : AV) (v2 : AV) (v3 : AV) (st : List AV) (σ : Sto) (Q : Po) : Ev b 168 1056 [v0, v1, v2, v3] st σ Q = (Ev b 168 1057 [v0, v1, v2, v3] (aI 3 :: st) σ Q) := (Ev_of (k := 168) (pc := 1056) (i := .iconst 3) (len := 1) rfl _ _ _ _ _).trans (congrArg (fun z => Ev b 168 1057 [v0, v1, v2, v3] (aI z :: st) σ Q) ki_3)
set_option maxRecDepth 20000 in
theorem v_168_1057 (b : B3) (v0 : AV) (v1 : AV) (v2 : AV) (v3 : AV) (st : List AV) (x y : Int32) (σ : Sto) (Q : Po) : Ev b 168 1057 [v0, v1, v2, v3] (aI y :: aI x :: st) σ Q = (Ev b 168 1058 [v0, v1, v2, v3] (aI (x + y) :: st) σ Q) := (Ev_of (k := 168) (pc := 1057) (i := .iadd) (len := 1) rfl _ _ _ _ _).trans rfl
set_option maxRecDepth 20000 in
theorem v_168_1058 (b : B3) (v0 : AV) (v1 : AV) (v2 : AV) (v3 : AV) (st : List AV) (i : Int32) (a : Nat) (σ : Sto) (Q : Po) : Ev b 168 1058 [v0, v1, v2, v3] (aI i :: aR (some a) :: st) σ Q = (okX σ a i ∧ Ev b 168 1059 [v0, v1, v2, v3] (aI (gi σ a i.toNatClampNeg) :: st) σ Q) := (Ev_of (k := 168) (pc := 1058) (i := .iaload) (len := 1) rfl _ _ _ _ _).trans rfl
set_option maxRecDepth 20000 in
theorem v_168_1059 (d c s : Nat) (v0 : AV) (v1 : AV) (v2 : AV) (v3 : AV) (y0 : Int32) (y1 : Int32) (y2 : Int32) (y3 : Nat) (σ : Sto) (Q : Po) : Ev (d + 1, c, s) 168 1059 [v0, v1, v2, v3] [aI y0, aI y1, aI y2, aR (some y3)] σ Q = (okO σ y3 5 ∧ CI d 83 [aR (some y3), aI y2, aI y1, aI y0] σ (fun x2 σ2 => Ev (d + 1, c, s) 168 1062 [v0, v1, v2, v3] [aI x2] σ2 Q)) := (g_inv (k := 168) (pc := 1059) (x := 117) (i := .invokevirtual 117) rfl (Or.inl ⟨rfl, rfl⟩) rfl lq_7117).trans (congrArg (And (okO σ y3 5)) (vdo_I (k' := 83) (c1 := 0) (c2 := 0) (vs := [aR (some y3), aI y2, aI y1, aI y0]) (rest := []) (Or.inl rfl) rfl rfl))
set_option maxRecDepth 20000 in
theorem v_168_1062 (b : B3) (v0 : AV) (v1 : AV) (v2 : Option Nat) (v3 : AV) (st : List AV) (σ : Sto) (Q : Po) : Ev b 168 1062 [v0, v1, aR v2, v3] st σ Q = (Ev b 168 1063 [v0, v1, aR v2, v3] (aR v2 :: st) σ Q) := (Ev_of (k := 168) (pc := 1062) (i := .aload_n 2) (len := 1) rfl _ _ _ _ _).trans rfl
set_option maxRecDepth 20000 in
theorem v_168_1063 (b : B3) (v0 : Option Nat) (v1 : AV) (v2 : AV) (v3 : AV) (st : List AV) (σ : Sto) (Q : Po) : Ev b 168 1063 [aR v0, v1, v2, v3] st σ Q = (Ev b 168 1064 [aR v0, v1, v2, v3] (aR v0 :: st) σ Q) := (Ev_of (k := 168) (pc := 1063) (i := .aload_n 0) (len := 1) rfl _ _ _ _ _).trans rfl
set_option maxRecDepth 20000 in
theorem v_168_1064 (b : B3) (v0 : AV) (v1 : AV) (v2 : AV) (v3 : Int32) (st : List AV) (σ : Sto) (Q : Po) : Ev b 168 1064 [v0, v1, v2, aI v3] st σ Q = (Ev b 168 1065 [v0, v1, v2, aI v3] (aI v3 :: st) σ Q) := (Ev_of (k := 168) (pc := 1064) (i := .iload_n 3) (len := 1) rfl _ _ _ _ _).trans rfl
set_option maxRecDepth 20000 in
theorem v_168_1065 (b : B3) (v0 : AV) (v1 : AV) (v2 : AV) (v3 : AV) (st : List AV) (σ : Sto) (Q : Po) : Ev b 168 1065 [v0, v1, v2, v3] st σ Q = (Ev b 168 1066 [v0, v1, v2, v3] (aI 1 :: st) σ Q) := (Ev_of (k := 168) (pc := 1065) (i := .iconst 1) (len := 1) rfl _ _ _ _ _).trans (congrArg (fun z => Ev b 168 1066 [v0, v1, v2, v3] (aI z :: st) σ Q) ki_1)
set_option maxRecDepth 20000 in
theorem v_168_1066 (b : B3) (v0 : AV) (v1 : AV) (v2 : AV) (v3 : AV) (st : List AV) (x y : Int32) (σ : Sto) (Q : Po) : Ev b 168 1066 [v0, v1, v2, v3] (aI y :: aI x :: st) σ Q = (Ev b 168 1067 [v0, v1, v2, v3] (aI (x + y) :: st) σ Q) := (Ev_of (k := 168) (pc := 1066) (i := .iadd) (len := 1) rfl _ _ _ _ _).trans rfl
set_option maxRecDepth 20000 in
theorem v_168_1067 (b : B3) (v0 : AV) (v1 : AV) (v2 : AV) (v3 : AV) (st : List AV) (i : Int32) (a : Nat) (σ : Sto) (Q : Po) : Ev b 168 1067 [v0, v1, v2, v3] (aI i :: aR (some a) :: st) σ Q = (okX σ a i ∧ Ev b 168 1068 [v0, v1, v2, v3] (aI (gi σ a i.toNatClampNeg) :: st) σ Q) := (Ev_of (k := 168) (pc := 1067) (i := .iaload) (len := 1) rfl _ _ _ _ _).trans rfl
set_option maxRecDepth 20000 in
theorem v_168_1068 (b : B3) (v0 : Option Nat) (v1 : AV) (v2 : AV) (v3 : AV) (st : List AV) (σ : Sto) (Q : Po) : Ev b 168 1068 [aR v0, v1, v2, v3] st σ Q = (Ev b 168 1069 [aR v0, v1, v2, v3] (aR v0 :: st) σ Q) := (Ev_of (k := 168) (pc := 1068) (i := .aload_n 0) (len := 1) rfl _ _ _ _ _).trans rfl
set_option maxRecDepth 20000 in
theorem v_168_1069 (b : B3) (v0 : AV) (v1 : AV) (v2 : AV) (v3 : Int32) (st : List AV) (σ : Sto) (Q : Po) : Ev b 168 1069 [v0, v1, v2, aI v3] st σ Q = (Ev b 168 1070 [v0, v1, v2, aI v3] (aI v3 :: st) σ Q) := (Ev_of (k := 168) (pc := 1069) (i := .iload_n 3) (len := 1) rfl _ _ _ _ _).trans rfl
set_option maxRecDepth 20000 in
theorem v_168_1070 (b : B3) (v0 : AV) (v1 : AV) (v2 : AV) (v3 : AV) (st : List AV) (σ : Sto) (Q : Po) : Ev b 168 1070 [v0, v1, v2, v3] st σ Q = (Ev b 168 1071 [v0, v1, v2, v3] (aI 2 :: st) σ Q) := (Ev_of (k := 168) (pc := 1070) (i := .iconst 2) (len := 1) rfl _ _ _ _ _).trans (congrArg (fun z => Ev b 168 1071 [v0, v1, v2, v3] (aI z :: st) σ Q) ki_2)
set_option maxRecDepth 20000 in
theorem v_168_1071 (b : B3) (v0 : AV) (v1 : AV) (v2 : AV) (v3 : AV) (st : List AV) (x y : Int32) (σ : Sto) (Q : Po) : Ev b 168 1071 [v0, v1, v2, v3] (aI y :: aI x :: st) σ Q = (Ev b 168 1072 [v0, v1, v2, v3] (aI (x + y) :: st) σ Q) := (Ev_of (k := 168) (pc := 1071) (i := .iadd) (len := 1) rfl _ _ _ _ _).trans rfl
set_option maxRecDepth 20000 in
theorem v_168_1072 (b : B3) (v0 : AV) (v1 : AV) (v2 : AV) (v3 : AV) (st : List AV) (i : Int32) (a : Nat) (σ : Sto) (Q : Po) : Ev b 168 1072 [v0, v1, v2, v3] (aI i :: aR (some a) :: st) σ Q = (okX σ a i ∧ Ev b 168 1073 [v0, v1, v2, v3] (aI (gi σ a i.toNatClampNeg) :: st) σ Q) := (Ev_of (k := 168) (pc := 1072) (i := .iaload) (len := 1) rfl _ _ _ _ _).trans rfl
set_option maxRecDepth 20000 in
theorem v_168_1073 (b : B3) (v0 : Option Nat) (v1 : AV) (v2 : AV) (v3 : AV) (st : List AV) (σ : Sto) (Q : Po) : Ev b 168 1073 [aR v0, v1, v2, v3] st σ Q = (Ev b 168 1074 [aR v0, v1, v2, v3] (aR v0 :: st) σ Q) := (Ev_of (k := 168) (pc := 1073) (i := .aload_n 0) (len := 1) rfl _ _ _ _ _).trans rfl
set_option maxRecDepth 20000 in
theorem v_168_1074 (b : B3) (v0 : AV) (v1 : AV) (v2 : AV) (v3 : Int32) (st : List AV) (σ : Sto) (Q : Po) : Ev b 168 1074 [v0, v1, v2, aI v3] st σ Q = (Ev b 168 1075 [v0, v1, v2, aI v3] (aI v3 :: st) σ Q) := (Ev_of (k := 168) (pc := 1074) (i := .iload_n 3) (len := 1) rfl _ _ _ _ _).trans rfl
set_option maxRecDepth 20000 in
theorem v_168_1075 (b : B3) (v0 : AV) (v1 : AV) (v2 : AV) (v3 : AV) (st : List AV) (σ : Sto) (Q : Po) : Ev b 168 1075 [v0, v1, v2, v3] st σ Q = (Ev b 168 1076 [v0, v1, v2, v3] (aI 3 :: st) σ Q) := (Ev_of (k := 168) (pc := 1075) (i := .iconst 3) (len := 1) rfl _ _ _ _ _).trans (congrArg (fun z => Ev b 168 1076 [v0, v1, v2, v3] (aI z :: st) σ Q) ki_3)
set_option maxRecDepth 20000 in
theorem v_168_1076 (b : B3) (v0 : AV) (v1 : AV) (v2 : AV) (v3 : AV) (st : List AV) (x y : Int32) (σ : Sto) (Q : Po) : Ev b 168 1076 [v0, v1, v2, v3] (aI y :: aI x :: st) σ Q = (Ev b 168 1077 [v0, v1, v2, v3] (aI (x + y) :: st) σ Q) := (Ev_of (k := 168) (pc := 1076) (i := .iadd) (len := 1) rfl _ _ _ _ _).trans rfl
set_option maxRecDepth 20000 in
theorem v_168_1077 (b : B3) (v0 : AV) (v1 : AV) (v2 : AV) (v3 : AV) (st : List AV) (i : Int32) (a : Nat) (σ : Sto) (Q : Po) : Ev b 168 1077 [v0, v1, v2, v3] (aI i :: aR (some a) :: st) σ Q = (okX σ a i ∧ Ev b 168 1078 [v0, v1, v2, v3] (aI (gi σ a i.toNatClampNeg) :: st) σ Q) := (Ev_of (k := 168) (pc := 1077) (i := .iaload) (len := 1) rfl _ _ _ _ _).trans rfl
set_option maxRecDepth 20000 in
theorem v_168_1078 (d c s : Nat) (v0 : AV) (v1 : AV) (v2 : AV) (v3 : AV) (y0 : Int32) (y1 : Int32) (y2 : Int32) (y3 : Nat) (y4 : Int32) (σ : Sto) (Q : Po) : Ev (d + 1, c, s) 168 1078 [v0, v1, v2, v3] [aI y0, aI y1, aI y2, aR (some y3), aI y4] σ Q = (okO σ y3 6 ∧ CI d 159 [aR (some y3), aI y2, aI y1, aI y0] σ (fun x2 σ2 => Ev (d + 1, c, s) 168 1081 [v0, v1, v2, v3] [aI x2, aI y4] σ2 Q)) := (g_inv (k := 168) (pc := 1078) (x := 120) (i := .invokevirtual 120) rfl (Or.inl ⟨rfl, rfl⟩) rfl lq_7120).trans (congrArg (And (okO σ y3 6)) (vdo_I (k' := 159) (c1 := 0) (c2 := 0) (vs := [aR (some y3), aI y2, aI y1, aI y0]) (rest := [aI y4]) (Or.inl rfl) rfl rfl))
set_option maxRecDepth 20000 in
theorem v_168_1081 (b : B3) (v0 : AV) (v1 : AV) (v2 : AV) (v3 : AV) (st : List AV) (x y : Int32) (σ : Sto) (Q : Po) : Ev b 168 1081 [v0, v1, v2, v3] (aI y :: aI x :: st) σ Q = ((x = y → Ev b 168 1195 [v0, v1, v2, v3] st σ Q) ∧ (¬ x = y → Ev b 168 1084 [v0, v1, v2, v3] st σ Q)) := (Ev_of (k := 168) (pc := 1081) (i := .if_icmp .eq 114) (len := 3) rfl _ _ _ _ _).trans rfl
set_option maxRecDepth 20000 in
theorem v_168_1084 (b : B3) (v0 : AV) (v1 : AV) (v2 : AV) (v3 : AV) (st : List AV) (σ : Sto) (Q : Po) : Ev b 168 1084 [v0, v1, v2, v3] st σ Q = (Ev b 168 1085 [v0, v1, v2, v3] (aI 0 :: st) σ Q) := (Ev_of (k := 168) (pc := 1084) (i := .iconst 0) (len := 1) rfl _ _ _ _ _).trans (congrArg (fun z => Ev b 168 1085 [v0, v1, v2, v3] (aI z :: st) σ Q) ki_0)
set_option maxRecDepth 20000 in
theorem v_168_1085 (b : B3) (v0 : AV) (v1 : AV) (v2 : AV) (v3 : AV) (x : Int32) (σ : Sto) (Q : Po) : Ev b 168 1085 [v0, v1, v2, v3] [aI x] σ Q = ((x = 0 ∨ x = 1) ∧ Q (some (aI x)) σ) := (Ev_of (k := 168) (pc := 1085) (i := .ireturn) (len := 1) rfl _ _ _ _ _).trans rfl
set_option maxRecDepth 20000 in
theorem v_168_1086 (b : B3) (v0 : AV) (v1 : Option Nat) (v2 : AV) (v3 : AV) (st : List AV) (σ : Sto) (Q : Po) : Ev b 168 1086 [v0, aR v1, v2, v3] st σ Q = (Ev b 168 1087 [v0, aR v1, v2, v3] (aR v1 :: st) σ Q) := (Ev_of (k := 168) (pc := 1086) (i := .aload_n 1) (len := 1) rfl _ _ _ _ _).trans rfl
set_option maxRecDepth 20000 in
theorem v_168_1087 (b : B3) (v0 : Option Nat) (v1 : AV) (v2 : AV) (v3 : AV) (st : List AV) (σ : Sto) (Q : Po) : Ev b 168 1087 [aR v0, v1, v2, v3] st σ Q = (Ev b 168 1088 [aR v0, v1, v2, v3] (aR v0 :: st) σ Q) := (Ev_of (k := 168) (pc := 1087) (i := .aload_n 0) (len := 1) rfl _ _ _ _ _).trans rfl
set_option maxRecDepth 20000 in
theorem v_168_1088 (b : B3) (v0 : AV) (v1 : AV) (v2 : AV) (v3 : Int32) (st : List AV) (σ : Sto) (Q : Po) : Ev b 168 1088 [v0, v1, v2, aI v3] st σ Q = (Ev b 168 1089 [v0, v1, v2, aI v3] (aI v3 :: st) σ Q) := (Ev_of (k := 168) (pc := 1088) (i := .iload_n 3) (len := 1) rfl _ _ _ _ _).trans rfl
set_option maxRecDepth 20000 in
theorem v_168_1089 (b : B3) (v0 : AV) (v1 : AV) (v2 : AV) (v3 : AV) (st : List AV) (σ : Sto) (Q : Po) : Ev b 168 1089 [v0, v1, v2, v3] st σ Q = (Ev b 168 1090 [v0, v1, v2, v3] (aI 1 :: st) σ Q) := (Ev_of (k := 168) (pc := 1089) (i := .iconst 1) (len := 1) rfl _ _ _ _ _).trans (congrArg (fun z => Ev b 168 1090 [v0, v1, v2, v3] (aI z :: st) σ Q) ki_1)
set_option maxRecDepth 20000 in
theorem v_168_1090 (b : B3) (v0 : AV) (v1 : AV) (v2 : AV) (v3 : AV) (st : List AV) (x y : Int32) (σ : Sto) (Q : Po) : Ev b 168 1090 [v0, v1, v2, v3] (aI y :: aI x :: st) σ Q = (Ev b 168 1091 [v0, v1, v2, v3] (aI (x + y) :: st) σ Q) := (Ev_of (k := 168) (pc := 1090) (i := .iadd) (len := 1) rfl _ _ _ _ _).trans rfl
set_option maxRecDepth 20000 in
theorem v_168_1091 (b : B3) (v0 : AV) (v1 : AV) (v2 : AV) (v3 : AV) (st : List AV) (i : Int32) (a : Nat) (σ : Sto) (Q : Po) : Ev b 168 1091 [v0, v1, v2, v3] (aI i :: aR (some a) :: st) σ Q = (okX σ a i ∧ Ev b 168 1092 [v0, v1, v2, v3] (aI (gi σ a i.toNatClampNeg) :: st) σ Q) := (Ev_of (k := 168) (pc := 1091) (i := .iaload) (len := 1) rfl _ _ _ _ _).trans rfl
set_option maxRecDepth 20000 in
theorem v_168_1092 (b : B3) (v0 : Option Nat) (v1 : AV) (v2 : AV) (v3 : AV) (st : List AV) (σ : Sto) (Q : Po) : Ev b 168 1092 [aR v0, v1, v2, v3] st σ Q = (Ev b 168 1093 [aR v0, v1, v2, v3] (aR v0 :: st) σ Q) := (Ev_of (k := 168) (pc := 1092) (i := .aload_n 0) (len := 1) rfl _ _ _ _ _).trans rfl
set_option maxRecDepth 20000 in
theorem v_168_1093 (b : B3) (v0 : AV) (v1 : AV) (v2 : AV) (v3 : Int32) (st : List AV) (σ : Sto) (Q : Po) : Ev b 168 1093 [v0, v1, v2, aI v3] st σ Q = (Ev b 168 1094 [v0, v1, v2, aI v3] (aI v3 :: st) σ Q) := (Ev_of (k := 168) (pc := 1093) (i := .iload_n 3) (len := 1) rfl _ _ _ _ _).trans rfl
set_option maxRecDepth 20000 in
theorem v_168_1094 (b : B3) (v0 : AV) (v1 : AV) (v2 : AV) (v3 : AV) (st : List AV) (σ : Sto) (Q : Po) : Ev b 168 1094 [v0, v1, v2, v3] st σ Q = (Ev b 168 1095 [v0, v1, v2, v3] (aI 2 :: st) σ Q) := (Ev_of (k := 168) (pc := 1094) (i := .iconst 2) (len := 1) rfl _ _ _ _ _).trans (congrArg (fun z => Ev b 168 1095 [v0, v1, v2, v3] (aI z :: st) σ Q) ki_2)
set_option maxRecDepth 20000 in
theorem v_168_1095 (b : B3) (v0 : AV) (v1 : AV) (v2 : AV) (v3 : AV) (st : List AV) (x y : Int32) (σ : Sto) (Q : Po) : Ev b 168 1095 [v0, v1, v2, v3] (aI y :: aI x :: st) σ Q = (Ev b 168 1096 [v0, v1, v2, v3] (aI (x + y) :: st) σ Q) := (Ev_of (k := 168) (pc := 1095) (i := .iadd) (len := 1) rfl _ _ _ _ _).trans rfl
set_option maxRecDepth 20000 in
theorem v_168_1096 (b : B3) (v0 : AV) (v1 : AV) (v2 : AV) (v3 : AV) (st : List AV) (i : Int32) (a : Nat) (σ : Sto) (Q : Po) : Ev b 168 1096 [v0, v1, v2, v3] (aI i :: aR (some a) :: st) σ Q = (okX σ a i ∧ Ev b 168 1097 [v0, v1, v2, v3] (aI (gi σ a i.toNatClampNeg) :: st) σ Q) := (Ev_of (k := 168) (pc := 1096) (i := .iaload) (len := 1) rfl _ _ _ _ _).trans rfl
set_option maxRecDepth 20000 in
theorem v_168_1097 (b : B3) (v0 : Option Nat) (v1 : AV) (v2 : AV) (v3 : AV) (st : List AV) (σ : Sto) (Q : Po) : Ev b 168 1097 [aR v0, v1, v2, v3] st σ Q = (Ev b 168 1098 [aR v0, v1, v2, v3] (aR v0 :: st) σ Q) := (Ev_of (k := 168) (pc := 1097) (i := .aload_n 0) (len := 1) rfl _ _ _ _ _).trans rfl
set_option maxRecDepth 20000 in
theorem v_168_1098 (b : B3) (v0 : AV) (v1 : AV) (v2 : AV) (v3 : Int32) (st : List AV) (σ : Sto) (Q : Po) : Ev b 168 1098 [v0, v1, v2, aI v3] st σ Q = (Ev b 168 1099 [v0, v1, v2, aI v3] (aI v3 :: st) σ Q) := (Ev_of (k := 168) (pc := 1098) (i := .iload_n 3) (len := 1) rfl _ _ _ _ _).trans rfl
set_option maxRecDepth 20000 in
theorem v_168_1099 (b : B3) (v0 : AV) (v1 : AV) (v2 : AV) (v3 : AV) (st : List AV) (σ : Sto) (Q : Po) : Ev b 168 1099 [v0, v1, v2, v3] st σ Q = (Ev b 168 1100 [v0, v1, v2, v3] (aI 3 :: st) σ Q) := (Ev_of (k := 168) (pc := 1099) (i := .iconst 3) (len := 1) rfl _ _ _ _ _).trans (congrArg (fun z => Ev b 168 1100 [v0, v1, v2, v3] (aI z :: st) σ Q) ki_3)
set_option maxRecDepth 20000 in
theorem v_168_1100 (b : B3) (v0 : AV) (v1 : AV) (v2 : AV) (v3 : AV) (st : List AV) (x y : Int32) (σ : Sto) (Q : Po) : Ev b 168 1100 [v0, v1, v2, v3] (aI y :: aI x :: st) σ Q = (Ev b 168 1101 [v0, v1, v2, v3] (aI (x + y) :: st) σ Q) := (Ev_of (k := 168) (pc := 1100) (i := .iadd) (len := 1) rfl _ _ _ _ _).trans rfl
set_option maxRecDepth 20000 in
theorem v_168_1101 (b : B3) (v0 : AV) (v1 : AV) (v2 : AV) (v3 : AV) (st : List AV) (i : Int32) (a : Nat) (σ : Sto) (Q : Po) : Ev b 168 1101 [v0, v1, v2, v3] (aI i :: aR (some a) :: st) σ Q = (okX σ a i ∧ Ev b 168 1102 [v0, v1, v2, v3] (aI (gi σ a i.toNatClampNeg) :: st) σ Q) := (Ev_of (k := 168) (pc := 1101) (i := .iaload) (len := 1) rfl _ _ _ _ _).trans rfl
set_option maxRecDepth 20000 in
theorem v_168_1102 (d c s : Nat) (v0 : AV) (v1 : AV) (v2 : AV) (v3 : AV) (y0 : Int32) (y1 : Int32) (y2 : Int32) (y3 : Nat) (σ : Sto) (Q : Po) : Ev (d + 1, c, s) 168 1102 [v0, v1, v2, v3] [aI y0, aI y1, aI y2, aR (some y3)] σ Q = (okO σ y3 5 ∧ CI d 84 [aR (some y3), aI y2, aI y1, aI y0] σ (fun x2 σ2 => Ev (d + 1, c, s) 168 1105 [v0, v1, v2, v3] [aI x2] σ2 Q)) := (g_inv (k := 168) (pc := 1102) (x := 121) (i := .invokevirtual 121) rfl (Or.inl ⟨rfl, rfl⟩) rfl lq_7121).trans (congrArg (And (okO σ y3 5)) (vdo_I (k' := 84) (c1 := 0) (c2 := 0) (vs := [aR (some y3), aI y2, aI y1, aI y0]) (rest := []) (Or.inl rfl) rfl rfl))
set_option maxRecDepth 20000 in
theorem v_168_1105 (b : B3) (v0 : AV) (v1 : AV) (v2 : Option Nat) (v3 : AV) (st : List AV) (σ : Sto) (Q : Po) : Ev b 168 1105 [v0, v1, aR v2, v3] st σ Q = (Ev b 168 1106 [v0, v1, aR v2, v3] (aR v2 :: st) σ Q) := (Ev_of (k := 168) (pc := 1105) (i := .aload_n 2) (len := 1) rfl _ _ _ _ _).trans rfl
set_option maxRecDepth 20000 in
theorem v_168_1106 (b : B3) (v0 : Option Nat) (v1 : AV) (v2 : AV) (v3 : AV) (st : List AV) (σ : Sto) (Q : Po) : Ev b 168 1106 [aR v0, v1, v2, v3] st σ Q = (Ev b 168 1107 [aR v0, v1, v2, v3] (aR v0 :: st) σ Q) := (Ev_of (k := 168) (pc := 1106) (i := .aload_n 0) (len := 1) rfl _ _ _ _ _).trans rfl
set_option maxRecDepth 20000 in
theorem v_168_1107 (b : B3) (v0 : AV) (v1 : AV) (v2 : AV) (v3 : Int32) (st : List AV) (σ : Sto) (Q : Po) : Ev b 168 1107 [v0, v1, v2, aI v3] st σ Q = (Ev b 168 1108 [v0, v1, v2, aI v3] (aI v3 :: st) σ Q) := (Ev_of (k := 168) (pc := 1107) (i := .iload_n 3) (len := 1) rfl _ _ _ _ _).trans rfl
set_option maxRecDepth 20000 in
theorem v_168_1108 (b : B3) (v0 : AV) (v1 : AV) (v2 : AV) (v3 : AV) (st : List AV) (σ : Sto) (Q : Po) : Ev b 168 1108 [v0, v1, v2, v3] st σ Q = (Ev b 168 1109 [v0, v1, v2, v3] (aI 1 :: st) σ Q) := (Ev_of (k := 168) (pc := 1108) (i := .iconst 1) (len := 1) rfl _ _ _ _ _).trans (congrArg (fun z => Ev b 168 1109 [v0, v1, v2, v3] (aI z :: st) σ Q) ki_1)
set_option maxRecDepth 20000 in
theorem v_168_1109 (b : B3) (v0 : AV) (v1 : AV) (v2 : AV) (v3 : AV) (st : List AV) (x y : Int32) (σ : Sto) (Q : Po) : Ev b 168 1109 [v0, v1, v2, v3] (aI y :: aI x :: st) σ Q = (Ev b 168 1110 [v0, v1, v2, v3] (aI (x + y) :: st) σ Q) := (Ev_of (k := 168) (pc := 1109) (i := .iadd) (len := 1) rfl _ _ _ _ _).trans rfl
set_option maxRecDepth 20000 in
theorem v_168_1110 (b : B3) (v0 : AV) (v1 : AV) (v2 : AV) (v3 : AV) (st : List AV) (i : Int32) (a : Nat) (σ : Sto) (Q : Po) : Ev b 168 1110 [v0, v1, v2, v3] (aI i :: aR (some a) :: st) σ Q = (okX σ a i ∧ Ev b 168 1111 [v0, v1, v2, v3] (aI (gi σ a i.toNatClampNeg) :: st) σ Q) := (Ev_of (k := 168) (pc := 1110) (i := .iaload) (len := 1) rfl _ _ _ _ _).trans rfl
set_option maxRecDepth 20000 in
theorem v_168_1111 (b : B3) (v0 : Option Nat) (v1 : AV) (v2 : AV) (v3 : AV) (st : List AV) (σ : Sto) (Q : Po) : Ev b 168 1111 [aR v0, v1, v2, v3] st σ Q = (Ev b 168 1112 [aR v0, v1, v2, v3] (aR v0 :: st) σ Q) := (Ev_of (k := 168) (pc := 1111) (i := .aload_n 0) (len := 1) rfl _ _ _ _ _).trans rfl
set_option maxRecDepth 20000 in
theorem v_168_1112 (b : B3) (v0 : AV) (v1 : AV) (v2 : AV) (v3 : Int32) (st : List AV) (σ : Sto) (Q : Po) : Ev b 168 1112 [v0, v1, v2, aI v3] st σ Q = (Ev b 168 1113 [v0, v1, v2, aI v3] (aI v3 :: st) σ Q) := (Ev_of (k := 168) (pc := 1112) (i := .iload_n 3) (len := 1) rfl _ _ _ _ _).trans rfl
set_option maxRecDepth 20000 in
theorem v_168_1113 (b : B3) (v0 : AV) (v1 : AV) (v2 : AV) (v3 : AV) (st : List AV) (σ : Sto) (Q : Po) : Ev b 168 1113 [v0, v1, v2, v3] st σ Q = (Ev b 168 1114 [v0, v1, v2, v3] (aI 2 :: st) σ Q) := (Ev_of (k := 168) (pc := 1113) (i := .iconst 2) (len := 1) rfl _ _ _ _ _).trans (congrArg (fun z => Ev b 168 1114 [v0, v1, v2, v3] (aI z :: st) σ Q) ki_2)
set_option maxRecDepth 20000 in
theorem v_168_1114 (b : B3) (v0 : AV) (v1 : AV) (v2 : AV) (v3 : AV) (st : List AV) (x y : Int32) (σ : Sto) (Q : Po) : Ev b 168 1114 [v0, v1, v2, v3] (aI y :: aI x :: st) σ Q = (Ev b 168 1115 [v0, v1, v2, v3] (aI (x + y) :: st) σ Q) := (Ev_of (k := 168) (pc := 1114) (i := .iadd) (len := 1) rfl _ _ _ _ _).trans rfl
set_option maxRecDepth 20000 in
theorem v_168_1115 (b : B3) (v0 : AV) (v1 : AV) (v2 : AV) (v3 : AV) (st : List AV) (i : Int32) (a : Nat) (σ : Sto) (Q : Po) : Ev b 168 1115 [v0, v1, v2, v3] (aI i :: aR (some a) :: st) σ Q = (okX σ a i ∧ Ev b 168 1116 [v0, v1, v2, v3] (aI (gi σ a i.toNatClampNeg) :: st) σ Q) := (Ev_of (k := 168) (pc := 1115) (i := .iaload) (len := 1) rfl _ _ _ _ _).trans rfl
set_option maxRecDepth 20000 in
theorem v_168_1116 (b : B3) (v0 : Option Nat) (v1 : AV) (v2 : AV) (v3 : AV) (st : List AV) (σ : Sto) (Q : Po) : Ev b 168 1116 [aR v0, v1, v2, v3] st σ Q = (Ev b 168 1117 [aR v0, v1, v2, v3] (aR v0 :: st) σ Q) := (Ev_of (k := 168) (pc := 1116) (i := .aload_n 0) (len := 1) rfl _ _ _ _ _).trans rfl
set_option maxRecDepth 20000 in
theorem v_168_1117 (b : B3) (v0 : AV) (v1 : AV) (v2 : AV) (v3 : Int32) (st : List AV) (σ : Sto) (Q : Po) : Ev b 168 1117 [v0, v1, v2, aI v3] st σ Q = (Ev b 168 1118 [v0, v1, v2, aI v3] (aI v3 :: st) σ Q) := (Ev_of (k := 168) (pc := 1117) (i := .iload_n 3) (len := 1) rfl _ _ _ _ _).trans rfl
set_option maxRecDepth 20000 in
theorem v_168_1118 (b : B3) (v0 : AV) (v1 : AV) (v2 : AV) (v3 : AV) (st : List AV) (σ : Sto) (Q : Po) : Ev b 168 1118 [v0, v1, v2, v3] st σ Q = (Ev b 168 1119 [v0, v1, v2, v3] (aI 3 :: st) σ Q) := (Ev_of (k := 168) (pc := 1118) (i := .iconst 3) (len := 1) rfl _ _ _ _ _).trans (congrArg (fun z => Ev b 168 1119 [v0, v1, v2, v3] (aI z :: st) σ Q) ki_3)
set_option maxRecDepth 20000 in
theorem v_168_1119 (b : B3) (v0 : AV) (v1 : AV) (v2 : AV) (v3 : AV) (st : List AV) (x y : Int32) (σ : Sto) (Q : Po) : Ev b 168 1119 [v0, v1, v2, v3] (aI y :: aI x :: st) σ Q = (Ev b 168 1120 [v0, v1, v2, v3] (aI (x + y) :: st) σ Q) := (Ev_of (k := 168) (pc := 1119) (i := .iadd) (len := 1) rfl _ _ _ _ _).trans rfl
set_option maxRecDepth 20000 in
theorem v_168_1120 (b : B3) (v0 : AV) (v1 : AV) (v2 : AV) (v3 : AV) (st : List AV) (i : Int32) (a : Nat) (σ : Sto) (Q : Po) : Ev b 168 1120 [v0, v1, v2, v3] (aI i :: aR (some a) :: st) σ Q = (okX σ a i ∧ Ev b 168 1121 [v0, v1, v2, v3] (aI (gi σ a i.toNatClampNeg) :: st) σ Q) := (Ev_of (k := 168) (pc := 1120) (i := .iaload) (len := 1) rfl _ _ _ _ _).trans rfl
set_option maxRecDepth 20000 in
theorem v_168_1121 (d c s : Nat) (v0 : AV) (v1 : AV) (v2 : AV) (v3 : AV) (y0 : Int32) (y1 : Int32) (y2 : Int32) (y3 : Nat) (y4 : Int32) (σ : Sto) (Q : Po) : Ev (d + 1, c, s) 168 1121 [v0, v1, v2, v3] [aI y0, aI y1, aI y2, aR (some y3), aI y4] σ Q = (okO σ y3 6 ∧ CI d 160 [aR (some y3), aI y2, aI y1, aI y0] σ (fun x2 σ2 => Ev (d + 1, c, s) 168 1124 [v0, v1, v2, v3] [aI x2, aI y4] σ2 Q)) := (g_inv (k := 168) (pc := 1121) (x := 124) (i := .invokevirtual 124) rfl (Or.inl ⟨rfl, rfl⟩) rfl lq_7124).trans (congrArg (And (okO σ y3 6)) (vdo_I (k' := 160) (c1 := 0) (c2 := 0) (vs := [aR (some y3), aI y2, aI y1, aI y0]) (rest := [aI y4]) (Or.inl rfl) rfl rfl))
set_option maxRecDepth 20000 in
theorem v_168_1124 (b : B3) (v0 : AV) (v1 : AV) (v2 : AV) (v3 : AV) (st : List AV) (x y : Int32) (σ : Sto) (Q : Po) : Ev b 168 1124 [v0, v1, v2, v3] (aI y :: aI x :: st) σ Q = ((x = y → Ev b 168 1195 [v0, v1, v2, v3] st σ Q) ∧ (¬ x = y → Ev b 168 1127 [v0, v1, v2, v3] st σ Q)) := (Ev_of (k := 168) (pc := 1124) (i := .if_icmp .eq 71) (len := 3) rfl _ _ _ _ _).trans rfl
set_option maxRecDepth 20000 in
theorem v_168_1127 (b : B3) (v0 : AV) (v1 : AV) (v2 : AV) (v3 : AV) (st : List AV) (σ : Sto) (Q : Po) : Ev b 168 1127 [v0, v1, v2, v3] st σ Q = (Ev b 168 1128 [v0, v1, v2, v3] (aI 0 :: st) σ Q) := (Ev_of (k := 168) (pc := 1127) (i := .iconst 0) (len := 1) rfl _ _ _ _ _).trans (congrArg (fun z => Ev b 168 1128 [v0, v1, v2, v3] (aI z :: st) σ Q) ki_0)
set_option maxRecDepth 20000 in
theorem v_168_1128 (b : B3) (v0 : AV) (v1 : AV) (v2 : AV) (v3 : AV) (x : Int32) (σ : Sto) (Q : Po) : Ev b 168 1128 [v0, v1, v2, v3] [aI x] σ Q = ((x = 0 ∨ x = 1) ∧ Q (some (aI x)) σ) := (Ev_of (k := 168) (pc := 1128) (i := .ireturn) (len := 1) rfl _ _ _ _ _).trans rfl
set_option maxRecDepth 20000 in
theorem v_168_1129 (b : B3) (v0 : AV) (v1 : Option Nat) (v2 : AV) (v3 : AV) (st : List AV) (σ : Sto) (Q : Po) : Ev b 168 1129 [v0, aR v1, v2, v3] st σ Q = (Ev b 168 1130 [v0, aR v1, v2, v3] (aR v1 :: st) σ Q) := (Ev_of (k := 168) (pc := 1129) (i := .aload_n 1) (len := 1) rfl _ _ _ _ _).trans rfl
set_option maxRecDepth 20000 in
theorem v_168_1130 (b : B3) (v0 : Option Nat) (v1 : AV) (v2 : AV) (v3 : AV) (st : List AV) (σ : Sto) (Q : Po) : Ev b 168 1130 [aR v0, v1, v2, v3] st σ Q = (Ev b 168 1131 [aR v0, v1, v2, v3] (aR v0 :: st) σ Q) := (Ev_of (k := 168) (pc := 1130) (i := .aload_n 0) (len := 1) rfl _ _ _ _ _).trans rfl
set_option maxRecDepth 20000 in
theorem v_168_1131 (b : B3) (v0 : AV) (v1 : AV) (v2 : AV) (v3 : Int32) (st : List AV) (σ : Sto) (Q : Po) : Ev b 168 1131 [v0, v1, v2, aI v3] st σ Q = (Ev b 168 1132 [v0, v1, v2, aI v3] (aI v3 :: st) σ Q) := (Ev_of (k := 168) (pc := 1131) (i := .iload_n 3) (len := 1) rfl _ _ _ _ _).trans rfl
set_option maxRecDepth 20000 in
theorem v_168_1132 (b : B3) (v0 : AV) (v1 : AV) (v2 : AV) (v3 : AV) (st : List AV) (σ : Sto) (Q : Po) : Ev b 168 1132 [v0, v1, v2, v3] st σ Q = (Ev b 168 1133 [v0, v1, v2, v3] (aI 1 :: st) σ Q) := (Ev_of (k := 168) (pc := 1132) (i := .iconst 1) (len := 1) rfl _ _ _ _ _).trans (congrArg (fun z => Ev b 168 1133 [v0, v1, v2, v3] (aI z :: st) σ Q) ki_1)
set_option maxRecDepth 20000 in
theorem v_168_1133 (b : B3) (v0 : AV) (v1 : AV) (v2 : AV) (v3 : AV) (st : List AV) (x y : Int32) (σ : Sto) (Q : Po) : Ev b 168 1133 [v0, v1, v2, v3] (aI y :: aI x :: st) σ Q = (Ev b 168 1134 [v0, v1, v2, v3] (aI (x + y) :: st) σ Q) := (Ev_of (k := 168) (pc := 1133) (i := .iadd) (len := 1) rfl _ _ _ _ _).trans rfl
set_option maxRecDepth 20000 in
theorem v_168_1134 (b : B3) (v0 : AV) (v1 : AV) (v2 : AV) (v3 : AV) (st : List AV) (i : Int32) (a : Nat) (σ : Sto) (Q : Po) : Ev b 168 1134 [v0, v1, v2, v3] (aI i :: aR (some a) :: st) σ Q = (okX σ a i ∧ Ev b 168 1135 [v0, v1, v2, v3] (aI (gi σ a i.toNatClampNeg) :: st) σ Q) := (Ev_of (k := 168) (pc := 1134) (i := .iaload) (len := 1) rfl _ _ _ _ _).trans rfl
set_option maxRecDepth 20000 in
theorem v_168_1135 (b : B3) (v0 : Option Nat) (v1 : AV) (v2 : AV) (v3 : AV) (st : List AV) (σ : Sto) (Q : Po) : Ev b 168 1135 [aR v0, v1, v2, v3] st σ Q = (Ev b 168 1136 [aR v0, v1, v2, v3] (aR v0 :: st) σ Q) := (Ev_of (k := 168) (pc := 1135) (i := .aload_n 0) (len := 1) rfl _ _ _ _ _).trans rfl
set_option maxRecDepth 20000 in
theorem v_168_1136 (b : B3) (v0 : AV) (v1 : AV) (v2 : AV) (v3 : Int32) (st : List AV) (σ : Sto) (Q : Po) : Ev b 168 1136 [v0, v1, v2, aI v3] st σ Q = (Ev b 168 1137 [v0, v1, v2, aI v3] (aI v3 :: st) σ Q) := (Ev_of (k := 168) (pc := 1136) (i := .iload_n 3) (len := 1) rfl _ _ _ _ _).trans rfl
set_option maxRecDepth 20000 in
theorem v_168_1137 (b : B3) (v0 : AV) (v1 : AV) (v2 : AV) (v3 : AV) (st : List AV) (σ : Sto) (Q : Po) : Ev b 168 1137 [v0, v1, v2, v3] st σ Q = (Ev b 168 1138 [v0, v1, v2, v3] (aI 2 :: st) σ Q) := (Ev_of (k := 168) (pc := 1137) (i := .iconst 2) (len := 1) rfl _ _ _ _ _).trans (congrArg (fun z => Ev b 168 1138 [v0, v1, v2, v3] (aI z :: st) σ Q) ki_2)
set_option maxRecDepth 20000 in
theorem v_168_1138 (b : B3) (v0 : AV) (v1 : AV) (v2 : AV) (v3 : AV) (st : List AV) (x y : Int32) (σ : Sto) (Q : Po) : Ev b 168 1138 [v0, v1, v2, v3] (aI y :: aI x :: st) σ Q = (Ev b 168 1139 [v0, v1, v2, v3] (aI (x + y) :: st) σ Q) := (Ev_of (k := 168) (pc := 1138) (i := .iadd) (len := 1) rfl _ _ _ _ _).trans rfl
set_option maxRecDepth 20000 in
theorem v_168_1139 (b : B3) (v0 : AV) (v1 : AV) (v2 : AV) (v3 : AV) (st : List AV) (i : Int32) (a : Nat) (σ : Sto) (Q : Po) : Ev b 168 1139 [v0, v1, v2, v3] (aI i :: aR (some a) :: st) σ Q = (okX σ a i ∧ Ev b 168 1140 [v0, v1, v2, v3] (aI (gi σ a i.toNatClampNeg) :: st) σ Q) := (Ev_of (k := 168) (pc := 1139) (i := .iaload) (len := 1) rfl _ _ _ _ _).trans rfl
set_option maxRecDepth 20000 in
theorem v_168_1140 (b : B3) (v0 : Option Nat) (v1 : AV) (v2 : AV) (v3 : AV) (st : List AV) (σ : Sto) (Q : Po) : Ev b 168 1140 [aR v0, v1, v2, v3] st σ Q = (Ev b 168 1141 [aR v0, v1, v2, v3] (aR v0 :: st) σ Q) := (Ev_of (k := 168) (pc := 1140) (i := .aload_n 0) (len := 1) rfl _ _ _ _ _).trans rfl
set_option maxRecDepth 20000 in
theorem v_168_1141 (b : B3) (v0 : AV) (v1 : AV) (v2 : AV) (v3 : Int32) (st : List AV) (σ : Sto) (Q : Po) : Ev b 168 1141 [v0, v1, v2, aI v3] st σ Q = (Ev b 168 1142 [v0, v1, v2, aI v3] (aI v3 :: st) σ Q) := (Ev_of (k := 168) (pc := 1141) (i := .iload_n 3) (len := 1) rfl _ _ _ _ _).trans rfl
set_option maxRecDepth 20000 in
theorem v_168_1142 (b : B3) (v0 : AV) (v1 : AV) (v2 : AV) (v3 : AV) (st : List AV) (σ : Sto) (Q : Po) : Ev b 168 1142 [v0, v1, v2, v3] st σ Q = (Ev b 168 1143 [v0, v1, v2, v3] (aI 3 :: st) σ Q) := (Ev_of (k := 168) (pc := 1142) (i := .iconst 3) (len := 1) rfl _ _ _ _ _).trans (congrArg (fun z => Ev b 168 1143 [v0, v1, v2, v3] (aI z :: st) σ Q) ki_3)
set_option maxRecDepth 20000 in
theorem v_168_1143 (b : B3) (v0 : AV) (v1 : AV) (v2 : AV) (v3 : AV) (st : List AV) (x y : Int32) (σ : Sto) (Q : Po) : Ev b 168 1143 [v0, v1, v2, v3] (aI y :: aI x :: st) σ Q = (Ev b 168 1144 [v0, v1, v2, v3] (aI (x + y) :: st) σ Q) := (Ev_of (k := 168) (pc := 1143) (i := .iadd) (len := 1) rfl _ _ _ _ _).trans rfl
set_option maxRecDepth 20000 in
theorem v_168_1144 (b : B3) (v0 : AV) (v1 : AV) (v2 : AV) (v3 : AV) (st : List AV) (i : Int32) (a : Nat) (σ : Sto) (Q : Po) : Ev b 168 1144 [v0, v1, v2, v3] (aI i :: aR (some a) :: st) σ Q = (okX σ a i ∧ Ev b 168 1145 [v0, v1, v2, v3] (aI (gi σ a i.toNatClampNeg) :: st) σ Q) := (Ev_of (k := 168) (pc := 1144) (i := .iaload) (len := 1) rfl _ _ _ _ _).trans rfl
set_option maxRecDepth 20000 in
theorem v_168_1145 (d c s : Nat) (v0 : AV) (v1 : AV) (v2 : AV) (v3 : AV) (y0 : Int32) (y1 : Int32) (y2 : Int32) (y3 : Nat) (σ : Sto) (Q : Po) : Ev (d + 1, c, s) 168 1145 [v0, v1, v2, v3] [aI y0, aI y1, aI y2, aR (some y3)] σ Q = (okO σ y3 5 ∧ CI d 85 [aR (some y3), aI y2, aI y1, aI y0] σ (fun x2 σ2 => Ev (d + 1, c, s) 168 1148 [v0, v1, v2, v3] [aI x2] σ2 Q)) := (g_inv (k := 168) (pc := 1145) (x := 125) (i := .invokevirtual 125) rfl (Or.inl ⟨rfl, rfl⟩) rfl lq_7125).trans (congrArg (And (okO σ y3 5)) (vdo_I (k' := 85) (c1 := 0) (c2 := 0) (vs := [aR (some y3), aI y2, aI y1, aI y0]) (rest := []) (Or.inl rfl) rfl rfl))
set_option maxRecDepth 20000 in
theorem v_168_1148 (b : B3) (v0 : AV) (v1 : AV) (v2 : Option Nat) (v3 : AV) (st : List AV) (σ : Sto) (Q : Po) : Ev b 168 1148 [v0, v1, aR v2, v3] st σ Q = (Ev b 168 1149 [v0, v1, aR v2, v3] (aR v2 :: st) σ Q) := (Ev_of (k := 168) (pc := 1148) (i := .aload_n 2) (len := 1) rfl _ _ _ _ _).trans rfl
set_option maxRecDepth 20000 in
theorem v_168_1149 (b : B3) (v0 : Option Nat) (v1 : AV) (v2 : AV) (v3 : AV) (st : List AV) (σ : Sto) (Q : Po) : Ev b 168 1149 [aR v0, v1, v2, v3] st σ Q = (Ev b 168 1150 [aR v0, v1, v2, v3] (aR v0 :: st) σ Q) := (Ev_of (k := 168) (pc := 1149) (i := .aload_n 0) (len := 1) rfl _ _ _ _ _).trans rfl
set_option maxRecDepth 20000 in
theorem v_168_1150 (b : B3) (v0 : AV) (v1 : AV) (v2 : AV) (v3 : Int32) (st : List AV) (σ : Sto) (Q : Po) : Ev b 168 1150 [v0, v1, v2, aI v3] st σ Q = (Ev b 168 1151 [v0, v1, v2, aI v3] (aI v3 :: st) σ Q) := (Ev_of (k := 168) (pc := 1150) (i := .iload_n 3) (len := 1) rfl _ _ _ _ _).trans rfl
set_option maxRecDepth 20000 in
theorem v_168_1151 (b : B3) (v0 : AV) (v1 : AV) (v2 : AV) (v3 : AV) (st : List AV) (σ : Sto) (Q : Po) : Ev b 168 1151 [v0, v1, v2, v3] st σ Q = (Ev b 168 1152 [v0, v1, v2, v3] (aI 1 :: st) σ Q) := (Ev_of (k := 168) (pc := 1151) (i := .iconst 1) (len := 1) rfl _ _ _ _ _).trans (congrArg (fun z => Ev b 168 1152 [v0, v1, v2, v3] (aI z :: st) σ Q) ki_1)
set_option maxRecDepth 20000 in
theorem v_168_1152 (b : B3) (v0 : AV) (v1 : AV) (v2 : AV) (v3 : AV) (st : List AV) (x y : Int32) (σ : Sto) (Q : Po) : Ev b 168 1152 [v0, v1, v2, v3] (aI y :: aI x :: st) σ Q = (Ev b 168 1153 [v0, v1, v2, v3] (aI (x + y) :: st) σ Q) := (Ev_of (k := 168) (pc := 1152) (i := .iadd) (len := 1) rfl _ _ _ _ _).trans rfl
set_option maxRecDepth 20000 in
theorem v_168_1153 (b : B3) (v0 : AV) (v1 : AV) (v2 : AV) (v3 : AV) (st : List AV) (i : Int32) (a : Nat) (σ : Sto) (Q : Po) : Ev b 168 1153 [v0, v1, v2, v3] (aI i :: aR (some a) :: st) σ Q = (okX σ a i ∧ Ev b 168 1154 [v0, v1, v2, v3] (aI (gi σ a i.toNatClampNeg) :: st) σ Q) := (Ev_of (k := 168) (pc := 1153) (i := .iaload) (len := 1) rfl _ _ _ _ _).trans rfl
set_option maxRecDepth 20000 in
theorem v_168_1154 (b : B3) (v0 : Option Nat) (v1 : AV) (v2 : AV) (v3 : AV) (st : List AV) (σ : Sto) (Q : Po) : Ev b 168 1154 [aR v0, v1, v2, v3] st σ Q = (Ev b 168 1155 [aR v0, v1, v2, v3] (aR v0 :: st) σ Q) := (Ev_of (k := 168) (pc := 1154) (i := .aload_n 0) (len := 1) rfl _ _ _ _ _).trans rfl
set_option maxRecDepth 20000 in
theorem v_168_1155 (b : B3) (v0 : AV) (v1 : AV) (v2 : AV) (v3 : Int32) (st : List AV) (σ : Sto) (Q : Po) : Ev b 168 1155 [v0, v1, v2, aI v3] st σ Q = (Ev b 168 1156 [v0, v1, v2, aI v3] (aI v3 :: st) σ Q) := (Ev_of (k := 168) (pc := 1155) (i := .iload_n 3) (len := 1) rfl _ _ _ _ _).trans rfl
set_option maxRecDepth 20000 in
theorem v_168_1156 (b : B3) (v0 : AV) (v1 : AV) (v2 : AV) (v3 : AV) (st : List AV) (σ : Sto) (Q : Po) : Ev b 168 1156 [v0, v1, v2, v3] st σ Q = (Ev b 168 1157 [v0, v1, v2, v3] (aI 2 :: st) σ Q) := (Ev_of (k := 168) (pc := 1156) (i := .iconst 2) (len := 1) rfl _ _ _ _ _).trans (congrArg (fun z => Ev b 168 1157 [v0, v1, v2, v3] (aI z :: st) σ Q) ki_2)
set_option maxRecDepth 20000 in
theorem v_168_1157 (b : B3) (v0 : AV) (v1 : AV) (v2 : AV) (v3 : AV) (st : List AV) (x y : Int32) (σ : Sto) (Q : Po) : Ev b 168 1157 [v0, v1, v2, v3] (aI y :: aI x :: st) σ Q = (Ev b 168 1158 [v0, v1, v2, v3] (aI (x + y) :: st) σ Q) := (Ev_of (k := 168) (pc := 1157) (i := .iadd) (len := 1) rfl _ _ _ _ _).trans rfl
set_option maxRecDepth 20000 in
theorem v_168_1158 (b : B3) (v0 : AV) (v1 : AV) (v2 : AV) (v3 : AV) (st : List AV) (i : Int32) (a : Nat) (σ : Sto) (Q : Po) : Ev b 168 1158 [v0, v1, v2, v3] (aI i :: aR (some a) :: st) σ Q = (okX σ a i ∧ Ev b 168 1159 [v0, v1, v2, v3] (aI (gi σ a i.toNatClampNeg) :: st) σ Q) := (Ev_of (k := 168) (pc := 1158) (i := .iaload) (len := 1) rfl _ _ _ _ _).trans rfl
set_option maxRecDepth 20000 in
theorem v_168_1159 (b : B3) (v0 : Option Nat) (v1 : AV) (v2 : AV) (v3 : AV) (st : List AV) (σ : Sto) (Q : Po) : Ev b 168 1159 [aR v0, v1, v2, v3] st σ Q = (Ev b 168 1160 [aR v0, v1, v2, v3] (aR v0 :: st) σ Q) := (Ev_of (k := 168) (pc := 1159) (i := .aload_n 0) (len := 1) rfl _ _ _ _ _).trans rfl
set_option maxRecDepth 20000 in
theorem v_168_1160 (b : B3) (v0 : AV) (v1 : AV) (v2 : AV) (v3 : Int32) (st : List AV) (σ : Sto) (Q : Po) : Ev b 168 1160 [v0, v1, v2, aI v3] st σ Q = (Ev b 168 1161 [v0, v1, v2, aI v3] (aI v3 :: st) σ Q) := (Ev_of (k := 168) (pc := 1160) (i := .iload_n 3) (len := 1) rfl _ _ _ _ _).trans rfl
set_option maxRecDepth 20000 in
theorem v_168_1161 (b : B3) (v0 : AV) (v1 : AV) (v2 : AV) (v3 : AV) (st : List AV) (σ : Sto) (Q : Po) : Ev b 168 1161 [v0, v1, v2, v3] st σ Q = (Ev b 168 1162 [v0, v1, v2, v3] (aI 3 :: st) σ Q) := (Ev_of (k := 168) (pc := 1161) (i := .iconst 3) (len := 1) rfl _ _ _ _ _).trans (congrArg (fun z => Ev b 168 1162 [v0, v1, v2, v3] (aI z :: st) σ Q) ki_3)
set_option maxRecDepth 20000 in
theorem v_168_1162 (b : B3) (v0 : AV) (v1 : AV) (v2 : AV) (v3 : AV) (st : List AV) (x y : Int32) (σ : Sto) (Q : Po) : Ev b 168 1162 [v0, v1, v2, v3] (aI y :: aI x :: st) σ Q = (Ev b 168 1163 [v0, v1, v2, v3] (aI (x + y) :: st) σ Q) := (Ev_of (k := 168) (pc := 1162) (i := .iadd) (len := 1) rfl _ _ _ _ _).trans rfl
set_option maxRecDepth 20000 in
theorem v_168_1163 (b : B3) (v0 : AV) (v1 : AV) (v2 : AV) (v3 : AV) (st : List AV) (i : Int32) (a : Nat) (σ : Sto) (Q : Po) : Ev b 168 1163 [v0, v1, v2, v3] (aI i :: aR (some a) :: st) σ Q = (okX σ a i ∧ Ev b 168 1164 [v0, v1, v2, v3] (aI (gi σ a i.toNatClampNeg) :: st) σ Q) := (Ev_of (k := 168) (pc := 1163) (i := .iaload) (len := 1) rfl _ _ _ _ _).trans rfl
set_option maxRecDepth 20000 in
theorem v_168_1164 (d c s : Nat) (v0 : AV) (v1 : AV) (v2 : AV) (v3 : AV) (y0 : Int32) (y1 : Int32) (y2 : Int32) (y3 : Nat) (y4 : Int32) (σ : Sto) (Q : Po) : Ev (d + 1, c, s) 168 1164 [v0, v1, v2, v3] [aI y0, aI y1, aI y2, aR (some y3), aI y4] σ Q = (okO σ y3 6 ∧ CI d 161 [aR (some y3), aI y2, aI y1, aI y0] σ (fun x2 σ2 => Ev (d + 1, c, s) 168 1167 [v0, v1, v2, v3] [aI x2, aI y4] σ2 Q)) := (g_inv (k := 168) (pc := 1164) (x := 128) (i := .invokevirtual 128) rfl (Or.inl ⟨rfl, rfl⟩) rfl lq_7128).trans (congrArg (And (okO σ y3 6)) (vdo_I (k' := 161) (c1 := 0) (c2 := 0) (vs := [aR (some y3), aI y2, aI y1, aI y0]) (rest := [aI y4]) (Or.inl rfl) rfl rfl))
set_option maxRecDepth 20000 in
theorem v_168_1167 (b : B3) (v0 : AV) (v1 : AV) (v2 : AV) (v3 : AV) (st : List AV) (x y : Int32) (σ : Sto) (Q : Po) : Ev b 168 1167 [v0, v1, v2, v3] (aI y :: aI x :: st) σ Q = ((x = y → Ev b 168 1195 [v0, v1, v2, v3] st σ Q) ∧ (¬ x = y → Ev b 168 1170 [v0, v1, v2, v3] st σ Q)) := (Ev_of (k := 168) (pc := 1167) (i := .if_icmp .eq 28) (len := 3) rfl _ _ _ _ _).trans rfl
set_option maxRecDepth 20000 in
theorem v_168_1170 (b : B3) (v0 : AV) (v1 : AV) (v2 : AV) (v3 : AV) (st : List AV) (σ : Sto) (Q : Po) : Ev b 168 1170 [v0, v1, v2, v3] st σ Q = (Ev b 168 1171 [v0, v1, v2, v3] (aI 0 :: st) σ Q) := (Ev_of (k := 168) (pc := 1170) (i := .iconst 0) (len := 1) rfl _ _ _ _ _).trans (congrArg (fun z => Ev b 168 1171 [v0, v1, v2, v3] (aI z :: st) σ Q) ki_0)
set_option maxRecDepth 20000 in
theorem v_168_1171 (b : B3) (v0 : AV) (v1 : AV) (v2 : AV) (v3 : AV) (x : Int32) (σ : Sto) (Q : Po) : Ev b 168 1171 [v0, v1, v2, v3] [aI x] σ Q = ((x = 0 ∨ x = 1) ∧ Q (some (aI x)) σ) := (Ev_of (k := 168) (pc := 1171) (i := .ireturn) (len := 1) rfl _ _ _ _ _).trans rfl
set_option maxRecDepth 20000 in
theorem v_168_1172 (b : B3) (v0 : AV) (v1 : Option Nat) (v2 : AV) (v3 : AV) (st : List AV) (σ : Sto) (Q : Po) : Ev b 168 1172 [v0, aR v1, v2, v3] st σ Q = (Ev b 168 1173 [v0, aR v1, v2, v3] (aR v1 :: st) σ Q) := (Ev_of (k := 168) (pc := 1172) (i := .aload_n 1) (len := 1) rfl _ _ _ _ _).trans rfl
set_option maxRecDepth 20000 in
theorem v_168_1173 (b : B3) (v0 : Option Nat) (v1 : AV) (v2 : AV) (v3 : AV) (st : List AV) (σ : Sto) (Q : Po) : Ev b 168 1173 [aR v0, v1, v2, v3] st σ Q = (Ev b 168 1174 [aR v0, v1, v2, v3] (aR v0 :: st) σ Q) := (Ev_of (k := 168) (pc := 1173) (i := .aload_n 0) (len := 1) rfl _ _ _ _ _).trans rfl
set_option maxRecDepth 20000 in
theorem v_168_1174 (b : B3) (v0 : AV) (v1 : AV) (v2 : AV) (v3 : Int32) (st : List AV) (σ : Sto) (Q : Po) : Ev b 168 1174 [v0, v1, v2, aI v3] st σ Q = (Ev b 168 1175 [v0, v1, v2, aI v3] (aI v3 :: st) σ Q) := (Ev_of (k := 168) (pc := 1174) (i := .iload_n 3) (len := 1) rfl _ _ _ _ _).trans rfl
set_option maxRecDepth 20000 in
theorem v_168_1175 (b : B3) (v0 : AV) (v1 : AV) (v2 : AV) (v3 : AV) (st : List AV) (σ : Sto) (Q : Po) : Ev b 168 1175 [v0, v1, v2, v3] st σ Q = (Ev b 168 1176 [v0, v1, v2, v3] (aI 1 :: st) σ Q) := (Ev_of (k := 168) (pc := 1175) (i := .iconst 1) (len := 1) rfl _ _ _ _ _).trans (congrArg (fun z => Ev b 168 1176 [v0, v1, v2, v3] (aI z :: st) σ Q) ki_1)
set_option maxRecDepth 20000 in
theorem v_168_1176 (b : B3) (v0 : AV) (v1 : AV) (v2 : AV) (v3 : AV) (st : List AV) (x y : Int32) (σ : Sto) (Q : Po) : Ev b 168 1176 [v0, v1, v2, v3] (aI y :: aI x :: st) σ Q = (Ev b 168 1177 [v0, v1, v2, v3] (aI (x + y) :: st) σ Q) := (Ev_of (k := 168) (pc := 1176) (i := .iadd) (len := 1) rfl _ _ _ _ _).trans rfl
set_option maxRecDepth 20000 in
theorem v_168_1177 (b : B3) (v0 : AV) (v1 : AV) (v2 : AV) (v3 : AV) (st : List AV) (i : Int32) (a : Nat) (σ : Sto) (Q : Po) : Ev b 168 1177 [v0, v1, v2, v3] (aI i :: aR (some a) :: st) σ Q = (okX σ a i ∧ Ev b 168 1178 [v0, v1, v2, v3] (aI (gi σ a i.toNatClampNeg) :: st) σ Q) := (Ev_of (k := 168) (pc := 1177) (i := .iaload) (len := 1) rfl _ _ _ _ _).trans rfl
set_option maxRecDepth 20000 in
theorem v_168_1178 (d c s : Nat) (v0 : AV) (v1 : AV) (v2 : AV) (v3 : AV) (y0 : Int32) (y1 : Nat) (σ : Sto) (Q : Po) : Ev (d + 1, c, s) 168 1178 [v0, v1, v2, v3] [aI y0, aR (some y1)] σ Q = (okO σ y1 5 ∧ CI d 86 [aR (some y1), aI y0] σ (fun x2 σ2 => Ev (d + 1, c, s) 168 1181 [v0, v1, v2, v3] [aI x2] σ2 Q)) := (g_inv (k := 168) (pc := 1178) (x := 129) (i := .invokevirtual 129) rfl (Or.inl ⟨rfl, rfl⟩) rfl lq_7129).trans (congrArg (And (okO σ y1 5)) (vdo_I (k' := 86) (c1 := 0) (c2 := 0) (vs := [aR (some y1), aI y0]) (rest := []) (Or.inl rfl) rfl rfl))
set_option maxRecDepth 20000 in
theorem v_168_1181 (b : B3) (v0 : AV) (v1 : AV) (v2 : Option Nat) (v3 : AV) (st : List AV) (σ : Sto) (Q : Po) : Ev b 168 1181 [v0, v1, aR v2, v3] st σ Q = (Ev b 168 1182 [v0, v1, aR v2, v3] (aR v2 :: st) σ Q) := (Ev_of (k := 168) (pc := 1181) (i := .aload_n 2) (len := 1) rfl _ _ _ _ _).trans rfl
set_option maxRecDepth 20000 in
theorem v_168_1182 (b : B3) (v0 : Option Nat) (v1 : AV) (v2 : AV) (v3 : AV) (st : List AV) (σ : Sto) (Q : Po) : Ev b 168 1182 [aR v0, v1, v2, v3] st σ Q = (Ev b 168 1183 [aR v0, v1, v2, v3] (aR v0 :: st) σ Q) := (Ev_of (k := 168) (pc := 1182) (i := .aload_n 0) (len := 1) rfl _ _ _ _ _).trans rfl
set_option maxRecDepth 20000 in
theorem v_168_1183 (b : B3) (v0 : AV) (v1 : AV) (v2 : AV) (v3 : Int32) (st : List AV) (σ : Sto) (Q : Po) : Ev b 168 1183 [v0, v1, v2, aI v3] st σ Q = (Ev b 168 1184 [v0, v1, v2, aI v3] (aI v3 :: st) σ Q) := (Ev_of (k := 168) (pc := 1183) (i := .iload_n 3) (len := 1) rfl _ _ _ _ _).trans rfl
set_option maxRecDepth 20000 in
theorem v_168_1184 (b : B3) (v0 : AV) (v1 : AV) (v2 : AV) (v3 : AV) (st : List AV) (σ : Sto) (Q : Po) : Ev b 168 1184 [v0, v1, v2, v3] st σ Q = (Ev b 168 1185 [v0, v1, v2, v3] (aI 1 :: st) σ Q) := (Ev_of (k := 168) (pc := 1184) (i := .iconst 1) (len := 1) rfl _ _ _ _ _).trans (congrArg (fun z => Ev b 168 1185 [v0, v1, v2, v3] (aI z :: st) σ Q) ki_1)
set_option maxRecDepth 20000 in
theorem v_168_1185 (b : B3) (v0 : AV) (v1 : AV) (v2 : AV) (v3 : AV) (st : List AV) (x y : Int32) (σ : Sto) (Q : Po) : Ev b 168 1185 [v0, v1, v2, v3] (aI y :: aI x :: st) σ Q = (Ev b 168 1186 [v0, v1, v2, v3] (aI (x + y) :: st) σ Q) := (Ev_of (k := 168) (pc := 1185) (i := .iadd) (len := 1) rfl _ _ _ _ _).trans rfl
set_option maxRecDepth 20000 in
theorem v_168_1186 (b : B3) (v0 : AV) (v1 : AV) (v2 : AV) (v3 : AV) (st : List AV) (i : Int32) (a : Nat) (σ : Sto) (Q : Po) : Ev b 168 1186 [v0, v1, v2, v3] (aI i :: aR (some a) :: st) σ Q = (okX σ a i ∧ Ev b 168 1187 [v0, v1, v2, v3] (aI (gi σ a i.toNatClampNeg) :: st) σ Q) := (Ev_of (k := 168) (pc := 1186) (i := .iaload) (len := 1) rfl _ _ _ _ _).trans rfl
set_option maxRecDepth 20000 in
theorem v_168_1187 (d c s : Nat) (v0 : AV) (v1 : AV) (v2 : AV) (v3 : AV) (y0 : Int32) (y1 : Nat) (y2 : Int32) (σ : Sto) (Q : Po) : Ev (d + 1, c, s) 168 1187 [v0, v1, v2, v3] [aI y0, aR (some y1), aI y2] σ Q = (okO σ y1 6 ∧ CI d 162 [aR (some y1), aI y0] σ (fun x2 σ2 => Ev (d + 1, c, s) 168 1190 [v0, v1, v2, v3] [aI x2, aI y2] σ2 Q)) := (g_inv (k := 168) (pc := 1187) (x := 132) (i := .invokevirtual 132) rfl (Or.inl ⟨rfl, rfl⟩) rfl lq_7132).trans (congrArg (And (okO σ y1 6)) (vdo_I (k' := 162) (c1 := 0) (c2 := 0) (vs := [aR (some y1), aI y0]) (rest := [aI y2]) (Or.inl rfl) rfl rfl))
set_option maxRecDepth 20000 in
theorem v_168_1190 (b : B3) (v0 : AV) (v1 : AV) (v2 : AV) (v3 : AV) (st : List AV) (x y : Int32) (σ : Sto) (Q : Po) : Ev b 168 1190 [v0, v1, v2, v3] (aI y :: aI x :: st) σ Q = ((x = y → Ev b 168 1195 [v0, v1, v2, v3] st σ Q) ∧ (¬ x = y → Ev b 168 1193 [v0, v1, v2, v3] st σ Q)) := (Ev_of (k := 168) (pc := 1190) (i := .if_icmp .eq 5) (len := 3) rfl _ _ _ _ _).trans rfl
set_option maxRecDepth 20000 in
theorem v_168_1193 (b : B3) (v0 : AV) (v1 : AV) (v2 : AV) (v3 : AV) (st : List AV) (σ : Sto) (Q : Po) : Ev b 168 1193 [v0, v1, v2, v3] st σ Q = (Ev b 168 1194 [v0, v1, v2, v3] (aI 0 :: st) σ Q) := (Ev_of (k := 168) (pc := 1193) (i := .iconst 0) (len := 1) rfl _ _ _ _ _).trans (congrArg (fun z => Ev b 168 1194 [v0, v1, v2, v3] (aI z :: st) σ Q) ki_0)
set_option maxRecDepth 20000 in
theorem v_168_1194 (b : B3) (v0 : AV) (v1 : AV) (v2 : AV) (v3 : AV) (x : Int32) (σ : Sto) (Q : Po) : Ev b 168 1194 [v0, v1, v2, v3] [aI x] σ Q = ((x = 0 ∨ x = 1) ∧ Q (some (aI x)) σ) := (Ev_of (k := 168) (pc := 1194) (i := .ireturn) (len := 1) rfl _ _ _ _ _).trans rfl
set_option maxRecDepth 20000 in
theorem v_168_1195 (b : B3) (v0 : AV) (v1 : AV) (v2 : Option Nat) (v3 : Int32) (st : List AV) (σ : Sto) (Q : Po) : Ev b 168 1195 [v0, v1, aR v2, aI v3] st σ Q = (Ev b 168 1198 [v0, v1, aR v2, aI (v3 + 11)] st σ Q) := (Ev_of (k := 168) (pc := 1195) (i := .iinc 3 11) (len := 3) rfl _ _ _ _ _).trans (congrArg (fun z => Ev b 168 1198 [v0, v1, aR v2, aI (v3 + z)] st σ Q) ki_11)
set_option maxRecDepth 20000 in
theorem v_168_1198 (b : B3) (v0 : AV) (v1 : AV) (v2 : AV) (v3 : AV) (st : List AV) (σ : Sto) (Q : Po) : Ev b 168 1198 [v0, v1, v2, v3] st σ Q = (Ev b 168 18 [v0, v1, v2, v3] st σ Q) := (Ev_of (k := 168) (pc := 1198) (i := .goto (-1180)) (len := 3) rfl _ _ _ _ _).trans rfl
set_option maxRecDepth 20000 in
theorem v_168_1201 (b : B3) (v0 : AV) (v1 : AV) (v2 : AV) (v3 : AV) (st : List AV) (σ : Sto) (Q : Po) : Ev b 168 1201 [v0, v1, v2, v3] st σ Q = (Ev b 168 1202 [v0, v1, v2, v3] (aI 1 :: st) σ Q) := (Ev_of (k := 168) (pc := 1201) (i := .iconst 1) (len := 1) rfl _ _ _ _ _).trans (congrArg (fun z => Ev b 168 1202 [v0, v1, v2, v3] (aI z :: st) σ Q) ki_1)
set_option maxRecDepth 20000 in
theorem v_168_1202 (b : B3) (v0 : AV) (v1 : AV) (v2 : AV) (v3 : AV) (x : Int32) (σ : Sto) (Q : Po) : Ev b 168 1202 [v0, v1, v2, v3] [aI x] σ Q = ((x = 0 ∨ x = 1) ∧ Q (some (aI x)) σ) := (Ev_of (k := 168) (pc := 1202) (i := .ireturn) (len := 1) rfl _ _ _ _ _).trans rfl
