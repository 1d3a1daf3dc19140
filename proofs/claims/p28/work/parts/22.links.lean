/-! ===== the program: links ===== -/
abbrev gk_okr0 (r : Nat × Nat × Nat × Nat) : Prop := rk_lok gk_tbl gk_xw gk_cl "GooseIce" r ∧ rk_cok gk_tbl gk_xw gk_MN gk_P "GooseIce" r ∧ rk_kok gk_tbl "GooseIce" r
theorem gk_l0_0 : gk_okr0 (1, 11, 0, 0) := ⟨trivial, ⟨rk_mt 247 (by decide +kernel) rfl, rk_mt 248 (by decide +kernel) rfl, rk_mt 249 (by decide +kernel) rfl⟩, fun h => absurd h (by decide)⟩
theorem gk_l0_1 : gk_okr0 (7, 0, 11, 2) := ⟨⟨_, rfl, (by decide +kernel), rk_mt 750 (by decide +kernel) rfl⟩, trivial, fun h => absurd h (by decide)⟩
theorem gk_l0_2 : gk_okr0 (13, 13, 0, 0) := ⟨⟨rk_mt 250 (by decide +kernel) rfl, rk_mx 251 (by decide +kernel) rfl⟩, trivial, fun h => absurd h (by decide)⟩
theorem gk_l0_3 : gk_okr0 (15, 0, 11, 3) := ⟨⟨_, rfl, (by decide +kernel), rk_mt 751 (by decide +kernel) rfl⟩, trivial, fun h => absurd h (by decide)⟩
theorem gk_l0_4 : gk_okr0 (15, 2, 11, 3) := ⟨⟨_, rfl, (by decide +kernel), rk_mt 751 (by decide +kernel) rfl, rfl⟩, trivial, fun h => absurd h (by decide)⟩
theorem gk_l0_5 : gk_okr0 (18, 0, 11, 4) := ⟨⟨_, rfl, (by decide +kernel), rk_mt 752 (by decide +kernel) rfl⟩, trivial, fun h => absurd h (by decide)⟩
theorem gk_l0_6 : gk_okr0 (18, 2, 11, 4) := ⟨⟨_, rfl, (by decide +kernel), rk_mt 752 (by decide +kernel) rfl, rfl⟩, trivial, fun h => absurd h (by decide)⟩
theorem gk_l0_7 : gk_okr0 (22, 0, 11, 5) := ⟨⟨_, rfl, (by decide +kernel), rk_mt 753 (by decide +kernel) rfl⟩, trivial, fun h => absurd h (by decide)⟩
theorem gk_l0_8 : gk_okr0 (22, 2, 11, 5) := ⟨⟨_, rfl, (by decide +kernel), rk_mt 753 (by decide +kernel) rfl, rfl⟩, trivial, fun h => absurd h (by decide)⟩
theorem gk_l0_9 : gk_okr0 (25, 0, 11, 6) := ⟨⟨_, rfl, (by decide +kernel), rk_mt 754 (by decide +kernel) rfl⟩, trivial, fun h => absurd h (by decide)⟩
theorem gk_l0_10 : gk_okr0 (25, 2, 11, 6) := ⟨⟨_, rfl, (by decide +kernel), rk_mt 754 (by decide +kernel) rfl, rfl⟩, trivial, fun h => absurd h (by decide)⟩
theorem gk_l0_11 : gk_okr0 (28, 3, 8, 0) := ⟨⟨_, rfl, rk_mt 252 (by decide +kernel) rfl, rk_mt 253 (by decide +kernel) rfl, rk_mt 222 (by decide +kernel) rfl⟩, trivial, fun h => absurd h (by decide)⟩
theorem gk_l0_12 : gk_okr0 (30, 10, 99, 0) := ⟨trivial, ⟨_, "GooseIce", rfl, (fun M hM => by cases hM; rfl), rk_mx 254 (by decide +kernel) rfl, rk_mt 255 (by decide +kernel) rfl, rfl, (by decide +kernel)⟩, fun h => absurd h (by decide)⟩
theorem gk_l0_13 : gk_okr0 (31, 0, 11, 7) := ⟨⟨_, rfl, (by decide +kernel), rk_mt 755 (by decide +kernel) rfl⟩, trivial, fun h => absurd h (by decide)⟩
theorem gk_l0_14 : gk_okr0 (31, 2, 11, 7) := ⟨⟨_, rfl, (by decide +kernel), rk_mt 755 (by decide +kernel) rfl, rfl⟩, trivial, fun h => absurd h (by decide)⟩
theorem gk_l0_15 : gk_okr0 (35, 3, 4, 0) := ⟨⟨_, rfl, rk_mt 358 (by decide +kernel) rfl, rk_mt 359 (by decide +kernel) rfl, rk_mt 227 (by decide +kernel) rfl⟩, trivial, fun h => absurd h (by decide)⟩
theorem gk_l0_16 : gk_okr0 (37, 10, 63, 1) := ⟨trivial, ⟨_, "GooseIce", rfl, (fun M hM => by cases hM; rfl), rk_mx 360 (by decide +kernel) rfl, rk_mt 361 (by decide +kernel) rfl, rfl, (by decide +kernel)⟩, fun h => absurd h (by decide)⟩
theorem gk_l0_17 : gk_okr0 (40, 0, 11, 8) := ⟨⟨_, rfl, (by decide +kernel), rk_mt 756 (by decide +kernel) rfl⟩, trivial, fun h => absurd h (by decide)⟩
theorem gk_l0_18 : gk_okr0 (40, 2, 11, 8) := ⟨⟨_, rfl, (by decide +kernel), rk_mt 756 (by decide +kernel) rfl, rfl⟩, trivial, fun h => absurd h (by decide)⟩
theorem gk_l0_19 : gk_okr0 (44, 3, 10, 0) := ⟨⟨_, rfl, rk_mt 371 (by decide +kernel) rfl, rk_mt 372 (by decide +kernel) rfl, rk_mt 228 (by decide +kernel) rfl⟩, trivial, fun h => absurd h (by decide)⟩
theorem gk_l0_20 : gk_okr0 (46, 10, 118, 1) := ⟨trivial, ⟨_, "GooseIce", rfl, (fun M hM => by cases hM; rfl), rk_mx 373 (by decide +kernel) rfl, rk_mt 374 (by decide +kernel) rfl, rfl, (by decide +kernel)⟩, fun h => absurd h (by decide)⟩
theorem gk_l0_21 : gk_okr0 (47, 0, 11, 9) := ⟨⟨_, rfl, (by decide +kernel), rk_mt 757 (by decide +kernel) rfl⟩, trivial, fun h => absurd h (by decide)⟩
theorem gk_l0_22 : gk_okr0 (47, 2, 11, 9) := ⟨⟨_, rfl, (by decide +kernel), rk_mt 757 (by decide +kernel) rfl, rfl⟩, trivial, fun h => absurd h (by decide)⟩
theorem gk_l0_23 : gk_okr0 (51, 3, 3, 0) := ⟨⟨_, rfl, rk_mt 387 (by decide +kernel) rfl, rk_mt 388 (by decide +kernel) rfl, rk_mt 229 (by decide +kernel) rfl⟩, trivial, fun h => absurd h (by decide)⟩
theorem gk_l0_24 : gk_okr0 (51, 4, 3, 0) := ⟨⟨_, rfl, rk_mt 387 (by decide +kernel) rfl, rk_mx 606 (by decide +kernel) rfl⟩, trivial, fun h => absurd h (by decide)⟩
theorem gk_l0_25 : gk_okr0 (53, 10, 29, 0) := ⟨trivial, ⟨_, "GooseIce", rfl, (fun M hM => by cases hM; rfl), rk_mx 389 (by decide +kernel) rfl, rk_mt 390 (by decide +kernel) rfl, rfl, (by decide +kernel)⟩, fun h => absurd h (by decide)⟩
theorem gk_l0_26 : gk_okr0 (54, 0, 11, 10) := ⟨⟨_, rfl, (by decide +kernel), rk_mt 758 (by decide +kernel) rfl⟩, trivial, fun h => absurd h (by decide)⟩
theorem gk_l0_27 : gk_okr0 (54, 2, 11, 10) := ⟨⟨_, rfl, (by decide +kernel), rk_mt 758 (by decide +kernel) rfl, rfl⟩, trivial, fun h => absurd h (by decide)⟩
theorem gk_l0_28 : gk_okr0 (58, 0, 11, 11) := ⟨⟨_, rfl, (by decide +kernel), rk_mt 759 (by decide +kernel) rfl⟩, trivial, fun h => absurd h (by decide)⟩
theorem gk_l0_29 : gk_okr0 (58, 2, 11, 11) := ⟨⟨_, rfl, (by decide +kernel), rk_mt 759 (by decide +kernel) rfl, rfl⟩, trivial, fun h => absurd h (by decide)⟩
theorem gk_l0_30 : gk_okr0 (61, 0, 11, 12) := ⟨⟨_, rfl, (by decide +kernel), rk_mt 760 (by decide +kernel) rfl⟩, trivial, fun h => absurd h (by decide)⟩
theorem gk_l0_31 : gk_okr0 (61, 2, 11, 12) := ⟨⟨_, rfl, (by decide +kernel), rk_mt 760 (by decide +kernel) rfl, rfl⟩, trivial, fun h => absurd h (by decide)⟩
theorem gk_l0_32 : gk_okr0 (65, 3, 6, 0) := ⟨⟨_, rfl, rk_mt 607 (by decide +kernel) rfl, rk_mt 608 (by decide +kernel) rfl, rk_mt 233 (by decide +kernel) rfl⟩, trivial, fun h => absurd h (by decide)⟩
theorem gk_l0_33 : gk_okr0 (67, 10, 79, 0) := ⟨trivial, ⟨_, "GooseIce", rfl, (fun M hM => by cases hM; rfl), rk_mx 609 (by decide +kernel) rfl, rk_mt 610 (by decide +kernel) rfl, rfl, (by decide +kernel)⟩, fun h => absurd h (by decide)⟩
theorem gk_l0_34 : gk_okr0 (68, 0, 11, 14) := ⟨⟨_, rfl, (by decide +kernel), rk_mt 762 (by decide +kernel) rfl⟩, trivial, fun h => absurd h (by decide)⟩
theorem gk_l0_35 : gk_okr0 (68, 2, 11, 14) := ⟨⟨_, rfl, (by decide +kernel), rk_mt 762 (by decide +kernel) rfl, rfl⟩, trivial, fun h => absurd h (by decide)⟩
theorem gk_l0_36 : gk_okr0 (72, 3, 7, 0) := ⟨⟨_, rfl, rk_mt 638 (by decide +kernel) rfl, rk_mt 639 (by decide +kernel) rfl, rk_mt 234 (by decide +kernel) rfl⟩, trivial, fun h => absurd h (by decide)⟩
theorem gk_l0_37 : gk_okr0 (74, 10, 91, 0) := ⟨trivial, ⟨_, "GooseIce", rfl, (fun M hM => by cases hM; rfl), rk_mx 640 (by decide +kernel) rfl, rk_mt 641 (by decide +kernel) rfl, rfl, (by decide +kernel)⟩, fun h => absurd h (by decide)⟩
theorem gk_l0_38 : gk_okr0 (75, 0, 11, 15) := ⟨⟨_, rfl, (by decide +kernel), rk_mt 763 (by decide +kernel) rfl⟩, trivial, fun h => absurd h (by decide)⟩
theorem gk_l0_39 : gk_okr0 (75, 2, 11, 15) := ⟨⟨_, rfl, (by decide +kernel), rk_mt 763 (by decide +kernel) rfl, rfl⟩, trivial, fun h => absurd h (by decide)⟩
theorem gk_l0_40 : gk_okr0 (79, 3, 1, 0) := ⟨⟨_, rfl, rk_mt 683 (by decide +kernel) rfl, rk_mt 684 (by decide +kernel) rfl, rk_mt 235 (by decide +kernel) rfl⟩, trivial, fun h => absurd h (by decide)⟩
theorem gk_l0_41 : gk_okr0 (81, 10, 16, 0) := ⟨trivial, ⟨_, "GooseIce", rfl, (fun M hM => by cases hM; rfl), rk_mx 685 (by decide +kernel) rfl, rk_mt 686 (by decide +kernel) rfl, rfl, (by decide +kernel)⟩, fun h => absurd h (by decide)⟩
theorem gk_l0_42 : gk_okr0 (82, 0, 11, 16) := ⟨⟨_, rfl, (by decide +kernel), rk_mt 764 (by decide +kernel) rfl⟩, trivial, fun h => absurd h (by decide)⟩
theorem gk_l0_43 : gk_okr0 (82, 2, 11, 16) := ⟨⟨_, rfl, (by decide +kernel), rk_mt 764 (by decide +kernel) rfl, rfl⟩, trivial, fun h => absurd h (by decide)⟩
theorem gk_l0_44 : gk_okr0 (86, 3, 5, 0) := ⟨⟨_, rfl, rk_mt 699 (by decide +kernel) rfl, rk_mt 700 (by decide +kernel) rfl, rk_mt 236 (by decide +kernel) rfl⟩, trivial, fun h => absurd h (by decide)⟩
theorem gk_l0_45 : gk_okr0 (88, 10, 71, 1) := ⟨trivial, ⟨_, "GooseIce", rfl, (fun M hM => by cases hM; rfl), rk_mx 701 (by decide +kernel) rfl, rk_mt 702 (by decide +kernel) rfl, rfl, (by decide +kernel)⟩, fun h => absurd h (by decide)⟩
theorem gk_l0_46 : gk_okr0 (91, 0, 11, 17) := ⟨⟨_, rfl, (by decide +kernel), rk_mt 765 (by decide +kernel) rfl⟩, trivial, fun h => absurd h (by decide)⟩
theorem gk_l0_47 : gk_okr0 (91, 2, 11, 17) := ⟨⟨_, rfl, (by decide +kernel), rk_mt 765 (by decide +kernel) rfl, rfl⟩, trivial, fun h => absurd h (by decide)⟩
theorem gk_l0_48 : gk_okr0 (95, 0, 11, 18) := ⟨⟨_, rfl, (by decide +kernel), rk_mt 766 (by decide +kernel) rfl⟩, trivial, fun h => absurd h (by decide)⟩
theorem gk_l0_49 : gk_okr0 (95, 2, 11, 18) := ⟨⟨_, rfl, (by decide +kernel), rk_mt 766 (by decide +kernel) rfl, rfl⟩, trivial, fun h => absurd h (by decide)⟩
theorem gk_l0_50 : gk_okr0 (98, 7, 388, 2) := ⟨trivial, ⟨_, rfl, rk_mt 745 (by decide +kernel) rfl, rk_mt 746 (by decide +kernel) rfl, (by decide +kernel)⟩, fun h => absurd h (by decide)⟩
theorem gk_l0_51 : gk_okr0 (104, 0, 11, 0) := ⟨⟨_, rfl, (by decide +kernel), rk_mt 748 (by decide +kernel) rfl⟩, trivial, fun h => absurd h (by decide)⟩
theorem gk_l0_52 : gk_okr0 (108, 0, 11, 1) := ⟨⟨_, rfl, (by decide +kernel), rk_mt 749 (by decide +kernel) rfl⟩, trivial, fun h => absurd h (by decide)⟩
theorem gk_l0_53 : gk_okr0 (111, 7, 191, 1) := ⟨trivial, ⟨_, rfl, rk_mt 825 (by decide +kernel) rfl, rk_mt 826 (by decide +kernel) rfl, (by decide +kernel)⟩, fun h => absurd h (by decide)⟩
theorem gk_l0_54 : gk_okr0 (115, 5, 189, 1) := ⟨trivial, ⟨_, rfl, rk_mt 828 (by decide +kernel) rfl, rk_mt 830 (by decide +kernel) rfl, rk_mt 0 (by decide +kernel) rfl, (by decide +kernel)⟩, fun h => absurd h (by decide)⟩
theorem gk_l0_55 : gk_okr0 (118, 7, 387, 2) := ⟨trivial, ⟨_, rfl, rk_mt 832 (by decide +kernel) rfl, rk_mt 833 (by decide +kernel) rfl, (by decide +kernel)⟩, fun h => absurd h (by decide)⟩
theorem gk_l0_56 : gk_okr0 (121, 5, 188, 0) := ⟨trivial, ⟨_, rfl, rk_mt 835 (by decide +kernel) rfl, rk_mt 837 (by decide +kernel) rfl, rk_mt 1 (by decide +kernel) rfl, (by decide +kernel)⟩, fun h => absurd h (by decide)⟩
theorem gk_l0_57 : gk_okr0 (125, 5, 192, 2) := ⟨trivial, ⟨_, rfl, rk_mt 843 (by decide +kernel) rfl, rk_mt 845 (by decide +kernel) rfl, rk_mt 2 (by decide +kernel) rfl, (by decide +kernel)⟩, fun h => absurd h (by decide)⟩
theorem gk_l0_58 : gk_okr0 (129, 7, 193, 2) := ⟨trivial, ⟨_, rfl, rk_mt 847 (by decide +kernel) rfl, rk_mt 848 (by decide +kernel) rfl, (by decide +kernel)⟩, fun h => absurd h (by decide)⟩
theorem gk_l0_59 : gk_okr0 (133, 5, 187, 1) := ⟨trivial, ⟨_, rfl, rk_mt 854 (by decide +kernel) rfl, rk_mt 856 (by decide +kernel) rfl, rk_mt 3 (by decide +kernel) rfl, (by decide +kernel)⟩, fun h => absurd h (by decide)⟩
theorem gk_l0_60 : gk_okr0 (137, 12, 0, 0) := ⟨trivial, trivial, fun _ => ⟨rk_mt 862 (by decide +kernel) rfl, rk_mt 864 (by decide +kernel) rfl, rk_mt 863 (by decide +kernel) rfl, rk_mt 239 (by decide +kernel) rfl⟩⟩
theorem gk_l0_61 : gk_okr0 (143, 6, 100, 0) := ⟨trivial, ⟨_, "GooseIce", rfl, rk_mx 869 (by decide +kernel) rfl, rk_mt 871 (by decide +kernel) rfl, rk_mt 4 (by decide +kernel) rfl, (by decide +kernel)⟩, fun h => absurd h (by decide)⟩
theorem gk_l0_62 : gk_okr0 (146, 6, 101, 1) := ⟨trivial, ⟨_, "GooseIce", rfl, rk_mx 873 (by decide +kernel) rfl, rk_mt 875 (by decide +kernel) rfl, rk_mt 5 (by decide +kernel) rfl, (by decide +kernel)⟩, fun h => absurd h (by decide)⟩
theorem gk_l0_63 : gk_okr0 (150, 1, 8, 2) := ⟨⟨_, "GooseIce", rfl, (by decide +kernel), rk_mx 311 (by decide +kernel) rfl⟩, trivial, fun h => absurd h (by decide)⟩
theorem gk_l0_64 : gk_okr0 (153, 6, 102, 1) := ⟨trivial, ⟨_, "GooseIce", rfl, rk_mx 881 (by decide +kernel) rfl, rk_mt 883 (by decide +kernel) rfl, rk_mt 6 (by decide +kernel) rfl, (by decide +kernel)⟩, fun h => absurd h (by decide)⟩
theorem gk_l0_65 : gk_okr0 (156, 6, 64, 1) := ⟨trivial, ⟨_, "GooseIce", rfl, rk_mx 901 (by decide +kernel) rfl, rk_mt 903 (by decide +kernel) rfl, rk_mt 11 (by decide +kernel) rfl, (by decide +kernel)⟩, fun h => absurd h (by decide)⟩
theorem gk_l0_66 : gk_okr0 (160, 1, 8, 10) := ⟨⟨_, "GooseIce", rfl, (by decide +kernel), rk_mx 327 (by decide +kernel) rfl⟩, trivial, fun h => absurd h (by decide)⟩
theorem gk_l0_67 : gk_okr0 (163, 6, 31, 1) := ⟨trivial, ⟨_, "GooseIce", rfl, rk_mx 1005 (by decide +kernel) rfl, rk_mt 1007 (by decide +kernel) rfl, rk_mt 35 (by decide +kernel) rfl, (by decide +kernel)⟩, fun h => absurd h (by decide)⟩
theorem gk_l0_68 : gk_okr0 (166, 1, 3, 7) := ⟨⟨_, "GooseIce", rfl, (by decide +kernel), rk_mx 556 (by decide +kernel) rfl⟩, trivial, fun h => absurd h (by decide)⟩
theorem gk_l0_69 : gk_okr0 (170, 6, 116, 0) := ⟨trivial, ⟨_, "GooseIce", rfl, rk_mx 1020 (by decide +kernel) rfl, rk_mt 1022 (by decide +kernel) rfl, rk_mt 38 (by decide +kernel) rfl, (by decide +kernel)⟩, fun h => absurd h (by decide)⟩
theorem gk_l0_70 : gk_okr0 (175, 1, 3, 8) := ⟨⟨_, "GooseIce", rfl, (by decide +kernel), rk_mx 561 (by decide +kernel) rfl⟩, trivial, fun h => absurd h (by decide)⟩
theorem gk_l0_71 : gk_okr0 (178, 5, 186, 1) := ⟨trivial, ⟨_, rfl, rk_mt 1024 (by decide +kernel) rfl, rk_mt 1026 (by decide +kernel) rfl, rk_mt 39 (by decide +kernel) rfl, (by decide +kernel)⟩, fun h => absurd h (by decide)⟩
theorem gk_l0_72 : gk_okr0 (181, 6, 119, 2) := ⟨trivial, ⟨_, "GooseIce", rfl, rk_mx 1032 (by decide +kernel) rfl, rk_mt 1034 (by decide +kernel) rfl, rk_mt 40 (by decide +kernel) rfl, (by decide +kernel)⟩, fun h => absurd h (by decide)⟩
theorem gk_l0_73 : gk_okr0 (184, 6, 117, 1) := ⟨trivial, ⟨_, "GooseIce", rfl, rk_mx 1072 (by decide +kernel) rfl, rk_mt 1074 (by decide +kernel) rfl, rk_mt 47 (by decide +kernel) rfl, (by decide +kernel)⟩, fun h => absurd h (by decide)⟩
theorem gk_l0_74 : gk_okr0 (187, 1, 9, 6) := ⟨⟨_, "GooseIce", rfl, (by decide +kernel), rk_mx 513 (by decide +kernel) rfl⟩, trivial, fun h => absurd h (by decide)⟩
theorem gk_l0_75 : gk_okr0 (190, 1, 8, 11) := ⟨⟨_, "GooseIce", rfl, (by decide +kernel), rk_mx 329 (by decide +kernel) rfl⟩, trivial, fun h => absurd h (by decide)⟩
theorem gk_l0_76 : gk_okr0 (193, 1, 3, 6) := ⟨⟨_, "GooseIce", rfl, (by decide +kernel), rk_mx 553 (by decide +kernel) rfl⟩, trivial, fun h => absurd h (by decide)⟩
theorem gk_l0_77 : gk_okr0 (197, 1, 0, 7) := ⟨⟨_, "GooseIce", rfl, (by decide +kernel), rk_mx 456 (by decide +kernel) rfl⟩, trivial, fun h => absurd h (by decide)⟩
theorem gk_l0_78 : gk_okr0 (200, 1, 3, 10) := ⟨⟨_, "GooseIce", rfl, (by decide +kernel), rk_mx 567 (by decide +kernel) rfl⟩, trivial, fun h => absurd h (by decide)⟩
theorem gk_l0_79 : gk_okr0 (203, 1, 3, 11) := ⟨⟨_, "GooseIce", rfl, (by decide +kernel), rk_mx 570 (by decide +kernel) rfl⟩, trivial, fun h => absurd h (by decide)⟩
theorem gk_l0_80 : gk_okr0 (206, 1, 3, 12) := ⟨⟨_, "GooseIce", rfl, (by decide +kernel), rk_mx 573 (by decide +kernel) rfl⟩, trivial, fun h => absurd h (by decide)⟩
theorem gk_l0_81 : gk_okr0 (209, 1, 3, 13) := ⟨⟨_, "GooseIce", rfl, (by decide +kernel), rk_mx 576 (by decide +kernel) rfl⟩, trivial, fun h => absurd h (by decide)⟩
theorem gk_l0_82 : gk_okr0 (212, 1, 3, 9) := ⟨⟨_, "GooseIce", rfl, (by decide +kernel), rk_mx 564 (by decide +kernel) rfl⟩, trivial, fun h => absurd h (by decide)⟩
theorem gk_l0_83 : gk_okr0 (215, 1, 3, 5) := ⟨⟨_, "GooseIce", rfl, (by decide +kernel), rk_mx 547 (by decide +kernel) rfl⟩, trivial, fun h => absurd h (by decide)⟩
theorem gk_l0_84 : gk_okr0 (219, 1, 2, 5) := ⟨⟨_, "GooseIce", rfl, (by decide +kernel), rk_mx 415 (by decide +kernel) rfl⟩, trivial, fun h => absurd h (by decide)⟩
theorem gk_l0_85 : gk_okr0 (224, 1, 0, 8) := ⟨⟨_, "GooseIce", rfl, (by decide +kernel), rk_mx 460 (by decide +kernel) rfl⟩, trivial, fun h => absurd h (by decide)⟩
theorem gk_l0_86 : gk_okr0 (227, 1, 0, 9) := ⟨⟨_, "GooseIce", rfl, (by decide +kernel), rk_mx 463 (by decide +kernel) rfl⟩, trivial, fun h => absurd h (by decide)⟩
theorem gk_l0_87 : gk_okr0 (230, 6, 36, 1) := ⟨trivial, ⟨_, "GooseIce", rfl, rk_mx 1089 (by decide +kernel) rfl, rk_mt 1091 (by decide +kernel) rfl, rk_mt 48 (by decide +kernel) rfl, (by decide +kernel)⟩, fun h => absurd h (by decide)⟩
theorem gk_l0_88 : gk_okr0 (233, 1, 2, 0) := ⟨⟨_, "GooseIce", rfl, (by decide +kernel), rk_mx 401 (by decide +kernel) rfl⟩, trivial, fun h => absurd h (by decide)⟩
theorem gk_l0_89 : gk_okr0 (236, 6, 40, 1) := ⟨trivial, ⟨_, "GooseIce", rfl, rk_mx 1093 (by decide +kernel) rfl, rk_mt 1095 (by decide +kernel) rfl, rk_mt 49 (by decide +kernel) rfl, (by decide +kernel)⟩, fun h => absurd h (by decide)⟩
theorem gk_l0_90 : gk_okr0 (239, 1, 2, 2) := ⟨⟨_, "GooseIce", rfl, (by decide +kernel), rk_mx 407 (by decide +kernel) rfl⟩, trivial, fun h => absurd h (by decide)⟩
theorem gk_l0_91 : gk_okr0 (242, 6, 41, 2) := ⟨trivial, ⟨_, "GooseIce", rfl, rk_mx 1100 (by decide +kernel) rfl, rk_mt 1102 (by decide +kernel) rfl, rk_mt 50 (by decide +kernel) rfl, (by decide +kernel)⟩, fun h => absurd h (by decide)⟩
theorem gk_l0_92 : gk_okr0 (245, 1, 2, 1) := ⟨⟨_, "GooseIce", rfl, (by decide +kernel), rk_mx 403 (by decide +kernel) rfl⟩, trivial, fun h => absurd h (by decide)⟩
theorem gk_l0_93 : gk_okr0 (248, 6, 3, 1) := ⟨trivial, ⟨_, "GooseIce", rfl, rk_mx 1108 (by decide +kernel) rfl, rk_mt 1110 (by decide +kernel) rfl, rk_mt 51 (by decide +kernel) rfl, (by decide +kernel)⟩, fun h => absurd h (by decide)⟩
theorem gk_l0_94 : gk_okr0 (251, 1, 0, 1) := ⟨⟨_, "GooseIce", rfl, (by decide +kernel), rk_mx 440 (by decide +kernel) rfl⟩, trivial, fun h => absurd h (by decide)⟩
theorem gk_l0_95 : gk_okr0 (254, 1, 0, 2) := ⟨⟨_, "GooseIce", rfl, (by decide +kernel), rk_mx 445 (by decide +kernel) rfl⟩, trivial, fun h => absurd h (by decide)⟩
theorem gk_l0_96 : gk_okr0 (257, 6, 11, 1) := ⟨trivial, ⟨_, "GooseIce", rfl, rk_mx 1112 (by decide +kernel) rfl, rk_mt 1114 (by decide +kernel) rfl, rk_mt 52 (by decide +kernel) rfl, (by decide +kernel)⟩, fun h => absurd h (by decide)⟩
theorem gk_l0_97 : gk_okr0 (260, 1, 0, 3) := ⟨⟨_, "GooseIce", rfl, (by decide +kernel), rk_mx 447 (by decide +kernel) rfl⟩, trivial, fun h => absurd h (by decide)⟩
theorem gk_l0_98 : gk_okr0 (263, 6, 9, 2) := ⟨trivial, ⟨_, "GooseIce", rfl, rk_mx 1120 (by decide +kernel) rfl, rk_mt 1122 (by decide +kernel) rfl, rk_mt 53 (by decide +kernel) rfl, (by decide +kernel)⟩, fun h => absurd h (by decide)⟩
theorem gk_l0_99 : gk_okr0 (266, 6, 37, 2) := ⟨trivial, ⟨_, "GooseIce", rfl, rk_mx 1128 (by decide +kernel) rfl, rk_mt 990 (by decide +kernel) rfl, rk_mt 31 (by decide +kernel) rfl, (by decide +kernel)⟩, fun h => absurd h (by decide)⟩
theorem gk_l0_100 : gk_okr0 (270, 1, 3, 1) := ⟨⟨_, "GooseIce", rfl, (by decide +kernel), rk_mx 538 (by decide +kernel) rfl⟩, trivial, fun h => absurd h (by decide)⟩
theorem gk_l0_101 : gk_okr0 (273, 1, 3, 2) := ⟨⟨_, "GooseIce", rfl, (by decide +kernel), rk_mx 541 (by decide +kernel) rfl⟩, trivial, fun h => absurd h (by decide)⟩
theorem gk_l0_102 : gk_okr0 (276, 6, 34, 1) := ⟨trivial, ⟨_, "GooseIce", rfl, rk_mx 1137 (by decide +kernel) rfl, rk_mt 986 (by decide +kernel) rfl, rk_mt 30 (by decide +kernel) rfl, (by decide +kernel)⟩, fun h => absurd h (by decide)⟩
theorem gk_l0_103 : gk_okr0 (279, 1, 3, 3) := ⟨⟨_, "GooseIce", rfl, (by decide +kernel), rk_mx 543 (by decide +kernel) rfl⟩, trivial, fun h => absurd h (by decide)⟩
theorem gk_l0_104 : gk_okr0 (282, 5, 194, 2) := ⟨trivial, ⟨_, rfl, rk_mt 1142 (by decide +kernel) rfl, rk_mt 1144 (by decide +kernel) rfl, rk_mt 54 (by decide +kernel) rfl, (by decide +kernel)⟩, fun h => absurd h (by decide)⟩
theorem gk_l0_105 : gk_okr0 (285, 6, 6, 1) := ⟨trivial, ⟨_, "GooseIce", rfl, rk_mx 1146 (by decide +kernel) rfl, rk_mt 1148 (by decide +kernel) rfl, rk_mt 55 (by decide +kernel) rfl, (by decide +kernel)⟩, fun h => absurd h (by decide)⟩
theorem gk_l0_106 : gk_okr0 (288, 6, 45, 3) := ⟨trivial, ⟨_, "GooseIce", rfl, rk_mx 1150 (by decide +kernel) rfl, rk_mt 1152 (by decide +kernel) rfl, rk_mt 56 (by decide +kernel) rfl, (by decide +kernel)⟩, fun h => absurd h (by decide)⟩
theorem gk_l0_107 : gk_okr0 (292, 6, 8, 3) := ⟨trivial, ⟨_, "GooseIce", rfl, rk_mx 1154 (by decide +kernel) rfl, rk_mt 1156 (by decide +kernel) rfl, rk_mt 57 (by decide +kernel) rfl, (by decide +kernel)⟩, fun h => absurd h (by decide)⟩
theorem gk_l0_108 : gk_okr0 (296, 5, 195, 2) := ⟨trivial, ⟨_, rfl, rk_mt 1165 (by decide +kernel) rfl, rk_mt 1167 (by decide +kernel) rfl, rk_mt 58 (by decide +kernel) rfl, (by decide +kernel)⟩, fun h => absurd h (by decide)⟩
theorem gk_l0_109 : gk_okr0 (299, 1, 6, 0) := ⟨⟨_, "GooseIce", rfl, (by decide +kernel), rk_mx 615 (by decide +kernel) rfl⟩, trivial, fun h => absurd h (by decide)⟩
theorem gk_l0_110 : gk_okr0 (302, 1, 6, 4) := ⟨⟨_, "GooseIce", rfl, (by decide +kernel), rk_mx 622 (by decide +kernel) rfl⟩, trivial, fun h => absurd h (by decide)⟩
theorem gk_l0_111 : gk_okr0 (305, 6, 49, 1) := ⟨trivial, ⟨_, "GooseIce", rfl, rk_mx 1212 (by decide +kernel) rfl, rk_mt 1214 (by decide +kernel) rfl, rk_mt 65 (by decide +kernel) rfl, (by decide +kernel)⟩, fun h => absurd h (by decide)⟩
theorem gk_l0_112 : gk_okr0 (308, 6, 56, 1) := ⟨trivial, ⟨_, "GooseIce", rfl, rk_mx 1267 (by decide +kernel) rfl, rk_mt 1269 (by decide +kernel) rfl, rk_mt 77 (by decide +kernel) rfl, (by decide +kernel)⟩, fun h => absurd h (by decide)⟩
theorem gk_l0_113 : gk_okr0 (311, 6, 57, 1) := ⟨trivial, ⟨_, "GooseIce", rfl, rk_mx 1278 (by decide +kernel) rfl, rk_mt 1280 (by decide +kernel) rfl, rk_mt 78 (by decide +kernel) rfl, (by decide +kernel)⟩, fun h => absurd h (by decide)⟩
theorem gk_l0_114 : gk_okr0 (314, 6, 58, 0) := ⟨trivial, ⟨_, "GooseIce", rfl, rk_mx 1282 (by decide +kernel) rfl, rk_mt 1284 (by decide +kernel) rfl, rk_mt 79 (by decide +kernel) rfl, (by decide +kernel)⟩, fun h => absurd h (by decide)⟩
theorem gk_l0_115 : gk_okr0 (318, 6, 59, 1) := ⟨trivial, ⟨_, "GooseIce", rfl, rk_mx 1290 (by decide +kernel) rfl, rk_mt 1292 (by decide +kernel) rfl, rk_mt 80 (by decide +kernel) rfl, (by decide +kernel)⟩, fun h => absurd h (by decide)⟩
theorem gk_l0_116 : gk_okr0 (321, 7, 372, 1) := ⟨trivial, ⟨_, rfl, rk_mt 1197 (by decide +kernel) rfl, rk_mt 1198 (by decide +kernel) rfl, (by decide +kernel)⟩, fun h => absurd h (by decide)⟩
theorem gk_l0_117 : gk_okr0 (326, 6, 54, 1) := ⟨trivial, ⟨_, "GooseIce", rfl, rk_mx 1299 (by decide +kernel) rfl, rk_mt 1253 (by decide +kernel) rfl, rk_mt 74 (by decide +kernel) rfl, (by decide +kernel)⟩, fun h => absurd h (by decide)⟩
theorem gk_l0_118 : gk_okr0 (329, 6, 43, 1) := ⟨trivial, ⟨_, "GooseIce", rfl, rk_mx 1169 (by decide +kernel) rfl, rk_mt 1171 (by decide +kernel) rfl, rk_mt 59 (by decide +kernel) rfl, (by decide +kernel)⟩, fun h => absurd h (by decide)⟩
theorem gk_l0_119 : gk_okr0 (332, 6, 42, 2) := ⟨trivial, ⟨_, "GooseIce", rfl, rk_mx 1316 (by decide +kernel) rfl, rk_mt 1179 (by decide +kernel) rfl, rk_mt 61 (by decide +kernel) rfl, (by decide +kernel)⟩, fun h => absurd h (by decide)⟩
theorem gk_l0_120 : gk_okr0 (335, 6, 80, 1) := ⟨trivial, ⟨_, "GooseIce", rfl, rk_mx 1325 (by decide +kernel) rfl, rk_mt 1327 (by decide +kernel) rfl, rk_mt 81 (by decide +kernel) rfl, (by decide +kernel)⟩, fun h => absurd h (by decide)⟩
theorem gk_l0_121 : gk_okr0 (336, 5, 196, 2) := ⟨trivial, ⟨_, rfl, rk_mt 1333 (by decide +kernel) rfl, rk_mt 1335 (by decide +kernel) rfl, rk_mt 82 (by decide +kernel) rfl, (by decide +kernel)⟩, fun h => absurd h (by decide)⟩
theorem gk_l0_122 : gk_okr0 (339, 6, 83, 3) := ⟨trivial, ⟨_, "GooseIce", rfl, rk_mx 1337 (by decide +kernel) rfl, rk_mt 1339 (by decide +kernel) rfl, rk_mt 83 (by decide +kernel) rfl, (by decide +kernel)⟩, fun h => absurd h (by decide)⟩
theorem gk_l0_123 : gk_okr0 (343, 1, 6, 5) := ⟨⟨_, "GooseIce", rfl, (by decide +kernel), rk_mx 624 (by decide +kernel) rfl⟩, trivial, fun h => absurd h (by decide)⟩
theorem gk_l0_124 : gk_okr0 (346, 6, 47, 2) := ⟨trivial, ⟨_, "GooseIce", rfl, rk_mx 1364 (by decide +kernel) rfl, rk_mt 1348 (by decide +kernel) rfl, rk_mt 85 (by decide +kernel) rfl, (by decide +kernel)⟩, fun h => absurd h (by decide)⟩
theorem gk_l0_125 : gk_okr0 (349, 6, 85, 3) := ⟨trivial, ⟨_, "GooseIce", rfl, rk_mx 1369 (by decide +kernel) rfl, rk_mt 1371 (by decide +kernel) rfl, rk_mt 86 (by decide +kernel) rfl, (by decide +kernel)⟩, fun h => absurd h (by decide)⟩
theorem gk_l0_126 : gk_okr0 (353, 6, 60, 1) := ⟨trivial, ⟨_, "GooseIce", rfl, rk_mx 1383 (by decide +kernel) rfl, rk_mt 1385 (by decide +kernel) rfl, rk_mt 87 (by decide +kernel) rfl, (by decide +kernel)⟩, fun h => absurd h (by decide)⟩
theorem gk_l0_127 : gk_okr0 (356, 6, 61, 0) := ⟨trivial, ⟨_, "GooseIce", rfl, rk_mx 1393 (by decide +kernel) rfl, rk_mt 1395 (by decide +kernel) rfl, rk_mt 88 (by decide +kernel) rfl, (by decide +kernel)⟩, fun h => absurd h (by decide)⟩
theorem gk_l0_128 : gk_okr0 (359, 6, 44, 1) := ⟨trivial, ⟨_, "GooseIce", rfl, rk_mx 1401 (by decide +kernel) rfl, rk_mt 1403 (by decide +kernel) rfl, rk_mt 89 (by decide +kernel) rfl, (by decide +kernel)⟩, fun h => absurd h (by decide)⟩
theorem gk_l0_129 : gk_okr0 (362, 6, 62, 2) := ⟨trivial, ⟨_, "GooseIce", rfl, rk_mx 1410 (by decide +kernel) rfl, rk_mt 1412 (by decide +kernel) rfl, rk_mt 90 (by decide +kernel) rfl, (by decide +kernel)⟩, fun h => absurd h (by decide)⟩
theorem gk_l0_130 : gk_okr0 (365, 6, 4, 1) := ⟨trivial, ⟨_, "GooseIce", rfl, rk_mx 1418 (by decide +kernel) rfl, rk_mt 1420 (by decide +kernel) rfl, rk_mt 91 (by decide +kernel) rfl, (by decide +kernel)⟩, fun h => absurd h (by decide)⟩
theorem gk_l0_131 : gk_okr0 (368, 6, 48, 1) := ⟨trivial, ⟨_, "GooseIce", rfl, rk_mx 1422 (by decide +kernel) rfl, rk_mt 1424 (by decide +kernel) rfl, rk_mt 92 (by decide +kernel) rfl, (by decide +kernel)⟩, fun h => absurd h (by decide)⟩
theorem gk_l0_132 : gk_okr0 (371, 6, 92, 4) := ⟨trivial, ⟨_, "GooseIce", rfl, rk_mx 1426 (by decide +kernel) rfl, rk_mt 1428 (by decide +kernel) rfl, rk_mt 93 (by decide +kernel) rfl, (by decide +kernel)⟩, fun h => absurd h (by decide)⟩
theorem gk_l0_133 : gk_okr0 (375, 1, 7, 7) := ⟨⟨_, "GooseIce", rfl, (by decide +kernel), rk_mx 656 (by decide +kernel) rfl⟩, trivial, fun h => absurd h (by decide)⟩
theorem gk_l0_134 : gk_okr0 (376, 1, 7, 4) := ⟨⟨_, "GooseIce", rfl, (by decide +kernel), rk_mx 651 (by decide +kernel) rfl⟩, trivial, fun h => absurd h (by decide)⟩
theorem gk_l0_135 : gk_okr0 (379, 1, 7, 5) := ⟨⟨_, "GooseIce", rfl, (by decide +kernel), rk_mx 653 (by decide +kernel) rfl⟩, trivial, fun h => absurd h (by decide)⟩
theorem gk_l0_136 : gk_okr0 (382, 6, 50, 0) := ⟨trivial, ⟨_, "GooseIce", rfl, rk_mx 1466 (by decide +kernel) rfl, rk_mt 1218 (by decide +kernel) rfl, rk_mt 66 (by decide +kernel) rfl, (by decide +kernel)⟩, fun h => absurd h (by decide)⟩
theorem gk_l0_137 : gk_okr0 (385, 6, 13, 1) := ⟨trivial, ⟨_, "GooseIce", rfl, rk_mx 1471 (by decide +kernel) rfl, rk_mt 1473 (by decide +kernel) rfl, rk_mt 99 (by decide +kernel) rfl, (by decide +kernel)⟩, fun h => absurd h (by decide)⟩
theorem gk_l0_138 : gk_okr0 (388, 6, 7, 1) := ⟨trivial, ⟨_, "GooseIce", rfl, rk_mx 1482 (by decide +kernel) rfl, rk_mt 1477 (by decide +kernel) rfl, rk_mt 100 (by decide +kernel) rfl, (by decide +kernel)⟩, fun h => absurd h (by decide)⟩
theorem gk_l0_139 : gk_okr0 (391, 17, 0, 0) := ⟨⟨rk_mt 1483 (by decide +kernel) rfl, rk_mt 1480 (by decide +kernel) rfl, rk_mt 240 (by decide +kernel) rfl, rk_mt 1481 (by decide +kernel) rfl⟩, trivial, fun h => absurd h (by decide)⟩
theorem gk_l0_140 : gk_okr0 (396, 1, 6, 3) := ⟨⟨_, "GooseIce", rfl, (by decide +kernel), rk_mx 619 (by decide +kernel) rfl⟩, trivial, fun h => absurd h (by decide)⟩
theorem gk_l0_141 : gk_okr0 (399, 6, 14, 3) := ⟨trivial, ⟨_, "GooseIce", rfl, rk_mx 1492 (by decide +kernel) rfl, rk_mt 1494 (by decide +kernel) rfl, rk_mt 101 (by decide +kernel) rfl, (by decide +kernel)⟩, fun h => absurd h (by decide)⟩
theorem gk_l0_142 : gk_okr0 (403, 7, 197, 2) := ⟨trivial, ⟨_, rfl, rk_mt 1505 (by decide +kernel) rfl, rk_mt 1506 (by decide +kernel) rfl, (by decide +kernel)⟩, fun h => absurd h (by decide)⟩
theorem gk_l0_143 : gk_okr0 (406, 7, 198, 2) := ⟨trivial, ⟨_, rfl, rk_mt 1508 (by decide +kernel) rfl, rk_mt 1509 (by decide +kernel) rfl, (by decide +kernel)⟩, fun h => absurd h (by decide)⟩
theorem gk_l0_144 : gk_okr0 (409, 7, 199, 2) := ⟨trivial, ⟨_, rfl, rk_mt 1511 (by decide +kernel) rfl, rk_mt 1512 (by decide +kernel) rfl, (by decide +kernel)⟩, fun h => absurd h (by decide)⟩
theorem gk_l0_145 : gk_okr0 (413, 16, 0, 0) := ⟨⟨rk_mt 1519 (by decide +kernel) rfl, rk_mt 1520 (by decide +kernel) rfl, rk_mt 240 (by decide +kernel) rfl, rk_mt 1521 (by decide +kernel) rfl⟩, trivial, fun h => absurd h (by decide)⟩
theorem gk_l0_146 : gk_okr0 (417, 6, 86, 2) := ⟨trivial, ⟨_, "GooseIce", rfl, rk_mx 1526 (by decide +kernel) rfl, rk_mt 1528 (by decide +kernel) rfl, rk_mt 103 (by decide +kernel) rfl, (by decide +kernel)⟩, fun h => absurd h (by decide)⟩
theorem gk_l0_147 : gk_okr0 (421, 8, 17, 3) := ⟨trivial, ⟨_, "GooseIce", rfl, rk_mx 1552 (by decide +kernel) rfl, rk_mt 1553 (by decide +kernel) rfl, (by decide +kernel)⟩, fun h => absurd h (by decide)⟩
theorem gk_l0_148 : gk_okr0 (425, 6, 19, 4) := ⟨trivial, ⟨_, "GooseIce", rfl, rk_mx 1555 (by decide +kernel) rfl, rk_mt 1557 (by decide +kernel) rfl, rk_mt 107 (by decide +kernel) rfl, (by decide +kernel)⟩, fun h => absurd h (by decide)⟩
theorem gk_l0_149 : gk_okr0 (429, 6, 21, 1) := ⟨trivial, ⟨_, "GooseIce", rfl, rk_mx 1565 (by decide +kernel) rfl, rk_mt 1567 (by decide +kernel) rfl, rk_mt 109 (by decide +kernel) rfl, (by decide +kernel)⟩, fun h => absurd h (by decide)⟩
theorem gk_l0_150 : gk_okr0 (433, 8, 18, 1) := ⟨trivial, ⟨_, "GooseIce", rfl, rk_mx 1569 (by decide +kernel) rfl, rk_mt 1570 (by decide +kernel) rfl, (by decide +kernel)⟩, fun h => absurd h (by decide)⟩
theorem gk_l0_151 : gk_okr0 (436, 5, 190, 2) := ⟨trivial, ⟨_, rfl, rk_mt 1572 (by decide +kernel) rfl, rk_mt 1574 (by decide +kernel) rfl, rk_mt 110 (by decide +kernel) rfl, (by decide +kernel)⟩, fun h => absurd h (by decide)⟩
theorem gk_l0_152 : gk_okr0 (442, 6, 22, 0) := ⟨trivial, ⟨_, "GooseIce", rfl, rk_mx 1585 (by decide +kernel) rfl, rk_mt 1587 (by decide +kernel) rfl, rk_mt 111 (by decide +kernel) rfl, (by decide +kernel)⟩, fun h => absurd h (by decide)⟩
theorem gk_l0_153 : gk_okr0 (446, 1, 9, 7) := ⟨⟨_, "GooseIce", rfl, (by decide +kernel), rk_mx 516 (by decide +kernel) rfl⟩, trivial, fun h => absurd h (by decide)⟩
theorem gk_l0_154 : gk_okr0 (450, 6, 72, 3) := ⟨trivial, ⟨_, "GooseIce", rfl, rk_mx 1593 (by decide +kernel) rfl, rk_mt 1595 (by decide +kernel) rfl, rk_mt 112 (by decide +kernel) rfl, (by decide +kernel)⟩, fun h => absurd h (by decide)⟩
theorem gk_l0_155 : gk_okr0 (454, 1, 5, 6) := ⟨⟨_, "GooseIce", rfl, (by decide +kernel), rk_mx 713 (by decide +kernel) rfl⟩, trivial, fun h => absurd h (by decide)⟩
theorem gk_l0_156 : gk_okr0 (457, 1, 5, 7) := ⟨⟨_, "GooseIce", rfl, (by decide +kernel), rk_mx 715 (by decide +kernel) rfl⟩, trivial, fun h => absurd h (by decide)⟩
theorem gk_l0_157 : gk_okr0 (460, 1, 5, 8) := ⟨⟨_, "GooseIce", rfl, (by decide +kernel), rk_mx 717 (by decide +kernel) rfl⟩, trivial, fun h => absurd h (by decide)⟩
theorem gk_l0_158 : gk_okr0 (463, 1, 5, 9) := ⟨⟨_, "GooseIce", rfl, (by decide +kernel), rk_mx 719 (by decide +kernel) rfl⟩, trivial, fun h => absurd h (by decide)⟩
theorem gk_l0_159 : gk_okr0 (466, 1, 5, 10) := ⟨⟨_, "GooseIce", rfl, (by decide +kernel), rk_mx 721 (by decide +kernel) rfl⟩, trivial, fun h => absurd h (by decide)⟩
theorem gk_l0_160 : gk_okr0 (469, 0, 11, 19) := ⟨⟨_, rfl, (by decide +kernel), rk_mt 767 (by decide +kernel) rfl⟩, trivial, fun h => absurd h (by decide)⟩
theorem gk_l0_161 : gk_okr0 (472, 1, 5, 5) := ⟨⟨_, "GooseIce", rfl, (by decide +kernel), rk_mx 711 (by decide +kernel) rfl⟩, trivial, fun h => absurd h (by decide)⟩
theorem gk_l0_162 : gk_okr0 (475, 0, 11, 13) := ⟨⟨_, rfl, (by decide +kernel), rk_mt 761 (by decide +kernel) rfl⟩, trivial, fun h => absurd h (by decide)⟩
theorem gk_l0_163 : gk_okr0 (478, 6, 81, 4) := ⟨trivial, ⟨_, "GooseIce", rfl, rk_mx 1182 (by decide +kernel) rfl, rk_mt 1184 (by decide +kernel) rfl, rk_mt 62 (by decide +kernel) rfl, (by decide +kernel)⟩, fun h => absurd h (by decide)⟩
theorem gk_l0_164 : gk_okr0 (482, 14, 0, 0) := ⟨⟨rk_mt 1514 (by decide +kernel) rfl, rk_mt 1098 (by decide +kernel) rfl, rk_mt 240 (by decide +kernel) rfl, rk_mt 1099 (by decide +kernel) rfl⟩, trivial, fun h => absurd h (by decide)⟩
abbrev gk_okr1 (r : Nat × Nat × Nat × Nat) : Prop := rk_lok gk_tbl gk_xw gk_cl "GooseIce$Crew" r ∧ rk_cok gk_tbl gk_xw gk_MN gk_P "GooseIce$Crew" r ∧ rk_kok gk_tbl "GooseIce$Crew" r
theorem gk_l1_0 : gk_okr1 (3, 11, 0, 0) := ⟨trivial, ⟨rk_mt 434 (by decide +kernel) rfl, rk_mt 248 (by decide +kernel) rfl, rk_mt 249 (by decide +kernel) rfl⟩, fun h => absurd h (by decide)⟩
theorem gk_l1_1 : gk_okr1 (9, 0, 0, 0) := ⟨⟨_, rfl, (by decide +kernel), rk_mt 435 (by decide +kernel) rfl⟩, trivial, fun h => absurd h (by decide)⟩
theorem gk_l1_2 : gk_okr1 (9, 2, 0, 0) := ⟨⟨_, rfl, (by decide +kernel), rk_mt 435 (by decide +kernel) rfl, rfl⟩, trivial, fun h => absurd h (by decide)⟩
theorem gk_l1_3 : gk_okr1 (15, 0, 0, 1) := ⟨⟨_, rfl, (by decide +kernel), rk_mt 437 (by decide +kernel) rfl⟩, trivial, fun h => absurd h (by decide)⟩
theorem gk_l1_4 : gk_okr1 (15, 2, 0, 1) := ⟨⟨_, rfl, (by decide +kernel), rk_mt 437 (by decide +kernel) rfl, rfl⟩, trivial, fun h => absurd h (by decide)⟩
theorem gk_l1_5 : gk_okr1 (19, 0, 0, 2) := ⟨⟨_, rfl, (by decide +kernel), rk_mt 441 (by decide +kernel) rfl⟩, trivial, fun h => absurd h (by decide)⟩
theorem gk_l1_6 : gk_okr1 (19, 2, 0, 2) := ⟨⟨_, rfl, (by decide +kernel), rk_mt 441 (by decide +kernel) rfl, rfl⟩, trivial, fun h => absurd h (by decide)⟩
theorem gk_l1_7 : gk_okr1 (22, 0, 0, 3) := ⟨⟨_, rfl, (by decide +kernel), rk_mt 446 (by decide +kernel) rfl⟩, trivial, fun h => absurd h (by decide)⟩
theorem gk_l1_8 : gk_okr1 (22, 2, 0, 3) := ⟨⟨_, rfl, (by decide +kernel), rk_mt 446 (by decide +kernel) rfl, rfl⟩, trivial, fun h => absurd h (by decide)⟩
theorem gk_l1_9 : gk_okr1 (25, 0, 0, 4) := ⟨⟨_, rfl, (by decide +kernel), rk_mt 448 (by decide +kernel) rfl⟩, trivial, fun h => absurd h (by decide)⟩
theorem gk_l1_10 : gk_okr1 (25, 2, 0, 4) := ⟨⟨_, rfl, (by decide +kernel), rk_mt 448 (by decide +kernel) rfl, rfl⟩, trivial, fun h => absurd h (by decide)⟩
theorem gk_l1_11 : gk_okr1 (28, 0, 0, 5) := ⟨⟨_, rfl, (by decide +kernel), rk_mt 449 (by decide +kernel) rfl⟩, trivial, fun h => absurd h (by decide)⟩
theorem gk_l1_12 : gk_okr1 (28, 2, 0, 5) := ⟨⟨_, rfl, (by decide +kernel), rk_mt 449 (by decide +kernel) rfl, rfl⟩, trivial, fun h => absurd h (by decide)⟩
theorem gk_l1_13 : gk_okr1 (31, 0, 0, 6) := ⟨⟨_, rfl, (by decide +kernel), rk_mt 450 (by decide +kernel) rfl⟩, trivial, fun h => absurd h (by decide)⟩
theorem gk_l1_14 : gk_okr1 (31, 2, 0, 6) := ⟨⟨_, rfl, (by decide +kernel), rk_mt 450 (by decide +kernel) rfl, rfl⟩, trivial, fun h => absurd h (by decide)⟩
theorem gk_l1_15 : gk_okr1 (34, 0, 0, 7) := ⟨⟨_, rfl, (by decide +kernel), rk_mt 451 (by decide +kernel) rfl⟩, trivial, fun h => absurd h (by decide)⟩
theorem gk_l1_16 : gk_okr1 (38, 0, 0, 8) := ⟨⟨_, rfl, (by decide +kernel), rk_mt 457 (by decide +kernel) rfl⟩, trivial, fun h => absurd h (by decide)⟩
theorem gk_l1_17 : gk_okr1 (41, 0, 0, 9) := ⟨⟨_, rfl, (by decide +kernel), rk_mt 461 (by decide +kernel) rfl⟩, trivial, fun h => absurd h (by decide)⟩
theorem gk_l1_18 : gk_okr1 (44, 7, 388, 2) := ⟨trivial, ⟨_, rfl, rk_mt 919 (by decide +kernel) rfl, rk_mt 746 (by decide +kernel) rfl, (by decide +kernel)⟩, fun h => absurd h (by decide)⟩
theorem gk_l1_19 : gk_okr1 (50, 12, 0, 0) := ⟨trivial, trivial, fun _ => ⟨rk_mt 1019 (by decide +kernel) rfl, rk_mt 864 (by decide +kernel) rfl, rk_mt 863 (by decide +kernel) rfl, rk_mt 239 (by decide +kernel) rfl⟩⟩
theorem gk_l1_20 : gk_okr1 (56, 15, 0, 0) := ⟨⟨rk_mt 1158 (by decide +kernel) rfl, rk_mt 1159 (by decide +kernel) rfl, rk_mt 240 (by decide +kernel) rfl, rk_mt 1160 (by decide +kernel) rfl⟩, trivial, fun h => absurd h (by decide)⟩
theorem gk_l1_21 : gk_okr1 (62, 5, 7, 1) := ⟨trivial, ⟨_, rfl, rk_mt 1475 (by decide +kernel) rfl, rk_mt 1477 (by decide +kernel) rfl, rk_mt 100 (by decide +kernel) rfl, (by decide +kernel)⟩, fun h => absurd h (by decide)⟩
theorem gk_l1_22 : gk_okr1 (66, 17, 0, 0) := ⟨⟨rk_mt 1479 (by decide +kernel) rfl, rk_mt 1480 (by decide +kernel) rfl, rk_mt 240 (by decide +kernel) rfl, rk_mt 1481 (by decide +kernel) rfl⟩, trivial, fun h => absurd h (by decide)⟩
theorem gk_l1_23 : gk_okr1 (69, 5, 15, 3) := ⟨trivial, ⟨_, rfl, rk_mt 1496 (by decide +kernel) rfl, rk_mt 1498 (by decide +kernel) rfl, rk_mt 102 (by decide +kernel) rfl, (by decide +kernel)⟩, fun h => absurd h (by decide)⟩
abbrev gk_okr2 (r : Nat × Nat × Nat × Nat) : Prop := rk_lok gk_tbl gk_xw gk_cl "GooseIce$Days" r ∧ rk_cok gk_tbl gk_xw gk_MN gk_P "GooseIce$Days" r ∧ rk_kok gk_tbl "GooseIce$Days" r
theorem gk_l2_0 : gk_okr2 (3, 11, 0, 0) := ⟨trivial, ⟨rk_mt 688 (by decide +kernel) rfl, rk_mt 248 (by decide +kernel) rfl, rk_mt 249 (by decide +kernel) rfl⟩, fun h => absurd h (by decide)⟩
theorem gk_l2_1 : gk_okr2 (9, 0, 1, 0) := ⟨⟨_, rfl, (by decide +kernel), rk_mt 689 (by decide +kernel) rfl⟩, trivial, fun h => absurd h (by decide)⟩
theorem gk_l2_2 : gk_okr2 (9, 2, 1, 0) := ⟨⟨_, rfl, (by decide +kernel), rk_mt 689 (by decide +kernel) rfl, rfl⟩, trivial, fun h => absurd h (by decide)⟩
theorem gk_l2_3 : gk_okr2 (15, 0, 1, 1) := ⟨⟨_, rfl, (by decide +kernel), rk_mt 690 (by decide +kernel) rfl⟩, trivial, fun h => absurd h (by decide)⟩
theorem gk_l2_4 : gk_okr2 (15, 2, 1, 1) := ⟨⟨_, rfl, (by decide +kernel), rk_mt 690 (by decide +kernel) rfl, rfl⟩, trivial, fun h => absurd h (by decide)⟩
theorem gk_l2_5 : gk_okr2 (18, 0, 1, 2) := ⟨⟨_, rfl, (by decide +kernel), rk_mt 691 (by decide +kernel) rfl⟩, trivial, fun h => absurd h (by decide)⟩
theorem gk_l2_6 : gk_okr2 (22, 7, 387, 2) := ⟨trivial, ⟨_, rfl, rk_mt 1559 (by decide +kernel) rfl, rk_mt 833 (by decide +kernel) rfl, (by decide +kernel)⟩, fun h => absurd h (by decide)⟩
theorem gk_l2_7 : gk_okr2 (28, 5, 20, 1) := ⟨trivial, ⟨_, rfl, rk_mt 1560 (by decide +kernel) rfl, rk_mt 1562 (by decide +kernel) rfl, rk_mt 108 (by decide +kernel) rfl, (by decide +kernel)⟩, fun h => absurd h (by decide)⟩
theorem gk_l2_8 : gk_okr2 (32, 12, 0, 0) := ⟨trivial, trivial, fun _ => ⟨rk_mt 1564 (by decide +kernel) rfl, rk_mt 864 (by decide +kernel) rfl, rk_mt 863 (by decide +kernel) rfl, rk_mt 239 (by decide +kernel) rfl⟩⟩
abbrev gk_okr3 (r : Nat × Nat × Nat × Nat) : Prop := rk_lok gk_tbl gk_xw gk_cl "GooseIce$Ice" r ∧ rk_cok gk_tbl gk_xw gk_MN gk_P "GooseIce$Ice" r ∧ rk_kok gk_tbl "GooseIce$Ice" r
theorem gk_l3_0 : gk_okr3 (3, 11, 0, 0) := ⟨trivial, ⟨rk_mt 398 (by decide +kernel) rfl, rk_mt 248 (by decide +kernel) rfl, rk_mt 249 (by decide +kernel) rfl⟩, fun h => absurd h (by decide)⟩
theorem gk_l3_1 : gk_okr3 (9, 0, 2, 0) := ⟨⟨_, rfl, (by decide +kernel), rk_mt 399 (by decide +kernel) rfl⟩, trivial, fun h => absurd h (by decide)⟩
theorem gk_l3_2 : gk_okr3 (9, 2, 2, 0) := ⟨⟨_, rfl, (by decide +kernel), rk_mt 399 (by decide +kernel) rfl, rfl⟩, trivial, fun h => absurd h (by decide)⟩
theorem gk_l3_3 : gk_okr3 (15, 0, 2, 1) := ⟨⟨_, rfl, (by decide +kernel), rk_mt 402 (by decide +kernel) rfl⟩, trivial, fun h => absurd h (by decide)⟩
theorem gk_l3_4 : gk_okr3 (15, 2, 2, 1) := ⟨⟨_, rfl, (by decide +kernel), rk_mt 402 (by decide +kernel) rfl, rfl⟩, trivial, fun h => absurd h (by decide)⟩
theorem gk_l3_5 : gk_okr3 (18, 0, 2, 2) := ⟨⟨_, rfl, (by decide +kernel), rk_mt 405 (by decide +kernel) rfl⟩, trivial, fun h => absurd h (by decide)⟩
theorem gk_l3_6 : gk_okr3 (18, 2, 2, 2) := ⟨⟨_, rfl, (by decide +kernel), rk_mt 405 (by decide +kernel) rfl, rfl⟩, trivial, fun h => absurd h (by decide)⟩
theorem gk_l3_7 : gk_okr3 (21, 0, 2, 3) := ⟨⟨_, rfl, (by decide +kernel), rk_mt 408 (by decide +kernel) rfl⟩, trivial, fun h => absurd h (by decide)⟩
theorem gk_l3_8 : gk_okr3 (21, 2, 2, 3) := ⟨⟨_, rfl, (by decide +kernel), rk_mt 408 (by decide +kernel) rfl, rfl⟩, trivial, fun h => absurd h (by decide)⟩
theorem gk_l3_9 : gk_okr3 (24, 7, 388, 2) := ⟨trivial, ⟨_, rfl, rk_mt 914 (by decide +kernel) rfl, rk_mt 746 (by decide +kernel) rfl, (by decide +kernel)⟩, fun h => absurd h (by decide)⟩
theorem gk_l3_10 : gk_okr3 (30, 0, 2, 4) := ⟨⟨_, rfl, (by decide +kernel), rk_mt 410 (by decide +kernel) rfl⟩, trivial, fun h => absurd h (by decide)⟩
theorem gk_l3_11 : gk_okr3 (34, 0, 2, 5) := ⟨⟨_, rfl, (by decide +kernel), rk_mt 412 (by decide +kernel) rfl⟩, trivial, fun h => absurd h (by decide)⟩
theorem gk_l3_12 : gk_okr3 (37, 12, 0, 0) := ⟨trivial, trivial, fun _ => ⟨rk_mt 1014 (by decide +kernel) rfl, rk_mt 864 (by decide +kernel) rfl, rk_mt 863 (by decide +kernel) rfl, rk_mt 239 (by decide +kernel) rfl⟩⟩
theorem gk_l3_13 : gk_okr3 (43, 15, 0, 0) := ⟨⟨rk_mt 1224 (by decide +kernel) rfl, rk_mt 1159 (by decide +kernel) rfl, rk_mt 240 (by decide +kernel) rfl, rk_mt 1160 (by decide +kernel) rfl⟩, trivial, fun h => absurd h (by decide)⟩
abbrev gk_okr4 (r : Nat × Nat × Nat × Nat) : Prop := rk_lok gk_tbl gk_xw gk_cl "GooseIce$Lake" r ∧ rk_cok gk_tbl gk_xw gk_MN gk_P "GooseIce$Lake" r ∧ rk_kok gk_tbl "GooseIce$Lake" r
theorem gk_l4_0 : gk_okr4 (3, 11, 0, 0) := ⟨trivial, ⟨rk_mt 392 (by decide +kernel) rfl, rk_mt 248 (by decide +kernel) rfl, rk_mt 249 (by decide +kernel) rfl⟩, fun h => absurd h (by decide)⟩
theorem gk_l4_1 : gk_okr4 (9, 0, 3, 0) := ⟨⟨_, rfl, (by decide +kernel), rk_mt 534 (by decide +kernel) rfl⟩, trivial, fun h => absurd h (by decide)⟩
theorem gk_l4_2 : gk_okr4 (9, 2, 3, 0) := ⟨⟨_, rfl, (by decide +kernel), rk_mt 534 (by decide +kernel) rfl, rfl⟩, trivial, fun h => absurd h (by decide)⟩
theorem gk_l4_3 : gk_okr4 (15, 0, 3, 1) := ⟨⟨_, rfl, (by decide +kernel), rk_mt 535 (by decide +kernel) rfl⟩, trivial, fun h => absurd h (by decide)⟩
theorem gk_l4_4 : gk_okr4 (15, 2, 3, 1) := ⟨⟨_, rfl, (by decide +kernel), rk_mt 535 (by decide +kernel) rfl, rfl⟩, trivial, fun h => absurd h (by decide)⟩
theorem gk_l4_5 : gk_okr4 (19, 0, 3, 2) := ⟨⟨_, rfl, (by decide +kernel), rk_mt 539 (by decide +kernel) rfl⟩, trivial, fun h => absurd h (by decide)⟩
theorem gk_l4_6 : gk_okr4 (19, 2, 3, 2) := ⟨⟨_, rfl, (by decide +kernel), rk_mt 539 (by decide +kernel) rfl, rfl⟩, trivial, fun h => absurd h (by decide)⟩
theorem gk_l4_7 : gk_okr4 (22, 0, 3, 3) := ⟨⟨_, rfl, (by decide +kernel), rk_mt 542 (by decide +kernel) rfl⟩, trivial, fun h => absurd h (by decide)⟩
theorem gk_l4_8 : gk_okr4 (22, 2, 3, 3) := ⟨⟨_, rfl, (by decide +kernel), rk_mt 542 (by decide +kernel) rfl, rfl⟩, trivial, fun h => absurd h (by decide)⟩
theorem gk_l4_9 : gk_okr4 (25, 0, 3, 4) := ⟨⟨_, rfl, (by decide +kernel), rk_mt 544 (by decide +kernel) rfl⟩, trivial, fun h => absurd h (by decide)⟩
theorem gk_l4_10 : gk_okr4 (25, 2, 3, 4) := ⟨⟨_, rfl, (by decide +kernel), rk_mt 544 (by decide +kernel) rfl, rfl⟩, trivial, fun h => absurd h (by decide)⟩
theorem gk_l4_11 : gk_okr4 (28, 3, 2, 0) := ⟨⟨_, rfl, rk_mt 393 (by decide +kernel) rfl, rk_mt 394 (by decide +kernel) rfl, rk_mt 230 (by decide +kernel) rfl⟩, trivial, fun h => absurd h (by decide)⟩
theorem gk_l4_12 : gk_okr4 (30, 10, 23, 0) := ⟨trivial, ⟨_, "GooseIce", rfl, (fun M hM => by cases hM; rfl), rk_mx 395 (by decide +kernel) rfl, rk_mt 396 (by decide +kernel) rfl, rfl, (by decide +kernel)⟩, fun h => absurd h (by decide)⟩
theorem gk_l4_13 : gk_okr4 (31, 0, 3, 5) := ⟨⟨_, rfl, (by decide +kernel), rk_mt 545 (by decide +kernel) rfl⟩, trivial, fun h => absurd h (by decide)⟩
theorem gk_l4_14 : gk_okr4 (31, 2, 3, 5) := ⟨⟨_, rfl, (by decide +kernel), rk_mt 545 (by decide +kernel) rfl, rfl⟩, trivial, fun h => absurd h (by decide)⟩
theorem gk_l4_15 : gk_okr4 (35, 3, 0, 0) := ⟨⟨_, rfl, rk_mt 429 (by decide +kernel) rfl, rk_mt 430 (by decide +kernel) rfl, rk_mt 231 (by decide +kernel) rfl⟩, trivial, fun h => absurd h (by decide)⟩
theorem gk_l4_16 : gk_okr4 (37, 10, 0, 0) := ⟨trivial, ⟨_, "GooseIce", rfl, (fun M hM => by cases hM; rfl), rk_mx 431 (by decide +kernel) rfl, rk_mt 432 (by decide +kernel) rfl, rfl, (by decide +kernel)⟩, fun h => absurd h (by decide)⟩
theorem gk_l4_17 : gk_okr4 (38, 0, 3, 6) := ⟨⟨_, rfl, (by decide +kernel), rk_mt 548 (by decide +kernel) rfl⟩, trivial, fun h => absurd h (by decide)⟩
theorem gk_l4_18 : gk_okr4 (38, 2, 3, 6) := ⟨⟨_, rfl, (by decide +kernel), rk_mt 548 (by decide +kernel) rfl, rfl⟩, trivial, fun h => absurd h (by decide)⟩
theorem gk_l4_19 : gk_okr4 (42, 3, 9, 0) := ⟨⟨_, rfl, rk_mt 486 (by decide +kernel) rfl, rk_mt 487 (by decide +kernel) rfl, rk_mt 232 (by decide +kernel) rfl⟩, trivial, fun h => absurd h (by decide)⟩
theorem gk_l4_20 : gk_okr4 (44, 10, 115, 0) := ⟨trivial, ⟨_, "GooseIce", rfl, (fun M hM => by cases hM; rfl), rk_mx 488 (by decide +kernel) rfl, rk_mt 489 (by decide +kernel) rfl, rfl, (by decide +kernel)⟩, fun h => absurd h (by decide)⟩
theorem gk_l4_21 : gk_okr4 (45, 0, 3, 7) := ⟨⟨_, rfl, (by decide +kernel), rk_mt 555 (by decide +kernel) rfl⟩, trivial, fun h => absurd h (by decide)⟩
theorem gk_l4_22 : gk_okr4 (45, 2, 3, 7) := ⟨⟨_, rfl, (by decide +kernel), rk_mt 555 (by decide +kernel) rfl, rfl⟩, trivial, fun h => absurd h (by decide)⟩
theorem gk_l4_23 : gk_okr4 (49, 0, 3, 10) := ⟨⟨_, rfl, (by decide +kernel), rk_mt 565 (by decide +kernel) rfl⟩, trivial, fun h => absurd h (by decide)⟩
theorem gk_l4_24 : gk_okr4 (53, 0, 3, 11) := ⟨⟨_, rfl, (by decide +kernel), rk_mt 568 (by decide +kernel) rfl⟩, trivial, fun h => absurd h (by decide)⟩
theorem gk_l4_25 : gk_okr4 (56, 0, 3, 12) := ⟨⟨_, rfl, (by decide +kernel), rk_mt 571 (by decide +kernel) rfl⟩, trivial, fun h => absurd h (by decide)⟩
theorem gk_l4_26 : gk_okr4 (59, 7, 388, 2) := ⟨trivial, ⟨_, rfl, rk_mt 909 (by decide +kernel) rfl, rk_mt 746 (by decide +kernel) rfl, (by decide +kernel)⟩, fun h => absurd h (by decide)⟩
theorem gk_l4_27 : gk_okr4 (65, 6, 24, 0) := ⟨trivial, ⟨_, "GooseIce", rfl, rk_mx 910 (by decide +kernel) rfl, rk_mt 912 (by decide +kernel) rfl, rk_mt 13 (by decide +kernel) rfl, (by decide +kernel)⟩, fun h => absurd h (by decide)⟩
theorem gk_l4_28 : gk_okr4 (68, 6, 1, 0) := ⟨trivial, ⟨_, "GooseIce", rfl, rk_mx 915 (by decide +kernel) rfl, rk_mt 917 (by decide +kernel) rfl, rk_mt 14 (by decide +kernel) rfl, (by decide +kernel)⟩, fun h => absurd h (by decide)⟩
theorem gk_l4_29 : gk_okr4 (69, 0, 3, 8) := ⟨⟨_, rfl, (by decide +kernel), rk_mt 557 (by decide +kernel) rfl⟩, trivial, fun h => absurd h (by decide)⟩
theorem gk_l4_30 : gk_okr4 (72, 0, 3, 9) := ⟨⟨_, rfl, (by decide +kernel), rk_mt 562 (by decide +kernel) rfl⟩, trivial, fun h => absurd h (by decide)⟩
theorem gk_l4_31 : gk_okr4 (75, 0, 3, 13) := ⟨⟨_, rfl, (by decide +kernel), rk_mt 574 (by decide +kernel) rfl⟩, trivial, fun h => absurd h (by decide)⟩
theorem gk_l4_32 : gk_okr4 (78, 12, 0, 0) := ⟨trivial, trivial, fun _ => ⟨rk_mt 1009 (by decide +kernel) rfl, rk_mt 864 (by decide +kernel) rfl, rk_mt 863 (by decide +kernel) rfl, rk_mt 239 (by decide +kernel) rfl⟩⟩
theorem gk_l4_33 : gk_okr4 (84, 6, 25, 1) := ⟨trivial, ⟨_, "GooseIce", rfl, rk_mx 1010 (by decide +kernel) rfl, rk_mt 1012 (by decide +kernel) rfl, rk_mt 36 (by decide +kernel) rfl, (by decide +kernel)⟩, fun h => absurd h (by decide)⟩
theorem gk_l4_34 : gk_okr4 (88, 6, 2, 1) := ⟨trivial, ⟨_, "GooseIce", rfl, rk_mx 1015 (by decide +kernel) rfl, rk_mt 1017 (by decide +kernel) rfl, rk_mt 37 (by decide +kernel) rfl, (by decide +kernel)⟩, fun h => absurd h (by decide)⟩
theorem gk_l4_35 : gk_okr4 (91, 1, 2, 0) := ⟨⟨_, "GooseIce", rfl, (by decide +kernel), rk_mx 400 (by decide +kernel) rfl⟩, trivial, fun h => absurd h (by decide)⟩
theorem gk_l4_36 : gk_okr4 (94, 1, 0, 7) := ⟨⟨_, "GooseIce", rfl, (by decide +kernel), rk_mx 453 (by decide +kernel) rfl⟩, trivial, fun h => absurd h (by decide)⟩
theorem gk_l4_37 : gk_okr4 (97, 5, 34, 1) := ⟨trivial, ⟨_, rfl, rk_mt 984 (by decide +kernel) rfl, rk_mt 986 (by decide +kernel) rfl, rk_mt 30 (by decide +kernel) rfl, (by decide +kernel)⟩, fun h => absurd h (by decide)⟩
theorem gk_l4_38 : gk_okr4 (101, 1, 0, 0) := ⟨⟨_, "GooseIce", rfl, (by decide +kernel), rk_mx 436 (by decide +kernel) rfl⟩, trivial, fun h => absurd h (by decide)⟩
theorem gk_l4_39 : gk_okr4 (102, 1, 0, 1) := ⟨⟨_, "GooseIce", rfl, (by decide +kernel), rk_mx 438 (by decide +kernel) rfl⟩, trivial, fun h => absurd h (by decide)⟩
theorem gk_l4_40 : gk_okr4 (105, 1, 0, 2) := ⟨⟨_, "GooseIce", rfl, (by decide +kernel), rk_mx 443 (by decide +kernel) rfl⟩, trivial, fun h => absurd h (by decide)⟩
theorem gk_l4_41 : gk_okr4 (108, 1, 2, 5) := ⟨⟨_, "GooseIce", rfl, (by decide +kernel), rk_mx 414 (by decide +kernel) rfl⟩, trivial, fun h => absurd h (by decide)⟩
theorem gk_l4_42 : gk_okr4 (111, 1, 2, 2) := ⟨⟨_, "GooseIce", rfl, (by decide +kernel), rk_mx 406 (by decide +kernel) rfl⟩, trivial, fun h => absurd h (by decide)⟩
theorem gk_l4_43 : gk_okr4 (114, 14, 0, 0) := ⟨⟨rk_mt 1097 (by decide +kernel) rfl, rk_mt 1098 (by decide +kernel) rfl, rk_mt 240 (by decide +kernel) rfl, rk_mt 1099 (by decide +kernel) rfl⟩, trivial, fun h => absurd h (by decide)⟩
theorem gk_l4_44 : gk_okr4 (120, 1, 0, 8) := ⟨⟨_, "GooseIce", rfl, (by decide +kernel), rk_mx 459 (by decide +kernel) rfl⟩, trivial, fun h => absurd h (by decide)⟩
theorem gk_l4_45 : gk_okr4 (123, 5, 41, 2) := ⟨trivial, ⟨_, rfl, rk_mt 1181 (by decide +kernel) rfl, rk_mt 1102 (by decide +kernel) rfl, rk_mt 50 (by decide +kernel) rfl, (by decide +kernel)⟩, fun h => absurd h (by decide)⟩
theorem gk_l4_46 : gk_okr4 (126, 5, 39, 0) := ⟨trivial, ⟨_, rfl, rk_mt 1173 (by decide +kernel) rfl, rk_mt 1175 (by decide +kernel) rfl, rk_mt 60 (by decide +kernel) rfl, (by decide +kernel)⟩, fun h => absurd h (by decide)⟩
theorem gk_l4_47 : gk_okr4 (130, 5, 42, 2) := ⟨trivial, ⟨_, rfl, rk_mt 1177 (by decide +kernel) rfl, rk_mt 1179 (by decide +kernel) rfl, rk_mt 61 (by decide +kernel) rfl, (by decide +kernel)⟩, fun h => absurd h (by decide)⟩
theorem gk_l4_48 : gk_okr4 (133, 5, 35, 1) := ⟨trivial, ⟨_, rfl, rk_mt 1405 (by decide +kernel) rfl, rk_mt 982 (by decide +kernel) rfl, rk_mt 29 (by decide +kernel) rfl, (by decide +kernel)⟩, fun h => absurd h (by decide)⟩
theorem gk_l4_49 : gk_okr4 (136, 5, 46, 1) := ⟨trivial, ⟨_, rfl, rk_mt 1350 (by decide +kernel) rfl, rk_mt 1192 (by decide +kernel) rfl, rk_mt 64 (by decide +kernel) rfl, (by decide +kernel)⟩, fun h => absurd h (by decide)⟩
theorem gk_l4_50 : gk_okr4 (140, 8, 200, 1) := ⟨trivial, ⟨_, "GooseIce", rfl, rk_mx 1294 (by decide +kernel) rfl, rk_mt 1195 (by decide +kernel) rfl, (by decide +kernel)⟩, fun h => absurd h (by decide)⟩
theorem gk_l4_51 : gk_okr4 (143, 1, 0, 9) := ⟨⟨_, "GooseIce", rfl, (by decide +kernel), rk_mx 464 (by decide +kernel) rfl⟩, trivial, fun h => absurd h (by decide)⟩
theorem gk_l4_52 : gk_okr4 (146, 5, 50, 0) := ⟨trivial, ⟨_, rfl, rk_mt 1216 (by decide +kernel) rfl, rk_mt 1218 (by decide +kernel) rfl, rk_mt 66 (by decide +kernel) rfl, (by decide +kernel)⟩, fun h => absurd h (by decide)⟩
theorem gk_l4_53 : gk_okr4 (149, 1, 2, 4) := ⟨⟨_, "GooseIce", rfl, (by decide +kernel), rk_mx 411 (by decide +kernel) rfl⟩, trivial, fun h => absurd h (by decide)⟩
theorem gk_l4_54 : gk_okr4 (152, 6, 27, 2) := ⟨trivial, ⟨_, "GooseIce", rfl, rk_mx 1220 (by decide +kernel) rfl, rk_mt 1222 (by decide +kernel) rfl, rk_mt 67 (by decide +kernel) rfl, (by decide +kernel)⟩, fun h => absurd h (by decide)⟩
theorem gk_l4_55 : gk_okr4 (156, 5, 51, 2) := ⟨trivial, ⟨_, rfl, rk_mt 1225 (by decide +kernel) rfl, rk_mt 1227 (by decide +kernel) rfl, rk_mt 68 (by decide +kernel) rfl, (by decide +kernel)⟩, fun h => absurd h (by decide)⟩
theorem gk_l4_56 : gk_okr4 (159, 5, 52, 0) := ⟨trivial, ⟨_, rfl, rk_mt 1242 (by decide +kernel) rfl, rk_mt 1244 (by decide +kernel) rfl, rk_mt 72 (by decide +kernel) rfl, (by decide +kernel)⟩, fun h => absurd h (by decide)⟩
theorem gk_l4_57 : gk_okr4 (162, 5, 53, 0) := ⟨trivial, ⟨_, rfl, rk_mt 1246 (by decide +kernel) rfl, rk_mt 1248 (by decide +kernel) rfl, rk_mt 73 (by decide +kernel) rfl, (by decide +kernel)⟩, fun h => absurd h (by decide)⟩
theorem gk_l4_58 : gk_okr4 (165, 5, 54, 1) := ⟨trivial, ⟨_, rfl, rk_mt 1251 (by decide +kernel) rfl, rk_mt 1253 (by decide +kernel) rfl, rk_mt 74 (by decide +kernel) rfl, (by decide +kernel)⟩, fun h => absurd h (by decide)⟩
theorem gk_l4_59 : gk_okr4 (169, 5, 55, 0) := ⟨trivial, ⟨_, rfl, rk_mt 1259 (by decide +kernel) rfl, rk_mt 1261 (by decide +kernel) rfl, rk_mt 76 (by decide +kernel) rfl, (by decide +kernel)⟩, fun h => absurd h (by decide)⟩
theorem gk_l4_60 : gk_okr4 (172, 6, 9, 2) := ⟨trivial, ⟨_, "GooseIce", rfl, rk_mx 1229 (by decide +kernel) rfl, rk_mt 1122 (by decide +kernel) rfl, rk_mt 53 (by decide +kernel) rfl, (by decide +kernel)⟩, fun h => absurd h (by decide)⟩
theorem gk_l4_61 : gk_okr4 (175, 6, 10, 2) := ⟨trivial, ⟨_, "GooseIce", rfl, rk_mx 1230 (by decide +kernel) rfl, rk_mt 1232 (by decide +kernel) rfl, rk_mt 69 (by decide +kernel) rfl, (by decide +kernel)⟩, fun h => absurd h (by decide)⟩
theorem gk_l4_62 : gk_okr4 (178, 6, 12, 1) := ⟨trivial, ⟨_, "GooseIce", rfl, rk_mx 1234 (by decide +kernel) rfl, rk_mt 1236 (by decide +kernel) rfl, rk_mt 70 (by decide +kernel) rfl, (by decide +kernel)⟩, fun h => absurd h (by decide)⟩
theorem gk_l4_63 : gk_okr4 (181, 6, 26, 2) := ⟨trivial, ⟨_, "GooseIce", rfl, rk_mx 1238 (by decide +kernel) rfl, rk_mt 1240 (by decide +kernel) rfl, rk_mt 71 (by decide +kernel) rfl, (by decide +kernel)⟩, fun h => absurd h (by decide)⟩
theorem gk_l4_64 : gk_okr4 (184, 5, 40, 1) := ⟨trivial, ⟨_, rfl, rk_mt 1250 (by decide +kernel) rfl, rk_mt 1095 (by decide +kernel) rfl, rk_mt 49 (by decide +kernel) rfl, (by decide +kernel)⟩, fun h => absurd h (by decide)⟩
theorem gk_l4_65 : gk_okr4 (187, 6, 28, 1) := ⟨trivial, ⟨_, "GooseIce", rfl, rk_mx 1255 (by decide +kernel) rfl, rk_mt 1257 (by decide +kernel) rfl, rk_mt 75 (by decide +kernel) rfl, (by decide +kernel)⟩, fun h => absurd h (by decide)⟩
theorem gk_l4_66 : gk_okr4 (190, 1, 2, 1) := ⟨⟨_, "GooseIce", rfl, (by decide +kernel), rk_mx 404 (by decide +kernel) rfl⟩, trivial, fun h => absurd h (by decide)⟩
theorem gk_l4_67 : gk_okr4 (193, 7, 372, 1) := ⟨trivial, ⟨_, rfl, rk_mt 1271 (by decide +kernel) rfl, rk_mt 1198 (by decide +kernel) rfl, (by decide +kernel)⟩, fun h => absurd h (by decide)⟩
theorem gk_l4_68 : gk_okr4 (198, 5, 36, 1) := ⟨trivial, ⟨_, rfl, rk_mt 1272 (by decide +kernel) rfl, rk_mt 1091 (by decide +kernel) rfl, rk_mt 48 (by decide +kernel) rfl, (by decide +kernel)⟩, fun h => absurd h (by decide)⟩
theorem gk_l4_69 : gk_okr4 (201, 15, 0, 0) := ⟨⟨rk_mt 1273 (by decide +kernel) rfl, rk_mt 1159 (by decide +kernel) rfl, rk_mt 240 (by decide +kernel) rfl, rk_mt 1160 (by decide +kernel) rfl⟩, trivial, fun h => absurd h (by decide)⟩
theorem gk_l4_70 : gk_okr4 (205, 6, 11, 1) := ⟨trivial, ⟨_, "GooseIce", rfl, rk_mx 1388 (by decide +kernel) rfl, rk_mt 1114 (by decide +kernel) rfl, rk_mt 52 (by decide +kernel) rfl, (by decide +kernel)⟩, fun h => absurd h (by decide)⟩
theorem gk_l4_71 : gk_okr4 (208, 1, 2, 3) := ⟨⟨_, "GooseIce", rfl, (by decide +kernel), rk_mx 409 (by decide +kernel) rfl⟩, trivial, fun h => absurd h (by decide)⟩
abbrev gk_okr5 (r : Nat × Nat × Nat × Nat) : Prop := rk_lok gk_tbl gk_xw gk_cl "GooseIce$LakeText" r ∧ rk_cok gk_tbl gk_xw gk_MN gk_P "GooseIce$LakeText" r ∧ rk_kok gk_tbl "GooseIce$LakeText" r
theorem gk_l5_0 : gk_okr5 (3, 11, 0, 0) := ⟨trivial, ⟨rk_mt 363 (by decide +kernel) rfl, rk_mt 248 (by decide +kernel) rfl, rk_mt 249 (by decide +kernel) rfl⟩, fun h => absurd h (by decide)⟩
theorem gk_l5_1 : gk_okr5 (9, 0, 4, 0) := ⟨⟨_, rfl, (by decide +kernel), rk_mt 364 (by decide +kernel) rfl⟩, trivial, fun h => absurd h (by decide)⟩
theorem gk_l5_2 : gk_okr5 (9, 2, 4, 0) := ⟨⟨_, rfl, (by decide +kernel), rk_mt 364 (by decide +kernel) rfl, rfl⟩, trivial, fun h => absurd h (by decide)⟩
theorem gk_l5_3 : gk_okr5 (15, 6, 30, 0) := ⟨trivial, ⟨_, "GooseIce", rfl, rk_mx 905 (by decide +kernel) rfl, rk_mt 907 (by decide +kernel) rfl, rk_mt 12 (by decide +kernel) rfl, (by decide +kernel)⟩, fun h => absurd h (by decide)⟩
theorem gk_l5_4 : gk_okr5 (20, 0, 4, 1) := ⟨⟨_, rfl, (by decide +kernel), rk_mt 365 (by decide +kernel) rfl⟩, trivial, fun h => absurd h (by decide)⟩
theorem gk_l5_5 : gk_okr5 (24, 1, 8, 10) := ⟨⟨_, "GooseIce", rfl, (by decide +kernel), rk_mx 325 (by decide +kernel) rfl⟩, trivial, fun h => absurd h (by decide)⟩
theorem gk_l5_6 : gk_okr5 (29, 1, 8, 6) := ⟨⟨_, "GooseIce", rfl, (by decide +kernel), rk_mx 315 (by decide +kernel) rfl⟩, trivial, fun h => absurd h (by decide)⟩
theorem gk_l5_7 : gk_okr5 (32, 5, 65, 1) := ⟨trivial, ⟨_, rfl, rk_mt 920 (by decide +kernel) rfl, rk_mt 922 (by decide +kernel) rfl, rk_mt 15 (by decide +kernel) rfl, (by decide +kernel)⟩, fun h => absurd h (by decide)⟩
theorem gk_l5_8 : gk_okr5 (36, 1, 8, 7) := ⟨⟨_, "GooseIce", rfl, (by decide +kernel), rk_mx 319 (by decide +kernel) rfl⟩, trivial, fun h => absurd h (by decide)⟩
theorem gk_l5_9 : gk_okr5 (39, 5, 67, 2) := ⟨trivial, ⟨_, rfl, rk_mt 924 (by decide +kernel) rfl, rk_mt 926 (by decide +kernel) rfl, rk_mt 16 (by decide +kernel) rfl, (by decide +kernel)⟩, fun h => absurd h (by decide)⟩
theorem gk_l5_10 : gk_okr5 (43, 5, 68, 2) := ⟨trivial, ⟨_, rfl, rk_mt 970 (by decide +kernel) rfl, rk_mt 972 (by decide +kernel) rfl, rk_mt 27 (by decide +kernel) rfl, (by decide +kernel)⟩, fun h => absurd h (by decide)⟩
theorem gk_l5_11 : gk_okr5 (46, 5, 69, 1) := ⟨trivial, ⟨_, rfl, rk_mt 992 (by decide +kernel) rfl, rk_mt 994 (by decide +kernel) rfl, rk_mt 32 (by decide +kernel) rfl, (by decide +kernel)⟩, fun h => absurd h (by decide)⟩
theorem gk_l5_12 : gk_okr5 (49, 1, 3, 10) := ⟨⟨_, "GooseIce", rfl, (by decide +kernel), rk_mx 566 (by decide +kernel) rfl⟩, trivial, fun h => absurd h (by decide)⟩
theorem gk_l5_13 : gk_okr5 (52, 5, 70, 2) := ⟨trivial, ⟨_, rfl, rk_mt 1000 (by decide +kernel) rfl, rk_mt 1002 (by decide +kernel) rfl, rk_mt 34 (by decide +kernel) rfl, (by decide +kernel)⟩, fun h => absurd h (by decide)⟩
theorem gk_l5_14 : gk_okr5 (56, 1, 3, 11) := ⟨⟨_, "GooseIce", rfl, (by decide +kernel), rk_mx 569 (by decide +kernel) rfl⟩, trivial, fun h => absurd h (by decide)⟩
theorem gk_l5_15 : gk_okr5 (59, 1, 3, 12) := ⟨⟨_, "GooseIce", rfl, (by decide +kernel), rk_mx 572 (by decide +kernel) rfl⟩, trivial, fun h => absurd h (by decide)⟩
theorem gk_l5_16 : gk_okr5 (62, 6, 108, 0) := ⟨trivial, ⟨_, "GooseIce", rfl, rk_mx 1004 (by decide +kernel) rfl, rk_mt 943 (by decide +kernel) rfl, rk_mt 20 (by decide +kernel) rfl, (by decide +kernel)⟩, fun h => absurd h (by decide)⟩
theorem gk_l5_17 : gk_okr5 (65, 6, 112, 0) := ⟨trivial, ⟨_, "GooseIce", rfl, rk_mx 937 (by decide +kernel) rfl, rk_mt 939 (by decide +kernel) rfl, rk_mt 19 (by decide +kernel) rfl, (by decide +kernel)⟩, fun h => absurd h (by decide)⟩
theorem gk_l5_18 : gk_okr5 (69, 6, 38, 1) := ⟨trivial, ⟨_, "GooseIce", rfl, rk_mx 946 (by decide +kernel) rfl, rk_mt 948 (by decide +kernel) rfl, rk_mt 21 (by decide +kernel) rfl, (by decide +kernel)⟩, fun h => absurd h (by decide)⟩
theorem gk_l5_19 : gk_okr5 (73, 1, 3, 6) := ⟨⟨_, "GooseIce", rfl, (by decide +kernel), rk_mx 550 (by decide +kernel) rfl⟩, trivial, fun h => absurd h (by decide)⟩
theorem gk_l5_20 : gk_okr5 (77, 6, 5, 1) := ⟨trivial, ⟨_, "GooseIce", rfl, rk_mx 950 (by decide +kernel) rfl, rk_mt 952 (by decide +kernel) rfl, rk_mt 22 (by decide +kernel) rfl, (by decide +kernel)⟩, fun h => absurd h (by decide)⟩
theorem gk_l5_21 : gk_okr5 (80, 6, 107, 1) := ⟨trivial, ⟨_, "GooseIce", rfl, rk_mx 928 (by decide +kernel) rfl, rk_mt 930 (by decide +kernel) rfl, rk_mt 17 (by decide +kernel) rfl, (by decide +kernel)⟩, fun h => absurd h (by decide)⟩
theorem gk_l5_22 : gk_okr5 (84, 6, 104, 0) := ⟨trivial, ⟨_, "GooseIce", rfl, rk_mx 932 (by decide +kernel) rfl, rk_mt 887 (by decide +kernel) rfl, rk_mt 7 (by decide +kernel) rfl, (by decide +kernel)⟩, fun h => absurd h (by decide)⟩
theorem gk_l5_23 : gk_okr5 (87, 1, 3, 8) := ⟨⟨_, "GooseIce", rfl, (by decide +kernel), rk_mx 559 (by decide +kernel) rfl⟩, trivial, fun h => absurd h (by decide)⟩
theorem gk_l5_24 : gk_okr5 (90, 5, 66, 1) := ⟨trivial, ⟨_, rfl, rk_mt 933 (by decide +kernel) rfl, rk_mt 935 (by decide +kernel) rfl, rk_mt 18 (by decide +kernel) rfl, (by decide +kernel)⟩, fun h => absurd h (by decide)⟩
theorem gk_l5_25 : gk_okr5 (94, 6, 109, 1) := ⟨trivial, ⟨_, "GooseIce", rfl, rk_mx 954 (by decide +kernel) rfl, rk_mt 956 (by decide +kernel) rfl, rk_mt 23 (by decide +kernel) rfl, (by decide +kernel)⟩, fun h => absurd h (by decide)⟩
theorem gk_l5_26 : gk_okr5 (97, 6, 111, 2) := ⟨trivial, ⟨_, "GooseIce", rfl, rk_mx 958 (by decide +kernel) rfl, rk_mt 960 (by decide +kernel) rfl, rk_mt 24 (by decide +kernel) rfl, (by decide +kernel)⟩, fun h => absurd h (by decide)⟩
theorem gk_l5_27 : gk_okr5 (100, 6, 110, 1) := ⟨trivial, ⟨_, "GooseIce", rfl, rk_mx 962 (by decide +kernel) rfl, rk_mt 964 (by decide +kernel) rfl, rk_mt 25 (by decide +kernel) rfl, (by decide +kernel)⟩, fun h => absurd h (by decide)⟩
theorem gk_l5_28 : gk_okr5 (104, 6, 32, 3) := ⟨trivial, ⟨_, "GooseIce", rfl, rk_mx 966 (by decide +kernel) rfl, rk_mt 968 (by decide +kernel) rfl, rk_mt 26 (by decide +kernel) rfl, (by decide +kernel)⟩, fun h => absurd h (by decide)⟩
theorem gk_l5_29 : gk_okr5 (108, 6, 113, 1) := ⟨trivial, ⟨_, "GooseIce", rfl, rk_mx 974 (by decide +kernel) rfl, rk_mt 976 (by decide +kernel) rfl, rk_mt 28 (by decide +kernel) rfl, (by decide +kernel)⟩, fun h => absurd h (by decide)⟩
theorem gk_l5_30 : gk_okr5 (112, 6, 35, 1) := ⟨trivial, ⟨_, "GooseIce", rfl, rk_mx 980 (by decide +kernel) rfl, rk_mt 982 (by decide +kernel) rfl, rk_mt 29 (by decide +kernel) rfl, (by decide +kernel)⟩, fun h => absurd h (by decide)⟩
theorem gk_l5_31 : gk_okr5 (115, 6, 37, 2) := ⟨trivial, ⟨_, "GooseIce", rfl, rk_mx 988 (by decide +kernel) rfl, rk_mt 990 (by decide +kernel) rfl, rk_mt 31 (by decide +kernel) rfl, (by decide +kernel)⟩, fun h => absurd h (by decide)⟩
theorem gk_l5_32 : gk_okr5 (119, 1, 3, 2) := ⟨⟨_, "GooseIce", rfl, (by decide +kernel), rk_mx 540 (by decide +kernel) rfl⟩, trivial, fun h => absurd h (by decide)⟩
theorem gk_l5_33 : gk_okr5 (123, 1, 3, 1) := ⟨⟨_, "GooseIce", rfl, (by decide +kernel), rk_mx 537 (by decide +kernel) rfl⟩, trivial, fun h => absurd h (by decide)⟩
theorem gk_l5_34 : gk_okr5 (126, 1, 0, 7) := ⟨⟨_, "GooseIce", rfl, (by decide +kernel), rk_mx 454 (by decide +kernel) rfl⟩, trivial, fun h => absurd h (by decide)⟩
theorem gk_l5_35 : gk_okr5 (129, 6, 33, 3) := ⟨trivial, ⟨_, "GooseIce", rfl, rk_mx 996 (by decide +kernel) rfl, rk_mt 998 (by decide +kernel) rfl, rk_mt 33 (by decide +kernel) rfl, (by decide +kernel)⟩, fun h => absurd h (by decide)⟩
abbrev gk_okr6 (r : Nat × Nat × Nat × Nat) : Prop := rk_lok gk_tbl gk_xw gk_cl "GooseIce$Life" r ∧ rk_cok gk_tbl gk_xw gk_MN gk_P "GooseIce$Life" r ∧ rk_kok gk_tbl "GooseIce$Life" r
theorem gk_l6_0 : gk_okr6 (3, 11, 0, 0) := ⟨trivial, ⟨rk_mt 704 (by decide +kernel) rfl, rk_mt 248 (by decide +kernel) rfl, rk_mt 249 (by decide +kernel) rfl⟩, fun h => absurd h (by decide)⟩
theorem gk_l6_1 : gk_okr6 (9, 0, 5, 1) := ⟨⟨_, rfl, (by decide +kernel), rk_mt 706 (by decide +kernel) rfl⟩, trivial, fun h => absurd h (by decide)⟩
theorem gk_l6_2 : gk_okr6 (9, 2, 5, 1) := ⟨⟨_, rfl, (by decide +kernel), rk_mt 706 (by decide +kernel) rfl, rfl⟩, trivial, fun h => absurd h (by decide)⟩
theorem gk_l6_3 : gk_okr6 (15, 0, 5, 2) := ⟨⟨_, rfl, (by decide +kernel), rk_mt 707 (by decide +kernel) rfl⟩, trivial, fun h => absurd h (by decide)⟩
theorem gk_l6_4 : gk_okr6 (15, 2, 5, 2) := ⟨⟨_, rfl, (by decide +kernel), rk_mt 707 (by decide +kernel) rfl, rfl⟩, trivial, fun h => absurd h (by decide)⟩
theorem gk_l6_5 : gk_okr6 (18, 0, 5, 0) := ⟨⟨_, rfl, (by decide +kernel), rk_mt 705 (by decide +kernel) rfl⟩, trivial, fun h => absurd h (by decide)⟩
theorem gk_l6_6 : gk_okr6 (18, 2, 5, 0) := ⟨⟨_, rfl, (by decide +kernel), rk_mt 705 (by decide +kernel) rfl, rfl⟩, trivial, fun h => absurd h (by decide)⟩
theorem gk_l6_7 : gk_okr6 (22, 0, 5, 3) := ⟨⟨_, rfl, (by decide +kernel), rk_mt 708 (by decide +kernel) rfl⟩, trivial, fun h => absurd h (by decide)⟩
theorem gk_l6_8 : gk_okr6 (26, 0, 5, 4) := ⟨⟨_, rfl, (by decide +kernel), rk_mt 709 (by decide +kernel) rfl⟩, trivial, fun h => absurd h (by decide)⟩
theorem gk_l6_9 : gk_okr6 (29, 0, 5, 5) := ⟨⟨_, rfl, (by decide +kernel), rk_mt 710 (by decide +kernel) rfl⟩, trivial, fun h => absurd h (by decide)⟩
theorem gk_l6_10 : gk_okr6 (33, 0, 5, 6) := ⟨⟨_, rfl, (by decide +kernel), rk_mt 712 (by decide +kernel) rfl⟩, trivial, fun h => absurd h (by decide)⟩
theorem gk_l6_11 : gk_okr6 (36, 0, 5, 7) := ⟨⟨_, rfl, (by decide +kernel), rk_mt 714 (by decide +kernel) rfl⟩, trivial, fun h => absurd h (by decide)⟩
theorem gk_l6_12 : gk_okr6 (39, 0, 5, 8) := ⟨⟨_, rfl, (by decide +kernel), rk_mt 716 (by decide +kernel) rfl⟩, trivial, fun h => absurd h (by decide)⟩
theorem gk_l6_13 : gk_okr6 (42, 0, 5, 9) := ⟨⟨_, rfl, (by decide +kernel), rk_mt 718 (by decide +kernel) rfl⟩, trivial, fun h => absurd h (by decide)⟩
theorem gk_l6_14 : gk_okr6 (45, 1, 9, 6) := ⟨⟨_, "GooseIce", rfl, (by decide +kernel), rk_mx 511 (by decide +kernel) rfl⟩, trivial, fun h => absurd h (by decide)⟩
theorem gk_l6_15 : gk_okr6 (50, 5, 73, 3) := ⟨trivial, ⟨_, rfl, rk_mt 1597 (by decide +kernel) rfl, rk_mt 1599 (by decide +kernel) rfl, rk_mt 113 (by decide +kernel) rfl, (by decide +kernel)⟩, fun h => absurd h (by decide)⟩
theorem gk_l6_16 : gk_okr6 (54, 5, 75, 2) := ⟨trivial, ⟨_, rfl, rk_mt 1629 (by decide +kernel) rfl, rk_mt 1631 (by decide +kernel) rfl, rk_mt 117 (by decide +kernel) rfl, (by decide +kernel)⟩, fun h => absurd h (by decide)⟩
theorem gk_l6_17 : gk_okr6 (58, 0, 5, 10) := ⟨⟨_, rfl, (by decide +kernel), rk_mt 720 (by decide +kernel) rfl⟩, trivial, fun h => absurd h (by decide)⟩
theorem gk_l6_18 : gk_okr6 (61, 1, 9, 0) := ⟨⟨_, "GooseIce", rfl, (by decide +kernel), rk_mx 493 (by decide +kernel) rfl⟩, trivial, fun h => absurd h (by decide)⟩
theorem gk_l6_19 : gk_okr6 (64, 1, 9, 2) := ⟨⟨_, "GooseIce", rfl, (by decide +kernel), rk_mx 499 (by decide +kernel) rfl⟩, trivial, fun h => absurd h (by decide)⟩
theorem gk_l6_20 : gk_okr6 (67, 1, 9, 3) := ⟨⟨_, "GooseIce", rfl, (by decide +kernel), rk_mx 502 (by decide +kernel) rfl⟩, trivial, fun h => absurd h (by decide)⟩
theorem gk_l6_21 : gk_okr6 (70, 5, 76, 3) := ⟨trivial, ⟨_, rfl, rk_mt 1601 (by decide +kernel) rfl, rk_mt 1603 (by decide +kernel) rfl, rk_mt 114 (by decide +kernel) rfl, (by decide +kernel)⟩, fun h => absurd h (by decide)⟩
theorem gk_l6_22 : gk_okr6 (74, 1, 3, 13) := ⟨⟨_, "GooseIce", rfl, (by decide +kernel), rk_mx 575 (by decide +kernel) rfl⟩, trivial, fun h => absurd h (by decide)⟩
theorem gk_l6_23 : gk_okr6 (79, 6, 49, 1) := ⟨trivial, ⟨_, "GooseIce", rfl, rk_mx 1611 (by decide +kernel) rfl, rk_mt 1214 (by decide +kernel) rfl, rk_mt 65 (by decide +kernel) rfl, (by decide +kernel)⟩, fun h => absurd h (by decide)⟩
theorem gk_l6_24 : gk_okr6 (83, 7, 372, 1) := ⟨trivial, ⟨_, rfl, rk_mt 1612 (by decide +kernel) rfl, rk_mt 1198 (by decide +kernel) rfl, (by decide +kernel)⟩, fun h => absurd h (by decide)⟩
theorem gk_l6_25 : gk_okr6 (88, 6, 56, 1) := ⟨trivial, ⟨_, "GooseIce", rfl, rk_mx 1613 (by decide +kernel) rfl, rk_mt 1269 (by decide +kernel) rfl, rk_mt 77 (by decide +kernel) rfl, (by decide +kernel)⟩, fun h => absurd h (by decide)⟩
theorem gk_l6_26 : gk_okr6 (91, 6, 57, 1) := ⟨trivial, ⟨_, "GooseIce", rfl, rk_mx 1614 (by decide +kernel) rfl, rk_mt 1280 (by decide +kernel) rfl, rk_mt 78 (by decide +kernel) rfl, (by decide +kernel)⟩, fun h => absurd h (by decide)⟩
theorem gk_l6_27 : gk_okr6 (95, 1, 3, 6) := ⟨⟨_, "GooseIce", rfl, (by decide +kernel), rk_mx 549 (by decide +kernel) rfl⟩, trivial, fun h => absurd h (by decide)⟩
theorem gk_l6_28 : gk_okr6 (99, 1, 0, 7) := ⟨⟨_, "GooseIce", rfl, (by decide +kernel), rk_mx 452 (by decide +kernel) rfl⟩, trivial, fun h => absurd h (by decide)⟩
theorem gk_l6_29 : gk_okr6 (102, 1, 3, 8) := ⟨⟨_, "GooseIce", rfl, (by decide +kernel), rk_mx 558 (by decide +kernel) rfl⟩, trivial, fun h => absurd h (by decide)⟩
theorem gk_l6_30 : gk_okr6 (105, 5, 77, 1) := ⟨trivial, ⟨_, rfl, rk_mt 1615 (by decide +kernel) rfl, rk_mt 1617 (by decide +kernel) rfl, rk_mt 115 (by decide +kernel) rfl, (by decide +kernel)⟩, fun h => absurd h (by decide)⟩
theorem gk_l6_31 : gk_okr6 (108, 7, 78, 3) := ⟨trivial, ⟨_, rfl, rk_mt 1620 (by decide +kernel) rfl, rk_mt 1621 (by decide +kernel) rfl, (by decide +kernel)⟩, fun h => absurd h (by decide)⟩
theorem gk_l6_32 : gk_okr6 (112, 1, 9, 5) := ⟨⟨_, "GooseIce", rfl, (by decide +kernel), rk_mx 509 (by decide +kernel) rfl⟩, trivial, fun h => absurd h (by decide)⟩
theorem gk_l6_33 : gk_okr6 (115, 5, 74, 2) := ⟨trivial, ⟨_, rfl, rk_mt 1625 (by decide +kernel) rfl, rk_mt 1627 (by decide +kernel) rfl, rk_mt 116 (by decide +kernel) rfl, (by decide +kernel)⟩, fun h => absurd h (by decide)⟩
theorem gk_l6_34 : gk_okr6 (119, 6, 3, 1) := ⟨trivial, ⟨_, "GooseIce", rfl, rk_mx 1605 (by decide +kernel) rfl, rk_mt 1110 (by decide +kernel) rfl, rk_mt 51 (by decide +kernel) rfl, (by decide +kernel)⟩, fun h => absurd h (by decide)⟩
theorem gk_l6_35 : gk_okr6 (123, 6, 34, 1) := ⟨trivial, ⟨_, "GooseIce", rfl, rk_mx 1606 (by decide +kernel) rfl, rk_mt 986 (by decide +kernel) rfl, rk_mt 30 (by decide +kernel) rfl, (by decide +kernel)⟩, fun h => absurd h (by decide)⟩
theorem gk_l6_36 : gk_okr6 (126, 6, 6, 1) := ⟨trivial, ⟨_, "GooseIce", rfl, rk_mx 1607 (by decide +kernel) rfl, rk_mt 1148 (by decide +kernel) rfl, rk_mt 55 (by decide +kernel) rfl, (by decide +kernel)⟩, fun h => absurd h (by decide)⟩
theorem gk_l6_37 : gk_okr6 (129, 1, 0, 2) := ⟨⟨_, "GooseIce", rfl, (by decide +kernel), rk_mx 444 (by decide +kernel) rfl⟩, trivial, fun h => absurd h (by decide)⟩
theorem gk_l6_38 : gk_okr6 (132, 6, 43, 1) := ⟨trivial, ⟨_, "GooseIce", rfl, rk_mx 1608 (by decide +kernel) rfl, rk_mt 1171 (by decide +kernel) rfl, rk_mt 59 (by decide +kernel) rfl, (by decide +kernel)⟩, fun h => absurd h (by decide)⟩
theorem gk_l6_39 : gk_okr6 (135, 6, 81, 4) := ⟨trivial, ⟨_, "GooseIce", rfl, rk_mx 1609 (by decide +kernel) rfl, rk_mt 1184 (by decide +kernel) rfl, rk_mt 62 (by decide +kernel) rfl, (by decide +kernel)⟩, fun h => absurd h (by decide)⟩
theorem gk_l6_40 : gk_okr6 (141, 1, 6, 0) := ⟨⟨_, "GooseIce", rfl, (by decide +kernel), rk_mx 614 (by decide +kernel) rfl⟩, trivial, fun h => absurd h (by decide)⟩
theorem gk_l6_41 : gk_okr6 (144, 1, 6, 4) := ⟨⟨_, "GooseIce", rfl, (by decide +kernel), rk_mx 621 (by decide +kernel) rfl⟩, trivial, fun h => absurd h (by decide)⟩
theorem gk_l6_42 : gk_okr6 (147, 6, 8, 3) := ⟨trivial, ⟨_, "GooseIce", rfl, rk_mx 1610 (by decide +kernel) rfl, rk_mt 1156 (by decide +kernel) rfl, rk_mt 57 (by decide +kernel) rfl, (by decide +kernel)⟩, fun h => absurd h (by decide)⟩
theorem gk_l6_43 : gk_okr6 (152, 1, 9, 1) := ⟨⟨_, "GooseIce", rfl, (by decide +kernel), rk_mx 497 (by decide +kernel) rfl⟩, trivial, fun h => absurd h (by decide)⟩
theorem gk_l6_44 : gk_okr6 (155, 6, 36, 1) := ⟨trivial, ⟨_, "GooseIce", rfl, rk_mx 1623 (by decide +kernel) rfl, rk_mt 1091 (by decide +kernel) rfl, rk_mt 48 (by decide +kernel) rfl, (by decide +kernel)⟩, fun h => absurd h (by decide)⟩
theorem gk_l6_45 : gk_okr6 (158, 6, 40, 1) := ⟨trivial, ⟨_, "GooseIce", rfl, rk_mx 1624 (by decide +kernel) rfl, rk_mt 1095 (by decide +kernel) rfl, rk_mt 49 (by decide +kernel) rfl, (by decide +kernel)⟩, fun h => absurd h (by decide)⟩
theorem gk_l6_46 : gk_okr6 (161, 1, 9, 4) := ⟨⟨_, "GooseIce", rfl, (by decide +kernel), rk_mx 506 (by decide +kernel) rfl⟩, trivial, fun h => absurd h (by decide)⟩
theorem gk_l6_47 : gk_okr6 (164, 1, 0, 8) := ⟨⟨_, "GooseIce", rfl, (by decide +kernel), rk_mx 458 (by decide +kernel) rfl⟩, trivial, fun h => absurd h (by decide)⟩
abbrev gk_okr7 (r : Nat × Nat × Nat × Nat) : Prop := rk_lok gk_tbl gk_xw gk_cl "GooseIce$Paths" r ∧ rk_cok gk_tbl gk_xw gk_MN gk_P "GooseIce$Paths" r ∧ rk_kok gk_tbl "GooseIce$Paths" r
theorem gk_l7_0 : gk_okr7 (3, 11, 0, 0) := ⟨trivial, ⟨rk_mt 612 (by decide +kernel) rfl, rk_mt 248 (by decide +kernel) rfl, rk_mt 249 (by decide +kernel) rfl⟩, fun h => absurd h (by decide)⟩
theorem gk_l7_1 : gk_okr7 (9, 0, 6, 0) := ⟨⟨_, rfl, (by decide +kernel), rk_mt 613 (by decide +kernel) rfl⟩, trivial, fun h => absurd h (by decide)⟩
theorem gk_l7_2 : gk_okr7 (9, 2, 6, 0) := ⟨⟨_, rfl, (by decide +kernel), rk_mt 613 (by decide +kernel) rfl, rfl⟩, trivial, fun h => absurd h (by decide)⟩
theorem gk_l7_3 : gk_okr7 (15, 0, 6, 1) := ⟨⟨_, rfl, (by decide +kernel), rk_mt 616 (by decide +kernel) rfl⟩, trivial, fun h => absurd h (by decide)⟩
theorem gk_l7_4 : gk_okr7 (15, 2, 6, 1) := ⟨⟨_, rfl, (by decide +kernel), rk_mt 616 (by decide +kernel) rfl, rfl⟩, trivial, fun h => absurd h (by decide)⟩
theorem gk_l7_5 : gk_okr7 (18, 0, 6, 2) := ⟨⟨_, rfl, (by decide +kernel), rk_mt 617 (by decide +kernel) rfl⟩, trivial, fun h => absurd h (by decide)⟩
theorem gk_l7_6 : gk_okr7 (18, 2, 6, 2) := ⟨⟨_, rfl, (by decide +kernel), rk_mt 617 (by decide +kernel) rfl, rfl⟩, trivial, fun h => absurd h (by decide)⟩
theorem gk_l7_7 : gk_okr7 (21, 0, 6, 3) := ⟨⟨_, rfl, (by decide +kernel), rk_mt 618 (by decide +kernel) rfl⟩, trivial, fun h => absurd h (by decide)⟩
theorem gk_l7_8 : gk_okr7 (21, 2, 6, 3) := ⟨⟨_, rfl, (by decide +kernel), rk_mt 618 (by decide +kernel) rfl, rfl⟩, trivial, fun h => absurd h (by decide)⟩
theorem gk_l7_9 : gk_okr7 (24, 0, 6, 4) := ⟨⟨_, rfl, (by decide +kernel), rk_mt 620 (by decide +kernel) rfl⟩, trivial, fun h => absurd h (by decide)⟩
theorem gk_l7_10 : gk_okr7 (28, 5, 82, 4) := ⟨trivial, ⟨_, rfl, rk_mt 1186 (by decide +kernel) rfl, rk_mt 1188 (by decide +kernel) rfl, rk_mt 63 (by decide +kernel) rfl, (by decide +kernel)⟩, fun h => absurd h (by decide)⟩
theorem gk_l7_11 : gk_okr7 (32, 1, 3, 1) := ⟨⟨_, "GooseIce", rfl, (by decide +kernel), rk_mx 536 (by decide +kernel) rfl⟩, trivial, fun h => absurd h (by decide)⟩
theorem gk_l7_12 : gk_okr7 (37, 8, 200, 1) := ⟨trivial, ⟨_, "GooseIce", rfl, rk_mx 1194 (by decide +kernel) rfl, rk_mt 1195 (by decide +kernel) rfl, (by decide +kernel)⟩, fun h => absurd h (by decide)⟩
theorem gk_l7_13 : gk_okr7 (41, 6, 34, 1) := ⟨trivial, ⟨_, "GooseIce", rfl, rk_mx 1203 (by decide +kernel) rfl, rk_mt 986 (by decide +kernel) rfl, rk_mt 30 (by decide +kernel) rfl, (by decide +kernel)⟩, fun h => absurd h (by decide)⟩
theorem gk_l7_14 : gk_okr7 (45, 6, 46, 1) := ⟨trivial, ⟨_, "GooseIce", rfl, rk_mx 1190 (by decide +kernel) rfl, rk_mt 1192 (by decide +kernel) rfl, rk_mt 64 (by decide +kernel) rfl, (by decide +kernel)⟩, fun h => absurd h (by decide)⟩
theorem gk_l7_15 : gk_okr7 (48, 1, 3, 6) := ⟨⟨_, "GooseIce", rfl, (by decide +kernel), rk_mx 551 (by decide +kernel) rfl⟩, trivial, fun h => absurd h (by decide)⟩
theorem gk_l7_16 : gk_okr7 (52, 1, 0, 2) := ⟨⟨_, "GooseIce", rfl, (by decide +kernel), rk_mx 442 (by decide +kernel) rfl⟩, trivial, fun h => absurd h (by decide)⟩
theorem gk_l7_17 : gk_okr7 (57, 1, 3, 8) := ⟨⟨_, "GooseIce", rfl, (by decide +kernel), rk_mx 560 (by decide +kernel) rfl⟩, trivial, fun h => absurd h (by decide)⟩
theorem gk_l7_18 : gk_okr7 (60, 6, 42, 2) := ⟨trivial, ⟨_, "GooseIce", rfl, rk_mx 1341 (by decide +kernel) rfl, rk_mt 1179 (by decide +kernel) rfl, rk_mt 61 (by decide +kernel) rfl, (by decide +kernel)⟩, fun h => absurd h (by decide)⟩
theorem gk_l7_19 : gk_okr7 (64, 0, 6, 5) := ⟨⟨_, rfl, (by decide +kernel), rk_mt 623 (by decide +kernel) rfl⟩, trivial, fun h => absurd h (by decide)⟩
theorem gk_l7_20 : gk_okr7 (67, 5, 84, 2) := ⟨trivial, ⟨_, rfl, rk_mt 1342 (by decide +kernel) rfl, rk_mt 1344 (by decide +kernel) rfl, rk_mt 84 (by decide +kernel) rfl, (by decide +kernel)⟩, fun h => absurd h (by decide)⟩
theorem gk_l7_21 : gk_okr7 (71, 6, 47, 2) := ⟨trivial, ⟨_, "GooseIce", rfl, rk_mx 1346 (by decide +kernel) rfl, rk_mt 1348 (by decide +kernel) rfl, rk_mt 85 (by decide +kernel) rfl, (by decide +kernel)⟩, fun h => absurd h (by decide)⟩
theorem gk_l7_22 : gk_okr7 (74, 5, 81, 4) := ⟨trivial, ⟨_, rfl, rk_mt 1351 (by decide +kernel) rfl, rk_mt 1184 (by decide +kernel) rfl, rk_mt 62 (by decide +kernel) rfl, (by decide +kernel)⟩, fun h => absurd h (by decide)⟩
theorem gk_l7_23 : gk_okr7 (78, 6, 43, 1) := ⟨trivial, ⟨_, "GooseIce", rfl, rk_mx 1373 (by decide +kernel) rfl, rk_mt 1171 (by decide +kernel) rfl, rk_mt 59 (by decide +kernel) rfl, (by decide +kernel)⟩, fun h => absurd h (by decide)⟩
theorem gk_l7_24 : gk_okr7 (81, 1, 3, 9) := ⟨⟨_, "GooseIce", rfl, (by decide +kernel), rk_mx 563 (by decide +kernel) rfl⟩, trivial, fun h => absurd h (by decide)⟩
theorem gk_l7_25 : gk_okr7 (84, 7, 372, 1) := ⟨trivial, ⟨_, rfl, rk_mt 1374 (by decide +kernel) rfl, rk_mt 1198 (by decide +kernel) rfl, (by decide +kernel)⟩, fun h => absurd h (by decide)⟩
theorem gk_l7_26 : gk_okr7 (89, 1, 0, 7) := ⟨⟨_, "GooseIce", rfl, (by decide +kernel), rk_mx 455 (by decide +kernel) rfl⟩, trivial, fun h => absurd h (by decide)⟩
theorem gk_l7_27 : gk_okr7 (92, 1, 0, 1) := ⟨⟨_, "GooseIce", rfl, (by decide +kernel), rk_mx 439 (by decide +kernel) rfl⟩, trivial, fun h => absurd h (by decide)⟩
theorem gk_l7_28 : gk_okr7 (95, 7, 87, 2) := ⟨trivial, ⟨_, rfl, rk_mt 1530 (by decide +kernel) rfl, rk_mt 1531 (by decide +kernel) rfl, (by decide +kernel)⟩, fun h => absurd h (by decide)⟩
theorem gk_l7_29 : gk_okr7 (98, 5, 88, 3) := ⟨trivial, ⟨_, rfl, rk_mt 1535 (by decide +kernel) rfl, rk_mt 1537 (by decide +kernel) rfl, rk_mt 104 (by decide +kernel) rfl, (by decide +kernel)⟩, fun h => absurd h (by decide)⟩
theorem gk_l7_30 : gk_okr7 (102, 6, 36, 1) := ⟨trivial, ⟨_, "GooseIce", rfl, rk_mx 1533 (by decide +kernel) rfl, rk_mt 1091 (by decide +kernel) rfl, rk_mt 48 (by decide +kernel) rfl, (by decide +kernel)⟩, fun h => absurd h (by decide)⟩
theorem gk_l7_31 : gk_okr7 (105, 6, 40, 1) := ⟨trivial, ⟨_, "GooseIce", rfl, rk_mx 1534 (by decide +kernel) rfl, rk_mt 1095 (by decide +kernel) rfl, rk_mt 49 (by decide +kernel) rfl, (by decide +kernel)⟩, fun h => absurd h (by decide)⟩
theorem gk_l7_32 : gk_okr7 (108, 6, 35, 1) := ⟨trivial, ⟨_, "GooseIce", rfl, rk_mx 1539 (by decide +kernel) rfl, rk_mt 982 (by decide +kernel) rfl, rk_mt 29 (by decide +kernel) rfl, (by decide +kernel)⟩, fun h => absurd h (by decide)⟩
theorem gk_l7_33 : gk_okr7 (111, 5, 89, 4) := ⟨trivial, ⟨_, rfl, rk_mt 1540 (by decide +kernel) rfl, rk_mt 1542 (by decide +kernel) rfl, rk_mt 105 (by decide +kernel) rfl, (by decide +kernel)⟩, fun h => absurd h (by decide)⟩
theorem gk_l7_34 : gk_okr7 (114, 5, 90, 3) := ⟨trivial, ⟨_, rfl, rk_mt 1544 (by decide +kernel) rfl, rk_mt 1546 (by decide +kernel) rfl, rk_mt 106 (by decide +kernel) rfl, (by decide +kernel)⟩, fun h => absurd h (by decide)⟩
abbrev gk_okr8 (r : Nat × Nat × Nat × Nat) : Prop := rk_lok gk_tbl gk_xw gk_cl "GooseIce$Queue" r ∧ rk_cok gk_tbl gk_xw gk_MN gk_P "GooseIce$Queue" r ∧ rk_kok gk_tbl "GooseIce$Queue" r
theorem gk_l8_0 : gk_okr8 (3, 11, 0, 0) := ⟨trivial, ⟨rk_mt 643 (by decide +kernel) rfl, rk_mt 248 (by decide +kernel) rfl, rk_mt 249 (by decide +kernel) rfl⟩, fun h => absurd h (by decide)⟩
theorem gk_l8_1 : gk_okr8 (9, 3, 3, 0) := ⟨⟨_, rfl, rk_mt 644 (by decide +kernel) rfl, rk_mt 388 (by decide +kernel) rfl, rk_mt 229 (by decide +kernel) rfl⟩, trivial, fun h => absurd h (by decide)⟩
theorem gk_l8_2 : gk_okr8 (9, 4, 3, 0) := ⟨⟨_, rfl, rk_mt 644 (by decide +kernel) rfl, rk_mx 606 (by decide +kernel) rfl⟩, trivial, fun h => absurd h (by decide)⟩
theorem gk_l8_3 : gk_okr8 (11, 0, 7, 0) := ⟨⟨_, rfl, (by decide +kernel), rk_mt 646 (by decide +kernel) rfl⟩, trivial, fun h => absurd h (by decide)⟩
theorem gk_l8_4 : gk_okr8 (11, 2, 7, 0) := ⟨⟨_, rfl, (by decide +kernel), rk_mt 646 (by decide +kernel) rfl, rfl⟩, trivial, fun h => absurd h (by decide)⟩
theorem gk_l8_5 : gk_okr8 (17, 0, 7, 1) := ⟨⟨_, rfl, (by decide +kernel), rk_mt 647 (by decide +kernel) rfl⟩, trivial, fun h => absurd h (by decide)⟩
theorem gk_l8_6 : gk_okr8 (17, 2, 7, 1) := ⟨⟨_, rfl, (by decide +kernel), rk_mt 647 (by decide +kernel) rfl, rfl⟩, trivial, fun h => absurd h (by decide)⟩
theorem gk_l8_7 : gk_okr8 (21, 0, 7, 2) := ⟨⟨_, rfl, (by decide +kernel), rk_mt 648 (by decide +kernel) rfl⟩, trivial, fun h => absurd h (by decide)⟩
theorem gk_l8_8 : gk_okr8 (21, 2, 7, 2) := ⟨⟨_, rfl, (by decide +kernel), rk_mt 648 (by decide +kernel) rfl, rfl⟩, trivial, fun h => absurd h (by decide)⟩
theorem gk_l8_9 : gk_okr8 (24, 0, 7, 3) := ⟨⟨_, rfl, (by decide +kernel), rk_mt 649 (by decide +kernel) rfl⟩, trivial, fun h => absurd h (by decide)⟩
theorem gk_l8_10 : gk_okr8 (24, 2, 7, 3) := ⟨⟨_, rfl, (by decide +kernel), rk_mt 649 (by decide +kernel) rfl, rfl⟩, trivial, fun h => absurd h (by decide)⟩
theorem gk_l8_11 : gk_okr8 (27, 0, 7, 4) := ⟨⟨_, rfl, (by decide +kernel), rk_mt 650 (by decide +kernel) rfl⟩, trivial, fun h => absurd h (by decide)⟩
theorem gk_l8_12 : gk_okr8 (27, 2, 7, 4) := ⟨⟨_, rfl, (by decide +kernel), rk_mt 650 (by decide +kernel) rfl, rfl⟩, trivial, fun h => absurd h (by decide)⟩
theorem gk_l8_13 : gk_okr8 (30, 0, 7, 5) := ⟨⟨_, rfl, (by decide +kernel), rk_mt 652 (by decide +kernel) rfl⟩, trivial, fun h => absurd h (by decide)⟩
theorem gk_l8_14 : gk_okr8 (30, 2, 7, 5) := ⟨⟨_, rfl, (by decide +kernel), rk_mt 652 (by decide +kernel) rfl, rfl⟩, trivial, fun h => absurd h (by decide)⟩
theorem gk_l8_15 : gk_okr8 (33, 0, 7, 6) := ⟨⟨_, rfl, (by decide +kernel), rk_mt 654 (by decide +kernel) rfl⟩, trivial, fun h => absurd h (by decide)⟩
theorem gk_l8_16 : gk_okr8 (33, 2, 7, 6) := ⟨⟨_, rfl, (by decide +kernel), rk_mt 654 (by decide +kernel) rfl, rfl⟩, trivial, fun h => absurd h (by decide)⟩
theorem gk_l8_17 : gk_okr8 (36, 10, 29, 0) := ⟨trivial, ⟨_, "GooseIce", rfl, (fun M hM => by cases hM; rfl), rk_mx 645 (by decide +kernel) rfl, rk_mt 390 (by decide +kernel) rfl, rfl, (by decide +kernel)⟩, fun h => absurd h (by decide)⟩
theorem gk_l8_18 : gk_okr8 (37, 7, 93, 3) := ⟨trivial, ⟨_, rfl, rk_mt 1430 (by decide +kernel) rfl, rk_mt 1431 (by decide +kernel) rfl, (by decide +kernel)⟩, fun h => absurd h (by decide)⟩
theorem gk_l8_19 : gk_okr8 (41, 12, 0, 0) := ⟨trivial, trivial, fun _ => ⟨rk_mt 1433 (by decide +kernel) rfl, rk_mt 864 (by decide +kernel) rfl, rk_mt 863 (by decide +kernel) rfl, rk_mt 239 (by decide +kernel) rfl⟩⟩
theorem gk_l8_20 : gk_okr8 (47, 0, 7, 10) := ⟨⟨_, rfl, (by decide +kernel), rk_mt 659 (by decide +kernel) rfl⟩, trivial, fun h => absurd h (by decide)⟩
theorem gk_l8_21 : gk_okr8 (52, 0, 7, 8) := ⟨⟨_, rfl, (by decide +kernel), rk_mt 657 (by decide +kernel) rfl⟩, trivial, fun h => absurd h (by decide)⟩
theorem gk_l8_22 : gk_okr8 (55, 5, 94, 1) := ⟨trivial, ⟨_, rfl, rk_mt 1435 (by decide +kernel) rfl, rk_mt 1437 (by decide +kernel) rfl, rk_mt 94 (by decide +kernel) rfl, (by decide +kernel)⟩, fun h => absurd h (by decide)⟩
theorem gk_l8_23 : gk_okr8 (59, 0, 7, 9) := ⟨⟨_, rfl, (by decide +kernel), rk_mt 658 (by decide +kernel) rfl⟩, trivial, fun h => absurd h (by decide)⟩
theorem gk_l8_24 : gk_okr8 (62, 5, 95, 1) := ⟨trivial, ⟨_, rfl, rk_mt 1439 (by decide +kernel) rfl, rk_mt 1441 (by decide +kernel) rfl, rk_mt 95 (by decide +kernel) rfl, (by decide +kernel)⟩, fun h => absurd h (by decide)⟩
theorem gk_l8_25 : gk_okr8 (66, 5, 96, 1) := ⟨trivial, ⟨_, rfl, rk_mt 1443 (by decide +kernel) rfl, rk_mt 1445 (by decide +kernel) rfl, rk_mt 96 (by decide +kernel) rfl, (by decide +kernel)⟩, fun h => absurd h (by decide)⟩
theorem gk_l8_26 : gk_okr8 (70, 1, 3, 5) := ⟨⟨_, "GooseIce", rfl, (by decide +kernel), rk_mx 546 (by decide +kernel) rfl⟩, trivial, fun h => absurd h (by decide)⟩
theorem gk_l8_27 : gk_okr8 (74, 1, 2, 5) := ⟨⟨_, "GooseIce", rfl, (by decide +kernel), rk_mx 413 (by decide +kernel) rfl⟩, trivial, fun h => absurd h (by decide)⟩
theorem gk_l8_28 : gk_okr8 (79, 6, 31, 1) := ⟨trivial, ⟨_, "GooseIce", rfl, rk_mx 1447 (by decide +kernel) rfl, rk_mt 1007 (by decide +kernel) rfl, rk_mt 35 (by decide +kernel) rfl, (by decide +kernel)⟩, fun h => absurd h (by decide)⟩
theorem gk_l8_29 : gk_okr8 (82, 1, 3, 6) := ⟨⟨_, "GooseIce", rfl, (by decide +kernel), rk_mx 552 (by decide +kernel) rfl⟩, trivial, fun h => absurd h (by decide)⟩
theorem gk_l8_30 : gk_okr8 (86, 1, 0, 9) := ⟨⟨_, "GooseIce", rfl, (by decide +kernel), rk_mx 462 (by decide +kernel) rfl⟩, trivial, fun h => absurd h (by decide)⟩
theorem gk_l8_31 : gk_okr8 (91, 6, 8, 3) := ⟨trivial, ⟨_, "GooseIce", rfl, rk_mx 1448 (by decide +kernel) rfl, rk_mt 1156 (by decide +kernel) rfl, rk_mt 57 (by decide +kernel) rfl, (by decide +kernel)⟩, fun h => absurd h (by decide)⟩
theorem gk_l8_32 : gk_okr8 (95, 6, 50, 0) := ⟨trivial, ⟨_, "GooseIce", rfl, rk_mx 1449 (by decide +kernel) rfl, rk_mt 1218 (by decide +kernel) rfl, rk_mt 66 (by decide +kernel) rfl, (by decide +kernel)⟩, fun h => absurd h (by decide)⟩
theorem gk_l8_33 : gk_okr8 (99, 5, 97, 2) := ⟨trivial, ⟨_, rfl, rk_mt 1450 (by decide +kernel) rfl, rk_mt 1452 (by decide +kernel) rfl, rk_mt 97 (by decide +kernel) rfl, (by decide +kernel)⟩, fun h => absurd h (by decide)⟩
theorem gk_l8_34 : gk_okr8 (103, 5, 98, 2) := ⟨trivial, ⟨_, rfl, rk_mt 1454 (by decide +kernel) rfl, rk_mt 1456 (by decide +kernel) rfl, rk_mt 98 (by decide +kernel) rfl, (by decide +kernel)⟩, fun h => absurd h (by decide)⟩
theorem gk_l8_35 : gk_okr8 (107, 0, 7, 7) := ⟨⟨_, rfl, (by decide +kernel), rk_mt 655 (by decide +kernel) rfl⟩, trivial, fun h => absurd h (by decide)⟩
abbrev gk_okr9 (r : Nat × Nat × Nat × Nat) : Prop := rk_lok gk_tbl gk_xw gk_cl "GooseIce$Reader" r ∧ rk_cok gk_tbl gk_xw gk_MN gk_P "GooseIce$Reader" r ∧ rk_kok gk_tbl "GooseIce$Reader" r
theorem gk_l9_0 : gk_okr9 (3, 11, 0, 0) := ⟨trivial, ⟨rk_mt 257 (by decide +kernel) rfl, rk_mt 248 (by decide +kernel) rfl, rk_mt 249 (by decide +kernel) rfl⟩, fun h => absurd h (by decide)⟩
theorem gk_l9_1 : gk_okr9 (9, 0, 8, 0) := ⟨⟨_, rfl, (by decide +kernel), rk_mt 308 (by decide +kernel) rfl⟩, trivial, fun h => absurd h (by decide)⟩
theorem gk_l9_2 : gk_okr9 (9, 2, 8, 0) := ⟨⟨_, rfl, (by decide +kernel), rk_mt 308 (by decide +kernel) rfl, rfl⟩, trivial, fun h => absurd h (by decide)⟩
theorem gk_l9_3 : gk_okr9 (15, 0, 8, 1) := ⟨⟨_, rfl, (by decide +kernel), rk_mt 309 (by decide +kernel) rfl⟩, trivial, fun h => absurd h (by decide)⟩
theorem gk_l9_4 : gk_okr9 (15, 2, 8, 1) := ⟨⟨_, rfl, (by decide +kernel), rk_mt 309 (by decide +kernel) rfl, rfl⟩, trivial, fun h => absurd h (by decide)⟩
theorem gk_l9_5 : gk_okr9 (19, 0, 8, 10) := ⟨⟨_, rfl, (by decide +kernel), rk_mt 324 (by decide +kernel) rfl⟩, trivial, fun h => absurd h (by decide)⟩
theorem gk_l9_6 : gk_okr9 (23, 0, 8, 11) := ⟨⟨_, rfl, (by decide +kernel), rk_mt 328 (by decide +kernel) rfl⟩, trivial, fun h => absurd h (by decide)⟩
theorem gk_l9_7 : gk_okr9 (28, 5, 377, 0) := ⟨trivial, ⟨_, rfl, rk_mt 259 (by decide +kernel) rfl, rk_mt 260 (by decide +kernel) rfl, rk_mt 261 (by decide +kernel) rfl, (by decide +kernel)⟩, fun h => absurd h (by decide)⟩
theorem gk_l9_8 : gk_okr9 (34, 5, 378, 1) := ⟨trivial, ⟨_, rfl, rk_mt 269 (by decide +kernel) rfl, rk_mt 270 (by decide +kernel) rfl, rk_mt 271 (by decide +kernel) rfl, (by decide +kernel)⟩, fun h => absurd h (by decide)⟩
theorem gk_l9_9 : gk_okr9 (40, 0, 8, 2) := ⟨⟨_, rfl, (by decide +kernel), rk_mt 310 (by decide +kernel) rfl⟩, trivial, fun h => absurd h (by decide)⟩
theorem gk_l9_10 : gk_okr9 (43, 0, 8, 3) := ⟨⟨_, rfl, (by decide +kernel), rk_mt 312 (by decide +kernel) rfl⟩, trivial, fun h => absurd h (by decide)⟩
theorem gk_l9_11 : gk_okr9 (45, 0, 8, 5) := ⟨⟨_, rfl, (by decide +kernel), rk_mt 314 (by decide +kernel) rfl⟩, trivial, fun h => absurd h (by decide)⟩
theorem gk_l9_12 : gk_okr9 (48, 5, 104, 0) := ⟨trivial, ⟨_, rfl, rk_mt 885 (by decide +kernel) rfl, rk_mt 887 (by decide +kernel) rfl, rk_mt 7 (by decide +kernel) rfl, (by decide +kernel)⟩, fun h => absurd h (by decide)⟩
theorem gk_l9_13 : gk_okr9 (51, 5, 103, 1) := ⟨trivial, ⟨_, rfl, rk_mt 889 (by decide +kernel) rfl, rk_mt 891 (by decide +kernel) rfl, rk_mt 8 (by decide +kernel) rfl, (by decide +kernel)⟩, fun h => absurd h (by decide)⟩
theorem gk_l9_14 : gk_okr9 (55, 0, 8, 4) := ⟨⟨_, rfl, (by decide +kernel), rk_mt 313 (by decide +kernel) rfl⟩, trivial, fun h => absurd h (by decide)⟩
theorem gk_l9_15 : gk_okr9 (58, 0, 8, 7) := ⟨⟨_, rfl, (by decide +kernel), rk_mt 320 (by decide +kernel) rfl⟩, trivial, fun h => absurd h (by decide)⟩
theorem gk_l9_16 : gk_okr9 (61, 0, 8, 6) := ⟨⟨_, rfl, (by decide +kernel), rk_mt 317 (by decide +kernel) rfl⟩, trivial, fun h => absurd h (by decide)⟩
theorem gk_l9_17 : gk_okr9 (64, 5, 105, 0) := ⟨trivial, ⟨_, rfl, rk_mt 893 (by decide +kernel) rfl, rk_mt 895 (by decide +kernel) rfl, rk_mt 9 (by decide +kernel) rfl, (by decide +kernel)⟩, fun h => absurd h (by decide)⟩
theorem gk_l9_18 : gk_okr9 (67, 5, 106, 0) := ⟨trivial, ⟨_, rfl, rk_mt 897 (by decide +kernel) rfl, rk_mt 899 (by decide +kernel) rfl, rk_mt 10 (by decide +kernel) rfl, (by decide +kernel)⟩, fun h => absurd h (by decide)⟩
theorem gk_l9_19 : gk_okr9 (70, 0, 8, 9) := ⟨⟨_, rfl, (by decide +kernel), rk_mt 322 (by decide +kernel) rfl⟩, trivial, fun h => absurd h (by decide)⟩
theorem gk_l9_20 : gk_okr9 (73, 0, 8, 8) := ⟨⟨_, rfl, (by decide +kernel), rk_mt 321 (by decide +kernel) rfl⟩, trivial, fun h => absurd h (by decide)⟩
theorem gk_l9_21 : gk_okr9 (77, 5, 107, 1) := ⟨trivial, ⟨_, rfl, rk_mt 945 (by decide +kernel) rfl, rk_mt 930 (by decide +kernel) rfl, rk_mt 17 (by decide +kernel) rfl, (by decide +kernel)⟩, fun h => absurd h (by decide)⟩
theorem gk_l9_22 : gk_okr9 (81, 5, 108, 0) := ⟨trivial, ⟨_, rfl, rk_mt 941 (by decide +kernel) rfl, rk_mt 943 (by decide +kernel) rfl, rk_mt 20 (by decide +kernel) rfl, (by decide +kernel)⟩, fun h => absurd h (by decide)⟩
theorem gk_l9_23 : gk_okr9 (84, 5, 112, 0) := ⟨trivial, ⟨_, rfl, rk_mt 978 (by decide +kernel) rfl, rk_mt 939 (by decide +kernel) rfl, rk_mt 19 (by decide +kernel) rfl, (by decide +kernel)⟩, fun h => absurd h (by decide)⟩
theorem gk_l9_24 : gk_okr9 (88, 6, 38, 1) := ⟨trivial, ⟨_, "GooseIce", rfl, rk_mx 979 (by decide +kernel) rfl, rk_mt 948 (by decide +kernel) rfl, rk_mt 21 (by decide +kernel) rfl, (by decide +kernel)⟩, fun h => absurd h (by decide)⟩
theorem gk_l9_25 : gk_okr9 (94, 1, 3, 6) := ⟨⟨_, "GooseIce", rfl, (by decide +kernel), rk_mx 554 (by decide +kernel) rfl⟩, trivial, fun h => absurd h (by decide)⟩
theorem gk_l9_26 : gk_okr9 (98, 6, 5, 1) := ⟨trivial, ⟨_, "GooseIce", rfl, rk_mx 1061 (by decide +kernel) rfl, rk_mt 952 (by decide +kernel) rfl, rk_mt 22 (by decide +kernel) rfl, (by decide +kernel)⟩, fun h => absurd h (by decide)⟩
abbrev gk_okr10 (r : Nat × Nat × Nat × Nat) : Prop := rk_lok gk_tbl gk_xw gk_cl "GooseIce$Tales" r ∧ rk_cok gk_tbl gk_xw gk_MN gk_P "GooseIce$Tales" r ∧ rk_kok gk_tbl "GooseIce$Tales" r
theorem gk_l10_0 : gk_okr10 (3, 11, 0, 0) := ⟨trivial, ⟨rk_mt 491 (by decide +kernel) rfl, rk_mt 248 (by decide +kernel) rfl, rk_mt 249 (by decide +kernel) rfl⟩, fun h => absurd h (by decide)⟩
theorem gk_l10_1 : gk_okr10 (9, 0, 9, 0) := ⟨⟨_, rfl, (by decide +kernel), rk_mt 492 (by decide +kernel) rfl⟩, trivial, fun h => absurd h (by decide)⟩
theorem gk_l10_2 : gk_okr10 (9, 2, 9, 0) := ⟨⟨_, rfl, (by decide +kernel), rk_mt 492 (by decide +kernel) rfl, rfl⟩, trivial, fun h => absurd h (by decide)⟩
theorem gk_l10_3 : gk_okr10 (15, 0, 9, 1) := ⟨⟨_, rfl, (by decide +kernel), rk_mt 495 (by decide +kernel) rfl⟩, trivial, fun h => absurd h (by decide)⟩
theorem gk_l10_4 : gk_okr10 (15, 2, 9, 1) := ⟨⟨_, rfl, (by decide +kernel), rk_mt 495 (by decide +kernel) rfl, rfl⟩, trivial, fun h => absurd h (by decide)⟩
theorem gk_l10_5 : gk_okr10 (18, 0, 9, 2) := ⟨⟨_, rfl, (by decide +kernel), rk_mt 498 (by decide +kernel) rfl⟩, trivial, fun h => absurd h (by decide)⟩
theorem gk_l10_6 : gk_okr10 (18, 2, 9, 2) := ⟨⟨_, rfl, (by decide +kernel), rk_mt 498 (by decide +kernel) rfl, rfl⟩, trivial, fun h => absurd h (by decide)⟩
theorem gk_l10_7 : gk_okr10 (21, 0, 9, 3) := ⟨⟨_, rfl, (by decide +kernel), rk_mt 501 (by decide +kernel) rfl⟩, trivial, fun h => absurd h (by decide)⟩
theorem gk_l10_8 : gk_okr10 (21, 2, 9, 3) := ⟨⟨_, rfl, (by decide +kernel), rk_mt 501 (by decide +kernel) rfl, rfl⟩, trivial, fun h => absurd h (by decide)⟩
theorem gk_l10_9 : gk_okr10 (24, 0, 9, 4) := ⟨⟨_, rfl, (by decide +kernel), rk_mt 504 (by decide +kernel) rfl⟩, trivial, fun h => absurd h (by decide)⟩
theorem gk_l10_10 : gk_okr10 (24, 2, 9, 4) := ⟨⟨_, rfl, (by decide +kernel), rk_mt 504 (by decide +kernel) rfl, rfl⟩, trivial, fun h => absurd h (by decide)⟩
theorem gk_l10_11 : gk_okr10 (27, 0, 9, 5) := ⟨⟨_, rfl, (by decide +kernel), rk_mt 507 (by decide +kernel) rfl⟩, trivial, fun h => absurd h (by decide)⟩
theorem gk_l10_12 : gk_okr10 (27, 2, 9, 5) := ⟨⟨_, rfl, (by decide +kernel), rk_mt 507 (by decide +kernel) rfl, rfl⟩, trivial, fun h => absurd h (by decide)⟩
theorem gk_l10_13 : gk_okr10 (30, 0, 9, 6) := ⟨⟨_, rfl, (by decide +kernel), rk_mt 510 (by decide +kernel) rfl⟩, trivial, fun h => absurd h (by decide)⟩
theorem gk_l10_14 : gk_okr10 (34, 0, 9, 7) := ⟨⟨_, rfl, (by decide +kernel), rk_mt 515 (by decide +kernel) rfl⟩, trivial, fun h => absurd h (by decide)⟩
theorem gk_l10_15 : gk_okr10 (38, 12, 0, 0) := ⟨trivial, trivial, fun _ => ⟨rk_mt 1076 (by decide +kernel) rfl, rk_mt 864 (by decide +kernel) rfl, rk_mt 863 (by decide +kernel) rfl, rk_mt 239 (by decide +kernel) rfl⟩⟩
abbrev gk_okr11 (r : Nat × Nat × Nat × Nat) : Prop := rk_lok gk_tbl gk_xw gk_cl "GooseIce$TalesText" r ∧ rk_cok gk_tbl gk_xw gk_MN gk_P "GooseIce$TalesText" r ∧ rk_kok gk_tbl "GooseIce$TalesText" r
theorem gk_l11_0 : gk_okr11 (3, 11, 0, 0) := ⟨trivial, ⟨rk_mt 376 (by decide +kernel) rfl, rk_mt 248 (by decide +kernel) rfl, rk_mt 249 (by decide +kernel) rfl⟩, fun h => absurd h (by decide)⟩
theorem gk_l11_1 : gk_okr11 (9, 0, 10, 1) := ⟨⟨_, rfl, (by decide +kernel), rk_mt 378 (by decide +kernel) rfl⟩, trivial, fun h => absurd h (by decide)⟩
theorem gk_l11_2 : gk_okr11 (9, 2, 10, 1) := ⟨⟨_, rfl, (by decide +kernel), rk_mt 378 (by decide +kernel) rfl, rfl⟩, trivial, fun h => absurd h (by decide)⟩
theorem gk_l11_3 : gk_okr11 (15, 0, 10, 0) := ⟨⟨_, rfl, (by decide +kernel), rk_mt 377 (by decide +kernel) rfl⟩, trivial, fun h => absurd h (by decide)⟩
theorem gk_l11_4 : gk_okr11 (15, 2, 10, 0) := ⟨⟨_, rfl, (by decide +kernel), rk_mt 377 (by decide +kernel) rfl, rfl⟩, trivial, fun h => absurd h (by decide)⟩
theorem gk_l11_5 : gk_okr11 (19, 6, 116, 0) := ⟨trivial, ⟨_, "GooseIce", rfl, rk_mx 1036 (by decide +kernel) rfl, rk_mt 1022 (by decide +kernel) rfl, rk_mt 38 (by decide +kernel) rfl, (by decide +kernel)⟩, fun h => absurd h (by decide)⟩
theorem gk_l11_6 : gk_okr11 (24, 1, 9, 7) := ⟨⟨_, "GooseIce", rfl, (by decide +kernel), rk_mx 514 (by decide +kernel) rfl⟩, trivial, fun h => absurd h (by decide)⟩
theorem gk_l11_7 : gk_okr11 (28, 0, 10, 2) := ⟨⟨_, rfl, (by decide +kernel), rk_mt 379 (by decide +kernel) rfl⟩, trivial, fun h => absurd h (by decide)⟩
theorem gk_l11_8 : gk_okr11 (32, 1, 8, 10) := ⟨⟨_, "GooseIce", rfl, (by decide +kernel), rk_mx 326 (by decide +kernel) rfl⟩, trivial, fun h => absurd h (by decide)⟩
theorem gk_l11_9 : gk_okr11 (37, 1, 8, 6) := ⟨⟨_, "GooseIce", rfl, (by decide +kernel), rk_mx 316 (by decide +kernel) rfl⟩, trivial, fun h => absurd h (by decide)⟩
theorem gk_l11_10 : gk_okr11 (40, 1, 8, 7) := ⟨⟨_, "GooseIce", rfl, (by decide +kernel), rk_mx 318 (by decide +kernel) rfl⟩, trivial, fun h => absurd h (by decide)⟩
theorem gk_l11_11 : gk_okr11 (43, 5, 120, 1) := ⟨trivial, ⟨_, rfl, rk_mt 1037 (by decide +kernel) rfl, rk_mt 1039 (by decide +kernel) rfl, rk_mt 41 (by decide +kernel) rfl, (by decide +kernel)⟩, fun h => absurd h (by decide)⟩
theorem gk_l11_12 : gk_okr11 (47, 5, 122, 2) := ⟨trivial, ⟨_, rfl, rk_mt 1043 (by decide +kernel) rfl, rk_mt 1045 (by decide +kernel) rfl, rk_mt 42 (by decide +kernel) rfl, (by decide +kernel)⟩, fun h => absurd h (by decide)⟩
theorem gk_l11_13 : gk_okr11 (51, 6, 108, 0) := ⟨trivial, ⟨_, "GooseIce", rfl, rk_mx 1050 (by decide +kernel) rfl, rk_mt 943 (by decide +kernel) rfl, rk_mt 20 (by decide +kernel) rfl, (by decide +kernel)⟩, fun h => absurd h (by decide)⟩
theorem gk_l11_14 : gk_okr11 (54, 1, 9, 5) := ⟨⟨_, "GooseIce", rfl, (by decide +kernel), rk_mx 508 (by decide +kernel) rfl⟩, trivial, fun h => absurd h (by decide)⟩
theorem gk_l11_15 : gk_okr11 (57, 1, 9, 6) := ⟨⟨_, "GooseIce", rfl, (by decide +kernel), rk_mx 512 (by decide +kernel) rfl⟩, trivial, fun h => absurd h (by decide)⟩
theorem gk_l11_16 : gk_okr11 (60, 6, 104, 0) := ⟨trivial, ⟨_, "GooseIce", rfl, rk_mx 1041 (by decide +kernel) rfl, rk_mt 887 (by decide +kernel) rfl, rk_mt 7 (by decide +kernel) rfl, (by decide +kernel)⟩, fun h => absurd h (by decide)⟩
theorem gk_l11_17 : gk_okr11 (63, 6, 110, 1) := ⟨trivial, ⟨_, "GooseIce", rfl, rk_mx 1042 (by decide +kernel) rfl, rk_mt 964 (by decide +kernel) rfl, rk_mt 25 (by decide +kernel) rfl, (by decide +kernel)⟩, fun h => absurd h (by decide)⟩
theorem gk_l11_18 : gk_okr11 (67, 7, 121, 1) := ⟨trivial, ⟨_, rfl, rk_mt 1047 (by decide +kernel) rfl, rk_mt 1048 (by decide +kernel) rfl, (by decide +kernel)⟩, fun h => absurd h (by decide)⟩
theorem gk_l11_19 : gk_okr11 (70, 6, 107, 1) := ⟨trivial, ⟨_, "GooseIce", rfl, rk_mx 1051 (by decide +kernel) rfl, rk_mt 930 (by decide +kernel) rfl, rk_mt 17 (by decide +kernel) rfl, (by decide +kernel)⟩, fun h => absurd h (by decide)⟩
theorem gk_l11_20 : gk_okr11 (74, 5, 124, 3) := ⟨trivial, ⟨_, rfl, rk_mt 1052 (by decide +kernel) rfl, rk_mt 1054 (by decide +kernel) rfl, rk_mt 43 (by decide +kernel) rfl, (by decide +kernel)⟩, fun h => absurd h (by decide)⟩
theorem gk_l11_21 : gk_okr11 (78, 5, 123, 4) := ⟨trivial, ⟨_, rfl, rk_mt 1068 (by decide +kernel) rfl, rk_mt 1070 (by decide +kernel) rfl, rk_mt 46 (by decide +kernel) rfl, (by decide +kernel)⟩, fun h => absurd h (by decide)⟩
theorem gk_l11_22 : gk_okr11 (82, 1, 9, 0) := ⟨⟨_, "GooseIce", rfl, (by decide +kernel), rk_mx 494 (by decide +kernel) rfl⟩, trivial, fun h => absurd h (by decide)⟩
theorem gk_l11_23 : gk_okr11 (85, 1, 9, 2) := ⟨⟨_, "GooseIce", rfl, (by decide +kernel), rk_mx 500 (by decide +kernel) rfl⟩, trivial, fun h => absurd h (by decide)⟩
theorem gk_l11_24 : gk_okr11 (88, 6, 114, 1) := ⟨trivial, ⟨_, "GooseIce", rfl, rk_mx 1057 (by decide +kernel) rfl, rk_mt 1059 (by decide +kernel) rfl, rk_mt 44 (by decide +kernel) rfl, (by decide +kernel)⟩, fun h => absurd h (by decide)⟩
theorem gk_l11_25 : gk_okr11 (92, 6, 109, 1) := ⟨trivial, ⟨_, "GooseIce", rfl, rk_mx 1067 (by decide +kernel) rfl, rk_mt 956 (by decide +kernel) rfl, rk_mt 23 (by decide +kernel) rfl, (by decide +kernel)⟩, fun h => absurd h (by decide)⟩
theorem gk_l11_26 : gk_okr11 (95, 1, 9, 3) := ⟨⟨_, "GooseIce", rfl, (by decide +kernel), rk_mx 503 (by decide +kernel) rfl⟩, trivial, fun h => absurd h (by decide)⟩
theorem gk_l11_27 : gk_okr11 (98, 6, 113, 1) := ⟨trivial, ⟨_, "GooseIce", rfl, rk_mx 1056 (by decide +kernel) rfl, rk_mt 976 (by decide +kernel) rfl, rk_mt 28 (by decide +kernel) rfl, (by decide +kernel)⟩, fun h => absurd h (by decide)⟩
theorem gk_l11_28 : gk_okr11 (101, 6, 111, 2) := ⟨trivial, ⟨_, "GooseIce", rfl, rk_mx 1066 (by decide +kernel) rfl, rk_mt 960 (by decide +kernel) rfl, rk_mt 24 (by decide +kernel) rfl, (by decide +kernel)⟩, fun h => absurd h (by decide)⟩
theorem gk_l11_29 : gk_okr11 (105, 1, 9, 1) := ⟨⟨_, "GooseIce", rfl, (by decide +kernel), rk_mx 496 (by decide +kernel) rfl⟩, trivial, fun h => absurd h (by decide)⟩
theorem gk_l11_30 : gk_okr11 (108, 5, 125, 0) := ⟨trivial, ⟨_, rfl, rk_mt 1062 (by decide +kernel) rfl, rk_mt 1064 (by decide +kernel) rfl, rk_mt 45 (by decide +kernel) rfl, (by decide +kernel)⟩, fun h => absurd h (by decide)⟩
theorem gk_l11_31 : gk_okr11 (112, 1, 9, 4) := ⟨⟨_, "GooseIce", rfl, (by decide +kernel), rk_mx 505 (by decide +kernel) rfl⟩, trivial, fun h => absurd h (by decide)⟩
theorem gk_l11_32 : gk_okr11 (115, 1, 8, 9) := ⟨⟨_, "GooseIce", rfl, (by decide +kernel), rk_mx 323 (by decide +kernel) rfl⟩, trivial, fun h => absurd h (by decide)⟩
abbrev gk_okr12 (r : Nat × Nat × Nat × Nat) : Prop := rk_lok gk_tbl gk_xw gk_cl "GooseIceLaw" r ∧ rk_cok gk_tbl gk_xw gk_MN gk_P "GooseIceLaw" r ∧ rk_kok gk_tbl "GooseIceLaw" r
theorem gk_l12_0 : gk_okr12 (7, 3, 11, 0) := ⟨⟨_, rfl, rk_mt 242 (by decide +kernel) rfl, rk_mt 243 (by decide +kernel) rfl, rk_mt 221 (by decide +kernel) rfl⟩, trivial, fun h => absurd h (by decide)⟩
theorem gk_l12_1 : gk_okr12 (9, 9, 126, 0) := ⟨trivial, ⟨_, rfl, (fun M hM => by cases hM; rfl), rk_mt 244 (by decide +kernel) rfl, rk_mt 245 (by decide +kernel) rfl, rfl, (by decide +kernel)⟩, fun h => absurd h (by decide)⟩
theorem gk_l12_2 : gk_okr12 (10, 3, 12, 0) := ⟨⟨_, rfl, rk_mt 1649 (by decide +kernel) rfl, rk_mt 1650 (by decide +kernel) rfl, rk_mt 238 (by decide +kernel) rfl⟩, trivial, fun h => absurd h (by decide)⟩
theorem gk_l12_3 : gk_okr12 (12, 9, 201, 0) := ⟨trivial, ⟨_, rfl, (fun M hM => by cases hM; rfl), rk_mt 1651 (by decide +kernel) rfl, rk_mt 1652 (by decide +kernel) rfl, rfl, (by decide +kernel)⟩, fun h => absurd h (by decide)⟩
theorem gk_l12_4 : gk_okr12 (13, 5, 127, 0) := ⟨trivial, ⟨_, rfl, rk_mt 809 (by decide +kernel) rfl, rk_mt 810 (by decide +kernel) rfl, rk_mt 811 (by decide +kernel) rfl, (by decide +kernel)⟩, fun h => absurd h (by decide)⟩
theorem gk_l12_5 : gk_okr12 (17, 5, 203, 0) := ⟨trivial, ⟨_, rfl, rk_mt 1789 (by decide +kernel) rfl, rk_mt 1790 (by decide +kernel) rfl, rk_mt 1791 (by decide +kernel) rfl, (by decide +kernel)⟩, fun h => absurd h (by decide)⟩
theorem gk_l12_6 : gk_okr12 (18, 5, 128, 0) := ⟨trivial, ⟨_, rfl, rk_mt 813 (by decide +kernel) rfl, rk_mt 814 (by decide +kernel) rfl, rk_mt 815 (by decide +kernel) rfl, (by decide +kernel)⟩, fun h => absurd h (by decide)⟩
theorem gk_l12_7 : gk_okr12 (22, 5, 204, 0) := ⟨trivial, ⟨_, rfl, rk_mt 1793 (by decide +kernel) rfl, rk_mt 1794 (by decide +kernel) rfl, rk_mt 1795 (by decide +kernel) rfl, (by decide +kernel)⟩, fun h => absurd h (by decide)⟩
theorem gk_l12_8 : gk_okr12 (23, 5, 129, 0) := ⟨trivial, ⟨_, rfl, rk_mt 817 (by decide +kernel) rfl, rk_mt 818 (by decide +kernel) rfl, rk_mt 819 (by decide +kernel) rfl, (by decide +kernel)⟩, fun h => absurd h (by decide)⟩
theorem gk_l12_9 : gk_okr12 (26, 5, 205, 0) := ⟨trivial, ⟨_, rfl, rk_mt 1797 (by decide +kernel) rfl, rk_mt 1798 (by decide +kernel) rfl, rk_mt 1799 (by decide +kernel) rfl, (by decide +kernel)⟩, fun h => absurd h (by decide)⟩
theorem gk_l12_10 : gk_okr12 (27, 5, 130, 3) := ⟨trivial, ⟨_, rfl, rk_mt 821 (by decide +kernel) rfl, rk_mt 822 (by decide +kernel) rfl, rk_mt 823 (by decide +kernel) rfl, (by decide +kernel)⟩, fun h => absurd h (by decide)⟩
theorem gk_l12_11 : gk_okr12 (31, 5, 213, 3) := ⟨trivial, ⟨_, rfl, rk_mt 1801 (by decide +kernel) rfl, rk_mt 1802 (by decide +kernel) rfl, rk_mt 1803 (by decide +kernel) rfl, (by decide +kernel)⟩, fun h => absurd h (by decide)⟩
theorem gk_l12_12 : gk_okr12 (34, 5, 131, 3) := ⟨trivial, ⟨_, rfl, rk_mt 839 (by decide +kernel) rfl, rk_mt 840 (by decide +kernel) rfl, rk_mt 841 (by decide +kernel) rfl, (by decide +kernel)⟩, fun h => absurd h (by decide)⟩
theorem gk_l12_13 : gk_okr12 (38, 5, 215, 3) := ⟨trivial, ⟨_, rfl, rk_mt 1812 (by decide +kernel) rfl, rk_mt 1813 (by decide +kernel) rfl, rk_mt 1814 (by decide +kernel) rfl, (by decide +kernel)⟩, fun h => absurd h (by decide)⟩
theorem gk_l12_14 : gk_okr12 (39, 5, 132, 2) := ⟨trivial, ⟨_, rfl, rk_mt 850 (by decide +kernel) rfl, rk_mt 851 (by decide +kernel) rfl, rk_mt 852 (by decide +kernel) rfl, (by decide +kernel)⟩, fun h => absurd h (by decide)⟩
theorem gk_l12_15 : gk_okr12 (43, 5, 216, 2) := ⟨trivial, ⟨_, rfl, rk_mt 1823 (by decide +kernel) rfl, rk_mt 1824 (by decide +kernel) rfl, rk_mt 1825 (by decide +kernel) rfl, (by decide +kernel)⟩, fun h => absurd h (by decide)⟩
theorem gk_l12_16 : gk_okr12 (44, 5, 133, 5) := ⟨trivial, ⟨_, rfl, rk_mt 858 (by decide +kernel) rfl, rk_mt 859 (by decide +kernel) rfl, rk_mt 860 (by decide +kernel) rfl, (by decide +kernel)⟩, fun h => absurd h (by decide)⟩
theorem gk_l12_17 : gk_okr12 (48, 5, 217, 5) := ⟨trivial, ⟨_, rfl, rk_mt 1828 (by decide +kernel) rfl, rk_mt 1829 (by decide +kernel) rfl, rk_mt 1830 (by decide +kernel) rfl, (by decide +kernel)⟩, fun h => absurd h (by decide)⟩
theorem gk_l12_18 : gk_okr12 (49, 5, 134, 5) := ⟨trivial, ⟨_, rfl, rk_mt 865 (by decide +kernel) rfl, rk_mt 866 (by decide +kernel) rfl, rk_mt 867 (by decide +kernel) rfl, (by decide +kernel)⟩, fun h => absurd h (by decide)⟩
theorem gk_l12_19 : gk_okr12 (53, 5, 219, 5) := ⟨trivial, ⟨_, rfl, rk_mt 1832 (by decide +kernel) rfl, rk_mt 1833 (by decide +kernel) rfl, rk_mt 1834 (by decide +kernel) rfl, (by decide +kernel)⟩, fun h => absurd h (by decide)⟩
theorem gk_l12_20 : gk_okr12 (54, 5, 135, 1) := ⟨trivial, ⟨_, rfl, rk_mt 877 (by decide +kernel) rfl, rk_mt 878 (by decide +kernel) rfl, rk_mt 879 (by decide +kernel) rfl, (by decide +kernel)⟩, fun h => absurd h (by decide)⟩
theorem gk_l12_21 : gk_okr12 (58, 5, 246, 1) := ⟨trivial, ⟨_, rfl, rk_mt 1844 (by decide +kernel) rfl, rk_mt 1845 (by decide +kernel) rfl, rk_mt 1846 (by decide +kernel) rfl, (by decide +kernel)⟩, fun h => absurd h (by decide)⟩
theorem gk_l12_22 : gk_okr12 (59, 5, 136, 1) := ⟨trivial, ⟨_, rfl, rk_mt 1028 (by decide +kernel) rfl, rk_mt 1029 (by decide +kernel) rfl, rk_mt 1030 (by decide +kernel) rfl, (by decide +kernel)⟩, fun h => absurd h (by decide)⟩
theorem gk_l12_23 : gk_okr12 (62, 5, 252, 1) := ⟨trivial, ⟨_, rfl, rk_mt 1955 (by decide +kernel) rfl, rk_mt 1956 (by decide +kernel) rfl, rk_mt 1957 (by decide +kernel) rfl, (by decide +kernel)⟩, fun h => absurd h (by decide)⟩
theorem gk_l12_24 : gk_okr12 (63, 5, 137, 1) := ⟨trivial, ⟨_, rfl, rk_mt 1077 (by decide +kernel) rfl, rk_mt 1078 (by decide +kernel) rfl, rk_mt 1079 (by decide +kernel) rfl, (by decide +kernel)⟩, fun h => absurd h (by decide)⟩
theorem gk_l12_25 : gk_okr12 (66, 5, 235, 1) := ⟨trivial, ⟨_, rfl, rk_mt 1840 (by decide +kernel) rfl, rk_mt 1841 (by decide +kernel) rfl, rk_mt 1842 (by decide +kernel) rfl, (by decide +kernel)⟩, fun h => absurd h (by decide)⟩
theorem gk_l12_26 : gk_okr12 (67, 5, 138, 1) := ⟨trivial, ⟨_, rfl, rk_mt 1081 (by decide +kernel) rfl, rk_mt 1082 (by decide +kernel) rfl, rk_mt 1083 (by decide +kernel) rfl, (by decide +kernel)⟩, fun h => absurd h (by decide)⟩
theorem gk_l12_27 : gk_okr12 (70, 5, 274, 1) := ⟨trivial, ⟨_, rfl, rk_mt 1979 (by decide +kernel) rfl, rk_mt 1980 (by decide +kernel) rfl, rk_mt 1981 (by decide +kernel) rfl, (by decide +kernel)⟩, fun h => absurd h (by decide)⟩
theorem gk_l12_28 : gk_okr12 (71, 5, 139, 2) := ⟨trivial, ⟨_, rfl, rk_mt 1085 (by decide +kernel) rfl, rk_mt 1086 (by decide +kernel) rfl, rk_mt 1087 (by decide +kernel) rfl, (by decide +kernel)⟩, fun h => absurd h (by decide)⟩
theorem gk_l12_29 : gk_okr12 (75, 5, 275, 2) := ⟨trivial, ⟨_, rfl, rk_mt 2009 (by decide +kernel) rfl, rk_mt 2010 (by decide +kernel) rfl, rk_mt 2011 (by decide +kernel) rfl, (by decide +kernel)⟩, fun h => absurd h (by decide)⟩
theorem gk_l12_30 : gk_okr12 (76, 5, 140, 2) := ⟨trivial, ⟨_, rfl, rk_mt 1104 (by decide +kernel) rfl, rk_mt 1105 (by decide +kernel) rfl, rk_mt 1106 (by decide +kernel) rfl, (by decide +kernel)⟩, fun h => absurd h (by decide)⟩
theorem gk_l12_31 : gk_okr12 (79, 5, 276, 2) := ⟨trivial, ⟨_, rfl, rk_mt 2050 (by decide +kernel) rfl, rk_mt 2051 (by decide +kernel) rfl, rk_mt 2052 (by decide +kernel) rfl, (by decide +kernel)⟩, fun h => absurd h (by decide)⟩
theorem gk_l12_32 : gk_okr12 (80, 5, 141, 2) := ⟨trivial, ⟨_, rfl, rk_mt 1116 (by decide +kernel) rfl, rk_mt 1117 (by decide +kernel) rfl, rk_mt 1118 (by decide +kernel) rfl, (by decide +kernel)⟩, fun h => absurd h (by decide)⟩
theorem gk_l12_33 : gk_okr12 (83, 5, 277, 2) := ⟨trivial, ⟨_, rfl, rk_mt 2058 (by decide +kernel) rfl, rk_mt 2059 (by decide +kernel) rfl, rk_mt 2060 (by decide +kernel) rfl, (by decide +kernel)⟩, fun h => absurd h (by decide)⟩
theorem gk_l12_34 : gk_okr12 (84, 5, 142, 2) := ⟨trivial, ⟨_, rfl, rk_mt 1124 (by decide +kernel) rfl, rk_mt 1125 (by decide +kernel) rfl, rk_mt 1126 (by decide +kernel) rfl, (by decide +kernel)⟩, fun h => absurd h (by decide)⟩
theorem gk_l12_35 : gk_okr12 (87, 5, 279, 2) := ⟨trivial, ⟨_, rfl, rk_mt 2066 (by decide +kernel) rfl, rk_mt 2067 (by decide +kernel) rfl, rk_mt 2068 (by decide +kernel) rfl, (by decide +kernel)⟩, fun h => absurd h (by decide)⟩
theorem gk_l12_36 : gk_okr12 (88, 5, 143, 2) := ⟨trivial, ⟨_, rfl, rk_mt 1129 (by decide +kernel) rfl, rk_mt 1130 (by decide +kernel) rfl, rk_mt 1131 (by decide +kernel) rfl, (by decide +kernel)⟩, fun h => absurd h (by decide)⟩
theorem gk_l12_37 : gk_okr12 (91, 5, 280, 2) := ⟨trivial, ⟨_, rfl, rk_mt 2078 (by decide +kernel) rfl, rk_mt 2079 (by decide +kernel) rfl, rk_mt 2080 (by decide +kernel) rfl, (by decide +kernel)⟩, fun h => absurd h (by decide)⟩
theorem gk_l12_38 : gk_okr12 (92, 5, 144, 1) := ⟨trivial, ⟨_, rfl, rk_mt 1133 (by decide +kernel) rfl, rk_mt 1134 (by decide +kernel) rfl, rk_mt 1135 (by decide +kernel) rfl, (by decide +kernel)⟩, fun h => absurd h (by decide)⟩
theorem gk_l12_39 : gk_okr12 (95, 5, 281, 1) := ⟨trivial, ⟨_, rfl, rk_mt 2082 (by decide +kernel) rfl, rk_mt 2083 (by decide +kernel) rfl, rk_mt 2084 (by decide +kernel) rfl, (by decide +kernel)⟩, fun h => absurd h (by decide)⟩
theorem gk_l12_40 : gk_okr12 (96, 5, 145, 3) := ⟨trivial, ⟨_, rfl, rk_mt 1138 (by decide +kernel) rfl, rk_mt 1139 (by decide +kernel) rfl, rk_mt 1140 (by decide +kernel) rfl, (by decide +kernel)⟩, fun h => absurd h (by decide)⟩
theorem gk_l12_41 : gk_okr12 (100, 5, 289, 3) := ⟨trivial, ⟨_, rfl, rk_mt 2086 (by decide +kernel) rfl, rk_mt 2087 (by decide +kernel) rfl, rk_mt 2088 (by decide +kernel) rfl, (by decide +kernel)⟩, fun h => absurd h (by decide)⟩
theorem gk_l12_42 : gk_okr12 (101, 5, 146, 2) := ⟨trivial, ⟨_, rfl, rk_mt 1161 (by decide +kernel) rfl, rk_mt 1162 (by decide +kernel) rfl, rk_mt 1163 (by decide +kernel) rfl, (by decide +kernel)⟩, fun h => absurd h (by decide)⟩
theorem gk_l12_43 : gk_okr12 (104, 5, 291, 2) := ⟨trivial, ⟨_, rfl, rk_mt 2105 (by decide +kernel) rfl, rk_mt 2106 (by decide +kernel) rfl, rk_mt 2107 (by decide +kernel) rfl, (by decide +kernel)⟩, fun h => absurd h (by decide)⟩
theorem gk_l12_44 : gk_okr12 (105, 5, 147, 1) := ⟨trivial, ⟨_, rfl, rk_mt 1204 (by decide +kernel) rfl, rk_mt 1205 (by decide +kernel) rfl, rk_mt 1206 (by decide +kernel) rfl, (by decide +kernel)⟩, fun h => absurd h (by decide)⟩
theorem gk_l12_45 : gk_okr12 (108, 5, 292, 1) := ⟨trivial, ⟨_, rfl, rk_mt 2138 (by decide +kernel) rfl, rk_mt 2139 (by decide +kernel) rfl, rk_mt 2140 (by decide +kernel) rfl, (by decide +kernel)⟩, fun h => absurd h (by decide)⟩
theorem gk_l12_46 : gk_okr12 (109, 5, 148, 1) := ⟨trivial, ⟨_, rfl, rk_mt 1208 (by decide +kernel) rfl, rk_mt 1209 (by decide +kernel) rfl, rk_mt 1210 (by decide +kernel) rfl, (by decide +kernel)⟩, fun h => absurd h (by decide)⟩
theorem gk_l12_47 : gk_okr12 (112, 5, 293, 1) := ⟨trivial, ⟨_, rfl, rk_mt 2142 (by decide +kernel) rfl, rk_mt 2143 (by decide +kernel) rfl, rk_mt 2144 (by decide +kernel) rfl, (by decide +kernel)⟩, fun h => absurd h (by decide)⟩
theorem gk_l12_48 : gk_okr12 (113, 5, 149, 1) := ⟨trivial, ⟨_, rfl, rk_mt 1263 (by decide +kernel) rfl, rk_mt 1264 (by decide +kernel) rfl, rk_mt 1265 (by decide +kernel) rfl, (by decide +kernel)⟩, fun h => absurd h (by decide)⟩
theorem gk_l12_49 : gk_okr12 (116, 5, 296, 1) := ⟨trivial, ⟨_, rfl, rk_mt 2163 (by decide +kernel) rfl, rk_mt 2164 (by decide +kernel) rfl, rk_mt 2165 (by decide +kernel) rfl, (by decide +kernel)⟩, fun h => absurd h (by decide)⟩
theorem gk_l12_50 : gk_okr12 (117, 5, 150, 1) := ⟨trivial, ⟨_, rfl, rk_mt 1274 (by decide +kernel) rfl, rk_mt 1275 (by decide +kernel) rfl, rk_mt 1276 (by decide +kernel) rfl, (by decide +kernel)⟩, fun h => absurd h (by decide)⟩
theorem gk_l12_51 : gk_okr12 (120, 5, 297, 1) := ⟨trivial, ⟨_, rfl, rk_mt 2171 (by decide +kernel) rfl, rk_mt 2172 (by decide +kernel) rfl, rk_mt 2173 (by decide +kernel) rfl, (by decide +kernel)⟩, fun h => absurd h (by decide)⟩
theorem gk_l12_52 : gk_okr12 (121, 5, 151, 1) := ⟨trivial, ⟨_, rfl, rk_mt 1286 (by decide +kernel) rfl, rk_mt 1287 (by decide +kernel) rfl, rk_mt 1288 (by decide +kernel) rfl, (by decide +kernel)⟩, fun h => absurd h (by decide)⟩
theorem gk_l12_53 : gk_okr12 (124, 5, 298, 1) := ⟨trivial, ⟨_, rfl, rk_mt 2179 (by decide +kernel) rfl, rk_mt 2180 (by decide +kernel) rfl, rk_mt 2181 (by decide +kernel) rfl, (by decide +kernel)⟩, fun h => absurd h (by decide)⟩
theorem gk_l12_54 : gk_okr12 (125, 5, 152, 1) := ⟨trivial, ⟨_, rfl, rk_mt 1295 (by decide +kernel) rfl, rk_mt 1296 (by decide +kernel) rfl, rk_mt 1297 (by decide +kernel) rfl, (by decide +kernel)⟩, fun h => absurd h (by decide)⟩
theorem gk_l12_55 : gk_okr12 (128, 5, 299, 1) := ⟨trivial, ⟨_, rfl, rk_mt 2186 (by decide +kernel) rfl, rk_mt 2187 (by decide +kernel) rfl, rk_mt 2188 (by decide +kernel) rfl, (by decide +kernel)⟩, fun h => absurd h (by decide)⟩
theorem gk_l12_56 : gk_okr12 (129, 5, 153, 2) := ⟨trivial, ⟨_, rfl, rk_mt 1300 (by decide +kernel) rfl, rk_mt 1301 (by decide +kernel) rfl, rk_mt 1302 (by decide +kernel) rfl, (by decide +kernel)⟩, fun h => absurd h (by decide)⟩
theorem gk_l12_57 : gk_okr12 (133, 5, 300, 2) := ⟨trivial, ⟨_, rfl, rk_mt 2190 (by decide +kernel) rfl, rk_mt 2191 (by decide +kernel) rfl, rk_mt 2192 (by decide +kernel) rfl, (by decide +kernel)⟩, fun h => absurd h (by decide)⟩
theorem gk_l12_58 : gk_okr12 (134, 5, 154, 3) := ⟨trivial, ⟨_, rfl, rk_mt 1304 (by decide +kernel) rfl, rk_mt 1305 (by decide +kernel) rfl, rk_mt 1306 (by decide +kernel) rfl, (by decide +kernel)⟩, fun h => absurd h (by decide)⟩
theorem gk_l12_59 : gk_okr12 (138, 5, 301, 3) := ⟨trivial, ⟨_, rfl, rk_mt 2195 (by decide +kernel) rfl, rk_mt 2196 (by decide +kernel) rfl, rk_mt 2197 (by decide +kernel) rfl, (by decide +kernel)⟩, fun h => absurd h (by decide)⟩
theorem gk_l12_60 : gk_okr12 (139, 5, 155, 2) := ⟨trivial, ⟨_, rfl, rk_mt 1308 (by decide +kernel) rfl, rk_mt 1309 (by decide +kernel) rfl, rk_mt 1310 (by decide +kernel) rfl, (by decide +kernel)⟩, fun h => absurd h (by decide)⟩
theorem gk_l12_61 : gk_okr12 (142, 5, 308, 2) := ⟨trivial, ⟨_, rfl, rk_mt 2199 (by decide +kernel) rfl, rk_mt 2200 (by decide +kernel) rfl, rk_mt 2201 (by decide +kernel) rfl, (by decide +kernel)⟩, fun h => absurd h (by decide)⟩
theorem gk_l12_62 : gk_okr12 (143, 5, 156, 2) := ⟨trivial, ⟨_, rfl, rk_mt 1312 (by decide +kernel) rfl, rk_mt 1313 (by decide +kernel) rfl, rk_mt 1314 (by decide +kernel) rfl, (by decide +kernel)⟩, fun h => absurd h (by decide)⟩
theorem gk_l12_63 : gk_okr12 (146, 5, 309, 2) := ⟨trivial, ⟨_, rfl, rk_mt 2203 (by decide +kernel) rfl, rk_mt 2204 (by decide +kernel) rfl, rk_mt 2205 (by decide +kernel) rfl, (by decide +kernel)⟩, fun h => absurd h (by decide)⟩
theorem gk_l12_64 : gk_okr12 (147, 5, 157, 2) := ⟨trivial, ⟨_, rfl, rk_mt 1317 (by decide +kernel) rfl, rk_mt 1318 (by decide +kernel) rfl, rk_mt 1319 (by decide +kernel) rfl, (by decide +kernel)⟩, fun h => absurd h (by decide)⟩
theorem gk_l12_65 : gk_okr12 (150, 5, 310, 2) := ⟨trivial, ⟨_, rfl, rk_mt 2207 (by decide +kernel) rfl, rk_mt 2208 (by decide +kernel) rfl, rk_mt 2209 (by decide +kernel) rfl, (by decide +kernel)⟩, fun h => absurd h (by decide)⟩
theorem gk_l12_66 : gk_okr12 (151, 5, 158, 3) := ⟨trivial, ⟨_, rfl, rk_mt 1321 (by decide +kernel) rfl, rk_mt 1322 (by decide +kernel) rfl, rk_mt 1323 (by decide +kernel) rfl, (by decide +kernel)⟩, fun h => absurd h (by decide)⟩
theorem gk_l12_67 : gk_okr12 (154, 5, 311, 3) := ⟨trivial, ⟨_, rfl, rk_mt 2211 (by decide +kernel) rfl, rk_mt 2212 (by decide +kernel) rfl, rk_mt 2213 (by decide +kernel) rfl, (by decide +kernel)⟩, fun h => absurd h (by decide)⟩
theorem gk_l12_68 : gk_okr12 (155, 5, 159, 2) := ⟨trivial, ⟨_, rfl, rk_mt 1329 (by decide +kernel) rfl, rk_mt 1330 (by decide +kernel) rfl, rk_mt 1331 (by decide +kernel) rfl, (by decide +kernel)⟩, fun h => absurd h (by decide)⟩
theorem gk_l12_69 : gk_okr12 (158, 5, 315, 2) := ⟨trivial, ⟨_, rfl, rk_mt 2223 (by decide +kernel) rfl, rk_mt 2224 (by decide +kernel) rfl, rk_mt 2225 (by decide +kernel) rfl, (by decide +kernel)⟩, fun h => absurd h (by decide)⟩
theorem gk_l12_70 : gk_okr12 (159, 5, 160, 2) := ⟨trivial, ⟨_, rfl, rk_mt 1352 (by decide +kernel) rfl, rk_mt 1353 (by decide +kernel) rfl, rk_mt 1354 (by decide +kernel) rfl, (by decide +kernel)⟩, fun h => absurd h (by decide)⟩
theorem gk_l12_71 : gk_okr12 (162, 5, 316, 2) := ⟨trivial, ⟨_, rfl, rk_mt 2240 (by decide +kernel) rfl, rk_mt 2241 (by decide +kernel) rfl, rk_mt 2242 (by decide +kernel) rfl, (by decide +kernel)⟩, fun h => absurd h (by decide)⟩
theorem gk_l12_72 : gk_okr12 (163, 5, 161, 3) := ⟨trivial, ⟨_, rfl, rk_mt 1356 (by decide +kernel) rfl, rk_mt 1357 (by decide +kernel) rfl, rk_mt 1358 (by decide +kernel) rfl, (by decide +kernel)⟩, fun h => absurd h (by decide)⟩
theorem gk_l12_73 : gk_okr12 (166, 5, 317, 3) := ⟨trivial, ⟨_, rfl, rk_mt 2244 (by decide +kernel) rfl, rk_mt 2245 (by decide +kernel) rfl, rk_mt 2246 (by decide +kernel) rfl, (by decide +kernel)⟩, fun h => absurd h (by decide)⟩
theorem gk_l12_74 : gk_okr12 (167, 5, 162, 1) := ⟨trivial, ⟨_, rfl, rk_mt 1360 (by decide +kernel) rfl, rk_mt 1361 (by decide +kernel) rfl, rk_mt 1362 (by decide +kernel) rfl, (by decide +kernel)⟩, fun h => absurd h (by decide)⟩
theorem gk_l12_75 : gk_okr12 (170, 5, 318, 1) := ⟨trivial, ⟨_, rfl, rk_mt 2248 (by decide +kernel) rfl, rk_mt 2249 (by decide +kernel) rfl, rk_mt 2250 (by decide +kernel) rfl, (by decide +kernel)⟩, fun h => absurd h (by decide)⟩
theorem gk_l12_76 : gk_okr12 (171, 5, 163, 2) := ⟨trivial, ⟨_, rfl, rk_mt 1365 (by decide +kernel) rfl, rk_mt 1366 (by decide +kernel) rfl, rk_mt 1367 (by decide +kernel) rfl, (by decide +kernel)⟩, fun h => absurd h (by decide)⟩
theorem gk_l12_77 : gk_okr12 (174, 5, 320, 2) := ⟨trivial, ⟨_, rfl, rk_mt 2252 (by decide +kernel) rfl, rk_mt 2253 (by decide +kernel) rfl, rk_mt 2254 (by decide +kernel) rfl, (by decide +kernel)⟩, fun h => absurd h (by decide)⟩
theorem gk_l12_78 : gk_okr12 (175, 5, 164, 2) := ⟨trivial, ⟨_, rfl, rk_mt 1375 (by decide +kernel) rfl, rk_mt 1376 (by decide +kernel) rfl, rk_mt 1377 (by decide +kernel) rfl, (by decide +kernel)⟩, fun h => absurd h (by decide)⟩
theorem gk_l12_79 : gk_okr12 (178, 5, 321, 2) := ⟨trivial, ⟨_, rfl, rk_mt 2260 (by decide +kernel) rfl, rk_mt 2261 (by decide +kernel) rfl, rk_mt 2262 (by decide +kernel) rfl, (by decide +kernel)⟩, fun h => absurd h (by decide)⟩
theorem gk_l12_80 : gk_okr12 (179, 5, 165, 1) := ⟨trivial, ⟨_, rfl, rk_mt 1379 (by decide +kernel) rfl, rk_mt 1380 (by decide +kernel) rfl, rk_mt 1381 (by decide +kernel) rfl, (by decide +kernel)⟩, fun h => absurd h (by decide)⟩
theorem gk_l12_81 : gk_okr12 (182, 5, 322, 1) := ⟨trivial, ⟨_, rfl, rk_mt 2264 (by decide +kernel) rfl, rk_mt 2265 (by decide +kernel) rfl, rk_mt 2266 (by decide +kernel) rfl, (by decide +kernel)⟩, fun h => absurd h (by decide)⟩
theorem gk_l12_82 : gk_okr12 (183, 5, 166, 0) := ⟨trivial, ⟨_, rfl, rk_mt 1389 (by decide +kernel) rfl, rk_mt 1390 (by decide +kernel) rfl, rk_mt 1391 (by decide +kernel) rfl, (by decide +kernel)⟩, fun h => absurd h (by decide)⟩
theorem gk_l12_83 : gk_okr12 (186, 5, 323, 0) := ⟨trivial, ⟨_, rfl, rk_mt 2268 (by decide +kernel) rfl, rk_mt 2269 (by decide +kernel) rfl, rk_mt 2270 (by decide +kernel) rfl, (by decide +kernel)⟩, fun h => absurd h (by decide)⟩
theorem gk_l12_84 : gk_okr12 (187, 5, 167, 1) := ⟨trivial, ⟨_, rfl, rk_mt 1397 (by decide +kernel) rfl, rk_mt 1398 (by decide +kernel) rfl, rk_mt 1399 (by decide +kernel) rfl, (by decide +kernel)⟩, fun h => absurd h (by decide)⟩
theorem gk_l12_85 : gk_okr12 (190, 5, 324, 1) := ⟨trivial, ⟨_, rfl, rk_mt 2272 (by decide +kernel) rfl, rk_mt 2273 (by decide +kernel) rfl, rk_mt 2274 (by decide +kernel) rfl, (by decide +kernel)⟩, fun h => absurd h (by decide)⟩
theorem gk_l12_86 : gk_okr12 (191, 5, 168, 2) := ⟨trivial, ⟨_, rfl, rk_mt 1406 (by decide +kernel) rfl, rk_mt 1407 (by decide +kernel) rfl, rk_mt 1408 (by decide +kernel) rfl, (by decide +kernel)⟩, fun h => absurd h (by decide)⟩
theorem gk_l12_87 : gk_okr12 (194, 5, 328, 2) := ⟨trivial, ⟨_, rfl, rk_mt 2276 (by decide +kernel) rfl, rk_mt 2277 (by decide +kernel) rfl, rk_mt 2278 (by decide +kernel) rfl, (by decide +kernel)⟩, fun h => absurd h (by decide)⟩
theorem gk_l12_88 : gk_okr12 (195, 5, 169, 3) := ⟨trivial, ⟨_, rfl, rk_mt 1414 (by decide +kernel) rfl, rk_mt 1415 (by decide +kernel) rfl, rk_mt 1416 (by decide +kernel) rfl, (by decide +kernel)⟩, fun h => absurd h (by decide)⟩
theorem gk_l12_89 : gk_okr12 (198, 5, 334, 3) := ⟨trivial, ⟨_, rfl, rk_mt 2293 (by decide +kernel) rfl, rk_mt 2294 (by decide +kernel) rfl, rk_mt 2295 (by decide +kernel) rfl, (by decide +kernel)⟩, fun h => absurd h (by decide)⟩
theorem gk_l12_90 : gk_okr12 (199, 5, 170, 2) := ⟨trivial, ⟨_, rfl, rk_mt 1458 (by decide +kernel) rfl, rk_mt 1459 (by decide +kernel) rfl, rk_mt 1460 (by decide +kernel) rfl, (by decide +kernel)⟩, fun h => absurd h (by decide)⟩
theorem gk_l12_91 : gk_okr12 (202, 5, 335, 2) := ⟨trivial, ⟨_, rfl, rk_mt 2317 (by decide +kernel) rfl, rk_mt 2318 (by decide +kernel) rfl, rk_mt 2319 (by decide +kernel) rfl, (by decide +kernel)⟩, fun h => absurd h (by decide)⟩
theorem gk_l12_92 : gk_okr12 (203, 5, 171, 0) := ⟨trivial, ⟨_, rfl, rk_mt 1462 (by decide +kernel) rfl, rk_mt 1463 (by decide +kernel) rfl, rk_mt 1464 (by decide +kernel) rfl, (by decide +kernel)⟩, fun h => absurd h (by decide)⟩
theorem gk_l12_93 : gk_okr12 (206, 5, 336, 0) := ⟨trivial, ⟨_, rfl, rk_mt 2321 (by decide +kernel) rfl, rk_mt 2322 (by decide +kernel) rfl, rk_mt 2323 (by decide +kernel) rfl, (by decide +kernel)⟩, fun h => absurd h (by decide)⟩
theorem gk_l12_94 : gk_okr12 (207, 5, 172, 1) := ⟨trivial, ⟨_, rfl, rk_mt 1467 (by decide +kernel) rfl, rk_mt 1468 (by decide +kernel) rfl, rk_mt 1469 (by decide +kernel) rfl, (by decide +kernel)⟩, fun h => absurd h (by decide)⟩
theorem gk_l12_95 : gk_okr12 (210, 5, 341, 1) := ⟨trivial, ⟨_, rfl, rk_mt 2325 (by decide +kernel) rfl, rk_mt 2326 (by decide +kernel) rfl, rk_mt 2327 (by decide +kernel) rfl, (by decide +kernel)⟩, fun h => absurd h (by decide)⟩
theorem gk_l12_96 : gk_okr12 (211, 5, 173, 1) := ⟨trivial, ⟨_, rfl, rk_mt 1484 (by decide +kernel) rfl, rk_mt 1485 (by decide +kernel) rfl, rk_mt 1486 (by decide +kernel) rfl, (by decide +kernel)⟩, fun h => absurd h (by decide)⟩
theorem gk_l12_97 : gk_okr12 (214, 5, 342, 1) := ⟨trivial, ⟨_, rfl, rk_mt 2346 (by decide +kernel) rfl, rk_mt 2347 (by decide +kernel) rfl, rk_mt 2348 (by decide +kernel) rfl, (by decide +kernel)⟩, fun h => absurd h (by decide)⟩
theorem gk_l12_98 : gk_okr12 (215, 5, 174, 2) := ⟨trivial, ⟨_, rfl, rk_mt 1488 (by decide +kernel) rfl, rk_mt 1489 (by decide +kernel) rfl, rk_mt 1490 (by decide +kernel) rfl, (by decide +kernel)⟩, fun h => absurd h (by decide)⟩
theorem gk_l12_99 : gk_okr12 (218, 5, 343, 2) := ⟨trivial, ⟨_, rfl, rk_mt 2350 (by decide +kernel) rfl, rk_mt 2351 (by decide +kernel) rfl, rk_mt 2352 (by decide +kernel) rfl, (by decide +kernel)⟩, fun h => absurd h (by decide)⟩
theorem gk_l12_100 : gk_okr12 (219, 5, 175, 2) := ⟨trivial, ⟨_, rfl, rk_mt 1501 (by decide +kernel) rfl, rk_mt 1502 (by decide +kernel) rfl, rk_mt 1503 (by decide +kernel) rfl, (by decide +kernel)⟩, fun h => absurd h (by decide)⟩
theorem gk_l12_101 : gk_okr12 (222, 5, 347, 2) := ⟨trivial, ⟨_, rfl, rk_mt 2354 (by decide +kernel) rfl, rk_mt 2355 (by decide +kernel) rfl, rk_mt 2356 (by decide +kernel) rfl, (by decide +kernel)⟩, fun h => absurd h (by decide)⟩
theorem gk_l12_102 : gk_okr12 (223, 5, 176, 2) := ⟨trivial, ⟨_, rfl, rk_mt 1515 (by decide +kernel) rfl, rk_mt 1516 (by decide +kernel) rfl, rk_mt 1517 (by decide +kernel) rfl, (by decide +kernel)⟩, fun h => absurd h (by decide)⟩
theorem gk_l12_103 : gk_okr12 (226, 5, 348, 2) := ⟨trivial, ⟨_, rfl, rk_mt 2371 (by decide +kernel) rfl, rk_mt 2372 (by decide +kernel) rfl, rk_mt 2373 (by decide +kernel) rfl, (by decide +kernel)⟩, fun h => absurd h (by decide)⟩
theorem gk_l12_104 : gk_okr12 (227, 5, 177, 1) := ⟨trivial, ⟨_, rfl, rk_mt 1522 (by decide +kernel) rfl, rk_mt 1523 (by decide +kernel) rfl, rk_mt 1524 (by decide +kernel) rfl, (by decide +kernel)⟩, fun h => absurd h (by decide)⟩
theorem gk_l12_105 : gk_okr12 (230, 5, 350, 1) := ⟨trivial, ⟨_, rfl, rk_mt 2375 (by decide +kernel) rfl, rk_mt 2376 (by decide +kernel) rfl, rk_mt 2377 (by decide +kernel) rfl, (by decide +kernel)⟩, fun h => absurd h (by decide)⟩
theorem gk_l12_106 : gk_okr12 (231, 5, 178, 5) := ⟨trivial, ⟨_, rfl, rk_mt 1548 (by decide +kernel) rfl, rk_mt 1549 (by decide +kernel) rfl, rk_mt 1550 (by decide +kernel) rfl, (by decide +kernel)⟩, fun h => absurd h (by decide)⟩
theorem gk_l12_107 : gk_okr12 (234, 5, 355, 5) := ⟨trivial, ⟨_, rfl, rk_mt 2383 (by decide +kernel) rfl, rk_mt 2384 (by decide +kernel) rfl, rk_mt 2385 (by decide +kernel) rfl, (by decide +kernel)⟩, fun h => absurd h (by decide)⟩
theorem gk_l12_108 : gk_okr12 (235, 5, 179, 5) := ⟨trivial, ⟨_, rfl, rk_mt 1576 (by decide +kernel) rfl, rk_mt 1577 (by decide +kernel) rfl, rk_mt 1578 (by decide +kernel) rfl, (by decide +kernel)⟩, fun h => absurd h (by decide)⟩
theorem gk_l12_109 : gk_okr12 (238, 5, 356, 5) := ⟨trivial, ⟨_, rfl, rk_mt 2409 (by decide +kernel) rfl, rk_mt 2410 (by decide +kernel) rfl, rk_mt 2411 (by decide +kernel) rfl, (by decide +kernel)⟩, fun h => absurd h (by decide)⟩
theorem gk_l12_110 : gk_okr12 (239, 5, 180, 4) := ⟨trivial, ⟨_, rfl, rk_mt 1581 (by decide +kernel) rfl, rk_mt 1582 (by decide +kernel) rfl, rk_mt 1583 (by decide +kernel) rfl, (by decide +kernel)⟩, fun h => absurd h (by decide)⟩
theorem gk_l12_111 : gk_okr12 (243, 5, 357, 4) := ⟨trivial, ⟨_, rfl, rk_mt 2413 (by decide +kernel) rfl, rk_mt 2414 (by decide +kernel) rfl, rk_mt 2415 (by decide +kernel) rfl, (by decide +kernel)⟩, fun h => absurd h (by decide)⟩
theorem gk_l12_112 : gk_okr12 (244, 5, 181, 1) := ⟨trivial, ⟨_, rfl, rk_mt 1589 (by decide +kernel) rfl, rk_mt 1590 (by decide +kernel) rfl, rk_mt 1591 (by decide +kernel) rfl, (by decide +kernel)⟩, fun h => absurd h (by decide)⟩
theorem gk_l12_113 : gk_okr12 (247, 5, 366, 1) := ⟨trivial, ⟨_, rfl, rk_mt 2417 (by decide +kernel) rfl, rk_mt 2418 (by decide +kernel) rfl, rk_mt 2419 (by decide +kernel) rfl, (by decide +kernel)⟩, fun h => absurd h (by decide)⟩
theorem gk_l12_114 : gk_okr12 (248, 5, 182, 1) := ⟨trivial, ⟨_, rfl, rk_mt 1633 (by decide +kernel) rfl, rk_mt 1634 (by decide +kernel) rfl, rk_mt 1635 (by decide +kernel) rfl, (by decide +kernel)⟩, fun h => absurd h (by decide)⟩
theorem gk_l12_115 : gk_okr12 (251, 5, 367, 1) := ⟨trivial, ⟨_, rfl, rk_mt 2455 (by decide +kernel) rfl, rk_mt 2456 (by decide +kernel) rfl, rk_mt 2457 (by decide +kernel) rfl, (by decide +kernel)⟩, fun h => absurd h (by decide)⟩
theorem gk_l12_116 : gk_okr12 (252, 5, 183, 2) := ⟨trivial, ⟨_, rfl, rk_mt 1637 (by decide +kernel) rfl, rk_mt 1638 (by decide +kernel) rfl, rk_mt 1639 (by decide +kernel) rfl, (by decide +kernel)⟩, fun h => absurd h (by decide)⟩
theorem gk_l12_117 : gk_okr12 (255, 5, 368, 2) := ⟨trivial, ⟨_, rfl, rk_mt 2459 (by decide +kernel) rfl, rk_mt 2460 (by decide +kernel) rfl, rk_mt 2461 (by decide +kernel) rfl, (by decide +kernel)⟩, fun h => absurd h (by decide)⟩
theorem gk_l12_118 : gk_okr12 (256, 5, 184, 0) := ⟨trivial, ⟨_, rfl, rk_mt 1641 (by decide +kernel) rfl, rk_mt 1642 (by decide +kernel) rfl, rk_mt 1643 (by decide +kernel) rfl, (by decide +kernel)⟩, fun h => absurd h (by decide)⟩
theorem gk_l12_119 : gk_okr12 (259, 5, 370, 0) := ⟨trivial, ⟨_, rfl, rk_mt 2463 (by decide +kernel) rfl, rk_mt 2464 (by decide +kernel) rfl, rk_mt 2465 (by decide +kernel) rfl, (by decide +kernel)⟩, fun h => absurd h (by decide)⟩
theorem gk_l12_120 : gk_okr12 (260, 5, 185, 0) := ⟨trivial, ⟨_, rfl, rk_mt 1645 (by decide +kernel) rfl, rk_mt 1646 (by decide +kernel) rfl, rk_mt 1647 (by decide +kernel) rfl, (by decide +kernel)⟩, fun h => absurd h (by decide)⟩
theorem gk_l12_121 : gk_okr12 (263, 5, 371, 0) := ⟨trivial, ⟨_, rfl, rk_mt 2471 (by decide +kernel) rfl, rk_mt 2472 (by decide +kernel) rfl, rk_mt 2473 (by decide +kernel) rfl, (by decide +kernel)⟩, fun h => absurd h (by decide)⟩
abbrev gk_okr13 (r : Nat × Nat × Nat × Nat) : Prop := rk_lok gk_tbl gk_xw gk_cl "GooseIceModel" r ∧ rk_cok gk_tbl gk_xw gk_MN gk_P "GooseIceModel" r ∧ rk_kok gk_tbl "GooseIceModel" r
theorem gk_l13_0 : gk_okr13 (1, 11, 0, 0) := ⟨trivial, ⟨rk_mt 1654 (by decide +kernel) rfl, rk_mt 248 (by decide +kernel) rfl, rk_mt 249 (by decide +kernel) rfl⟩, fun h => absurd h (by decide)⟩
theorem gk_l13_1 : gk_okr13 (7, 0, 12, 0) := ⟨⟨_, rfl, (by decide +kernel), rk_mt 1659 (by decide +kernel) rfl⟩, trivial, fun h => absurd h (by decide)⟩
theorem gk_l13_2 : gk_okr13 (7, 2, 12, 0) := ⟨⟨_, rfl, (by decide +kernel), rk_mt 1659 (by decide +kernel) rfl, rfl⟩, trivial, fun h => absurd h (by decide)⟩
theorem gk_l13_3 : gk_okr13 (13, 0, 12, 1) := ⟨⟨_, rfl, (by decide +kernel), rk_mt 1660 (by decide +kernel) rfl⟩, trivial, fun h => absurd h (by decide)⟩
theorem gk_l13_4 : gk_okr13 (13, 2, 12, 1) := ⟨⟨_, rfl, (by decide +kernel), rk_mt 1660 (by decide +kernel) rfl, rfl⟩, trivial, fun h => absurd h (by decide)⟩
theorem gk_l13_5 : gk_okr13 (17, 0, 12, 4) := ⟨⟨_, rfl, (by decide +kernel), rk_mt 1663 (by decide +kernel) rfl⟩, trivial, fun h => absurd h (by decide)⟩
theorem gk_l13_6 : gk_okr13 (21, 0, 12, 5) := ⟨⟨_, rfl, (by decide +kernel), rk_mt 1664 (by decide +kernel) rfl⟩, trivial, fun h => absurd h (by decide)⟩
theorem gk_l13_7 : gk_okr13 (21, 2, 12, 5) := ⟨⟨_, rfl, (by decide +kernel), rk_mt 1664 (by decide +kernel) rfl, rfl⟩, trivial, fun h => absurd h (by decide)⟩
theorem gk_l13_8 : gk_okr13 (24, 0, 12, 6) := ⟨⟨_, rfl, (by decide +kernel), rk_mt 1665 (by decide +kernel) rfl⟩, trivial, fun h => absurd h (by decide)⟩
theorem gk_l13_9 : gk_okr13 (24, 2, 12, 6) := ⟨⟨_, rfl, (by decide +kernel), rk_mt 1665 (by decide +kernel) rfl, rfl⟩, trivial, fun h => absurd h (by decide)⟩
theorem gk_l13_10 : gk_okr13 (27, 0, 12, 7) := ⟨⟨_, rfl, (by decide +kernel), rk_mt 1666 (by decide +kernel) rfl⟩, trivial, fun h => absurd h (by decide)⟩
theorem gk_l13_11 : gk_okr13 (27, 2, 12, 7) := ⟨⟨_, rfl, (by decide +kernel), rk_mt 1666 (by decide +kernel) rfl, rfl⟩, trivial, fun h => absurd h (by decide)⟩
theorem gk_l13_12 : gk_okr13 (30, 0, 12, 8) := ⟨⟨_, rfl, (by decide +kernel), rk_mt 1667 (by decide +kernel) rfl⟩, trivial, fun h => absurd h (by decide)⟩
theorem gk_l13_13 : gk_okr13 (30, 2, 12, 8) := ⟨⟨_, rfl, (by decide +kernel), rk_mt 1667 (by decide +kernel) rfl, rfl⟩, trivial, fun h => absurd h (by decide)⟩
theorem gk_l13_14 : gk_okr13 (34, 0, 12, 9) := ⟨⟨_, rfl, (by decide +kernel), rk_mt 1668 (by decide +kernel) rfl⟩, trivial, fun h => absurd h (by decide)⟩
theorem gk_l13_15 : gk_okr13 (34, 2, 12, 9) := ⟨⟨_, rfl, (by decide +kernel), rk_mt 1668 (by decide +kernel) rfl, rfl⟩, trivial, fun h => absurd h (by decide)⟩
theorem gk_l13_16 : gk_okr13 (37, 0, 12, 16) := ⟨⟨_, rfl, (by decide +kernel), rk_mt 1675 (by decide +kernel) rfl⟩, trivial, fun h => absurd h (by decide)⟩
theorem gk_l13_17 : gk_okr13 (41, 0, 12, 17) := ⟨⟨_, rfl, (by decide +kernel), rk_mt 1676 (by decide +kernel) rfl⟩, trivial, fun h => absurd h (by decide)⟩
theorem gk_l13_18 : gk_okr13 (44, 0, 12, 21) := ⟨⟨_, rfl, (by decide +kernel), rk_mt 1680 (by decide +kernel) rfl⟩, trivial, fun h => absurd h (by decide)⟩
theorem gk_l13_19 : gk_okr13 (44, 2, 12, 21) := ⟨⟨_, rfl, (by decide +kernel), rk_mt 1680 (by decide +kernel) rfl, rfl⟩, trivial, fun h => absurd h (by decide)⟩
theorem gk_l13_20 : gk_okr13 (47, 0, 12, 24) := ⟨⟨_, rfl, (by decide +kernel), rk_mt 1683 (by decide +kernel) rfl⟩, trivial, fun h => absurd h (by decide)⟩
theorem gk_l13_21 : gk_okr13 (47, 2, 12, 24) := ⟨⟨_, rfl, (by decide +kernel), rk_mt 1683 (by decide +kernel) rfl, rfl⟩, trivial, fun h => absurd h (by decide)⟩
theorem gk_l13_22 : gk_okr13 (50, 0, 12, 26) := ⟨⟨_, rfl, (by decide +kernel), rk_mt 1685 (by decide +kernel) rfl⟩, trivial, fun h => absurd h (by decide)⟩
theorem gk_l13_23 : gk_okr13 (50, 2, 12, 26) := ⟨⟨_, rfl, (by decide +kernel), rk_mt 1685 (by decide +kernel) rfl, rfl⟩, trivial, fun h => absurd h (by decide)⟩
theorem gk_l13_24 : gk_okr13 (53, 0, 12, 27) := ⟨⟨_, rfl, (by decide +kernel), rk_mt 1686 (by decide +kernel) rfl⟩, trivial, fun h => absurd h (by decide)⟩
theorem gk_l13_25 : gk_okr13 (53, 2, 12, 27) := ⟨⟨_, rfl, (by decide +kernel), rk_mt 1686 (by decide +kernel) rfl, rfl⟩, trivial, fun h => absurd h (by decide)⟩
theorem gk_l13_26 : gk_okr13 (56, 0, 12, 28) := ⟨⟨_, rfl, (by decide +kernel), rk_mt 1687 (by decide +kernel) rfl⟩, trivial, fun h => absurd h (by decide)⟩
theorem gk_l13_27 : gk_okr13 (56, 2, 12, 28) := ⟨⟨_, rfl, (by decide +kernel), rk_mt 1687 (by decide +kernel) rfl, rfl⟩, trivial, fun h => absurd h (by decide)⟩
theorem gk_l13_28 : gk_okr13 (59, 0, 12, 29) := ⟨⟨_, rfl, (by decide +kernel), rk_mt 1688 (by decide +kernel) rfl⟩, trivial, fun h => absurd h (by decide)⟩
theorem gk_l13_29 : gk_okr13 (59, 2, 12, 29) := ⟨⟨_, rfl, (by decide +kernel), rk_mt 1688 (by decide +kernel) rfl, rfl⟩, trivial, fun h => absurd h (by decide)⟩
theorem gk_l13_30 : gk_okr13 (62, 0, 12, 31) := ⟨⟨_, rfl, (by decide +kernel), rk_mt 1690 (by decide +kernel) rfl⟩, trivial, fun h => absurd h (by decide)⟩
theorem gk_l13_31 : gk_okr13 (62, 2, 12, 31) := ⟨⟨_, rfl, (by decide +kernel), rk_mt 1690 (by decide +kernel) rfl, rfl⟩, trivial, fun h => absurd h (by decide)⟩
theorem gk_l13_32 : gk_okr13 (65, 0, 12, 32) := ⟨⟨_, rfl, (by decide +kernel), rk_mt 1691 (by decide +kernel) rfl⟩, trivial, fun h => absurd h (by decide)⟩
theorem gk_l13_33 : gk_okr13 (65, 2, 12, 32) := ⟨⟨_, rfl, (by decide +kernel), rk_mt 1691 (by decide +kernel) rfl, rfl⟩, trivial, fun h => absurd h (by decide)⟩
theorem gk_l13_34 : gk_okr13 (68, 0, 12, 33) := ⟨⟨_, rfl, (by decide +kernel), rk_mt 1692 (by decide +kernel) rfl⟩, trivial, fun h => absurd h (by decide)⟩
theorem gk_l13_35 : gk_okr13 (68, 2, 12, 33) := ⟨⟨_, rfl, (by decide +kernel), rk_mt 1692 (by decide +kernel) rfl, rfl⟩, trivial, fun h => absurd h (by decide)⟩
theorem gk_l13_36 : gk_okr13 (71, 0, 12, 34) := ⟨⟨_, rfl, (by decide +kernel), rk_mt 1693 (by decide +kernel) rfl⟩, trivial, fun h => absurd h (by decide)⟩
theorem gk_l13_37 : gk_okr13 (71, 2, 12, 34) := ⟨⟨_, rfl, (by decide +kernel), rk_mt 1693 (by decide +kernel) rfl, rfl⟩, trivial, fun h => absurd h (by decide)⟩
theorem gk_l13_38 : gk_okr13 (74, 0, 12, 35) := ⟨⟨_, rfl, (by decide +kernel), rk_mt 1694 (by decide +kernel) rfl⟩, trivial, fun h => absurd h (by decide)⟩
theorem gk_l13_39 : gk_okr13 (74, 2, 12, 35) := ⟨⟨_, rfl, (by decide +kernel), rk_mt 1694 (by decide +kernel) rfl, rfl⟩, trivial, fun h => absurd h (by decide)⟩
theorem gk_l13_40 : gk_okr13 (77, 0, 12, 38) := ⟨⟨_, rfl, (by decide +kernel), rk_mt 1697 (by decide +kernel) rfl⟩, trivial, fun h => absurd h (by decide)⟩
theorem gk_l13_41 : gk_okr13 (77, 2, 12, 38) := ⟨⟨_, rfl, (by decide +kernel), rk_mt 1697 (by decide +kernel) rfl, rfl⟩, trivial, fun h => absurd h (by decide)⟩
theorem gk_l13_42 : gk_okr13 (80, 0, 12, 39) := ⟨⟨_, rfl, (by decide +kernel), rk_mt 1698 (by decide +kernel) rfl⟩, trivial, fun h => absurd h (by decide)⟩
theorem gk_l13_43 : gk_okr13 (80, 2, 12, 39) := ⟨⟨_, rfl, (by decide +kernel), rk_mt 1698 (by decide +kernel) rfl, rfl⟩, trivial, fun h => absurd h (by decide)⟩
theorem gk_l13_44 : gk_okr13 (83, 0, 12, 40) := ⟨⟨_, rfl, (by decide +kernel), rk_mt 1699 (by decide +kernel) rfl⟩, trivial, fun h => absurd h (by decide)⟩
theorem gk_l13_45 : gk_okr13 (83, 2, 12, 40) := ⟨⟨_, rfl, (by decide +kernel), rk_mt 1699 (by decide +kernel) rfl, rfl⟩, trivial, fun h => absurd h (by decide)⟩
theorem gk_l13_46 : gk_okr13 (86, 5, 202, 1) := ⟨trivial, ⟨_, rfl, rk_mt 1655 (by decide +kernel) rfl, rk_mt 1657 (by decide +kernel) rfl, rk_mt 118 (by decide +kernel) rfl, (by decide +kernel)⟩, fun h => absurd h (by decide)⟩
theorem gk_l13_47 : gk_okr13 (90, 0, 12, 2) := ⟨⟨_, rfl, (by decide +kernel), rk_mt 1661 (by decide +kernel) rfl⟩, trivial, fun h => absurd h (by decide)⟩
theorem gk_l13_48 : gk_okr13 (93, 0, 12, 3) := ⟨⟨_, rfl, (by decide +kernel), rk_mt 1662 (by decide +kernel) rfl⟩, trivial, fun h => absurd h (by decide)⟩
theorem gk_l13_49 : gk_okr13 (96, 5, 207, 1) := ⟨trivial, ⟨_, rfl, rk_mt 1868 (by decide +kernel) rfl, rk_mt 1870 (by decide +kernel) rfl, rk_mt 125 (by decide +kernel) rfl, (by decide +kernel)⟩, fun h => absurd h (by decide)⟩
theorem gk_l13_50 : gk_okr13 (100, 5, 208, 1) := ⟨trivial, ⟨_, rfl, rk_mt 1951 (by decide +kernel) rfl, rk_mt 1953 (by decide +kernel) rfl, rk_mt 145 (by decide +kernel) rfl, (by decide +kernel)⟩, fun h => absurd h (by decide)⟩
theorem gk_l13_51 : gk_okr13 (103, 5, 206, 1) := ⟨trivial, ⟨_, rfl, rk_mt 1808 (by decide +kernel) rfl, rk_mt 1810 (by decide +kernel) rfl, rk_mt 119 (by decide +kernel) rfl, (by decide +kernel)⟩, fun h => absurd h (by decide)⟩
theorem gk_l13_52 : gk_okr13 (107, 7, 211, 1) := ⟨trivial, ⟨_, rfl, rk_mt 1805 (by decide +kernel) rfl, rk_mt 1806 (by decide +kernel) rfl, (by decide +kernel)⟩, fun h => absurd h (by decide)⟩
theorem gk_l13_53 : gk_okr13 (110, 5, 214, 2) := ⟨trivial, ⟨_, rfl, rk_mt 1816 (by decide +kernel) rfl, rk_mt 1818 (by decide +kernel) rfl, rk_mt 120 (by decide +kernel) rfl, (by decide +kernel)⟩, fun h => absurd h (by decide)⟩
theorem gk_l13_54 : gk_okr13 (114, 7, 212, 2) := ⟨trivial, ⟨_, rfl, rk_mt 1820 (by decide +kernel) rfl, rk_mt 1821 (by decide +kernel) rfl, (by decide +kernel)⟩, fun h => absurd h (by decide)⟩
theorem gk_l13_55 : gk_okr13 (120, 0, 12, 10) := ⟨⟨_, rfl, (by decide +kernel), rk_mt 1669 (by decide +kernel) rfl⟩, trivial, fun h => absurd h (by decide)⟩
theorem gk_l13_56 : gk_okr13 (123, 5, 220, 1) := ⟨trivial, ⟨_, rfl, rk_mt 1836 (by decide +kernel) rfl, rk_mt 1838 (by decide +kernel) rfl, rk_mt 121 (by decide +kernel) rfl, (by decide +kernel)⟩, fun h => absurd h (by decide)⟩
theorem gk_l13_57 : gk_okr13 (126, 0, 12, 11) := ⟨⟨_, rfl, (by decide +kernel), rk_mt 1670 (by decide +kernel) rfl⟩, trivial, fun h => absurd h (by decide)⟩
theorem gk_l13_58 : gk_okr13 (129, 0, 12, 14) := ⟨⟨_, rfl, (by decide +kernel), rk_mt 1673 (by decide +kernel) rfl⟩, trivial, fun h => absurd h (by decide)⟩
theorem gk_l13_59 : gk_okr13 (132, 5, 221, 1) := ⟨trivial, ⟨_, rfl, rk_mt 1856 (by decide +kernel) rfl, rk_mt 1858 (by decide +kernel) rfl, rk_mt 124 (by decide +kernel) rfl, (by decide +kernel)⟩, fun h => absurd h (by decide)⟩
theorem gk_l13_60 : gk_okr13 (135, 0, 12, 13) := ⟨⟨_, rfl, (by decide +kernel), rk_mt 1672 (by decide +kernel) rfl⟩, trivial, fun h => absurd h (by decide)⟩
theorem gk_l13_61 : gk_okr13 (138, 0, 12, 15) := ⟨⟨_, rfl, (by decide +kernel), rk_mt 1674 (by decide +kernel) rfl⟩, trivial, fun h => absurd h (by decide)⟩
theorem gk_l13_62 : gk_okr13 (141, 0, 12, 12) := ⟨⟨_, rfl, (by decide +kernel), rk_mt 1671 (by decide +kernel) rfl⟩, trivial, fun h => absurd h (by decide)⟩
theorem gk_l13_63 : gk_okr13 (144, 7, 222, 1) := ⟨trivial, ⟨_, rfl, rk_mt 1860 (by decide +kernel) rfl, rk_mt 1861 (by decide +kernel) rfl, (by decide +kernel)⟩, fun h => absurd h (by decide)⟩
theorem gk_l13_64 : gk_okr13 (147, 7, 223, 1) := ⟨trivial, ⟨_, rfl, rk_mt 1863 (by decide +kernel) rfl, rk_mt 1864 (by decide +kernel) rfl, (by decide +kernel)⟩, fun h => absurd h (by decide)⟩
theorem gk_l13_65 : gk_okr13 (151, 15, 0, 0) := ⟨⟨rk_mt 1867 (by decide +kernel) rfl, rk_mt 1159 (by decide +kernel) rfl, rk_mt 240 (by decide +kernel) rfl, rk_mt 1160 (by decide +kernel) rfl⟩, trivial, fun h => absurd h (by decide)⟩
theorem gk_l13_66 : gk_okr13 (156, 5, 377, 0) := ⟨trivial, ⟨_, rfl, rk_mt 1881 (by decide +kernel) rfl, rk_mt 260 (by decide +kernel) rfl, rk_mt 261 (by decide +kernel) rfl, (by decide +kernel)⟩, fun h => absurd h (by decide)⟩
theorem gk_l13_67 : gk_okr13 (162, 5, 378, 1) := ⟨trivial, ⟨_, rfl, rk_mt 1882 (by decide +kernel) rfl, rk_mt 270 (by decide +kernel) rfl, rk_mt 271 (by decide +kernel) rfl, (by decide +kernel)⟩, fun h => absurd h (by decide)⟩
theorem gk_l13_68 : gk_okr13 (166, 0, 12, 18) := ⟨⟨_, rfl, (by decide +kernel), rk_mt 1677 (by decide +kernel) rfl⟩, trivial, fun h => absurd h (by decide)⟩
theorem gk_l13_69 : gk_okr13 (169, 0, 12, 19) := ⟨⟨_, rfl, (by decide +kernel), rk_mt 1678 (by decide +kernel) rfl⟩, trivial, fun h => absurd h (by decide)⟩
theorem gk_l13_70 : gk_okr13 (172, 5, 224, 0) := ⟨trivial, ⟨_, rfl, rk_mt 1852 (by decide +kernel) rfl, rk_mt 1854 (by decide +kernel) rfl, rk_mt 123 (by decide +kernel) rfl, (by decide +kernel)⟩, fun h => absurd h (by decide)⟩
theorem gk_l13_71 : gk_okr13 (175, 5, 225, 1) := ⟨trivial, ⟨_, rfl, rk_mt 1943 (by decide +kernel) rfl, rk_mt 1945 (by decide +kernel) rfl, rk_mt 143 (by decide +kernel) rfl, (by decide +kernel)⟩, fun h => absurd h (by decide)⟩
theorem gk_l13_72 : gk_okr13 (178, 5, 227, 1) := ⟨trivial, ⟨_, rfl, rk_mt 1891 (by decide +kernel) rfl, rk_mt 1893 (by decide +kernel) rfl, rk_mt 130 (by decide +kernel) rfl, (by decide +kernel)⟩, fun h => absurd h (by decide)⟩
theorem gk_l13_73 : gk_okr13 (181, 5, 226, 1) := ⟨trivial, ⟨_, rfl, rk_mt 1877 (by decide +kernel) rfl, rk_mt 1879 (by decide +kernel) rfl, rk_mt 127 (by decide +kernel) rfl, (by decide +kernel)⟩, fun h => absurd h (by decide)⟩
theorem gk_l13_74 : gk_okr13 (185, 5, 233, 0) := ⟨trivial, ⟨_, rfl, rk_mt 1903 (by decide +kernel) rfl, rk_mt 1905 (by decide +kernel) rfl, rk_mt 133 (by decide +kernel) rfl, (by decide +kernel)⟩, fun h => absurd h (by decide)⟩
theorem gk_l13_75 : gk_okr13 (191, 5, 232, 1) := ⟨trivial, ⟨_, rfl, rk_mt 1895 (by decide +kernel) rfl, rk_mt 1897 (by decide +kernel) rfl, rk_mt 131 (by decide +kernel) rfl, (by decide +kernel)⟩, fun h => absurd h (by decide)⟩
theorem gk_l13_76 : gk_okr13 (195, 5, 234, 2) := ⟨trivial, ⟨_, rfl, rk_mt 1899 (by decide +kernel) rfl, rk_mt 1901 (by decide +kernel) rfl, rk_mt 132 (by decide +kernel) rfl, (by decide +kernel)⟩, fun h => absurd h (by decide)⟩
theorem gk_l13_77 : gk_okr13 (198, 5, 237, 3) := ⟨trivial, ⟨_, rfl, rk_mt 1887 (by decide +kernel) rfl, rk_mt 1889 (by decide +kernel) rfl, rk_mt 129 (by decide +kernel) rfl, (by decide +kernel)⟩, fun h => absurd h (by decide)⟩
theorem gk_l13_78 : gk_okr13 (202, 5, 230, 2) := ⟨trivial, ⟨_, rfl, rk_mt 1907 (by decide +kernel) rfl, rk_mt 1909 (by decide +kernel) rfl, rk_mt 134 (by decide +kernel) rfl, (by decide +kernel)⟩, fun h => absurd h (by decide)⟩
theorem gk_l13_79 : gk_okr13 (206, 5, 231, 3) := ⟨trivial, ⟨_, rfl, rk_mt 1911 (by decide +kernel) rfl, rk_mt 1913 (by decide +kernel) rfl, rk_mt 135 (by decide +kernel) rfl, (by decide +kernel)⟩, fun h => absurd h (by decide)⟩
theorem gk_l13_80 : gk_okr13 (209, 5, 240, 0) := ⟨trivial, ⟨_, rfl, rk_mt 1919 (by decide +kernel) rfl, rk_mt 1921 (by decide +kernel) rfl, rk_mt 137 (by decide +kernel) rfl, (by decide +kernel)⟩, fun h => absurd h (by decide)⟩
theorem gk_l13_81 : gk_okr13 (212, 5, 241, 1) := ⟨trivial, ⟨_, rfl, rk_mt 1923 (by decide +kernel) rfl, rk_mt 1925 (by decide +kernel) rfl, rk_mt 138 (by decide +kernel) rfl, (by decide +kernel)⟩, fun h => absurd h (by decide)⟩
theorem gk_l13_82 : gk_okr13 (215, 5, 238, 3) := ⟨trivial, ⟨_, rfl, rk_mt 1927 (by decide +kernel) rfl, rk_mt 1929 (by decide +kernel) rfl, rk_mt 139 (by decide +kernel) rfl, (by decide +kernel)⟩, fun h => absurd h (by decide)⟩
theorem gk_l13_83 : gk_okr13 (218, 0, 12, 20) := ⟨⟨_, rfl, (by decide +kernel), rk_mt 1679 (by decide +kernel) rfl⟩, trivial, fun h => absurd h (by decide)⟩
theorem gk_l13_84 : gk_okr13 (221, 5, 239, 1) := ⟨trivial, ⟨_, rfl, rk_mt 1883 (by decide +kernel) rfl, rk_mt 1885 (by decide +kernel) rfl, rk_mt 128 (by decide +kernel) rfl, (by decide +kernel)⟩, fun h => absurd h (by decide)⟩
theorem gk_l13_85 : gk_okr13 (225, 5, 242, 1) := ⟨trivial, ⟨_, rfl, rk_mt 1915 (by decide +kernel) rfl, rk_mt 1917 (by decide +kernel) rfl, rk_mt 136 (by decide +kernel) rfl, (by decide +kernel)⟩, fun h => absurd h (by decide)⟩
theorem gk_l13_86 : gk_okr13 (228, 5, 243, 0) := ⟨trivial, ⟨_, rfl, rk_mt 1931 (by decide +kernel) rfl, rk_mt 1933 (by decide +kernel) rfl, rk_mt 140 (by decide +kernel) rfl, (by decide +kernel)⟩, fun h => absurd h (by decide)⟩
theorem gk_l13_87 : gk_okr13 (232, 5, 244, 1) := ⟨trivial, ⟨_, rfl, rk_mt 1935 (by decide +kernel) rfl, rk_mt 1937 (by decide +kernel) rfl, rk_mt 141 (by decide +kernel) rfl, (by decide +kernel)⟩, fun h => absurd h (by decide)⟩
theorem gk_l13_88 : gk_okr13 (235, 5, 229, 1) := ⟨trivial, ⟨_, rfl, rk_mt 1939 (by decide +kernel) rfl, rk_mt 1941 (by decide +kernel) rfl, rk_mt 142 (by decide +kernel) rfl, (by decide +kernel)⟩, fun h => absurd h (by decide)⟩
theorem gk_l13_89 : gk_okr13 (238, 5, 228, 2) := ⟨trivial, ⟨_, rfl, rk_mt 1848 (by decide +kernel) rfl, rk_mt 1850 (by decide +kernel) rfl, rk_mt 122 (by decide +kernel) rfl, (by decide +kernel)⟩, fun h => absurd h (by decide)⟩
theorem gk_l13_90 : gk_okr13 (242, 5, 245, 0) := ⟨trivial, ⟨_, rfl, rk_mt 1872 (by decide +kernel) rfl, rk_mt 1874 (by decide +kernel) rfl, rk_mt 126 (by decide +kernel) rfl, (by decide +kernel)⟩, fun h => absurd h (by decide)⟩
theorem gk_l13_91 : gk_okr13 (245, 5, 236, 1) := ⟨trivial, ⟨_, rfl, rk_mt 1947 (by decide +kernel) rfl, rk_mt 1949 (by decide +kernel) rfl, rk_mt 144 (by decide +kernel) rfl, (by decide +kernel)⟩, fun h => absurd h (by decide)⟩
theorem gk_l13_92 : gk_okr13 (248, 5, 248, 1) := ⟨trivial, ⟨_, rfl, rk_mt 1967 (by decide +kernel) rfl, rk_mt 1969 (by decide +kernel) rfl, rk_mt 148 (by decide +kernel) rfl, (by decide +kernel)⟩, fun h => absurd h (by decide)⟩
theorem gk_l13_93 : gk_okr13 (251, 5, 247, 1) := ⟨trivial, ⟨_, rfl, rk_mt 1971 (by decide +kernel) rfl, rk_mt 1973 (by decide +kernel) rfl, rk_mt 149 (by decide +kernel) rfl, (by decide +kernel)⟩, fun h => absurd h (by decide)⟩
theorem gk_l13_94 : gk_okr13 (254, 5, 249, 1) := ⟨trivial, ⟨_, rfl, rk_mt 1975 (by decide +kernel) rfl, rk_mt 1977 (by decide +kernel) rfl, rk_mt 150 (by decide +kernel) rfl, (by decide +kernel)⟩, fun h => absurd h (by decide)⟩
theorem gk_l13_95 : gk_okr13 (257, 0, 12, 22) := ⟨⟨_, rfl, (by decide +kernel), rk_mt 1681 (by decide +kernel) rfl⟩, trivial, fun h => absurd h (by decide)⟩
theorem gk_l13_96 : gk_okr13 (260, 0, 12, 23) := ⟨⟨_, rfl, (by decide +kernel), rk_mt 1682 (by decide +kernel) rfl⟩, trivial, fun h => absurd h (by decide)⟩
theorem gk_l13_97 : gk_okr13 (263, 5, 250, 2) := ⟨trivial, ⟨_, rfl, rk_mt 1963 (by decide +kernel) rfl, rk_mt 1965 (by decide +kernel) rfl, rk_mt 147 (by decide +kernel) rfl, (by decide +kernel)⟩, fun h => absurd h (by decide)⟩
theorem gk_l13_98 : gk_okr13 (266, 5, 251, 0) := ⟨trivial, ⟨_, rfl, rk_mt 1959 (by decide +kernel) rfl, rk_mt 1961 (by decide +kernel) rfl, rk_mt 146 (by decide +kernel) rfl, (by decide +kernel)⟩, fun h => absurd h (by decide)⟩
theorem gk_l13_99 : gk_okr13 (269, 7, 253, 1) := ⟨trivial, ⟨_, rfl, rk_mt 1991 (by decide +kernel) rfl, rk_mt 1992 (by decide +kernel) rfl, (by decide +kernel)⟩, fun h => absurd h (by decide)⟩
theorem gk_l13_100 : gk_okr13 (272, 5, 255, 1) := ⟨trivial, ⟨_, rfl, rk_mt 2017 (by decide +kernel) rfl, rk_mt 2019 (by decide +kernel) rfl, rk_mt 157 (by decide +kernel) rfl, (by decide +kernel)⟩, fun h => absurd h (by decide)⟩
theorem gk_l13_101 : gk_okr13 (276, 5, 256, 1) := ⟨trivial, ⟨_, rfl, rk_mt 1987 (by decide +kernel) rfl, rk_mt 1989 (by decide +kernel) rfl, rk_mt 152 (by decide +kernel) rfl, (by decide +kernel)⟩, fun h => absurd h (by decide)⟩
theorem gk_l13_102 : gk_okr13 (279, 5, 258, 1) := ⟨trivial, ⟨_, rfl, rk_mt 2054 (by decide +kernel) rfl, rk_mt 2056 (by decide +kernel) rfl, rk_mt 165 (by decide +kernel) rfl, (by decide +kernel)⟩, fun h => absurd h (by decide)⟩
theorem gk_l13_103 : gk_okr13 (282, 5, 260, 2) := ⟨trivial, ⟨_, rfl, rk_mt 2042 (by decide +kernel) rfl, rk_mt 2044 (by decide +kernel) rfl, rk_mt 163 (by decide +kernel) rfl, (by decide +kernel)⟩, fun h => absurd h (by decide)⟩
theorem gk_l13_104 : gk_okr13 (285, 7, 254, 1) := ⟨trivial, ⟨_, rfl, rk_mt 2002 (by decide +kernel) rfl, rk_mt 2003 (by decide +kernel) rfl, (by decide +kernel)⟩, fun h => absurd h (by decide)⟩
theorem gk_l13_105 : gk_okr13 (288, 5, 269, 2) := ⟨trivial, ⟨_, rfl, rk_mt 2029 (by decide +kernel) rfl, rk_mt 2031 (by decide +kernel) rfl, rk_mt 160 (by decide +kernel) rfl, (by decide +kernel)⟩, fun h => absurd h (by decide)⟩
theorem gk_l13_106 : gk_okr13 (291, 5, 263, 1) := ⟨trivial, ⟨_, rfl, rk_mt 1994 (by decide +kernel) rfl, rk_mt 1996 (by decide +kernel) rfl, rk_mt 153 (by decide +kernel) rfl, (by decide +kernel)⟩, fun h => absurd h (by decide)⟩
theorem gk_l13_107 : gk_okr13 (294, 5, 270, 1) := ⟨trivial, ⟨_, rfl, rk_mt 2025 (by decide +kernel) rfl, rk_mt 2027 (by decide +kernel) rfl, rk_mt 159 (by decide +kernel) rfl, (by decide +kernel)⟩, fun h => absurd h (by decide)⟩
theorem gk_l13_108 : gk_okr13 (297, 14, 0, 0) := ⟨⟨rk_mt 2033 (by decide +kernel) rfl, rk_mt 1098 (by decide +kernel) rfl, rk_mt 240 (by decide +kernel) rfl, rk_mt 1099 (by decide +kernel) rfl⟩, trivial, fun h => absurd h (by decide)⟩
theorem gk_l13_109 : gk_okr13 (300, 5, 266, 1) := ⟨trivial, ⟨_, rfl, rk_mt 1998 (by decide +kernel) rfl, rk_mt 2000 (by decide +kernel) rfl, rk_mt 154 (by decide +kernel) rfl, (by decide +kernel)⟩, fun h => absurd h (by decide)⟩
theorem gk_l13_110 : gk_okr13 (303, 5, 265, 1) := ⟨trivial, ⟨_, rfl, rk_mt 2038 (by decide +kernel) rfl, rk_mt 2040 (by decide +kernel) rfl, rk_mt 162 (by decide +kernel) rfl, (by decide +kernel)⟩, fun h => absurd h (by decide)⟩
theorem gk_l13_111 : gk_okr13 (306, 5, 264, 1) := ⟨trivial, ⟨_, rfl, rk_mt 2046 (by decide +kernel) rfl, rk_mt 2048 (by decide +kernel) rfl, rk_mt 164 (by decide +kernel) rfl, (by decide +kernel)⟩, fun h => absurd h (by decide)⟩
theorem gk_l13_112 : gk_okr13 (309, 5, 267, 1) := ⟨trivial, ⟨_, rfl, rk_mt 2005 (by decide +kernel) rfl, rk_mt 2007 (by decide +kernel) rfl, rk_mt 155 (by decide +kernel) rfl, (by decide +kernel)⟩, fun h => absurd h (by decide)⟩
theorem gk_l13_113 : gk_okr13 (312, 5, 273, 1) := ⟨trivial, ⟨_, rfl, rk_mt 1983 (by decide +kernel) rfl, rk_mt 1985 (by decide +kernel) rfl, rk_mt 151 (by decide +kernel) rfl, (by decide +kernel)⟩, fun h => absurd h (by decide)⟩
theorem gk_l13_114 : gk_okr13 (315, 5, 257, 1) := ⟨trivial, ⟨_, rfl, rk_mt 2013 (by decide +kernel) rfl, rk_mt 2015 (by decide +kernel) rfl, rk_mt 156 (by decide +kernel) rfl, (by decide +kernel)⟩, fun h => absurd h (by decide)⟩
theorem gk_l13_115 : gk_okr13 (318, 5, 271, 1) := ⟨trivial, ⟨_, rfl, rk_mt 2021 (by decide +kernel) rfl, rk_mt 2023 (by decide +kernel) rfl, rk_mt 158 (by decide +kernel) rfl, (by decide +kernel)⟩, fun h => absurd h (by decide)⟩
theorem gk_l13_116 : gk_okr13 (321, 5, 272, 2) := ⟨trivial, ⟨_, rfl, rk_mt 2034 (by decide +kernel) rfl, rk_mt 2036 (by decide +kernel) rfl, rk_mt 161 (by decide +kernel) rfl, (by decide +kernel)⟩, fun h => absurd h (by decide)⟩
theorem gk_l13_117 : gk_okr13 (324, 5, 268, 2) := ⟨trivial, ⟨_, rfl, rk_mt 2062 (by decide +kernel) rfl, rk_mt 2064 (by decide +kernel) rfl, rk_mt 166 (by decide +kernel) rfl, (by decide +kernel)⟩, fun h => absurd h (by decide)⟩
theorem gk_l13_118 : gk_okr13 (327, 5, 278, 2) := ⟨trivial, ⟨_, rfl, rk_mt 2070 (by decide +kernel) rfl, rk_mt 2072 (by decide +kernel) rfl, rk_mt 167 (by decide +kernel) rfl, (by decide +kernel)⟩, fun h => absurd h (by decide)⟩
theorem gk_l13_119 : gk_okr13 (330, 5, 262, 2) := ⟨trivial, ⟨_, rfl, rk_mt 2074 (by decide +kernel) rfl, rk_mt 2076 (by decide +kernel) rfl, rk_mt 168 (by decide +kernel) rfl, (by decide +kernel)⟩, fun h => absurd h (by decide)⟩
theorem gk_l13_120 : gk_okr13 (333, 5, 283, 1) := ⟨trivial, ⟨_, rfl, rk_mt 2159 (by decide +kernel) rfl, rk_mt 2161 (by decide +kernel) rfl, rk_mt 182 (by decide +kernel) rfl, (by decide +kernel)⟩, fun h => absurd h (by decide)⟩
theorem gk_l13_121 : gk_okr13 (336, 5, 284, 1) := ⟨trivial, ⟨_, rfl, rk_mt 2151 (by decide +kernel) rfl, rk_mt 2153 (by decide +kernel) rfl, rk_mt 180 (by decide +kernel) rfl, (by decide +kernel)⟩, fun h => absurd h (by decide)⟩
theorem gk_l13_122 : gk_okr13 (339, 5, 282, 1) := ⟨trivial, ⟨_, rfl, rk_mt 2155 (by decide +kernel) rfl, rk_mt 2157 (by decide +kernel) rfl, rk_mt 181 (by decide +kernel) rfl, (by decide +kernel)⟩, fun h => absurd h (by decide)⟩
theorem gk_l13_123 : gk_okr13 (342, 7, 218, 3) := ⟨trivial, ⟨_, rfl, rk_mt 2094 (by decide +kernel) rfl, rk_mt 2095 (by decide +kernel) rfl, (by decide +kernel)⟩, fun h => absurd h (by decide)⟩
theorem gk_l13_124 : gk_okr13 (346, 5, 287, 3) := ⟨trivial, ⟨_, rfl, rk_mt 2090 (by decide +kernel) rfl, rk_mt 2092 (by decide +kernel) rfl, rk_mt 169 (by decide +kernel) rfl, (by decide +kernel)⟩, fun h => absurd h (by decide)⟩
theorem gk_l13_125 : gk_okr13 (350, 5, 286, 3) := ⟨trivial, ⟨_, rfl, rk_mt 2097 (by decide +kernel) rfl, rk_mt 2099 (by decide +kernel) rfl, rk_mt 170 (by decide +kernel) rfl, (by decide +kernel)⟩, fun h => absurd h (by decide)⟩
theorem gk_l13_126 : gk_okr13 (353, 5, 288, 3) := ⟨trivial, ⟨_, rfl, rk_mt 2101 (by decide +kernel) rfl, rk_mt 2103 (by decide +kernel) rfl, rk_mt 171 (by decide +kernel) rfl, (by decide +kernel)⟩, fun h => absurd h (by decide)⟩
theorem gk_l13_127 : gk_okr13 (357, 5, 304, 1) := ⟨trivial, ⟨_, rfl, rk_mt 2117 (by decide +kernel) rfl, rk_mt 2119 (by decide +kernel) rfl, rk_mt 174 (by decide +kernel) rfl, (by decide +kernel)⟩, fun h => absurd h (by decide)⟩
theorem gk_l13_128 : gk_okr13 (360, 5, 305, 3) := ⟨trivial, ⟨_, rfl, rk_mt 2129 (by decide +kernel) rfl, rk_mt 2131 (by decide +kernel) rfl, rk_mt 177 (by decide +kernel) rfl, (by decide +kernel)⟩, fun h => absurd h (by decide)⟩
theorem gk_l13_129 : gk_okr13 (364, 5, 306, 1) := ⟨trivial, ⟨_, rfl, rk_mt 2134 (by decide +kernel) rfl, rk_mt 2136 (by decide +kernel) rfl, rk_mt 178 (by decide +kernel) rfl, (by decide +kernel)⟩, fun h => absurd h (by decide)⟩
theorem gk_l13_130 : gk_okr13 (367, 5, 259, 2) := ⟨trivial, ⟨_, rfl, rk_mt 2109 (by decide +kernel) rfl, rk_mt 2111 (by decide +kernel) rfl, rk_mt 172 (by decide +kernel) rfl, (by decide +kernel)⟩, fun h => absurd h (by decide)⟩
theorem gk_l13_131 : gk_okr13 (370, 5, 290, 2) := ⟨trivial, ⟨_, rfl, rk_mt 2113 (by decide +kernel) rfl, rk_mt 2115 (by decide +kernel) rfl, rk_mt 173 (by decide +kernel) rfl, (by decide +kernel)⟩, fun h => absurd h (by decide)⟩
theorem gk_l13_132 : gk_okr13 (375, 5, 285, 0) := ⟨trivial, ⟨_, rfl, rk_mt 2147 (by decide +kernel) rfl, rk_mt 2149 (by decide +kernel) rfl, rk_mt 179 (by decide +kernel) rfl, (by decide +kernel)⟩, fun h => absurd h (by decide)⟩
theorem gk_l13_133 : gk_okr13 (378, 5, 294, 1) := ⟨trivial, ⟨_, rfl, rk_mt 2167 (by decide +kernel) rfl, rk_mt 2169 (by decide +kernel) rfl, rk_mt 183 (by decide +kernel) rfl, (by decide +kernel)⟩, fun h => absurd h (by decide)⟩
theorem gk_l13_134 : gk_okr13 (381, 5, 295, 1) := ⟨trivial, ⟨_, rfl, rk_mt 2175 (by decide +kernel) rfl, rk_mt 2177 (by decide +kernel) rfl, rk_mt 184 (by decide +kernel) rfl, (by decide +kernel)⟩, fun h => absurd h (by decide)⟩
theorem gk_l13_135 : gk_okr13 (384, 7, 261, 1) := ⟨trivial, ⟨_, rfl, rk_mt 2183 (by decide +kernel) rfl, rk_mt 2184 (by decide +kernel) rfl, (by decide +kernel)⟩, fun h => absurd h (by decide)⟩
theorem gk_l13_136 : gk_okr13 (389, 5, 302, 2) := ⟨trivial, ⟨_, rfl, rk_mt 2125 (by decide +kernel) rfl, rk_mt 2127 (by decide +kernel) rfl, rk_mt 176 (by decide +kernel) rfl, (by decide +kernel)⟩, fun h => absurd h (by decide)⟩
theorem gk_l13_137 : gk_okr13 (392, 5, 303, 2) := ⟨trivial, ⟨_, rfl, rk_mt 2121 (by decide +kernel) rfl, rk_mt 2123 (by decide +kernel) rfl, rk_mt 175 (by decide +kernel) rfl, (by decide +kernel)⟩, fun h => absurd h (by decide)⟩
theorem gk_l13_138 : gk_okr13 (395, 5, 307, 2) := ⟨trivial, ⟨_, rfl, rk_mt 2215 (by decide +kernel) rfl, rk_mt 2217 (by decide +kernel) rfl, rk_mt 185 (by decide +kernel) rfl, (by decide +kernel)⟩, fun h => absurd h (by decide)⟩
theorem gk_l13_139 : gk_okr13 (398, 5, 209, 1) := ⟨trivial, ⟨_, rfl, rk_mt 2219 (by decide +kernel) rfl, rk_mt 2221 (by decide +kernel) rfl, rk_mt 186 (by decide +kernel) rfl, (by decide +kernel)⟩, fun h => absurd h (by decide)⟩
theorem gk_l13_140 : gk_okr13 (402, 0, 12, 25) := ⟨⟨_, rfl, (by decide +kernel), rk_mt 1684 (by decide +kernel) rfl⟩, trivial, fun h => absurd h (by decide)⟩
theorem gk_l13_141 : gk_okr13 (405, 5, 313, 2) := ⟨trivial, ⟨_, rfl, rk_mt 2236 (by decide +kernel) rfl, rk_mt 2238 (by decide +kernel) rfl, rk_mt 189 (by decide +kernel) rfl, (by decide +kernel)⟩, fun h => absurd h (by decide)⟩
theorem gk_l13_142 : gk_okr13 (408, 5, 314, 2) := ⟨trivial, ⟨_, rfl, rk_mt 2227 (by decide +kernel) rfl, rk_mt 2229 (by decide +kernel) rfl, rk_mt 187 (by decide +kernel) rfl, (by decide +kernel)⟩, fun h => absurd h (by decide)⟩
theorem gk_l13_143 : gk_okr13 (411, 5, 312, 2) := ⟨trivial, ⟨_, rfl, rk_mt 2231 (by decide +kernel) rfl, rk_mt 2233 (by decide +kernel) rfl, rk_mt 188 (by decide +kernel) rfl, (by decide +kernel)⟩, fun h => absurd h (by decide)⟩
theorem gk_l13_144 : gk_okr13 (414, 5, 319, 2) := ⟨trivial, ⟨_, rfl, rk_mt 2256 (by decide +kernel) rfl, rk_mt 2258 (by decide +kernel) rfl, rk_mt 190 (by decide +kernel) rfl, (by decide +kernel)⟩, fun h => absurd h (by decide)⟩
theorem gk_l13_145 : gk_okr13 (419, 5, 325, 1) := ⟨trivial, ⟨_, rfl, rk_mt 2281 (by decide +kernel) rfl, rk_mt 2283 (by decide +kernel) rfl, rk_mt 191 (by decide +kernel) rfl, (by decide +kernel)⟩, fun h => absurd h (by decide)⟩
theorem gk_l13_146 : gk_okr13 (422, 5, 327, 0) := ⟨trivial, ⟨_, rfl, rk_mt 2285 (by decide +kernel) rfl, rk_mt 2287 (by decide +kernel) rfl, rk_mt 192 (by decide +kernel) rfl, (by decide +kernel)⟩, fun h => absurd h (by decide)⟩
theorem gk_l13_147 : gk_okr13 (425, 5, 326, 1) := ⟨trivial, ⟨_, rfl, rk_mt 2289 (by decide +kernel) rfl, rk_mt 2291 (by decide +kernel) rfl, rk_mt 193 (by decide +kernel) rfl, (by decide +kernel)⟩, fun h => absurd h (by decide)⟩
theorem gk_l13_148 : gk_okr13 (428, 5, 332, 2) := ⟨trivial, ⟨_, rfl, rk_mt 2313 (by decide +kernel) rfl, rk_mt 2315 (by decide +kernel) rfl, rk_mt 198 (by decide +kernel) rfl, (by decide +kernel)⟩, fun h => absurd h (by decide)⟩
theorem gk_l13_149 : gk_okr13 (432, 5, 333, 3) := ⟨trivial, ⟨_, rfl, rk_mt 2297 (by decide +kernel) rfl, rk_mt 2299 (by decide +kernel) rfl, rk_mt 194 (by decide +kernel) rfl, (by decide +kernel)⟩, fun h => absurd h (by decide)⟩
theorem gk_l13_150 : gk_okr13 (435, 5, 329, 3) := ⟨trivial, ⟨_, rfl, rk_mt 2301 (by decide +kernel) rfl, rk_mt 2303 (by decide +kernel) rfl, rk_mt 195 (by decide +kernel) rfl, (by decide +kernel)⟩, fun h => absurd h (by decide)⟩
theorem gk_l13_151 : gk_okr13 (438, 0, 12, 30) := ⟨⟨_, rfl, (by decide +kernel), rk_mt 1689 (by decide +kernel) rfl⟩, trivial, fun h => absurd h (by decide)⟩
theorem gk_l13_152 : gk_okr13 (441, 5, 330, 1) := ⟨trivial, ⟨_, rfl, rk_mt 2305 (by decide +kernel) rfl, rk_mt 2307 (by decide +kernel) rfl, rk_mt 196 (by decide +kernel) rfl, (by decide +kernel)⟩, fun h => absurd h (by decide)⟩
theorem gk_l13_153 : gk_okr13 (444, 5, 331, 1) := ⟨trivial, ⟨_, rfl, rk_mt 2309 (by decide +kernel) rfl, rk_mt 2311 (by decide +kernel) rfl, rk_mt 197 (by decide +kernel) rfl, (by decide +kernel)⟩, fun h => absurd h (by decide)⟩
theorem gk_l13_154 : gk_okr13 (447, 5, 337, 1) := ⟨trivial, ⟨_, rfl, rk_mt 2341 (by decide +kernel) rfl, rk_mt 2343 (by decide +kernel) rfl, rk_mt 202 (by decide +kernel) rfl, (by decide +kernel)⟩, fun h => absurd h (by decide)⟩
theorem gk_l13_155 : gk_okr13 (450, 17, 0, 0) := ⟨⟨rk_mt 2345 (by decide +kernel) rfl, rk_mt 1480 (by decide +kernel) rfl, rk_mt 240 (by decide +kernel) rfl, rk_mt 1481 (by decide +kernel) rfl⟩, trivial, fun h => absurd h (by decide)⟩
theorem gk_l13_156 : gk_okr13 (453, 5, 339, 2) := ⟨trivial, ⟨_, rfl, rk_mt 2337 (by decide +kernel) rfl, rk_mt 2339 (by decide +kernel) rfl, rk_mt 201 (by decide +kernel) rfl, (by decide +kernel)⟩, fun h => absurd h (by decide)⟩
theorem gk_l13_157 : gk_okr13 (456, 5, 338, 1) := ⟨trivial, ⟨_, rfl, rk_mt 2329 (by decide +kernel) rfl, rk_mt 2331 (by decide +kernel) rfl, rk_mt 199 (by decide +kernel) rfl, (by decide +kernel)⟩, fun h => absurd h (by decide)⟩
theorem gk_l13_158 : gk_okr13 (459, 5, 340, 1) := ⟨trivial, ⟨_, rfl, rk_mt 2333 (by decide +kernel) rfl, rk_mt 2335 (by decide +kernel) rfl, rk_mt 200 (by decide +kernel) rfl, (by decide +kernel)⟩, fun h => absurd h (by decide)⟩
theorem gk_l13_159 : gk_okr13 (462, 5, 345, 3) := ⟨trivial, ⟨_, rfl, rk_mt 2367 (by decide +kernel) rfl, rk_mt 2369 (by decide +kernel) rfl, rk_mt 204 (by decide +kernel) rfl, (by decide +kernel)⟩, fun h => absurd h (by decide)⟩
theorem gk_l13_160 : gk_okr13 (469, 7, 346, 2) := ⟨trivial, ⟨_, rfl, rk_mt 2358 (by decide +kernel) rfl, rk_mt 2359 (by decide +kernel) rfl, (by decide +kernel)⟩, fun h => absurd h (by decide)⟩
theorem gk_l13_161 : gk_okr13 (472, 5, 344, 2) := ⟨trivial, ⟨_, rfl, rk_mt 2363 (by decide +kernel) rfl, rk_mt 2365 (by decide +kernel) rfl, rk_mt 203 (by decide +kernel) rfl, (by decide +kernel)⟩, fun h => absurd h (by decide)⟩
theorem gk_l13_162 : gk_okr13 (475, 5, 349, 2) := ⟨trivial, ⟨_, rfl, rk_mt 2379 (by decide +kernel) rfl, rk_mt 2381 (by decide +kernel) rfl, rk_mt 205 (by decide +kernel) rfl, (by decide +kernel)⟩, fun h => absurd h (by decide)⟩
theorem gk_l13_163 : gk_okr13 (478, 5, 351, 1) := ⟨trivial, ⟨_, rfl, rk_mt 2397 (by decide +kernel) rfl, rk_mt 2399 (by decide +kernel) rfl, rk_mt 208 (by decide +kernel) rfl, (by decide +kernel)⟩, fun h => absurd h (by decide)⟩
theorem gk_l13_164 : gk_okr13 (485, 5, 354, 4) := ⟨trivial, ⟨_, rfl, rk_mt 2387 (by decide +kernel) rfl, rk_mt 2389 (by decide +kernel) rfl, rk_mt 206 (by decide +kernel) rfl, (by decide +kernel)⟩, fun h => absurd h (by decide)⟩
theorem gk_l13_165 : gk_okr13 (489, 5, 352, 4) := ⟨trivial, ⟨_, rfl, rk_mt 2393 (by decide +kernel) rfl, rk_mt 2395 (by decide +kernel) rfl, rk_mt 207 (by decide +kernel) rfl, (by decide +kernel)⟩, fun h => absurd h (by decide)⟩
theorem gk_l13_166 : gk_okr13 (493, 5, 353, 2) := ⟨trivial, ⟨_, rfl, rk_mt 2401 (by decide +kernel) rfl, rk_mt 2403 (by decide +kernel) rfl, rk_mt 209 (by decide +kernel) rfl, (by decide +kernel)⟩, fun h => absurd h (by decide)⟩
theorem gk_l13_167 : gk_okr13 (497, 5, 210, 2) := ⟨trivial, ⟨_, rfl, rk_mt 2405 (by decide +kernel) rfl, rk_mt 2407 (by decide +kernel) rfl, rk_mt 210 (by decide +kernel) rfl, (by decide +kernel)⟩, fun h => absurd h (by decide)⟩
theorem gk_l13_168 : gk_okr13 (501, 0, 12, 36) := ⟨⟨_, rfl, (by decide +kernel), rk_mt 1695 (by decide +kernel) rfl⟩, trivial, fun h => absurd h (by decide)⟩
theorem gk_l13_169 : gk_okr13 (505, 5, 358, 1) := ⟨trivial, ⟨_, rfl, rk_mt 2442 (by decide +kernel) rfl, rk_mt 2444 (by decide +kernel) rfl, rk_mt 216 (by decide +kernel) rfl, (by decide +kernel)⟩, fun h => absurd h (by decide)⟩
theorem gk_l13_170 : gk_okr13 (508, 5, 359, 2) := ⟨trivial, ⟨_, rfl, rk_mt 2430 (by decide +kernel) rfl, rk_mt 2432 (by decide +kernel) rfl, rk_mt 213 (by decide +kernel) rfl, (by decide +kernel)⟩, fun h => absurd h (by decide)⟩
theorem gk_l13_171 : gk_okr13 (511, 5, 361, 1) := ⟨trivial, ⟨_, rfl, rk_mt 2434 (by decide +kernel) rfl, rk_mt 2436 (by decide +kernel) rfl, rk_mt 214 (by decide +kernel) rfl, (by decide +kernel)⟩, fun h => absurd h (by decide)⟩
theorem gk_l13_172 : gk_okr13 (514, 5, 360, 0) := ⟨trivial, ⟨_, rfl, rk_mt 2438 (by decide +kernel) rfl, rk_mt 2440 (by decide +kernel) rfl, rk_mt 215 (by decide +kernel) rfl, (by decide +kernel)⟩, fun h => absurd h (by decide)⟩
theorem gk_l13_173 : gk_okr13 (517, 0, 12, 37) := ⟨⟨_, rfl, (by decide +kernel), rk_mt 1696 (by decide +kernel) rfl⟩, trivial, fun h => absurd h (by decide)⟩
theorem gk_l13_174 : gk_okr13 (520, 5, 362, 1) := ⟨trivial, ⟨_, rfl, rk_mt 2426 (by decide +kernel) rfl, rk_mt 2428 (by decide +kernel) rfl, rk_mt 212 (by decide +kernel) rfl, (by decide +kernel)⟩, fun h => absurd h (by decide)⟩
theorem gk_l13_175 : gk_okr13 (523, 5, 363, 1) := ⟨trivial, ⟨_, rfl, rk_mt 2447 (by decide +kernel) rfl, rk_mt 2449 (by decide +kernel) rfl, rk_mt 217 (by decide +kernel) rfl, (by decide +kernel)⟩, fun h => absurd h (by decide)⟩
theorem gk_l13_176 : gk_okr13 (526, 5, 364, 1) := ⟨trivial, ⟨_, rfl, rk_mt 2451 (by decide +kernel) rfl, rk_mt 2453 (by decide +kernel) rfl, rk_mt 218 (by decide +kernel) rfl, (by decide +kernel)⟩, fun h => absurd h (by decide)⟩
theorem gk_l13_177 : gk_okr13 (531, 5, 365, 1) := ⟨trivial, ⟨_, rfl, rk_mt 2422 (by decide +kernel) rfl, rk_mt 2424 (by decide +kernel) rfl, rk_mt 211 (by decide +kernel) rfl, (by decide +kernel)⟩, fun h => absurd h (by decide)⟩
theorem gk_l13_178 : gk_okr13 (534, 0, 12, 41) := ⟨⟨_, rfl, (by decide +kernel), rk_mt 1700 (by decide +kernel) rfl⟩, trivial, fun h => absurd h (by decide)⟩
theorem gk_l13_179 : gk_okr13 (538, 0, 12, 42) := ⟨⟨_, rfl, (by decide +kernel), rk_mt 1701 (by decide +kernel) rfl⟩, trivial, fun h => absurd h (by decide)⟩
theorem gk_l13_180 : gk_okr13 (541, 5, 369, 2) := ⟨trivial, ⟨_, rfl, rk_mt 2467 (by decide +kernel) rfl, rk_mt 2469 (by decide +kernel) rfl, rk_mt 219 (by decide +kernel) rfl, (by decide +kernel)⟩, fun h => absurd h (by decide)⟩
abbrev gk_okr14 (r : Nat × Nat × Nat × Nat) : Prop := rk_lok gk_tbl gk_xw gk_cl "java/lang/Integer" r ∧ rk_cok gk_tbl gk_xw gk_MN gk_P "java/lang/Integer" r ∧ rk_kok gk_tbl "java/lang/Integer" r
abbrev gk_okr15 (r : Nat × Nat × Nat × Nat) : Prop := rk_lok gk_tbl gk_xw gk_cl "java/lang/String" r ∧ rk_cok gk_tbl gk_xw gk_MN gk_P "java/lang/String" r ∧ rk_kok gk_tbl "java/lang/String" r
theorem gk_l15_0 : gk_okr15 (335, 5, 379, 0) := ⟨trivial, ⟨_, rfl, rk_mt 263 (by decide +kernel) rfl, rk_mt 264 (by decide +kernel) rfl, rk_mt 265 (by decide +kernel) rfl, (by decide +kernel)⟩, fun h => absurd h (by decide)⟩
theorem gk_l15_1 : gk_okr15 (492, 5, 380, 0) := ⟨trivial, ⟨_, rfl, rk_mt 273 (by decide +kernel) rfl, rk_mt 274 (by decide +kernel) rfl, rk_mt 275 (by decide +kernel) rfl, (by decide +kernel)⟩, fun h => absurd h (by decide)⟩
theorem gk_l15_2 : gk_okr15 (495, 7, 382, 2) := ⟨trivial, ⟨_, rfl, rk_mt 277 (by decide +kernel) rfl, rk_mt 278 (by decide +kernel) rfl, (by decide +kernel)⟩, fun h => absurd h (by decide)⟩
theorem gk_l15_3 : gk_okr15 (498, 7, 385, 2) := ⟨trivial, ⟨_, rfl, rk_mt 288 (by decide +kernel) rfl, rk_mt 289 (by decide +kernel) rfl, (by decide +kernel)⟩, fun h => absurd h (by decide)⟩
theorem gk_l15_4 : gk_okr15 (1059, 7, 389, 3) := ⟨trivial, ⟨_, rfl, rk_mt 285 (by decide +kernel) rfl, rk_mt 286 (by decide +kernel) rfl, (by decide +kernel)⟩, fun h => absurd h (by decide)⟩
abbrev gk_okr16 (r : Nat × Nat × Nat × Nat) : Prop := rk_lok gk_tbl gk_xw gk_cl "java/lang/StringLatin1" r ∧ rk_cok gk_tbl gk_xw gk_MN gk_P "java/lang/StringLatin1" r ∧ rk_kok gk_tbl "java/lang/StringLatin1" r
theorem gk_l16_0 : gk_okr16 (9, 7, 381, 2) := ⟨trivial, ⟨_, rfl, rk_mt 280 (by decide +kernel) rfl, rk_mt 281 (by decide +kernel) rfl, (by decide +kernel)⟩, fun h => absurd h (by decide)⟩
abbrev gk_okr17 (r : Nat × Nat × Nat × Nat) : Prop := rk_lok gk_tbl gk_xw gk_cl "java/lang/StringUTF16" r ∧ rk_cok gk_tbl gk_xw gk_MN gk_P "java/lang/StringUTF16" r ∧ rk_kok gk_tbl "java/lang/StringUTF16" r
theorem gk_l17_0 : gk_okr17 (48, 7, 384, 1) := ⟨trivial, ⟨_, rfl, rk_mt 294 (by decide +kernel) rfl, rk_mt 295 (by decide +kernel) rfl, (by decide +kernel)⟩, fun h => absurd h (by decide)⟩
theorem gk_l17_1 : gk_okr17 (67, 7, 386, 2) := ⟨trivial, ⟨_, rfl, rk_mt 291 (by decide +kernel) rfl, rk_mt 292 (by decide +kernel) rfl, (by decide +kernel)⟩, fun h => absurd h (by decide)⟩
theorem gk_l17_2 : gk_okr17 (71, 7, 383, 2) := ⟨trivial, ⟨_, rfl, rk_mt 298 (by decide +kernel) rfl, rk_mt 299 (by decide +kernel) rfl, (by decide +kernel)⟩, fun h => absurd h (by decide)⟩
theorem gk_l17_3 : gk_okr17 (414, 7, 381, 2) := ⟨trivial, ⟨_, rfl, rk_mt 297 (by decide +kernel) rfl, rk_mt 281 (by decide +kernel) rfl, (by decide +kernel)⟩, fun h => absurd h (by decide)⟩
