theorem pc_0 : pCode 0 = pL_0 := rfl
theorem ow_0 : mOw 0 = 0 := by decide +kernel
theorem mx_0 : mMx 0 = 1 := by decide +kernel
theorem rt_0 : mRt 0 = none := by decide +kernel
theorem pc_1 : pCode 1 = pL_1 := rfl
theorem ow_1 : mOw 1 = 0 := by decide +kernel
theorem mx_1 : mMx 1 = 2 := by decide +kernel
theorem rt_1 : mRt 1 = none := by decide +kernel
theorem pc_2 : pCode 2 = pL_2 := rfl
theorem ow_2 : mOw 2 = 0 := by decide +kernel
theorem mx_2 : mMx 2 = 6 := by decide +kernel
theorem rt_2 : mRt 2 = none := by decide +kernel
theorem pc_3 : pCode 3 = pL_3 := rfl
theorem ow_3 : mOw 3 = 0 := by decide +kernel
theorem mx_3 : mMx 3 = 2 := by decide +kernel
theorem rt_3 : mRt 3 = none := by decide +kernel
theorem pc_4 : pCode 4 = pL_4 := rfl
theorem ow_4 : mOw 4 = 0 := by decide +kernel
theorem mx_4 : mMx 4 = 5 := by decide +kernel
theorem rt_4 : mRt 4 = (some .boolean) := by decide +kernel
theorem pc_5 : pCode 5 = pL_5 := rfl
theorem ow_5 : mOw 5 = 0 := by decide +kernel
theorem mx_5 : mMx 5 = 4 := by decide +kernel
theorem rt_5 : mRt 5 = none := by decide +kernel
theorem pc_6 : pCode 6 = pL_6 := rfl
theorem ow_6 : mOw 6 = 0 := by decide +kernel
theorem mx_6 : mMx 6 = 3 := by decide +kernel
theorem rt_6 : mRt 6 = none := by decide +kernel
theorem pc_7 : pCode 7 = pL_7 := rfl
theorem ow_7 : mOw 7 = 1 := by decide +kernel
theorem mx_7 : mMx 7 = 3 := by decide +kernel
theorem rt_7 : mRt 7 = none := by decide +kernel
theorem pc_8 : pCode 8 = pL_8 := rfl
theorem ow_8 : mOw 8 = 1 := by decide +kernel
theorem mx_8 : mMx 8 = 1 := by decide +kernel
theorem rt_8 : mRt 8 = (some .boolean) := by decide +kernel
theorem pc_9 : pCode 9 = pL_9 := rfl
theorem ow_9 : mOw 9 = 1 := by decide +kernel
theorem mx_9 : mMx 9 = 5 := by decide +kernel
theorem rt_9 : mRt 9 = (some .int) := by decide +kernel
theorem pc_10 : pCode 10 = pL_10 := rfl
theorem ow_10 : mOw 10 = 1 := by decide +kernel
theorem mx_10 : mMx 10 = 4 := by decide +kernel
theorem rt_10 : mRt 10 = (some .int) := by decide +kernel
theorem pc_11 : pCode 11 = pL_11 := rfl
theorem ow_11 : mOw 11 = 1 := by decide +kernel
theorem mx_11 : mMx 11 = 5 := by decide +kernel
theorem rt_11 : mRt 11 = (some .int) := by decide +kernel
theorem pc_12 : pCode 12 = pL_12 := rfl
theorem ow_12 : mOw 12 = 1 := by decide +kernel
theorem mx_12 : mMx 12 = 5 := by decide +kernel
theorem rt_12 : mRt 12 = (some .int) := by decide +kernel
theorem pc_13 : pCode 13 = pL_13 := rfl
theorem ow_13 : mOw 13 = 1 := by decide +kernel
theorem mx_13 : mMx 13 = 3 := by decide +kernel
theorem rt_13 : mRt 13 = (some .int) := by decide +kernel
theorem pc_14 : pCode 14 = pL_14 := rfl
theorem ow_14 : mOw 14 = 1 := by decide +kernel
theorem mx_14 : mMx 14 = 3 := by decide +kernel
theorem rt_14 : mRt 14 = (some .boolean) := by decide +kernel
theorem pc_15 : pCode 15 = pL_15 := rfl
theorem ow_15 : mOw 15 = 1 := by decide +kernel
theorem mx_15 : mMx 15 = 4 := by decide +kernel
theorem rt_15 : mRt 15 = (some .int) := by decide +kernel
theorem pc_16 : pCode 16 = pL_16 := rfl
theorem ow_16 : mOw 16 = 1 := by decide +kernel
theorem mx_16 : mMx 16 = 7 := by decide +kernel
theorem rt_16 : mRt 16 = (some .boolean) := by decide +kernel
theorem pc_17 : pCode 17 = pL_17 := rfl
theorem ow_17 : mOw 17 = 2 := by decide +kernel
theorem mx_17 : mMx 17 = 3 := by decide +kernel
theorem rt_17 : mRt 17 = none := by decide +kernel
theorem pc_18 : pCode 18 = pL_18 := rfl
theorem ow_18 : mOw 18 = 2 := by decide +kernel
theorem mx_18 : mMx 18 = 1 := by decide +kernel
theorem rt_18 : mRt 18 = none := by decide +kernel
theorem pc_19 : pCode 19 = pL_19 := rfl
theorem ow_19 : mOw 19 = 2 := by decide +kernel
theorem mx_19 : mMx 19 = 3 := by decide +kernel
theorem rt_19 : mRt 19 = (some .long) := by decide +kernel
theorem pc_20 : pCode 20 = pL_20 := rfl
theorem ow_20 : mOw 20 = 2 := by decide +kernel
theorem mx_20 : mMx 20 = 3 := by decide +kernel
theorem rt_20 : mRt 20 = (some .int) := by decide +kernel
theorem pc_21 : pCode 21 = pL_21 := rfl
theorem ow_21 : mOw 21 = 2 := by decide +kernel
theorem mx_21 : mMx 21 = 6 := by decide +kernel
theorem rt_21 : mRt 21 = none := by decide +kernel
theorem pc_22 : pCode 22 = pL_22 := rfl
theorem ow_22 : mOw 22 = 2 := by decide +kernel
theorem mx_22 : mMx 22 = 5 := by decide +kernel
theorem rt_22 : mRt 22 = none := by decide +kernel
theorem pc_23 : pCode 23 = pL_23 := rfl
theorem ow_23 : mOw 23 = 2 := by decide +kernel
theorem mx_23 : mMx 23 = 6 := by decide +kernel
theorem rt_23 : mRt 23 = (some .int) := by decide +kernel
theorem pc_24 : pCode 24 = pL_24 := rfl
theorem ow_24 : mOw 24 = 2 := by decide +kernel
theorem mx_24 : mMx 24 = 5 := by decide +kernel
theorem rt_24 : mRt 24 = (some .int) := by decide +kernel
theorem pc_25 : pCode 25 = pL_25 := rfl
theorem ow_25 : mOw 25 = 2 := by decide +kernel
theorem mx_25 : mMx 25 = 7 := by decide +kernel
theorem rt_25 : mRt 25 = (some .int) := by decide +kernel
theorem pc_26 : pCode 26 = pL_26 := rfl
theorem ow_26 : mOw 26 = 2 := by decide +kernel
theorem mx_26 : mMx 26 = 4 := by decide +kernel
theorem rt_26 : mRt 26 = (some .int) := by decide +kernel
theorem pc_27 : pCode 27 = pL_27 := rfl
theorem ow_27 : mOw 27 = 2 := by decide +kernel
theorem mx_27 : mMx 27 = 5 := by decide +kernel
theorem rt_27 : mRt 27 = (some .int) := by decide +kernel
theorem pc_28 : pCode 28 = pL_28 := rfl
theorem ow_28 : mOw 28 = 3 := by decide +kernel
theorem mx_28 : mMx 28 = 3 := by decide +kernel
theorem rt_28 : mRt 28 = none := by decide +kernel
theorem pc_29 : pCode 29 = pL_29 := rfl
theorem ow_29 : mOw 29 = 3 := by decide +kernel
theorem mx_29 : mMx 29 = 3 := by decide +kernel
theorem rt_29 : mRt 29 = (some .int) := by decide +kernel
theorem pc_30 : pCode 30 = pL_30 := rfl
theorem ow_30 : mOw 30 = 3 := by decide +kernel
theorem mx_30 : mMx 30 = 2 := by decide +kernel
theorem rt_30 : mRt 30 = (some .boolean) := by decide +kernel
theorem pc_31 : pCode 31 = pL_31 := rfl
theorem ow_31 : mOw 31 = 3 := by decide +kernel
theorem mx_31 : mMx 31 = 8 := by decide +kernel
theorem rt_31 : mRt 31 = (some .boolean) := by decide +kernel
theorem pc_32 : pCode 32 = pL_32 := rfl
theorem ow_32 : mOw 32 = 3 := by decide +kernel
theorem mx_32 : mMx 32 = 1 := by decide +kernel
theorem rt_32 : mRt 32 = (some .boolean) := by decide +kernel
theorem pc_33 : pCode 33 = pL_33 := rfl
theorem ow_33 : mOw 33 = 3 := by decide +kernel
theorem mx_33 : mMx 33 = 1 := by decide +kernel
theorem rt_33 : mRt 33 = (some .boolean) := by decide +kernel
theorem pc_34 : pCode 34 = pL_34 := rfl
theorem ow_34 : mOw 34 = 3 := by decide +kernel
theorem mx_34 : mMx 34 = 1 := by decide +kernel
theorem rt_34 : mRt 34 = (some .boolean) := by decide +kernel
theorem pc_35 : pCode 35 = pL_35 := rfl
theorem ow_35 : mOw 35 = 3 := by decide +kernel
theorem mx_35 : mMx 35 = 1 := by decide +kernel
theorem rt_35 : mRt 35 = (some .boolean) := by decide +kernel
theorem pc_36 : pCode 36 = pL_36 := rfl
theorem ow_36 : mOw 36 = 3 := by decide +kernel
theorem mx_36 : mMx 36 = 3 := by decide +kernel
theorem rt_36 : mRt 36 = (some .boolean) := by decide +kernel
theorem pc_37 : pCode 37 = pL_37 := rfl
theorem ow_37 : mOw 37 = 3 := by decide +kernel
theorem mx_37 : mMx 37 = 3 := by decide +kernel
theorem rt_37 : mRt 37 = (some .boolean) := by decide +kernel
theorem pc_38 : pCode 38 = pL_38 := rfl
theorem ow_38 : mOw 38 = 3 := by decide +kernel
theorem mx_38 : mMx 38 = 4 := by decide +kernel
theorem rt_38 : mRt 38 = (some .boolean) := by decide +kernel
theorem pc_39 : pCode 39 = pL_39 := rfl
theorem ow_39 : mOw 39 = 3 := by decide +kernel
theorem mx_39 : mMx 39 = 3 := by decide +kernel
theorem rt_39 : mRt 39 = (some .boolean) := by decide +kernel
theorem pc_40 : pCode 40 = pL_40 := rfl
theorem ow_40 : mOw 40 = 3 := by decide +kernel
theorem mx_40 : mMx 40 = 4 := by decide +kernel
theorem rt_40 : mRt 40 = (some .boolean) := by decide +kernel
theorem pc_41 : pCode 41 = pL_41 := rfl
theorem ow_41 : mOw 41 = 3 := by decide +kernel
theorem mx_41 : mMx 41 = 4 := by decide +kernel
theorem rt_41 : mRt 41 = (some .boolean) := by decide +kernel
theorem pc_42 : pCode 42 = pL_42 := rfl
theorem ow_42 : mOw 42 = 3 := by decide +kernel
theorem mx_42 : mMx 42 = 3 := by decide +kernel
theorem rt_42 : mRt 42 = (some .boolean) := by decide +kernel
theorem pc_43 : pCode 43 = pL_43 := rfl
theorem ow_43 : mOw 43 = 3 := by decide +kernel
theorem mx_43 : mMx 43 = 4 := by decide +kernel
theorem rt_43 : mRt 43 = (some .int) := by decide +kernel
theorem pc_44 : pCode 44 = pL_44 := rfl
theorem ow_44 : mOw 44 = 3 := by decide +kernel
theorem mx_44 : mMx 44 = 1 := by decide +kernel
theorem rt_44 : mRt 44 = (some .int) := by decide +kernel
theorem pc_45 : pCode 45 = pL_45 := rfl
theorem ow_45 : mOw 45 = 3 := by decide +kernel
theorem mx_45 : mMx 45 = 1 := by decide +kernel
theorem rt_45 : mRt 45 = (some .int) := by decide +kernel
theorem pc_46 : pCode 46 = pL_46 := rfl
theorem ow_46 : mOw 46 = 3 := by decide +kernel
theorem mx_46 : mMx 46 = 3 := by decide +kernel
theorem rt_46 : mRt 46 = (some .boolean) := by decide +kernel
theorem pc_47 : pCode 47 = pL_47 := rfl
theorem ow_47 : mOw 47 = 3 := by decide +kernel
theorem mx_47 : mMx 47 = 2 := by decide +kernel
theorem rt_47 : mRt 47 = (some .boolean) := by decide +kernel
theorem pc_48 : pCode 48 = pL_48 := rfl
theorem ow_48 : mOw 48 = 3 := by decide +kernel
theorem mx_48 : mMx 48 = 2 := by decide +kernel
theorem rt_48 : mRt 48 = (some .boolean) := by decide +kernel
theorem pc_49 : pCode 49 = pL_49 := rfl
theorem ow_49 : mOw 49 = 3 := by decide +kernel
theorem mx_49 : mMx 49 = 1 := by decide +kernel
theorem rt_49 : mRt 49 = none := by decide +kernel
theorem pc_50 : pCode 50 = pL_50 := rfl
theorem ow_50 : mOw 50 = 3 := by decide +kernel
theorem mx_50 : mMx 50 = 1 := by decide +kernel
theorem rt_50 : mRt 50 = (some .boolean) := by decide +kernel
theorem pc_51 : pCode 51 = pL_51 := rfl
theorem ow_51 : mOw 51 = 3 := by decide +kernel
theorem mx_51 : mMx 51 = 1 := by decide +kernel
theorem rt_51 : mRt 51 = (some .boolean) := by decide +kernel
theorem pc_52 : pCode 52 = pL_52 := rfl
theorem ow_52 : mOw 52 = 4 := by decide +kernel
theorem mx_52 : mMx 52 = 1 := by decide +kernel
theorem rt_52 : mRt 52 = none := by decide +kernel
theorem pc_53 : pCode 53 = pL_53 := rfl
theorem ow_53 : mOw 53 = 4 := by decide +kernel
theorem mx_53 : mMx 53 = 2 := by decide +kernel
theorem rt_53 : mRt 53 = none := by decide +kernel
theorem pc_54 : pCode 54 = pL_54 := rfl
theorem ow_54 : mOw 54 = 4 := by decide +kernel
theorem mx_54 : mMx 54 = 2 := by decide +kernel
theorem rt_54 : mRt 54 = none := by decide +kernel
theorem pc_55 : pCode 55 = pL_55 := rfl
theorem ow_55 : mOw 55 = 4 := by decide +kernel
theorem mx_55 : mMx 55 = 4 := by decide +kernel
theorem rt_55 : mRt 55 = (some .int) := by decide +kernel
theorem pc_56 : pCode 56 = pL_56 := rfl
theorem ow_56 : mOw 56 = 4 := by decide +kernel
theorem mx_56 : mMx 56 = 2 := by decide +kernel
theorem rt_56 : mRt 56 = none := by decide +kernel
theorem pc_57 : pCode 57 = pL_57 := rfl
theorem ow_57 : mOw 57 = 4 := by decide +kernel
theorem mx_57 : mMx 57 = 1 := by decide +kernel
theorem rt_57 : mRt 57 = (some .int) := by decide +kernel
theorem pc_58 : pCode 58 = pL_58 := rfl
theorem ow_58 : mOw 58 = 4 := by decide +kernel
theorem mx_58 : mMx 58 = 2 := by decide +kernel
theorem rt_58 : mRt 58 = (some .int) := by decide +kernel
theorem pc_59 : pCode 59 = pL_59 := rfl
theorem ow_59 : mOw 59 = 4 := by decide +kernel
theorem mx_59 : mMx 59 = 3 := by decide +kernel
theorem rt_59 : mRt 59 = (some .int) := by decide +kernel
theorem pc_60 : pCode 60 = pL_60 := rfl
theorem ow_60 : mOw 60 = 5 := by decide +kernel
theorem mx_60 : mMx 60 = 2 := by decide +kernel
theorem rt_60 : mRt 60 = none := by decide +kernel
theorem pc_61 : pCode 61 = pL_61 := rfl
theorem ow_61 : mOw 61 = 5 := by decide +kernel
theorem mx_61 : mMx 61 = 1 := by decide +kernel
theorem rt_61 : mRt 61 = none := by decide +kernel
theorem pc_62 : pCode 62 = pL_62 := rfl
theorem ow_62 : mOw 62 = 5 := by decide +kernel
theorem mx_62 : mMx 62 = 2 := by decide +kernel
theorem rt_62 : mRt 62 = none := by decide +kernel
theorem pc_63 : pCode 63 = pL_63 := rfl
theorem ow_63 : mOw 63 = 5 := by decide +kernel
theorem mx_63 : mMx 63 = 2 := by decide +kernel
theorem rt_63 : mRt 63 = (some .int) := by decide +kernel
theorem pc_64 : pCode 64 = pL_64 := rfl
theorem ow_64 : mOw 64 = 5 := by decide +kernel
theorem mx_64 : mMx 64 = 3 := by decide +kernel
theorem rt_64 : mRt 64 = (some .int) := by decide +kernel
theorem pc_65 : pCode 65 = pL_65 := rfl
theorem ow_65 : mOw 65 = 5 := by decide +kernel
theorem mx_65 : mMx 65 = 3 := by decide +kernel
theorem rt_65 : mRt 65 = (some .int) := by decide +kernel
theorem pc_66 : pCode 66 = pL_66 := rfl
theorem ow_66 : mOw 66 = 5 := by decide +kernel
theorem mx_66 : mMx 66 = 3 := by decide +kernel
theorem rt_66 : mRt 66 = (some .boolean) := by decide +kernel
theorem pc_67 : pCode 67 = pL_67 := rfl
theorem ow_67 : mOw 67 = 5 := by decide +kernel
theorem mx_67 : mMx 67 = 4 := by decide +kernel
theorem rt_67 : mRt 67 = (some .int) := by decide +kernel
theorem pc_68 : pCode 68 = pL_68 := rfl
theorem ow_68 : mOw 68 = 5 := by decide +kernel
theorem mx_68 : mMx 68 = 4 := by decide +kernel
theorem rt_68 : mRt 68 = (some .int) := by decide +kernel
theorem pc_69 : pCode 69 = pL_69 := rfl
theorem ow_69 : mOw 69 = 5 := by decide +kernel
theorem mx_69 : mMx 69 = 2 := by decide +kernel
theorem rt_69 : mRt 69 = (some .int) := by decide +kernel
theorem pc_70 : pCode 70 = pL_70 := rfl
theorem ow_70 : mOw 70 = 5 := by decide +kernel
theorem mx_70 : mMx 70 = 2 := by decide +kernel
theorem rt_70 : mRt 70 = (some .int) := by decide +kernel
theorem pc_71 : pCode 71 = pL_71 := rfl
theorem ow_71 : mOw 71 = 5 := by decide +kernel
theorem mx_71 : mMx 71 = 1 := by decide +kernel
theorem rt_71 : mRt 71 = (some .int) := by decide +kernel
theorem pc_72 : pCode 72 = pL_72 := rfl
theorem ow_72 : mOw 72 = 5 := by decide +kernel
theorem mx_72 : mMx 72 = 4 := by decide +kernel
theorem rt_72 : mRt 72 = (some .int) := by decide +kernel
theorem pc_73 : pCode 73 = pL_73 := rfl
theorem ow_73 : mOw 73 = 5 := by decide +kernel
theorem mx_73 : mMx 73 = 5 := by decide +kernel
theorem rt_73 : mRt 73 = none := by decide +kernel
theorem pc_74 : pCode 74 = pL_74 := rfl
theorem ow_74 : mOw 74 = 6 := by decide +kernel
theorem mx_74 : mMx 74 = 2 := by decide +kernel
theorem rt_74 : mRt 74 = none := by decide +kernel
theorem pc_75 : pCode 75 = pL_75 := rfl
theorem ow_75 : mOw 75 = 6 := by decide +kernel
theorem mx_75 : mMx 75 = 2 := by decide +kernel
theorem rt_75 : mRt 75 = none := by decide +kernel
theorem pc_76 : pCode 76 = pL_76 := rfl
theorem ow_76 : mOw 76 = 6 := by decide +kernel
theorem mx_76 : mMx 76 = 2 := by decide +kernel
theorem rt_76 : mRt 76 = none := by decide +kernel
theorem pc_77 : pCode 77 = pL_77 := rfl
theorem ow_77 : mOw 77 = 6 := by decide +kernel
theorem mx_77 : mMx 77 = 3 := by decide +kernel
theorem rt_77 : mRt 77 = (some .int) := by decide +kernel
theorem pc_78 : pCode 78 = pL_78 := rfl
theorem ow_78 : mOw 78 = 6 := by decide +kernel
theorem mx_78 : mMx 78 = 3 := by decide +kernel
theorem rt_78 : mRt 78 = (some .int) := by decide +kernel
theorem pc_79 : pCode 79 = pL_79 := rfl
theorem ow_79 : mOw 79 = 6 := by decide +kernel
theorem mx_79 : mMx 79 = 4 := by decide +kernel
theorem rt_79 : mRt 79 = none := by decide +kernel
theorem pc_80 : pCode 80 = pL_80 := rfl
theorem ow_80 : mOw 80 = 6 := by decide +kernel
theorem mx_80 : mMx 80 = 3 := by decide +kernel
theorem rt_80 : mRt 80 = none := by decide +kernel
theorem pc_81 : pCode 81 = pL_81 := rfl
theorem ow_81 : mOw 81 = 6 := by decide +kernel
theorem mx_81 : mMx 81 = 4 := by decide +kernel
theorem rt_81 : mRt 81 = none := by decide +kernel
theorem pc_82 : pCode 82 = pL_82 := rfl
theorem ow_82 : mOw 82 = 6 := by decide +kernel
theorem mx_82 : mMx 82 = 4 := by decide +kernel
theorem rt_82 : mRt 82 = (some .int) := by decide +kernel
theorem pc_83 : pCode 83 = pL_83 := rfl
theorem ow_83 : mOw 83 = 6 := by decide +kernel
theorem mx_83 : mMx 83 = 2 := by decide +kernel
theorem rt_83 : mRt 83 = (some .int) := by decide +kernel
theorem pc_84 : pCode 84 = pL_84 := rfl
theorem ow_84 : mOw 84 = 6 := by decide +kernel
theorem mx_84 : mMx 84 = 4 := by decide +kernel
theorem rt_84 : mRt 84 = none := by decide +kernel
theorem pc_85 : pCode 85 = pL_85 := rfl
theorem ow_85 : mOw 85 = 6 := by decide +kernel
theorem mx_85 : mMx 85 = 2 := by decide +kernel
theorem rt_85 : mRt 85 = (some .int) := by decide +kernel
theorem pc_86 : pCode 86 = pL_86 := rfl
theorem ow_86 : mOw 86 = 6 := by decide +kernel
theorem mx_86 : mMx 86 = 2 := by decide +kernel
theorem rt_86 : mRt 86 = (some .boolean) := by decide +kernel
theorem pc_87 : pCode 87 = pL_87 := rfl
theorem ow_87 : mOw 87 = 6 := by decide +kernel
theorem mx_87 : mMx 87 = 2 := by decide +kernel
theorem rt_87 : mRt 87 = (some .int) := by decide +kernel
theorem pc_88 : pCode 88 = pL_88 := rfl
theorem ow_88 : mOw 88 = 6 := by decide +kernel
theorem mx_88 : mMx 88 = 1 := by decide +kernel
theorem rt_88 : mRt 88 = (some .boolean) := by decide +kernel
theorem pc_89 : pCode 89 = pL_89 := rfl
theorem ow_89 : mOw 89 = 6 := by decide +kernel
theorem mx_89 : mMx 89 = 3 := by decide +kernel
theorem rt_89 : mRt 89 = (some .int) := by decide +kernel
theorem pc_90 : pCode 90 = pL_90 := rfl
theorem ow_90 : mOw 90 = 6 := by decide +kernel
theorem mx_90 : mMx 90 = 5 := by decide +kernel
theorem rt_90 : mRt 90 = (some .int) := by decide +kernel
theorem pc_91 : pCode 91 = pL_91 := rfl
theorem ow_91 : mOw 91 = 6 := by decide +kernel
theorem mx_91 : mMx 91 = 5 := by decide +kernel
theorem rt_91 : mRt 91 = (some .boolean) := by decide +kernel
theorem pc_92 : pCode 92 = pL_92 := rfl
theorem ow_92 : mOw 92 = 6 := by decide +kernel
theorem mx_92 : mMx 92 = 5 := by decide +kernel
theorem rt_92 : mRt 92 = (some .int) := by decide +kernel
theorem pc_93 : pCode 93 = pL_93 := rfl
theorem ow_93 : mOw 93 = 6 := by decide +kernel
theorem mx_93 : mMx 93 = 4 := by decide +kernel
theorem rt_93 : mRt 93 = (some .int) := by decide +kernel
theorem pc_94 : pCode 94 = pL_94 := rfl
theorem ow_94 : mOw 94 = 6 := by decide +kernel
theorem mx_94 : mMx 94 = 6 := by decide +kernel
theorem rt_94 : mRt 94 = (some .int) := by decide +kernel
theorem pc_95 : pCode 95 = pL_95 := rfl
theorem ow_95 : mOw 95 = 6 := by decide +kernel
theorem mx_95 : mMx 95 = 3 := by decide +kernel
theorem rt_95 : mRt 95 = (some .int) := by decide +kernel
theorem pc_96 : pCode 96 = pL_96 := rfl
theorem ow_96 : mOw 96 = 6 := by decide +kernel
theorem mx_96 : mMx 96 = 3 := by decide +kernel
theorem rt_96 : mRt 96 = (some .boolean) := by decide +kernel
theorem pc_97 : pCode 97 = pL_97 := rfl
theorem ow_97 : mOw 97 = 7 := by decide +kernel
theorem mx_97 : mMx 97 = 1 := by decide +kernel
theorem rt_97 : mRt 97 = none := by decide +kernel
theorem pc_98 : pCode 98 = pL_98 := rfl
theorem ow_98 : mOw 98 = 7 := by decide +kernel
theorem mx_98 : mMx 98 = 1 := by decide +kernel
theorem rt_98 : mRt 98 = none := by decide +kernel
theorem pc_99 : pCode 99 = pL_99 := rfl
theorem ow_99 : mOw 99 = 7 := by decide +kernel
theorem mx_99 : mMx 99 = 2 := by decide +kernel
theorem rt_99 : mRt 99 = none := by decide +kernel
theorem pc_100 : pCode 100 = pL_100 := rfl
theorem ow_100 : mOw 100 = 7 := by decide +kernel
theorem mx_100 : mMx 100 = 1 := by decide +kernel
theorem rt_100 : mRt 100 = (some .int) := by decide +kernel
theorem pc_101 : pCode 101 = pL_101 := rfl
theorem ow_101 : mOw 101 = 7 := by decide +kernel
theorem mx_101 : mMx 101 = 2 := by decide +kernel
theorem rt_101 : mRt 101 = (some .int) := by decide +kernel
theorem pc_102 : pCode 102 = pL_102 := rfl
theorem ow_102 : mOw 102 = 7 := by decide +kernel
theorem mx_102 : mMx 102 = 2 := by decide +kernel
theorem rt_102 : mRt 102 = (some .int) := by decide +kernel
theorem pc_103 : pCode 103 = pL_103 := rfl
theorem ow_103 : mOw 103 = 7 := by decide +kernel
theorem mx_103 : mMx 103 = 2 := by decide +kernel
theorem rt_103 : mRt 103 = (some .boolean) := by decide +kernel
theorem pc_104 : pCode 104 = pL_104 := rfl
theorem ow_104 : mOw 104 = 8 := by decide +kernel
theorem mx_104 : mMx 104 = 3 := by decide +kernel
theorem rt_104 : mRt 104 = none := by decide +kernel
theorem pc_105 : pCode 105 = pL_105 := rfl
theorem ow_105 : mOw 105 = 8 := by decide +kernel
theorem mx_105 : mMx 105 = 2 := by decide +kernel
theorem rt_105 : mRt 105 = (some .int) := by decide +kernel
theorem pc_106 : pCode 106 = pL_106 := rfl
theorem ow_106 : mOw 106 = 8 := by decide +kernel
theorem mx_106 : mMx 106 = 5 := by decide +kernel
theorem rt_106 : mRt 106 = (some .int) := by decide +kernel
theorem pc_107 : pCode 107 = pL_107 := rfl
theorem ow_107 : mOw 107 = 8 := by decide +kernel
theorem mx_107 : mMx 107 = 6 := by decide +kernel
theorem rt_107 : mRt 107 = (some .int) := by decide +kernel
theorem pc_108 : pCode 108 = pL_108 := rfl
theorem ow_108 : mOw 108 = 8 := by decide +kernel
theorem mx_108 : mMx 108 = 4 := by decide +kernel
theorem rt_108 : mRt 108 = (some .boolean) := by decide +kernel
theorem pc_109 : pCode 109 = pL_109 := rfl
theorem ow_109 : mOw 109 = 8 := by decide +kernel
theorem mx_109 : mMx 109 = 6 := by decide +kernel
theorem rt_109 : mRt 109 = (some .int) := by decide +kernel
theorem pc_110 : pCode 110 = pL_110 := rfl
theorem ow_110 : mOw 110 = 8 := by decide +kernel
theorem mx_110 : mMx 110 = 3 := by decide +kernel
theorem rt_110 : mRt 110 = (some .int) := by decide +kernel
theorem pc_111 : pCode 111 = pL_111 := rfl
theorem ow_111 : mOw 111 = 8 := by decide +kernel
theorem mx_111 : mMx 111 = 2 := by decide +kernel
theorem rt_111 : mRt 111 = (some .int) := by decide +kernel
theorem pc_112 : pCode 112 = pL_112 := rfl
theorem ow_112 : mOw 112 = 8 := by decide +kernel
theorem mx_112 : mMx 112 = 2 := by decide +kernel
theorem rt_112 : mRt 112 = (some .int) := by decide +kernel
theorem pc_113 : pCode 113 = pL_113 := rfl
theorem ow_113 : mOw 113 = 8 := by decide +kernel
theorem mx_113 : mMx 113 = 2 := by decide +kernel
theorem rt_113 : mRt 113 = (some .int) := by decide +kernel
theorem pc_114 : pCode 114 = pL_114 := rfl
theorem ow_114 : mOw 114 = 8 := by decide +kernel
theorem mx_114 : mMx 114 = 2 := by decide +kernel
theorem rt_114 : mRt 114 = (some .int) := by decide +kernel
theorem pc_115 : pCode 115 = pL_115 := rfl
theorem ow_115 : mOw 115 = 8 := by decide +kernel
theorem mx_115 : mMx 115 = 4 := by decide +kernel
theorem rt_115 : mRt 115 = (some .int) := by decide +kernel
theorem pc_116 : pCode 116 = pL_116 := rfl
theorem ow_116 : mOw 116 = 8 := by decide +kernel
theorem mx_116 : mMx 116 = 3 := by decide +kernel
theorem rt_116 : mRt 116 = (some .int) := by decide +kernel
theorem pc_117 : pCode 117 = pL_117 := rfl
theorem ow_117 : mOw 117 = 8 := by decide +kernel
theorem mx_117 : mMx 117 = 6 := by decide +kernel
theorem rt_117 : mRt 117 = none := by decide +kernel
theorem pc_118 : pCode 118 = pL_118 := rfl
theorem ow_118 : mOw 118 = 8 := by decide +kernel
theorem mx_118 : mMx 118 = 3 := by decide +kernel
theorem rt_118 : mRt 118 = none := by decide +kernel
theorem pc_119 : pCode 119 = pL_119 := rfl
theorem ow_119 : mOw 119 = 8 := by decide +kernel
theorem mx_119 : mMx 119 = 3 := by decide +kernel
theorem rt_119 : mRt 119 = none := by decide +kernel
theorem pc_120 : pCode 120 = pL_120 := rfl
theorem ow_120 : mOw 120 = 8 := by decide +kernel
theorem mx_120 : mMx 120 = 6 := by decide +kernel
theorem rt_120 : mRt 120 = (some .boolean) := by decide +kernel
theorem pc_121 : pCode 121 = pL_121 := rfl
theorem ow_121 : mOw 121 = 8 := by decide +kernel
theorem mx_121 : mMx 121 = 4 := by decide +kernel
theorem rt_121 : mRt 121 = (some .int) := by decide +kernel
theorem pc_122 : pCode 122 = pL_122 := rfl
theorem ow_122 : mOw 122 = 8 := by decide +kernel
theorem mx_122 : mMx 122 = 4 := by decide +kernel
theorem rt_122 : mRt 122 = none := by decide +kernel
theorem pc_123 : pCode 123 = pL_123 := rfl
theorem ow_123 : mOw 123 = 8 := by decide +kernel
theorem mx_123 : mMx 123 = 3 := by decide +kernel
theorem rt_123 : mRt 123 = none := by decide +kernel
theorem pc_124 : pCode 124 = pL_124 := rfl
theorem ow_124 : mOw 124 = 8 := by decide +kernel
theorem mx_124 : mMx 124 = 2 := by decide +kernel
theorem rt_124 : mRt 124 = (some .int) := by decide +kernel
theorem pc_125 : pCode 125 = pL_125 := rfl
theorem ow_125 : mOw 125 = 9 := by decide +kernel
theorem mx_125 : mMx 125 = 1 := by decide +kernel
theorem rt_125 : mRt 125 = none := by decide +kernel
theorem pc_126 : pCode 126 = pL_126 := rfl
theorem ow_126 : mOw 126 = 9 := by decide +kernel
theorem mx_126 : mMx 126 = 6 := by decide +kernel
theorem rt_126 : mRt 126 = (some .int) := by decide +kernel
theorem pc_127 : pCode 127 = pL_127 := rfl
theorem ow_127 : mOw 127 = 9 := by decide +kernel
theorem mx_127 : mMx 127 = 3 := by decide +kernel
theorem rt_127 : mRt 127 = (some .int) := by decide +kernel
theorem pc_128 : pCode 128 = pL_128 := rfl
theorem ow_128 : mOw 128 = 9 := by decide +kernel
theorem mx_128 : mMx 128 = 1 := by decide +kernel
theorem rt_128 : mRt 128 = (some .int) := by decide +kernel
theorem pc_129 : pCode 129 = pL_129 := rfl
theorem ow_129 : mOw 129 = 9 := by decide +kernel
theorem mx_129 : mMx 129 = 3 := by decide +kernel
theorem rt_129 : mRt 129 = (some .int) := by decide +kernel
theorem pc_130 : pCode 130 = pL_130 := rfl
theorem ow_130 : mOw 130 = 9 := by decide +kernel
theorem mx_130 : mMx 130 = 4 := by decide +kernel
theorem rt_130 : mRt 130 = (some .int) := by decide +kernel
theorem pc_131 : pCode 131 = pL_131 := rfl
theorem ow_131 : mOw 131 = 9 := by decide +kernel
theorem mx_131 : mMx 131 = 4 := by decide +kernel
theorem rt_131 : mRt 131 = (some .int) := by decide +kernel
theorem pc_132 : pCode 132 = pL_132 := rfl
theorem ow_132 : mOw 132 = 9 := by decide +kernel
theorem mx_132 : mMx 132 = 1 := by decide +kernel
theorem rt_132 : mRt 132 = (some .int) := by decide +kernel
theorem pc_133 : pCode 133 = pL_133 := rfl
theorem ow_133 : mOw 133 = 9 := by decide +kernel
theorem mx_133 : mMx 133 = 3 := by decide +kernel
theorem rt_133 : mRt 133 = (some .int) := by decide +kernel
theorem pc_134 : pCode 134 = pL_134 := rfl
theorem ow_134 : mOw 134 = 9 := by decide +kernel
theorem mx_134 : mMx 134 = 2 := by decide +kernel
theorem rt_134 : mRt 134 = (some .int) := by decide +kernel
theorem pc_135 : pCode 135 = pL_135 := rfl
theorem ow_135 : mOw 135 = 9 := by decide +kernel
theorem mx_135 : mMx 135 = 3 := by decide +kernel
theorem rt_135 : mRt 135 = (some .boolean) := by decide +kernel
theorem pc_136 : pCode 136 = pL_136 := rfl
theorem ow_136 : mOw 136 = 9 := by decide +kernel
theorem mx_136 : mMx 136 = 3 := by decide +kernel
theorem rt_136 : mRt 136 = (some .int) := by decide +kernel
theorem pc_137 : pCode 137 = pL_137 := rfl
theorem ow_137 : mOw 137 = 9 := by decide +kernel
theorem mx_137 : mMx 137 = 3 := by decide +kernel
theorem rt_137 : mRt 137 = (some .int) := by decide +kernel
theorem pc_138 : pCode 138 = pL_138 := rfl
theorem ow_138 : mOw 138 = 9 := by decide +kernel
theorem mx_138 : mMx 138 = 1 := by decide +kernel
theorem rt_138 : mRt 138 = (some .int) := by decide +kernel
theorem pc_139 : pCode 139 = pL_139 := rfl
theorem ow_139 : mOw 139 = 9 := by decide +kernel
theorem mx_139 : mMx 139 = 2 := by decide +kernel
theorem rt_139 : mRt 139 = (some .int) := by decide +kernel
theorem pc_140 : pCode 140 = pL_140 := rfl
theorem ow_140 : mOw 140 = 9 := by decide +kernel
theorem mx_140 : mMx 140 = 1 := by decide +kernel
theorem rt_140 : mRt 140 = (some .int) := by decide +kernel
theorem pc_141 : pCode 141 = pL_141 := rfl
theorem ow_141 : mOw 141 = 9 := by decide +kernel
theorem mx_141 : mMx 141 = 1 := by decide +kernel
theorem rt_141 : mRt 141 = (some .int) := by decide +kernel
theorem pc_142 : pCode 142 = pL_142 := rfl
theorem ow_142 : mOw 142 = 9 := by decide +kernel
theorem mx_142 : mMx 142 = 2 := by decide +kernel
theorem rt_142 : mRt 142 = (some .boolean) := by decide +kernel
theorem pc_143 : pCode 143 = pL_143 := rfl
theorem ow_143 : mOw 143 = 9 := by decide +kernel
theorem mx_143 : mMx 143 = 2 := by decide +kernel
theorem rt_143 : mRt 143 = (some .int) := by decide +kernel
theorem pc_144 : pCode 144 = pL_144 := rfl
theorem ow_144 : mOw 144 = 9 := by decide +kernel
theorem mx_144 : mMx 144 = 2 := by decide +kernel
theorem rt_144 : mRt 144 = (some .int) := by decide +kernel
theorem pc_145 : pCode 145 = pL_145 := rfl
theorem ow_145 : mOw 145 = 9 := by decide +kernel
theorem mx_145 : mMx 145 = 1 := by decide +kernel
theorem rt_145 : mRt 145 = (some .long) := by decide +kernel
theorem pc_146 : pCode 146 = pL_146 := rfl
theorem ow_146 : mOw 146 = 9 := by decide +kernel
theorem mx_146 : mMx 146 = 1 := by decide +kernel
theorem rt_146 : mRt 146 = (some .int) := by decide +kernel
theorem pc_147 : pCode 147 = pL_147 := rfl
theorem ow_147 : mOw 147 = 9 := by decide +kernel
theorem mx_147 : mMx 147 = 1 := by decide +kernel
theorem rt_147 : mRt 147 = (some .int) := by decide +kernel
theorem pc_148 : pCode 148 = pL_148 := rfl
theorem ow_148 : mOw 148 = 9 := by decide +kernel
theorem mx_148 : mMx 148 = 1 := by decide +kernel
theorem rt_148 : mRt 148 = (some .int) := by decide +kernel
theorem pc_149 : pCode 149 = pL_149 := rfl
theorem ow_149 : mOw 149 = 9 := by decide +kernel
theorem mx_149 : mMx 149 = 3 := by decide +kernel
theorem rt_149 : mRt 149 = (some .boolean) := by decide +kernel
theorem pc_150 : pCode 150 = pL_150 := rfl
theorem ow_150 : mOw 150 = 9 := by decide +kernel
theorem mx_150 : mMx 150 = 3 := by decide +kernel
theorem rt_150 : mRt 150 = (some .int) := by decide +kernel
theorem pc_151 : pCode 151 = pL_151 := rfl
theorem ow_151 : mOw 151 = 9 := by decide +kernel
theorem mx_151 : mMx 151 = 1 := by decide +kernel
theorem rt_151 : mRt 151 = (some .int) := by decide +kernel
theorem pc_152 : pCode 152 = pL_152 := rfl
theorem ow_152 : mOw 152 = 9 := by decide +kernel
theorem mx_152 : mMx 152 = 2 := by decide +kernel
theorem rt_152 : mRt 152 = (some .int) := by decide +kernel
theorem pc_153 : pCode 153 = pL_153 := rfl
theorem ow_153 : mOw 153 = 9 := by decide +kernel
theorem mx_153 : mMx 153 = 1 := by decide +kernel
theorem rt_153 : mRt 153 = (some .int) := by decide +kernel
theorem pc_154 : pCode 154 = pL_154 := rfl
theorem ow_154 : mOw 154 = 9 := by decide +kernel
theorem mx_154 : mMx 154 = 3 := by decide +kernel
theorem rt_154 : mRt 154 = (some .long) := by decide +kernel
theorem pc_155 : pCode 155 = pL_155 := rfl
theorem ow_155 : mOw 155 = 9 := by decide +kernel
theorem mx_155 : mMx 155 = 1 := by decide +kernel
theorem rt_155 : mRt 155 = (some .int) := by decide +kernel
theorem pc_156 : pCode 156 = pL_156 := rfl
theorem ow_156 : mOw 156 = 9 := by decide +kernel
theorem mx_156 : mMx 156 = 2 := by decide +kernel
theorem rt_156 : mRt 156 = (some .int) := by decide +kernel
theorem pc_157 : pCode 157 = pL_157 := rfl
theorem ow_157 : mOw 157 = 9 := by decide +kernel
theorem mx_157 : mMx 157 = 2 := by decide +kernel
theorem rt_157 : mRt 157 = (some .int) := by decide +kernel
theorem pc_158 : pCode 158 = pL_158 := rfl
theorem ow_158 : mOw 158 = 9 := by decide +kernel
theorem mx_158 : mMx 158 = 1 := by decide +kernel
theorem rt_158 : mRt 158 = (some .int) := by decide +kernel
theorem pc_159 : pCode 159 = pL_159 := rfl
theorem ow_159 : mOw 159 = 9 := by decide +kernel
theorem mx_159 : mMx 159 = 2 := by decide +kernel
theorem rt_159 : mRt 159 = (some .int) := by decide +kernel
theorem pc_160 : pCode 160 = pL_160 := rfl
theorem ow_160 : mOw 160 = 9 := by decide +kernel
theorem mx_160 : mMx 160 = 1 := by decide +kernel
theorem rt_160 : mRt 160 = (some .int) := by decide +kernel
theorem pc_161 : pCode 161 = pL_161 := rfl
theorem ow_161 : mOw 161 = 9 := by decide +kernel
theorem mx_161 : mMx 161 = 1 := by decide +kernel
theorem rt_161 : mRt 161 = (some .int) := by decide +kernel
theorem pc_162 : pCode 162 = pL_162 := rfl
theorem ow_162 : mOw 162 = 9 := by decide +kernel
theorem mx_162 : mMx 162 = 3 := by decide +kernel
theorem rt_162 : mRt 162 = (some .int) := by decide +kernel
theorem pc_163 : pCode 163 = pL_163 := rfl
theorem ow_163 : mOw 163 = 9 := by decide +kernel
theorem mx_163 : mMx 163 = 2 := by decide +kernel
theorem rt_163 : mRt 163 = (some .int) := by decide +kernel
theorem pc_164 : pCode 164 = pL_164 := rfl
theorem ow_164 : mOw 164 = 9 := by decide +kernel
theorem mx_164 : mMx 164 = 1 := by decide +kernel
theorem rt_164 : mRt 164 = (some .int) := by decide +kernel
theorem pc_165 : pCode 165 = pL_165 := rfl
theorem ow_165 : mOw 165 = 9 := by decide +kernel
theorem mx_165 : mMx 165 = 1 := by decide +kernel
theorem rt_165 : mRt 165 = none := by decide +kernel
theorem pc_166 : pCode 166 = pL_166 := rfl
theorem ow_166 : mOw 166 = 9 := by decide +kernel
theorem mx_166 : mMx 166 = 2 := by decide +kernel
theorem rt_166 : mRt 166 = (some .int) := by decide +kernel
theorem pc_167 : pCode 167 = pL_167 := rfl
theorem ow_167 : mOw 167 = 9 := by decide +kernel
theorem mx_167 : mMx 167 = 4 := by decide +kernel
theorem rt_167 : mRt 167 = (some .int) := by decide +kernel
theorem pc_168 : pCode 168 = pL_168 := rfl
theorem ow_168 : mOw 168 = 9 := by decide +kernel
theorem mx_168 : mMx 168 = 1 := by decide +kernel
theorem rt_168 : mRt 168 = none := by decide +kernel
theorem pc_169 : pCode 169 = pL_169 := rfl
theorem ow_169 : mOw 169 = 9 := by decide +kernel
theorem mx_169 : mMx 169 = 1 := by decide +kernel
theorem rt_169 : mRt 169 = (some .boolean) := by decide +kernel
theorem pc_170 : pCode 170 = pL_170 := rfl
theorem ow_170 : mOw 170 = 9 := by decide +kernel
theorem mx_170 : mMx 170 = 3 := by decide +kernel
theorem rt_170 : mRt 170 = none := by decide +kernel
theorem pc_171 : pCode 171 = pL_171 := rfl
theorem ow_171 : mOw 171 = 9 := by decide +kernel
theorem mx_171 : mMx 171 = 2 := by decide +kernel
theorem rt_171 : mRt 171 = none := by decide +kernel
theorem pc_172 : pCode 172 = pL_172 := rfl
theorem ow_172 : mOw 172 = 9 := by decide +kernel
theorem mx_172 : mMx 172 = 2 := by decide +kernel
theorem rt_172 : mRt 172 = none := by decide +kernel
theorem pc_173 : pCode 173 = pL_173 := rfl
theorem ow_173 : mOw 173 = 9 := by decide +kernel
theorem mx_173 : mMx 173 = 2 := by decide +kernel
theorem rt_173 : mRt 173 = none := by decide +kernel
theorem pc_174 : pCode 174 = pL_174 := rfl
theorem ow_174 : mOw 174 = 10 := by decide +kernel
theorem mx_174 : mMx 174 = 1 := by decide +kernel
theorem rt_174 : mRt 174 = none := by decide +kernel
theorem pc_175 : pCode 175 = pL_175 := rfl
theorem ow_175 : mOw 175 = 10 := by decide +kernel
theorem mx_175 : mMx 175 = 1 := by decide +kernel
theorem rt_175 : mRt 175 = (some .int) := by decide +kernel
theorem pc_176 : pCode 176 = pL_176 := rfl
theorem ow_176 : mOw 176 = 10 := by decide +kernel
theorem mx_176 : mMx 176 = 2 := by decide +kernel
theorem rt_176 : mRt 176 = (some .int) := by decide +kernel
theorem pc_177 : pCode 177 = pL_177 := rfl
theorem ow_177 : mOw 177 = 10 := by decide +kernel
theorem mx_177 : mMx 177 = 2 := by decide +kernel
theorem rt_177 : mRt 177 = (some .boolean) := by decide +kernel
theorem pc_178 : pCode 178 = pL_178 := rfl
theorem ow_178 : mOw 178 = 10 := by decide +kernel
theorem mx_178 : mMx 178 = 6 := by decide +kernel
theorem rt_178 : mRt 178 = (some .boolean) := by decide +kernel
theorem pc_179 : pCode 179 = pL_179 := rfl
theorem ow_179 : mOw 179 = 10 := by decide +kernel
theorem mx_179 : mMx 179 = 2 := by decide +kernel
theorem rt_179 : mRt 179 = (some .boolean) := by decide +kernel
theorem pc_180 : pCode 180 = pL_180 := rfl
theorem ow_180 : mOw 180 = 10 := by decide +kernel
theorem mx_180 : mMx 180 = 2 := by decide +kernel
theorem rt_180 : mRt 180 = (some .boolean) := by decide +kernel
theorem pc_181 : pCode 181 = pL_181 := rfl
theorem ow_181 : mOw 181 = 10 := by decide +kernel
theorem mx_181 : mMx 181 = 2 := by decide +kernel
theorem rt_181 : mRt 181 = (some .boolean) := by decide +kernel
theorem pc_182 : pCode 182 = pL_182 := rfl
theorem ow_182 : mOw 182 = 10 := by decide +kernel
theorem mx_182 : mMx 182 = 8 := by decide +kernel
theorem rt_182 : mRt 182 = (some .int) := by decide +kernel
theorem pc_183 : pCode 183 = pL_183 := rfl
theorem ow_183 : mOw 183 = 10 := by decide +kernel
theorem mx_183 : mMx 183 = 2 := by decide +kernel
theorem rt_183 : mRt 183 = (some .int) := by decide +kernel
theorem pc_184 : pCode 184 = pL_184 := rfl
theorem ow_184 : mOw 184 = 10 := by decide +kernel
theorem mx_184 : mMx 184 = 1 := by decide +kernel
theorem rt_184 : mRt 184 = (some .boolean) := by decide +kernel
theorem pc_185 : pCode 185 = pL_185 := rfl
theorem ow_185 : mOw 185 = 10 := by decide +kernel
theorem mx_185 : mMx 185 = 1 := by decide +kernel
theorem rt_185 : mRt 185 = (some .boolean) := by decide +kernel
theorem pc_186 : pCode 186 = pL_186 := rfl
theorem ow_186 : mOw 186 = 10 := by decide +kernel
theorem mx_186 : mMx 186 = 1 := by decide +kernel
theorem rt_186 : mRt 186 = (some .boolean) := by decide +kernel
theorem pc_187 : pCode 187 = pL_187 := rfl
theorem ow_187 : mOw 187 = 10 := by decide +kernel
theorem mx_187 : mMx 187 = 2 := by decide +kernel
theorem rt_187 : mRt 187 = none := by decide +kernel
theorem pc_188 : pCode 188 = pL_188 := rfl
theorem ow_188 : mOw 188 = 10 := by decide +kernel
theorem mx_188 : mMx 188 = 2 := by decide +kernel
theorem rt_188 : mRt 188 = none := by decide +kernel
theorem pc_189 : pCode 189 = pL_189 := rfl
theorem ow_189 : mOw 189 = 10 := by decide +kernel
theorem mx_189 : mMx 189 = 4 := by decide +kernel
theorem rt_189 : mRt 189 = (some .boolean) := by decide +kernel
theorem pc_190 : pCode 190 = pL_190 := rfl
theorem ow_190 : mOw 190 = 10 := by decide +kernel
theorem mx_190 : mMx 190 = 3 := by decide +kernel
theorem rt_190 : mRt 190 = (some .int) := by decide +kernel
theorem pc_191 : pCode 191 = pL_191 := rfl
theorem ow_191 : mOw 191 = 10 := by decide +kernel
theorem mx_191 : mMx 191 = 2 := by decide +kernel
theorem rt_191 : mRt 191 = (some .boolean) := by decide +kernel
theorem pc_192 : pCode 192 = pL_192 := rfl
theorem ow_192 : mOw 192 = 10 := by decide +kernel
theorem mx_192 : mMx 192 = 2 := by decide +kernel
theorem rt_192 : mRt 192 = none := by decide +kernel
theorem pc_193 : pCode 193 = pL_193 := rfl
theorem ow_193 : mOw 193 = 10 := by decide +kernel
theorem mx_193 : mMx 193 = 4 := by decide +kernel
theorem rt_193 : mRt 193 = (some .int) := by decide +kernel
theorem pc_194 : pCode 194 = pL_194 := rfl
theorem ow_194 : mOw 194 = 10 := by decide +kernel
theorem mx_194 : mMx 194 = 2 := by decide +kernel
theorem rt_194 : mRt 194 = none := by decide +kernel
theorem pc_195 : pCode 195 = pL_195 := rfl
theorem ow_195 : mOw 195 = 10 := by decide +kernel
theorem mx_195 : mMx 195 = 3 := by decide +kernel
theorem rt_195 : mRt 195 = none := by decide +kernel
theorem pc_196 : pCode 196 = pL_196 := rfl
theorem ow_196 : mOw 196 = 10 := by decide +kernel
theorem mx_196 : mMx 196 = 3 := by decide +kernel
theorem rt_196 : mRt 196 = none := by decide +kernel
theorem pc_197 : pCode 197 = pL_197 := rfl
theorem ow_197 : mOw 197 = 10 := by decide +kernel
theorem mx_197 : mMx 197 = 3 := by decide +kernel
theorem rt_197 : mRt 197 = none := by decide +kernel
theorem pc_198 : pCode 198 = pL_198 := rfl
theorem ow_198 : mOw 198 = 10 := by decide +kernel
theorem mx_198 : mMx 198 = 4 := by decide +kernel
theorem rt_198 : mRt 198 = none := by decide +kernel
theorem pc_199 : pCode 199 = pL_199 := rfl
theorem ow_199 : mOw 199 = 10 := by decide +kernel
theorem mx_199 : mMx 199 = 2 := by decide +kernel
theorem rt_199 : mRt 199 = none := by decide +kernel
theorem pc_200 : pCode 200 = pL_200 := rfl
theorem ow_200 : mOw 200 = 10 := by decide +kernel
theorem mx_200 : mMx 200 = 3 := by decide +kernel
theorem rt_200 : mRt 200 = none := by decide +kernel
theorem pc_201 : pCode 201 = pL_201 := rfl
theorem ow_201 : mOw 201 = 10 := by decide +kernel
theorem mx_201 : mMx 201 = 5 := by decide +kernel
theorem rt_201 : mRt 201 = none := by decide +kernel
theorem pc_202 : pCode 202 = pL_202 := rfl
theorem ow_202 : mOw 202 = 10 := by decide +kernel
theorem mx_202 : mMx 202 = 4 := by decide +kernel
theorem rt_202 : mRt 202 = (some .int) := by decide +kernel
theorem pc_203 : pCode 203 = pL_203 := rfl
theorem ow_203 : mOw 203 = 10 := by decide +kernel
theorem mx_203 : mMx 203 = 3 := by decide +kernel
theorem rt_203 : mRt 203 = (some .int) := by decide +kernel
theorem pc_204 : pCode 204 = pL_204 := rfl
theorem ow_204 : mOw 204 = 10 := by decide +kernel
theorem mx_204 : mMx 204 = 2 := by decide +kernel
theorem rt_204 : mRt 204 = none := by decide +kernel
theorem pc_205 : pCode 205 = pL_205 := rfl
theorem ow_205 : mOw 205 = 10 := by decide +kernel
theorem mx_205 : mMx 205 = 2 := by decide +kernel
theorem rt_205 : mRt 205 = none := by decide +kernel
theorem pc_206 : pCode 206 = pL_206 := rfl
theorem ow_206 : mOw 206 = 10 := by decide +kernel
theorem mx_206 : mMx 206 = 1 := by decide +kernel
theorem rt_206 : mRt 206 = (some .int) := by decide +kernel
theorem pc_207 : pCode 207 = pL_207 := rfl
theorem ow_207 : mOw 207 = 10 := by decide +kernel
theorem mx_207 : mMx 207 = 4 := by decide +kernel
theorem rt_207 : mRt 207 = none := by decide +kernel
theorem pc_208 : pCode 208 = pL_208 := rfl
theorem ow_208 : mOw 208 = 10 := by decide +kernel
theorem mx_208 : mMx 208 = 4 := by decide +kernel
theorem rt_208 : mRt 208 = none := by decide +kernel
theorem pc_209 : pCode 209 = pL_209 := rfl
theorem ow_209 : mOw 209 = 10 := by decide +kernel
theorem mx_209 : mMx 209 = 3 := by decide +kernel
theorem rt_209 : mRt 209 = (some .int) := by decide +kernel
theorem pc_210 : pCode 210 = pL_210 := rfl
theorem ow_210 : mOw 210 = 10 := by decide +kernel
theorem mx_210 : mMx 210 = 2 := by decide +kernel
theorem rt_210 : mRt 210 = (some .int) := by decide +kernel
theorem pc_211 : pCode 211 = pL_211 := rfl
theorem ow_211 : mOw 211 = 10 := by decide +kernel
theorem mx_211 : mMx 211 = 4 := by decide +kernel
theorem rt_211 : mRt 211 = (some .int) := by decide +kernel
theorem pc_212 : pCode 212 = pL_212 := rfl
theorem ow_212 : mOw 212 = 10 := by decide +kernel
theorem mx_212 : mMx 212 = 2 := by decide +kernel
theorem rt_212 : mRt 212 = (some .int) := by decide +kernel
theorem pc_213 : pCode 213 = pL_213 := rfl
theorem ow_213 : mOw 213 = 10 := by decide +kernel
theorem mx_213 : mMx 213 = 4 := by decide +kernel
theorem rt_213 : mRt 213 = (some .int) := by decide +kernel
theorem pc_214 : pCode 214 = pL_214 := rfl
theorem ow_214 : mOw 214 = 10 := by decide +kernel
theorem mx_214 : mMx 214 = 2 := by decide +kernel
theorem rt_214 : mRt 214 = (some .int) := by decide +kernel
theorem pc_215 : pCode 215 = pL_215 := rfl
theorem ow_215 : mOw 215 = 10 := by decide +kernel
theorem mx_215 : mMx 215 = 4 := by decide +kernel
theorem rt_215 : mRt 215 = (some .int) := by decide +kernel
theorem pc_216 : pCode 216 = pL_216 := rfl
theorem ow_216 : mOw 216 = 10 := by decide +kernel
theorem mx_216 : mMx 216 = 2 := by decide +kernel
theorem rt_216 : mRt 216 = (some .boolean) := by decide +kernel
theorem pc_217 : pCode 217 = pL_217 := rfl
theorem ow_217 : mOw 217 = 10 := by decide +kernel
theorem mx_217 : mMx 217 = 2 := by decide +kernel
theorem rt_217 : mRt 217 = (some .int) := by decide +kernel
theorem pc_218 : pCode 218 = pL_218 := rfl
theorem ow_218 : mOw 218 = 10 := by decide +kernel
theorem mx_218 : mMx 218 = 1 := by decide +kernel
theorem rt_218 : mRt 218 = (some .boolean) := by decide +kernel
theorem pc_219 : pCode 219 = pL_219 := rfl
theorem ow_219 : mOw 219 = 10 := by decide +kernel
theorem mx_219 : mMx 219 = 3 := by decide +kernel
theorem rt_219 : mRt 219 = (some .int) := by decide +kernel
theorem pc_220 : pCode 220 = pL_220 := rfl
theorem ow_220 : mOw 220 = 10 := by decide +kernel
theorem mx_220 : mMx 220 = 3 := by decide +kernel
theorem rt_220 : mRt 220 = (some .int) := by decide +kernel
theorem pc_221 : pCode 221 = pL_221 := rfl
theorem ow_221 : mOw 221 = 10 := by decide +kernel
theorem mx_221 : mMx 221 = 3 := by decide +kernel
theorem rt_221 : mRt 221 = (some .int) := by decide +kernel
theorem pc_222 : pCode 222 = pL_222 := rfl
theorem ow_222 : mOw 222 = 10 := by decide +kernel
theorem mx_222 : mMx 222 = 2 := by decide +kernel
theorem rt_222 : mRt 222 = (some .int) := by decide +kernel
theorem pc_223 : pCode 223 = pL_223 := rfl
theorem ow_223 : mOw 223 = 10 := by decide +kernel
theorem mx_223 : mMx 223 = 3 := by decide +kernel
theorem rt_223 : mRt 223 = (some .int) := by decide +kernel
theorem pc_224 : pCode 224 = pL_224 := rfl
theorem ow_224 : mOw 224 = 10 := by decide +kernel
theorem mx_224 : mMx 224 = 1 := by decide +kernel
theorem rt_224 : mRt 224 = (some .int) := by decide +kernel
theorem pc_225 : pCode 225 = pL_225 := rfl
theorem ow_225 : mOw 225 = 10 := by decide +kernel
theorem mx_225 : mMx 225 = 3 := by decide +kernel
theorem rt_225 : mRt 225 = (some .int) := by decide +kernel
theorem pc_226 : pCode 226 = pL_226 := rfl
theorem ow_226 : mOw 226 = 10 := by decide +kernel
theorem mx_226 : mMx 226 = 2 := by decide +kernel
theorem rt_226 : mRt 226 = (some .int) := by decide +kernel
theorem pc_227 : pCode 227 = pL_227 := rfl
theorem ow_227 : mOw 227 = 10 := by decide +kernel
theorem mx_227 : mMx 227 = 1 := by decide +kernel
theorem rt_227 : mRt 227 = (some .int) := by decide +kernel
theorem pc_228 : pCode 228 = pL_228 := rfl
theorem ow_228 : mOw 228 = 10 := by decide +kernel
theorem mx_228 : mMx 228 = 2 := by decide +kernel
theorem rt_228 : mRt 228 = none := by decide +kernel
theorem pc_229 : pCode 229 = pL_229 := rfl
theorem ow_229 : mOw 229 = 10 := by decide +kernel
theorem mx_229 : mMx 229 = 4 := by decide +kernel
theorem rt_229 : mRt 229 = (some .int) := by decide +kernel
theorem pc_230 : pCode 230 = pL_230 := rfl
theorem ow_230 : mOw 230 = 10 := by decide +kernel
theorem mx_230 : mMx 230 = 4 := by decide +kernel
theorem rt_230 : mRt 230 = none := by decide +kernel
theorem pc_231 : pCode 231 = pL_231 := rfl
theorem ow_231 : mOw 231 = 10 := by decide +kernel
theorem mx_231 : mMx 231 = 3 := by decide +kernel
theorem rt_231 : mRt 231 = (some .int) := by decide +kernel
theorem pc_232 : pCode 232 = pL_232 := rfl
theorem ow_232 : mOw 232 = 10 := by decide +kernel
theorem mx_232 : mMx 232 = 4 := by decide +kernel
theorem rt_232 : mRt 232 = none := by decide +kernel
theorem pc_233 : pCode 233 = pL_233 := rfl
theorem ow_233 : mOw 233 = 10 := by decide +kernel
theorem mx_233 : mMx 233 = 3 := by decide +kernel
theorem rt_233 : mRt 233 = (some .boolean) := by decide +kernel
theorem pc_234 : pCode 234 = pL_234 := rfl
theorem ow_234 : mOw 234 = 10 := by decide +kernel
theorem mx_234 : mMx 234 = 4 := by decide +kernel
theorem rt_234 : mRt 234 = (some .int) := by decide +kernel
theorem pc_235 : pCode 235 = pL_235 := rfl
theorem ow_235 : mOw 235 = 10 := by decide +kernel
theorem mx_235 : mMx 235 = 4 := by decide +kernel
theorem rt_235 : mRt 235 = (some .int) := by decide +kernel
theorem pc_236 : pCode 236 = pL_236 := rfl
theorem ow_236 : mOw 236 = 10 := by decide +kernel
theorem mx_236 : mMx 236 = 3 := by decide +kernel
theorem rt_236 : mRt 236 = (some .int) := by decide +kernel
theorem pc_237 : pCode 237 = pL_237 := rfl
theorem ow_237 : mOw 237 = 10 := by decide +kernel
theorem mx_237 : mMx 237 = 4 := by decide +kernel
theorem rt_237 : mRt 237 = (some .int) := by decide +kernel
theorem pc_238 : pCode 238 = pL_238 := rfl
theorem ow_238 : mOw 238 = 10 := by decide +kernel
theorem mx_238 : mMx 238 = 6 := by decide +kernel
theorem rt_238 : mRt 238 = (some .int) := by decide +kernel
theorem pc_239 : pCode 239 = pL_239 := rfl
theorem ow_239 : mOw 239 = 10 := by decide +kernel
theorem mx_239 : mMx 239 = 1 := by decide +kernel
theorem rt_239 : mRt 239 = (some .int) := by decide +kernel
theorem pc_240 : pCode 240 = pL_240 := rfl
theorem ow_240 : mOw 240 = 10 := by decide +kernel
theorem mx_240 : mMx 240 = 2 := by decide +kernel
theorem rt_240 : mRt 240 = (some .int) := by decide +kernel
theorem pc_241 : pCode 241 = pL_241 := rfl
theorem ow_241 : mOw 241 = 10 := by decide +kernel
theorem mx_241 : mMx 241 = 1 := by decide +kernel
theorem rt_241 : mRt 241 = (some .int) := by decide +kernel
theorem pc_242 : pCode 242 = pL_242 := rfl
theorem ow_242 : mOw 242 = 10 := by decide +kernel
theorem mx_242 : mMx 242 = 1 := by decide +kernel
theorem rt_242 : mRt 242 = (some .int) := by decide +kernel
theorem pc_243 : pCode 243 = pL_243 := rfl
theorem ow_243 : mOw 243 = 10 := by decide +kernel
theorem mx_243 : mMx 243 = 3 := by decide +kernel
theorem rt_243 : mRt 243 = (some .boolean) := by decide +kernel
theorem pc_244 : pCode 244 = pL_244 := rfl
theorem ow_244 : mOw 244 = 10 := by decide +kernel
theorem mx_244 : mMx 244 = 3 := by decide +kernel
theorem rt_244 : mRt 244 = none := by decide +kernel
theorem pc_245 : pCode 245 = pL_245 := rfl
theorem ow_245 : mOw 245 = 10 := by decide +kernel
theorem mx_245 : mMx 245 = 3 := by decide +kernel
theorem rt_245 : mRt 245 = (some .int) := by decide +kernel
theorem pc_246 : pCode 246 = pL_246 := rfl
theorem ow_246 : mOw 246 = 10 := by decide +kernel
theorem mx_246 : mMx 246 = 5 := by decide +kernel
theorem rt_246 : mRt 246 = (some .boolean) := by decide +kernel
theorem pc_247 : pCode 247 = pL_247 := rfl
theorem ow_247 : mOw 247 = 10 := by decide +kernel
theorem mx_247 : mMx 247 = 4 := by decide +kernel
theorem rt_247 : mRt 247 = none := by decide +kernel
theorem pc_248 : pCode 248 = pL_248 := rfl
theorem ow_248 : mOw 248 = 10 := by decide +kernel
theorem mx_248 : mMx 248 = 3 := by decide +kernel
theorem rt_248 : mRt 248 = (some .int) := by decide +kernel
theorem pc_249 : pCode 249 = pL_249 := rfl
theorem ow_249 : mOw 249 = 10 := by decide +kernel
theorem mx_249 : mMx 249 = 3 := by decide +kernel
theorem rt_249 : mRt 249 = (some .int) := by decide +kernel
theorem pc_250 : pCode 250 = pL_250 := rfl
theorem ow_250 : mOw 250 = 10 := by decide +kernel
theorem mx_250 : mMx 250 = 7 := by decide +kernel
theorem rt_250 : mRt 250 = (some .int) := by decide +kernel
theorem pc_251 : pCode 251 = pL_251 := rfl
theorem ow_251 : mOw 251 = 10 := by decide +kernel
theorem mx_251 : mMx 251 = 2 := by decide +kernel
theorem rt_251 : mRt 251 = (some .long) := by decide +kernel
theorem pc_252 : pCode 252 = pL_252 := rfl
theorem ow_252 : mOw 252 = 10 := by decide +kernel
theorem mx_252 : mMx 252 = 1 := by decide +kernel
theorem rt_252 : mRt 252 = (some .long) := by decide +kernel
theorem pc_253 : pCode 253 = pL_253 := rfl
theorem ow_253 : mOw 253 = 10 := by decide +kernel
theorem mx_253 : mMx 253 = 5 := by decide +kernel
theorem rt_253 : mRt 253 = (some .long) := by decide +kernel
theorem pc_254 : pCode 254 = pL_254 := rfl
theorem ow_254 : mOw 254 = 10 := by decide +kernel
theorem mx_254 : mMx 254 = 6 := by decide +kernel
theorem rt_254 : mRt 254 = none := by decide +kernel
theorem pc_255 : pCode 255 = pL_255 := rfl
theorem ow_255 : mOw 255 = 10 := by decide +kernel
theorem mx_255 : mMx 255 = 3 := by decide +kernel
theorem rt_255 : mRt 255 = (some .int) := by decide +kernel
theorem pc_256 : pCode 256 = pL_256 := rfl
theorem ow_256 : mOw 256 = 10 := by decide +kernel
theorem mx_256 : mMx 256 = 4 := by decide +kernel
theorem rt_256 : mRt 256 = (some .int) := by decide +kernel
theorem pc_257 : pCode 257 = pL_257 := rfl
theorem ow_257 : mOw 257 = 10 := by decide +kernel
theorem mx_257 : mMx 257 = 3 := by decide +kernel
theorem rt_257 : mRt 257 = (some .int) := by decide +kernel
theorem pc_258 : pCode 258 = pL_258 := rfl
theorem ow_258 : mOw 258 = 10 := by decide +kernel
theorem mx_258 : mMx 258 = 3 := by decide +kernel
theorem rt_258 : mRt 258 = (some .boolean) := by decide +kernel
theorem pc_259 : pCode 259 = pL_259 := rfl
theorem ow_259 : mOw 259 = 10 := by decide +kernel
theorem mx_259 : mMx 259 = 3 := by decide +kernel
theorem rt_259 : mRt 259 = (some .boolean) := by decide +kernel
theorem pc_260 : pCode 260 = pL_260 := rfl
theorem ow_260 : mOw 260 = 10 := by decide +kernel
theorem mx_260 : mMx 260 = 6 := by decide +kernel
theorem rt_260 : mRt 260 = (some .int) := by decide +kernel
theorem pc_261 : pCode 261 = pL_261 := rfl
theorem ow_261 : mOw 261 = 10 := by decide +kernel
theorem mx_261 : mMx 261 = 1 := by decide +kernel
theorem rt_261 : mRt 261 = (some .int) := by decide +kernel
theorem pc_262 : pCode 262 = pL_262 := rfl
theorem ow_262 : mOw 262 = 10 := by decide +kernel
theorem mx_262 : mMx 262 = 4 := by decide +kernel
theorem rt_262 : mRt 262 = (some .int) := by decide +kernel
theorem pc_263 : pCode 263 = pL_263 := rfl
theorem ow_263 : mOw 263 = 10 := by decide +kernel
theorem mx_263 : mMx 263 = 3 := by decide +kernel
theorem rt_263 : mRt 263 = (some .int) := by decide +kernel
theorem pc_264 : pCode 264 = pL_264 := rfl
theorem ow_264 : mOw 264 = 10 := by decide +kernel
theorem mx_264 : mMx 264 = 3 := by decide +kernel
theorem rt_264 : mRt 264 = (some .int) := by decide +kernel
theorem pc_265 : pCode 265 = pL_265 := rfl
theorem ow_265 : mOw 265 = 10 := by decide +kernel
theorem mx_265 : mMx 265 = 4 := by decide +kernel
theorem rt_265 : mRt 265 = (some .int) := by decide +kernel
theorem pc_266 : pCode 266 = pL_266 := rfl
theorem ow_266 : mOw 266 = 10 := by decide +kernel
theorem mx_266 : mMx 266 = 3 := by decide +kernel
theorem rt_266 : mRt 266 = none := by decide +kernel
theorem pc_267 : pCode 267 = pL_267 := rfl
theorem ow_267 : mOw 267 = 10 := by decide +kernel
theorem mx_267 : mMx 267 = 5 := by decide +kernel
theorem rt_267 : mRt 267 = (some .int) := by decide +kernel
theorem pc_268 : pCode 268 = pL_268 := rfl
theorem ow_268 : mOw 268 = 10 := by decide +kernel
theorem mx_268 : mMx 268 = 5 := by decide +kernel
theorem rt_268 : mRt 268 = (some .int) := by decide +kernel
theorem pc_269 : pCode 269 = pL_269 := rfl
theorem ow_269 : mOw 269 = 10 := by decide +kernel
theorem mx_269 : mMx 269 = 6 := by decide +kernel
theorem rt_269 : mRt 269 = (some .int) := by decide +kernel
theorem pc_270 : pCode 270 = pL_270 := rfl
theorem ow_270 : mOw 270 = 10 := by decide +kernel
theorem mx_270 : mMx 270 = 6 := by decide +kernel
theorem rt_270 : mRt 270 = (some .int) := by decide +kernel
theorem pc_271 : pCode 271 = pL_271 := rfl
theorem ow_271 : mOw 271 = 10 := by decide +kernel
theorem mx_271 : mMx 271 = 2 := by decide +kernel
theorem rt_271 : mRt 271 = (some .int) := by decide +kernel
theorem pc_272 : pCode 272 = pL_272 := rfl
theorem ow_272 : mOw 272 = 10 := by decide +kernel
theorem mx_272 : mMx 272 = 3 := by decide +kernel
theorem rt_272 : mRt 272 = (some .int) := by decide +kernel
theorem pc_273 : pCode 273 = pL_273 := rfl
theorem ow_273 : mOw 273 = 10 := by decide +kernel
theorem mx_273 : mMx 273 = 3 := by decide +kernel
theorem rt_273 : mRt 273 = (some .int) := by decide +kernel
theorem pc_274 : pCode 274 = pL_274 := rfl
theorem ow_274 : mOw 274 = 10 := by decide +kernel
theorem mx_274 : mMx 274 = 2 := by decide +kernel
theorem rt_274 : mRt 274 = (some .boolean) := by decide +kernel
theorem pc_275 : pCode 275 = pL_275 := rfl
theorem ow_275 : mOw 275 = 10 := by decide +kernel
theorem mx_275 : mMx 275 = 5 := by decide +kernel
theorem rt_275 : mRt 275 = none := by decide +kernel
theorem pc_276 : pCode 276 = pL_276 := rfl
theorem ow_276 : mOw 276 = 10 := by decide +kernel
theorem mx_276 : mMx 276 = 2 := by decide +kernel
theorem rt_276 : mRt 276 = (some .int) := by decide +kernel
theorem pc_277 : pCode 277 = pL_277 := rfl
theorem ow_277 : mOw 277 = 10 := by decide +kernel
theorem mx_277 : mMx 277 = 8 := by decide +kernel
theorem rt_277 : mRt 277 = (some .int) := by decide +kernel
theorem pc_278 : pCode 278 = pL_278 := rfl
theorem ow_278 : mOw 278 = 10 := by decide +kernel
theorem mx_278 : mMx 278 = 5 := by decide +kernel
theorem rt_278 : mRt 278 = (some .int) := by decide +kernel
theorem pc_279 : pCode 279 = pL_279 := rfl
theorem ow_279 : mOw 279 = 10 := by decide +kernel
theorem mx_279 : mMx 279 = 1 := by decide +kernel
theorem rt_279 : mRt 279 = none := by decide +kernel
theorem pc_280 : pCode 280 = pL_280 := rfl
theorem ow_280 : mOw 280 = 10 := by decide +kernel
theorem mx_280 : mMx 280 = 7 := by decide +kernel
theorem rt_280 : mRt 280 = (some .int) := by decide +kernel
theorem pc_281 : pCode 281 = pL_281 := rfl
theorem ow_281 : mOw 281 = 10 := by decide +kernel
theorem mx_281 : mMx 281 = 4 := by decide +kernel
theorem rt_281 : mRt 281 = (some .boolean) := by decide +kernel
theorem pc_282 : pCode 282 = pL_282 := rfl
theorem ow_282 : mOw 282 = 10 := by decide +kernel
theorem mx_282 : mMx 282 = 5 := by decide +kernel
theorem rt_282 : mRt 282 = (some .int) := by decide +kernel
theorem pc_283 : pCode 283 = pL_283 := rfl
theorem ow_283 : mOw 283 = 10 := by decide +kernel
theorem mx_283 : mMx 283 = 2 := by decide +kernel
theorem rt_283 : mRt 283 = (some .int) := by decide +kernel
theorem pc_284 : pCode 284 = pL_284 := rfl
theorem ow_284 : mOw 284 = 10 := by decide +kernel
theorem mx_284 : mMx 284 = 3 := by decide +kernel
theorem rt_284 : mRt 284 = none := by decide +kernel
theorem pc_285 : pCode 285 = pL_285 := rfl
theorem ow_285 : mOw 285 = 10 := by decide +kernel
theorem mx_285 : mMx 285 = 7 := by decide +kernel
theorem rt_285 : mRt 285 = (some .int) := by decide +kernel
theorem pc_286 : pCode 286 = pL_286 := rfl
theorem ow_286 : mOw 286 = 10 := by decide +kernel
theorem mx_286 : mMx 286 = 3 := by decide +kernel
theorem rt_286 : mRt 286 = none := by decide +kernel
theorem pc_287 : pCode 287 = pL_287 := rfl
theorem ow_287 : mOw 287 = 10 := by decide +kernel
theorem mx_287 : mMx 287 = 1 := by decide +kernel
theorem rt_287 : mRt 287 = none := by decide +kernel
theorem pc_288 : pCode 288 = pL_288 := rfl
theorem ow_288 : mOw 288 = 10 := by decide +kernel
theorem mx_288 : mMx 288 = 1 := by decide +kernel
theorem rt_288 : mRt 288 = (some .boolean) := by decide +kernel
theorem pc_289 : pCode 289 = pL_289 := rfl
theorem ow_289 : mOw 289 = 26 := by decide +kernel
theorem mx_289 : mMx 289 = 1 := by decide +kernel
theorem rt_289 : mRt 289 = (some .int) := by decide +kernel
theorem pc_290 : pCode 290 = pL_290 := rfl
theorem ow_290 : mOw 290 = 11 := by decide +kernel
theorem mx_290 : mMx 290 = 4 := by decide +kernel
theorem rt_290 : mRt 290 = (some .int) := by decide +kernel
theorem pc_291 : pCode 291 = pL_291 := rfl
theorem ow_291 : mOw 291 = 11 := by decide +kernel
theorem mx_291 : mMx 291 = 4 := by decide +kernel
theorem rt_291 : mRt 291 = (some .int) := by decide +kernel
theorem pc_292 : pCode 292 = pL_292 := rfl
theorem ow_292 : mOw 292 = 11 := by decide +kernel
theorem mx_292 : mMx 292 = 5 := by decide +kernel
theorem rt_292 : mRt 292 = (some .int) := by decide +kernel
theorem pc_293 : pCode 293 = pL_293 := rfl
theorem ow_293 : mOw 293 = 11 := by decide +kernel
theorem mx_293 : mMx 293 = 5 := by decide +kernel
theorem rt_293 : mRt 293 = (some .int) := by decide +kernel
theorem pc_294 : pCode 294 = pL_294 := rfl
theorem ow_294 : mOw 294 = 11 := by decide +kernel
theorem mx_294 : mMx 294 = 5 := by decide +kernel
theorem rt_294 : mRt 294 = (some .int) := by decide +kernel
theorem pc_295 : pCode 295 = pL_295 := rfl
theorem ow_295 : mOw 295 = 11 := by decide +kernel
theorem mx_295 : mMx 295 = 4 := by decide +kernel
theorem rt_295 : mRt 295 = (some .int) := by decide +kernel
theorem pc_296 : pCode 296 = pL_296 := rfl
theorem ow_296 : mOw 296 = 11 := by decide +kernel
theorem mx_296 : mMx 296 = 5 := by decide +kernel
theorem rt_296 : mRt 296 = (some .int) := by decide +kernel
theorem pc_297 : pCode 297 = pL_297 := rfl
theorem ow_297 : mOw 297 = 11 := by decide +kernel
theorem mx_297 : mMx 297 = 5 := by decide +kernel
theorem rt_297 : mRt 297 = (some .int) := by decide +kernel
theorem pc_298 : pCode 298 = pL_298 := rfl
theorem ow_298 : mOw 298 = 11 := by decide +kernel
theorem mx_298 : mMx 298 = 5 := by decide +kernel
theorem rt_298 : mRt 298 = (some .int) := by decide +kernel
theorem pc_299 : pCode 299 = pL_299 := rfl
theorem ow_299 : mOw 299 = 11 := by decide +kernel
theorem mx_299 : mMx 299 = 4 := by decide +kernel
theorem rt_299 : mRt 299 = (some .int) := by decide +kernel
theorem pc_300 : pCode 300 = pL_300 := rfl
theorem ow_300 : mOw 300 = 11 := by decide +kernel
theorem mx_300 : mMx 300 = 4 := by decide +kernel
theorem rt_300 : mRt 300 = (some .int) := by decide +kernel
theorem pc_301 : pCode 301 = pL_301 := rfl
theorem ow_301 : mOw 301 = 11 := by decide +kernel
theorem mx_301 : mMx 301 = 4 := by decide +kernel
theorem rt_301 : mRt 301 = (some .int) := by decide +kernel
theorem pc_302 : pCode 302 = pL_302 := rfl
theorem ow_302 : mOw 302 = 11 := by decide +kernel
theorem mx_302 : mMx 302 = 5 := by decide +kernel
theorem rt_302 : mRt 302 = (some .int) := by decide +kernel
theorem pc_303 : pCode 303 = pL_303 := rfl
theorem ow_303 : mOw 303 = 11 := by decide +kernel
theorem mx_303 : mMx 303 = 5 := by decide +kernel
theorem rt_303 : mRt 303 = (some .int) := by decide +kernel
theorem pc_304 : pCode 304 = pL_304 := rfl
theorem ow_304 : mOw 304 = 11 := by decide +kernel
theorem mx_304 : mMx 304 = 4 := by decide +kernel
theorem rt_304 : mRt 304 = (some .int) := by decide +kernel
theorem pc_305 : pCode 305 = pL_305 := rfl
theorem ow_305 : mOw 305 = 11 := by decide +kernel
theorem mx_305 : mMx 305 = 5 := by decide +kernel
theorem rt_305 : mRt 305 = (some .int) := by decide +kernel
theorem pc_306 : pCode 306 = pL_306 := rfl
theorem ow_306 : mOw 306 = 11 := by decide +kernel
theorem mx_306 : mMx 306 = 4 := by decide +kernel
theorem rt_306 : mRt 306 = (some .int) := by decide +kernel
theorem pc_307 : pCode 307 = pL_307 := rfl
theorem ow_307 : mOw 307 = 11 := by decide +kernel
theorem mx_307 : mMx 307 = 4 := by decide +kernel
theorem rt_307 : mRt 307 = (some .int) := by decide +kernel
theorem pc_308 : pCode 308 = pL_308 := rfl
theorem ow_308 : mOw 308 = 11 := by decide +kernel
theorem mx_308 : mMx 308 = 4 := by decide +kernel
theorem rt_308 : mRt 308 = (some .int) := by decide +kernel
theorem pc_309 : pCode 309 = pL_309 := rfl
theorem ow_309 : mOw 309 = 11 := by decide +kernel
theorem mx_309 : mMx 309 = 4 := by decide +kernel
theorem rt_309 : mRt 309 = (some .int) := by decide +kernel
theorem pc_310 : pCode 310 = pL_310 := rfl
theorem ow_310 : mOw 310 = 11 := by decide +kernel
theorem mx_310 : mMx 310 = 4 := by decide +kernel
theorem rt_310 : mRt 310 = (some .int) := by decide +kernel
theorem pc_311 : pCode 311 = pL_311 := rfl
theorem ow_311 : mOw 311 = 11 := by decide +kernel
theorem mx_311 : mMx 311 = 6 := by decide +kernel
theorem rt_311 : mRt 311 = (some .int) := by decide +kernel
theorem pc_312 : pCode 312 = pL_312 := rfl
theorem ow_312 : mOw 312 = 11 := by decide +kernel
theorem mx_312 : mMx 312 = 8 := by decide +kernel
theorem rt_312 : mRt 312 = (some .boolean) := by decide +kernel
