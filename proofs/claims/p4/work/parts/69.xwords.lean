theorem wd_417 {s : State} (hE : EX s) {args : Array Value} : (Cond.before (.methodLink RL 13 yX11_status) args s) = true := hE.w 417 (by decide +kernel) rfl
theorem wd_418 {s : State} (hE : EX s) {args : Array Value} : (Cond.before (.instanceMethod yX11_status) args s) = true := hE.w 418 (by decide +kernel) rfl
theorem wd_419 {s : State} (hE : EX s) {args : Array Value} : (Cond.before (.selects RX11 yX11_status yX11_status) args s) = true := hE.w 419 (by decide +kernel) rfl
theorem wd_420 {s : State} (hE : EX s) {args : Array Value} : (Cond.before (.code yX11_status cX11_status 1 (some .int)) args s) = true := hE.w 420 (by decide +kernel) rfl
theorem wd_421 {s : State} (hE : EX s) {args : Array Value} : (Cond.before (.methodLink RL 18 yX11_feed) args s) = true := hE.w 421 (by decide +kernel) rfl
theorem wd_422 {s : State} (hE : EX s) {args : Array Value} : (Cond.before (.instanceMethod yX11_feed) args s) = true := hE.w 422 (by decide +kernel) rfl
theorem wd_423 {s : State} (hE : EX s) {args : Array Value} : (Cond.before (.selects RX11 yX11_feed yX11_feed) args s) = true := hE.w 423 (by decide +kernel) rfl
theorem wd_424 {s : State} (hE : EX s) {args : Array Value} : (Cond.before (.code yX11_feed cX11_feed 6 (some .int)) args s) = true := hE.w 424 (by decide +kernel) rfl
theorem wd_429 {s : State} (hE : EX s) {args : Array Value} : (Cond.before (.methodLink RL 23 yX11_load) args s) = true := hE.w 429 (by decide +kernel) rfl
theorem wd_430 {s : State} (hE : EX s) {args : Array Value} : (Cond.before (.instanceMethod yX11_load) args s) = true := hE.w 430 (by decide +kernel) rfl
theorem wd_431 {s : State} (hE : EX s) {args : Array Value} : (Cond.before (.selects RX11 yX11_load yX11_load) args s) = true := hE.w 431 (by decide +kernel) rfl
theorem wd_432 {s : State} (hE : EX s) {args : Array Value} : (Cond.before (.code yX11_load cX11_load 2 (some .int)) args s) = true := hE.w 432 (by decide +kernel) rfl
theorem wd_437 {s : State} (hE : EX s) {args : Array Value} : (Cond.before (.methodLink RX11 114 yX5_read) args s) = true := hE.w 437 (by decide +kernel) rfl
theorem wd_438 {s : State} (hE : EX s) {args : Array Value} : (Cond.before (.instanceMethod yX5_read) args s) = true := hE.w 438 (by decide +kernel) rfl
theorem wd_439 {s : State} (hE : EX s) {args : Array Value} : (Cond.before (.selects RX5 yX5_read yX5_read) args s) = true := hE.w 439 (by decide +kernel) rfl
theorem wd_440 {s : State} (hE : EX s) {args : Array Value} : (Cond.before (.code yX5_read cX5_read 4 (some .boolean)) args s) = true := hE.w 440 (by decide +kernel) rfl
theorem wd_739 {s : State} (hE : EX s) {args : Array Value} : (Cond.before (.methodLink RX11 122 yX5_result) args s) = true := hE.w 739 (by decide +kernel) rfl
theorem wd_740 {s : State} (hE : EX s) {args : Array Value} : (Cond.before (.instanceMethod yX5_result) args s) = true := hE.w 740 (by decide +kernel) rfl
theorem wd_741 {s : State} (hE : EX s) {args : Array Value} : (Cond.before (.selects RX5 yX5_result yX5_result) args s) = true := hE.w 741 (by decide +kernel) rfl
theorem wd_742 {s : State} (hE : EX s) {args : Array Value} : (Cond.before (.code yX5_result cX5_result 1 (some (.object "GluedWords$Store"))) args s) = true := hE.w 742 (by decide +kernel) rfl
theorem wd_749 {s : State} (hE : EX s) {args : Array Value} : (Cond.before (.methodLink RL 28 yX11_fault) args s) = true := hE.w 749 (by decide +kernel) rfl
theorem wd_750 {s : State} (hE : EX s) {args : Array Value} : (Cond.before (.instanceMethod yX11_fault) args s) = true := hE.w 750 (by decide +kernel) rfl
theorem wd_751 {s : State} (hE : EX s) {args : Array Value} : (Cond.before (.selects RX11 yX11_fault yX11_fault) args s) = true := hE.w 751 (by decide +kernel) rfl
theorem wd_752 {s : State} (hE : EX s) {args : Array Value} : (Cond.before (.code yX11_fault cX11_fault 2 (some .int)) args s) = true := hE.w 752 (by decide +kernel) rfl
theorem wd_757 {s : State} (hE : EX s) {args : Array Value} : (Cond.before (.methodLink RL 32 yX11_many) args s) = true := hE.w 757 (by decide +kernel) rfl
theorem wd_758 {s : State} (hE : EX s) {args : Array Value} : (Cond.before (.instanceMethod yX11_many) args s) = true := hE.w 758 (by decide +kernel) rfl
theorem wd_759 {s : State} (hE : EX s) {args : Array Value} : (Cond.before (.selects RX11 yX11_many yX11_many) args s) = true := hE.w 759 (by decide +kernel) rfl
theorem wd_760 {s : State} (hE : EX s) {args : Array Value} : (Cond.before (.code yX11_many cX11_many 2 (some .int)) args s) = true := hE.w 760 (by decide +kernel) rfl
theorem wd_792 {s : State} (hE : EX s) {args : Array Value} : (Cond.before (.methodLink RL 36 yX11_order) args s) = true := hE.w 792 (by decide +kernel) rfl
theorem wd_793 {s : State} (hE : EX s) {args : Array Value} : (Cond.before (.instanceMethod yX11_order) args s) = true := hE.w 793 (by decide +kernel) rfl
theorem wd_794 {s : State} (hE : EX s) {args : Array Value} : (Cond.before (.selects RX11 yX11_order yX11_order) args s) = true := hE.w 794 (by decide +kernel) rfl
theorem wd_795 {s : State} (hE : EX s) {args : Array Value} : (Cond.before (.code yX11_order cX11_order 2 (some .int)) args s) = true := hE.w 795 (by decide +kernel) rfl
theorem wd_798 {s : State} (hE : EX s) {args : Array Value} : (Cond.before (.methodLink RL 40 yX11_edge) args s) = true := hE.w 798 (by decide +kernel) rfl
theorem wd_799 {s : State} (hE : EX s) {args : Array Value} : (Cond.before (.instanceMethod yX11_edge) args s) = true := hE.w 799 (by decide +kernel) rfl
theorem wd_800 {s : State} (hE : EX s) {args : Array Value} : (Cond.before (.selects RX11 yX11_edge yX11_edge) args s) = true := hE.w 800 (by decide +kernel) rfl
theorem wd_801 {s : State} (hE : EX s) {args : Array Value} : (Cond.before (.code yX11_edge cX11_edge 3 (some .int)) args s) = true := hE.w 801 (by decide +kernel) rfl
theorem wd_810 {s : State} (hE : EX s) {args : Array Value} : (Cond.before (.methodLink RL 45 yX11_word) args s) = true := hE.w 810 (by decide +kernel) rfl
theorem wd_811 {s : State} (hE : EX s) {args : Array Value} : (Cond.before (.instanceMethod yX11_word) args s) = true := hE.w 811 (by decide +kernel) rfl
theorem wd_812 {s : State} (hE : EX s) {args : Array Value} : (Cond.before (.selects RX11 yX11_word yX11_word) args s) = true := hE.w 812 (by decide +kernel) rfl
theorem wd_813 {s : State} (hE : EX s) {args : Array Value} : (Cond.before (.code yX11_word cX11_word 4 (some .int)) args s) = true := hE.w 813 (by decide +kernel) rfl
theorem wd_885 {s : State} (hE : EX s) {args : Array Value} : (Cond.before (.methodLink RL 49 yX11_number) args s) = true := hE.w 885 (by decide +kernel) rfl
theorem wd_886 {s : State} (hE : EX s) {args : Array Value} : (Cond.before (.instanceMethod yX11_number) args s) = true := hE.w 886 (by decide +kernel) rfl
theorem wd_887 {s : State} (hE : EX s) {args : Array Value} : (Cond.before (.selects RX11 yX11_number yX11_number) args s) = true := hE.w 887 (by decide +kernel) rfl
theorem wd_888 {s : State} (hE : EX s) {args : Array Value} : (Cond.before (.code yX11_number cX11_number 3 (some .int)) args s) = true := hE.w 888 (by decide +kernel) rfl
theorem wd_890 {s : State} (hE : EX s) {args : Array Value} : (Cond.before (.methodLink RL 53 yX11_step) args s) = true := hE.w 890 (by decide +kernel) rfl
theorem wd_891 {s : State} (hE : EX s) {args : Array Value} : (Cond.before (.instanceMethod yX11_step) args s) = true := hE.w 891 (by decide +kernel) rfl
theorem wd_892 {s : State} (hE : EX s) {args : Array Value} : (Cond.before (.selects RX11 yX11_step yX11_step) args s) = true := hE.w 892 (by decide +kernel) rfl
theorem wd_893 {s : State} (hE : EX s) {args : Array Value} : (Cond.before (.code yX11_step cX11_step 3 (some .int)) args s) = true := hE.w 893 (by decide +kernel) rfl
theorem wd_895 {s : State} (hE : EX s) {args : Array Value} : (Cond.before (.methodLink RL 57 yX11_take) args s) = true := hE.w 895 (by decide +kernel) rfl
theorem wd_896 {s : State} (hE : EX s) {args : Array Value} : (Cond.before (.instanceMethod yX11_take) args s) = true := hE.w 896 (by decide +kernel) rfl
theorem wd_897 {s : State} (hE : EX s) {args : Array Value} : (Cond.before (.selects RX11 yX11_take yX11_take) args s) = true := hE.w 897 (by decide +kernel) rfl
theorem wd_898 {s : State} (hE : EX s) {args : Array Value} : (Cond.before (.code yX11_take cX11_take 3 (some .int)) args s) = true := hE.w 898 (by decide +kernel) rfl
theorem wd_907 {s : State} (hE : EX s) {args : Array Value} : (Cond.before (.methodLink RL 61 yX11_form) args s) = true := hE.w 907 (by decide +kernel) rfl
theorem wd_908 {s : State} (hE : EX s) {args : Array Value} : (Cond.before (.instanceMethod yX11_form) args s) = true := hE.w 908 (by decide +kernel) rfl
theorem wd_909 {s : State} (hE : EX s) {args : Array Value} : (Cond.before (.selects RX11 yX11_form yX11_form) args s) = true := hE.w 909 (by decide +kernel) rfl
theorem wd_910 {s : State} (hE : EX s) {args : Array Value} : (Cond.before (.code yX11_form cX11_form 2 (some .int)) args s) = true := hE.w 910 (by decide +kernel) rfl
theorem wd_912 {s : State} (hE : EX s) {args : Array Value} : (Cond.before (.methodLink RL 65 yX11_times) args s) = true := hE.w 912 (by decide +kernel) rfl
theorem wd_913 {s : State} (hE : EX s) {args : Array Value} : (Cond.before (.instanceMethod yX11_times) args s) = true := hE.w 913 (by decide +kernel) rfl
theorem wd_914 {s : State} (hE : EX s) {args : Array Value} : (Cond.before (.selects RX11 yX11_times yX11_times) args s) = true := hE.w 914 (by decide +kernel) rfl
theorem wd_915 {s : State} (hE : EX s) {args : Array Value} : (Cond.before (.code yX11_times cX11_times 3 (some .int)) args s) = true := hE.w 915 (by decide +kernel) rfl
theorem wd_923 {s : State} (hE : EX s) {args : Array Value} : (Cond.before (.methodLink RL 69 yX11_turned) args s) = true := hE.w 923 (by decide +kernel) rfl
theorem wd_924 {s : State} (hE : EX s) {args : Array Value} : (Cond.before (.instanceMethod yX11_turned) args s) = true := hE.w 924 (by decide +kernel) rfl
theorem wd_925 {s : State} (hE : EX s) {args : Array Value} : (Cond.before (.selects RX11 yX11_turned yX11_turned) args s) = true := hE.w 925 (by decide +kernel) rfl
theorem wd_926 {s : State} (hE : EX s) {args : Array Value} : (Cond.before (.code yX11_turned cX11_turned 2 (some .int)) args s) = true := hE.w 926 (by decide +kernel) rfl
theorem wd_934 {s : State} (hE : EX s) {args : Array Value} : (Cond.before (.methodLink RL 73 yX11_power) args s) = true := hE.w 934 (by decide +kernel) rfl
theorem wd_935 {s : State} (hE : EX s) {args : Array Value} : (Cond.before (.instanceMethod yX11_power) args s) = true := hE.w 935 (by decide +kernel) rfl
theorem wd_936 {s : State} (hE : EX s) {args : Array Value} : (Cond.before (.selects RX11 yX11_power yX11_power) args s) = true := hE.w 936 (by decide +kernel) rfl
theorem wd_937 {s : State} (hE : EX s) {args : Array Value} : (Cond.before (.code yX11_power cX11_power 5 (some .int)) args s) = true := hE.w 937 (by decide +kernel) rfl
theorem wd_956 {s : State} (hE : EX s) {args : Array Value} : (Cond.before (.methodLink RL 77 yX11_core) args s) = true := hE.w 956 (by decide +kernel) rfl
theorem wd_957 {s : State} (hE : EX s) {args : Array Value} : (Cond.before (.instanceMethod yX11_core) args s) = true := hE.w 957 (by decide +kernel) rfl
theorem wd_958 {s : State} (hE : EX s) {args : Array Value} : (Cond.before (.selects RX11 yX11_core yX11_core) args s) = true := hE.w 958 (by decide +kernel) rfl
theorem wd_959 {s : State} (hE : EX s) {args : Array Value} : (Cond.before (.code yX11_core cX11_core 3 (some .int)) args s) = true := hE.w 959 (by decide +kernel) rfl
theorem wd_972 {s : State} (hE : EX s) {args : Array Value} : (Cond.before (.methodLink RL 81 yX11_spell) args s) = true := hE.w 972 (by decide +kernel) rfl
theorem wd_973 {s : State} (hE : EX s) {args : Array Value} : (Cond.before (.instanceMethod yX11_spell) args s) = true := hE.w 973 (by decide +kernel) rfl
theorem wd_974 {s : State} (hE : EX s) {args : Array Value} : (Cond.before (.selects RX11 yX11_spell yX11_spell) args s) = true := hE.w 974 (by decide +kernel) rfl
theorem wd_975 {s : State} (hE : EX s) {args : Array Value} : (Cond.before (.code yX11_spell cX11_spell 4 (some .int)) args s) = true := hE.w 975 (by decide +kernel) rfl
theorem wd_1030 {s : State} (hE : EX s) {args : Array Value} : (Cond.before (.methodLink RL 86 yX11_drop) args s) = true := hE.w 1030 (by decide +kernel) rfl
theorem wd_1031 {s : State} (hE : EX s) {args : Array Value} : (Cond.before (.instanceMethod yX11_drop) args s) = true := hE.w 1031 (by decide +kernel) rfl
theorem wd_1032 {s : State} (hE : EX s) {args : Array Value} : (Cond.before (.selects RX11 yX11_drop yX11_drop) args s) = true := hE.w 1032 (by decide +kernel) rfl
theorem wd_1033 {s : State} (hE : EX s) {args : Array Value} : (Cond.before (.code yX11_drop cX11_drop 2 (some .int)) args s) = true := hE.w 1033 (by decide +kernel) rfl
theorem wd_1039 {s : State} (hE : EX s) {args : Array Value} : (Cond.before (.methodLink RL 90 yX11_undo) args s) = true := hE.w 1039 (by decide +kernel) rfl
theorem wd_1040 {s : State} (hE : EX s) {args : Array Value} : (Cond.before (.instanceMethod yX11_undo) args s) = true := hE.w 1040 (by decide +kernel) rfl
theorem wd_1041 {s : State} (hE : EX s) {args : Array Value} : (Cond.before (.selects RX11 yX11_undo yX11_undo) args s) = true := hE.w 1041 (by decide +kernel) rfl
theorem wd_1042 {s : State} (hE : EX s) {args : Array Value} : (Cond.before (.code yX11_undo cX11_undo 1 (some .int)) args s) = true := hE.w 1042 (by decide +kernel) rfl
theorem wd_1047 {s : State} (hE : EX s) {args : Array Value} : (Cond.before (.methodLink RL 94 yX11_mark) args s) = true := hE.w 1047 (by decide +kernel) rfl
theorem wd_1048 {s : State} (hE : EX s) {args : Array Value} : (Cond.before (.instanceMethod yX11_mark) args s) = true := hE.w 1048 (by decide +kernel) rfl
theorem wd_1049 {s : State} (hE : EX s) {args : Array Value} : (Cond.before (.selects RX11 yX11_mark yX11_mark) args s) = true := hE.w 1049 (by decide +kernel) rfl
theorem wd_1050 {s : State} (hE : EX s) {args : Array Value} : (Cond.before (.code yX11_mark cX11_mark 3 (some .int)) args s) = true := hE.w 1050 (by decide +kernel) rfl
theorem wd_1056 {s : State} (hE : EX s) {args : Array Value} : (Cond.before (.methodLink RL 98 yX11_back) args s) = true := hE.w 1056 (by decide +kernel) rfl
theorem wd_1057 {s : State} (hE : EX s) {args : Array Value} : (Cond.before (.instanceMethod yX11_back) args s) = true := hE.w 1057 (by decide +kernel) rfl
theorem wd_1058 {s : State} (hE : EX s) {args : Array Value} : (Cond.before (.selects RX11 yX11_back yX11_back) args s) = true := hE.w 1058 (by decide +kernel) rfl
theorem wd_1059 {s : State} (hE : EX s) {args : Array Value} : (Cond.before (.code yX11_back cX11_back 4 (some .int)) args s) = true := hE.w 1059 (by decide +kernel) rfl
theorem wd_1060 {s : State} (hE : EX s) {args : Array Value} : (Cond.before (.methodLink RL 102 yX11_alike) args s) = true := hE.w 1060 (by decide +kernel) rfl
theorem wd_1061 {s : State} (hE : EX s) {args : Array Value} : (Cond.before (.instanceMethod yX11_alike) args s) = true := hE.w 1061 (by decide +kernel) rfl
theorem wd_1062 {s : State} (hE : EX s) {args : Array Value} : (Cond.before (.selects RX11 yX11_alike yX11_alike) args s) = true := hE.w 1062 (by decide +kernel) rfl
theorem wd_1063 {s : State} (hE : EX s) {args : Array Value} : (Cond.before (.code yX11_alike cX11_alike 3 (some .int)) args s) = true := hE.w 1063 (by decide +kernel) rfl
theorem wd_1068 {s : State} (hE : EX s) {args : Array Value} : (Cond.before (.methodLink RL 106 yX11_steps) args s) = true := hE.w 1068 (by decide +kernel) rfl
theorem wd_1069 {s : State} (hE : EX s) {args : Array Value} : (Cond.before (.instanceMethod yX11_steps) args s) = true := hE.w 1069 (by decide +kernel) rfl
theorem wd_1070 {s : State} (hE : EX s) {args : Array Value} : (Cond.before (.selects RX11 yX11_steps yX11_steps) args s) = true := hE.w 1070 (by decide +kernel) rfl
theorem wd_1071 {s : State} (hE : EX s) {args : Array Value} : (Cond.before (.code yX11_steps cX11_steps 2 (some .int)) args s) = true := hE.w 1071 (by decide +kernel) rfl
theorem wd_1072 {s : State} (hE : EX s) {args : Array Value} : (Cond.before (.methodLink RL 110 yX11_length) args s) = true := hE.w 1072 (by decide +kernel) rfl
theorem wd_1073 {s : State} (hE : EX s) {args : Array Value} : (Cond.before (.instanceMethod yX11_length) args s) = true := hE.w 1073 (by decide +kernel) rfl
theorem wd_1074 {s : State} (hE : EX s) {args : Array Value} : (Cond.before (.selects RX11 yX11_length yX11_length) args s) = true := hE.w 1074 (by decide +kernel) rfl
theorem wd_1075 {s : State} (hE : EX s) {args : Array Value} : (Cond.before (.code yX11_length cX11_length 3 (some .int)) args s) = true := hE.w 1075 (by decide +kernel) rfl
theorem wd_1080 {s : State} (hE : EX s) {args : Array Value} : (Cond.before (.methodLink RL 114 yX11_orderOf) args s) = true := hE.w 1080 (by decide +kernel) rfl
theorem wd_1081 {s : State} (hE : EX s) {args : Array Value} : (Cond.before (.instanceMethod yX11_orderOf) args s) = true := hE.w 1081 (by decide +kernel) rfl
theorem wd_1082 {s : State} (hE : EX s) {args : Array Value} : (Cond.before (.selects RX11 yX11_orderOf yX11_orderOf) args s) = true := hE.w 1082 (by decide +kernel) rfl
theorem wd_1083 {s : State} (hE : EX s) {args : Array Value} : (Cond.before (.code yX11_orderOf cX11_orderOf 3 (some .int)) args s) = true := hE.w 1083 (by decide +kernel) rfl
theorem wd_1094 {s : State} (hE : EX s) {args : Array Value} : (Cond.before (.methodLink RL 118 yX11_kin) args s) = true := hE.w 1094 (by decide +kernel) rfl
theorem wd_1095 {s : State} (hE : EX s) {args : Array Value} : (Cond.before (.instanceMethod yX11_kin) args s) = true := hE.w 1095 (by decide +kernel) rfl
theorem wd_1096 {s : State} (hE : EX s) {args : Array Value} : (Cond.before (.selects RX11 yX11_kin yX11_kin) args s) = true := hE.w 1096 (by decide +kernel) rfl
theorem wd_1097 {s : State} (hE : EX s) {args : Array Value} : (Cond.before (.code yX11_kin cX11_kin 4 (some .int)) args s) = true := hE.w 1097 (by decide +kernel) rfl
theorem wd_1170 {s : State} (hE : EX s) {args : Array Value} : (Cond.before (.methodLink RL 122 yX11_kinBy) args s) = true := hE.w 1170 (by decide +kernel) rfl
theorem wd_1171 {s : State} (hE : EX s) {args : Array Value} : (Cond.before (.instanceMethod yX11_kinBy) args s) = true := hE.w 1171 (by decide +kernel) rfl
theorem wd_1172 {s : State} (hE : EX s) {args : Array Value} : (Cond.before (.selects RX11 yX11_kinBy yX11_kinBy) args s) = true := hE.w 1172 (by decide +kernel) rfl
theorem wd_1173 {s : State} (hE : EX s) {args : Array Value} : (Cond.before (.code yX11_kinBy cX11_kinBy 5 (some .int)) args s) = true := hE.w 1173 (by decide +kernel) rfl
theorem wd_1182 {s : State} (hE : EX s) {args : Array Value} : (Cond.before (.methodLink RL 126 yX11_kins) args s) = true := hE.w 1182 (by decide +kernel) rfl
theorem wd_1183 {s : State} (hE : EX s) {args : Array Value} : (Cond.before (.instanceMethod yX11_kins) args s) = true := hE.w 1183 (by decide +kernel) rfl
theorem wd_1184 {s : State} (hE : EX s) {args : Array Value} : (Cond.before (.selects RX11 yX11_kins yX11_kins) args s) = true := hE.w 1184 (by decide +kernel) rfl
theorem wd_1185 {s : State} (hE : EX s) {args : Array Value} : (Cond.before (.code yX11_kins cX11_kins 5 (some .int)) args s) = true := hE.w 1185 (by decide +kernel) rfl
theorem wd_1186 {s : State} (hE : EX s) {args : Array Value} : (Cond.before (.methodLink RL 130 yX11_net) args s) = true := hE.w 1186 (by decide +kernel) rfl
theorem wd_1187 {s : State} (hE : EX s) {args : Array Value} : (Cond.before (.instanceMethod yX11_net) args s) = true := hE.w 1187 (by decide +kernel) rfl
theorem wd_1188 {s : State} (hE : EX s) {args : Array Value} : (Cond.before (.selects RX11 yX11_net yX11_net) args s) = true := hE.w 1188 (by decide +kernel) rfl
theorem wd_1189 {s : State} (hE : EX s) {args : Array Value} : (Cond.before (.code yX11_net cX11_net 6 (some .int)) args s) = true := hE.w 1189 (by decide +kernel) rfl
theorem wd_1191 {s : State} (hE : EX s) {args : Array Value} : (Cond.before (.methodLink RL 134 yX11_central) args s) = true := hE.w 1191 (by decide +kernel) rfl
theorem wd_1192 {s : State} (hE : EX s) {args : Array Value} : (Cond.before (.instanceMethod yX11_central) args s) = true := hE.w 1192 (by decide +kernel) rfl
theorem wd_1193 {s : State} (hE : EX s) {args : Array Value} : (Cond.before (.selects RX11 yX11_central yX11_central) args s) = true := hE.w 1193 (by decide +kernel) rfl
theorem wd_1194 {s : State} (hE : EX s) {args : Array Value} : (Cond.before (.code yX11_central cX11_central 5 (some .int)) args s) = true := hE.w 1194 (by decide +kernel) rfl
theorem wd_1204 {s : State} (hE : EX s) {args : Array Value} : (Cond.before (.methodLink RL 138 yX11_centre) args s) = true := hE.w 1204 (by decide +kernel) rfl
theorem wd_1205 {s : State} (hE : EX s) {args : Array Value} : (Cond.before (.instanceMethod yX11_centre) args s) = true := hE.w 1205 (by decide +kernel) rfl
theorem wd_1206 {s : State} (hE : EX s) {args : Array Value} : (Cond.before (.selects RX11 yX11_centre yX11_centre) args s) = true := hE.w 1206 (by decide +kernel) rfl
theorem wd_1207 {s : State} (hE : EX s) {args : Array Value} : (Cond.before (.code yX11_centre cX11_centre 2 (some .int)) args s) = true := hE.w 1207 (by decide +kernel) rfl
theorem wd_1208 {s : State} (hE : EX s) {args : Array Value} : (Cond.before (.methodLink RL 142 yX11_having) args s) = true := hE.w 1208 (by decide +kernel) rfl
theorem wd_1209 {s : State} (hE : EX s) {args : Array Value} : (Cond.before (.instanceMethod yX11_having) args s) = true := hE.w 1209 (by decide +kernel) rfl
theorem wd_1210 {s : State} (hE : EX s) {args : Array Value} : (Cond.before (.selects RX11 yX11_having yX11_having) args s) = true := hE.w 1210 (by decide +kernel) rfl
theorem wd_1211 {s : State} (hE : EX s) {args : Array Value} : (Cond.before (.code yX11_having cX11_having 6 (some .int)) args s) = true := hE.w 1211 (by decide +kernel) rfl
theorem wd_1212 {s : State} (hE : EX s) {args : Array Value} : (Cond.before (.methodLink RL 146 yX11_root) args s) = true := hE.w 1212 (by decide +kernel) rfl
theorem wd_1213 {s : State} (hE : EX s) {args : Array Value} : (Cond.before (.instanceMethod yX11_root) args s) = true := hE.w 1213 (by decide +kernel) rfl
theorem wd_1214 {s : State} (hE : EX s) {args : Array Value} : (Cond.before (.selects RX11 yX11_root yX11_root) args s) = true := hE.w 1214 (by decide +kernel) rfl
theorem wd_1215 {s : State} (hE : EX s) {args : Array Value} : (Cond.before (.code yX11_root cX11_root 3 (some .int)) args s) = true := hE.w 1215 (by decide +kernel) rfl
theorem wd_1235 {s : State} (hE : EX s) {args : Array Value} : (Cond.before (.methodLink RL 150 yX11_swaps) args s) = true := hE.w 1235 (by decide +kernel) rfl
theorem wd_1236 {s : State} (hE : EX s) {args : Array Value} : (Cond.before (.instanceMethod yX11_swaps) args s) = true := hE.w 1236 (by decide +kernel) rfl
theorem wd_1237 {s : State} (hE : EX s) {args : Array Value} : (Cond.before (.selects RX11 yX11_swaps yX11_swaps) args s) = true := hE.w 1237 (by decide +kernel) rfl
theorem wd_1238 {s : State} (hE : EX s) {args : Array Value} : (Cond.before (.code yX11_swaps cX11_swaps 4 (some .int)) args s) = true := hE.w 1238 (by decide +kernel) rfl
theorem wd_1239 {s : State} (hE : EX s) {args : Array Value} : (Cond.before (.methodLink RL 154 yX11_alikes) args s) = true := hE.w 1239 (by decide +kernel) rfl
theorem wd_1240 {s : State} (hE : EX s) {args : Array Value} : (Cond.before (.instanceMethod yX11_alikes) args s) = true := hE.w 1240 (by decide +kernel) rfl
theorem wd_1241 {s : State} (hE : EX s) {args : Array Value} : (Cond.before (.selects RX11 yX11_alikes yX11_alikes) args s) = true := hE.w 1241 (by decide +kernel) rfl
theorem wd_1242 {s : State} (hE : EX s) {args : Array Value} : (Cond.before (.code yX11_alikes cX11_alikes 4 (some .int)) args s) = true := hE.w 1242 (by decide +kernel) rfl
theorem wd_1243 {s : State} (hE : EX s) {args : Array Value} : (Cond.before (.methodLink RL 158 yX11_twin) args s) = true := hE.w 1243 (by decide +kernel) rfl
theorem wd_1244 {s : State} (hE : EX s) {args : Array Value} : (Cond.before (.instanceMethod yX11_twin) args s) = true := hE.w 1244 (by decide +kernel) rfl
theorem wd_1245 {s : State} (hE : EX s) {args : Array Value} : (Cond.before (.selects RX11 yX11_twin yX11_twin) args s) = true := hE.w 1245 (by decide +kernel) rfl
theorem wd_1246 {s : State} (hE : EX s) {args : Array Value} : (Cond.before (.code yX11_twin cX11_twin 3 (some .int)) args s) = true := hE.w 1246 (by decide +kernel) rfl
theorem wd_1247 {s : State} (hE : EX s) {args : Array Value} : (Cond.before (.methodLink RL 162 yX11_apart) args s) = true := hE.w 1247 (by decide +kernel) rfl
theorem wd_1248 {s : State} (hE : EX s) {args : Array Value} : (Cond.before (.instanceMethod yX11_apart) args s) = true := hE.w 1248 (by decide +kernel) rfl
theorem wd_1249 {s : State} (hE : EX s) {args : Array Value} : (Cond.before (.selects RX11 yX11_apart yX11_apart) args s) = true := hE.w 1249 (by decide +kernel) rfl
theorem wd_1250 {s : State} (hE : EX s) {args : Array Value} : (Cond.before (.code yX11_apart cX11_apart 4 (some .int)) args s) = true := hE.w 1250 (by decide +kernel) rfl
theorem wd_1255 {s : State} (hE : EX s) {args : Array Value} : (Cond.before (.methodLink RL 166 yX11_moves) args s) = true := hE.w 1255 (by decide +kernel) rfl
theorem wd_1256 {s : State} (hE : EX s) {args : Array Value} : (Cond.before (.instanceMethod yX11_moves) args s) = true := hE.w 1256 (by decide +kernel) rfl
theorem wd_1257 {s : State} (hE : EX s) {args : Array Value} : (Cond.before (.selects RX11 yX11_moves yX11_moves) args s) = true := hE.w 1257 (by decide +kernel) rfl
theorem wd_1258 {s : State} (hE : EX s) {args : Array Value} : (Cond.before (.code yX11_moves cX11_moves 3 (some .int)) args s) = true := hE.w 1258 (by decide +kernel) rfl
theorem wd_1259 {s : State} (hE : EX s) {args : Array Value} : (Cond.before (.methodLink RL 170 yX11_way) args s) = true := hE.w 1259 (by decide +kernel) rfl
theorem wd_1260 {s : State} (hE : EX s) {args : Array Value} : (Cond.before (.instanceMethod yX11_way) args s) = true := hE.w 1260 (by decide +kernel) rfl
theorem wd_1261 {s : State} (hE : EX s) {args : Array Value} : (Cond.before (.selects RX11 yX11_way yX11_way) args s) = true := hE.w 1261 (by decide +kernel) rfl
theorem wd_1262 {s : State} (hE : EX s) {args : Array Value} : (Cond.before (.code yX11_way cX11_way 5 (some .int)) args s) = true := hE.w 1262 (by decide +kernel) rfl
theorem wd_1264 {s : State} (hE : EX s) {args : Array Value} : (Cond.before (.methodLink RL 174 yX11_holds) args s) = true := hE.w 1264 (by decide +kernel) rfl
theorem wd_1265 {s : State} (hE : EX s) {args : Array Value} : (Cond.before (.instanceMethod yX11_holds) args s) = true := hE.w 1265 (by decide +kernel) rfl
theorem wd_1266 {s : State} (hE : EX s) {args : Array Value} : (Cond.before (.selects RX11 yX11_holds yX11_holds) args s) = true := hE.w 1266 (by decide +kernel) rfl
theorem wd_1267 {s : State} (hE : EX s) {args : Array Value} : (Cond.before (.code yX11_holds cX11_holds 5 (some .long)) args s) = true := hE.w 1267 (by decide +kernel) rfl
theorem wd_1278 {s : State} (hE : EX s) {args : Array Value} : (Cond.before (.methodLink RL 179 yX11_axis) args s) = true := hE.w 1278 (by decide +kernel) rfl
theorem wd_1279 {s : State} (hE : EX s) {args : Array Value} : (Cond.before (.instanceMethod yX11_axis) args s) = true := hE.w 1279 (by decide +kernel) rfl
theorem wd_1280 {s : State} (hE : EX s) {args : Array Value} : (Cond.before (.selects RX11 yX11_axis yX11_axis) args s) = true := hE.w 1280 (by decide +kernel) rfl
theorem wd_1281 {s : State} (hE : EX s) {args : Array Value} : (Cond.before (.code yX11_axis cX11_axis 4 (some .int)) args s) = true := hE.w 1281 (by decide +kernel) rfl
theorem wd_1283 {s : State} (hE : EX s) {args : Array Value} : (Cond.before (.methodLink RL 183 yX11_ball) args s) = true := hE.w 1283 (by decide +kernel) rfl
theorem wd_1284 {s : State} (hE : EX s) {args : Array Value} : (Cond.before (.instanceMethod yX11_ball) args s) = true := hE.w 1284 (by decide +kernel) rfl
theorem wd_1285 {s : State} (hE : EX s) {args : Array Value} : (Cond.before (.selects RX11 yX11_ball yX11_ball) args s) = true := hE.w 1285 (by decide +kernel) rfl
theorem wd_1286 {s : State} (hE : EX s) {args : Array Value} : (Cond.before (.code yX11_ball cX11_ball 3 (some .long)) args s) = true := hE.w 1286 (by decide +kernel) rfl
theorem wd_1287 {s : State} (hE : EX s) {args : Array Value} : (Cond.before (.methodLink RL 187 yX11_sphere) args s) = true := hE.w 1287 (by decide +kernel) rfl
theorem wd_1288 {s : State} (hE : EX s) {args : Array Value} : (Cond.before (.instanceMethod yX11_sphere) args s) = true := hE.w 1288 (by decide +kernel) rfl
theorem wd_1289 {s : State} (hE : EX s) {args : Array Value} : (Cond.before (.selects RX11 yX11_sphere yX11_sphere) args s) = true := hE.w 1289 (by decide +kernel) rfl
theorem wd_1290 {s : State} (hE : EX s) {args : Array Value} : (Cond.before (.code yX11_sphere cX11_sphere 3 (some .long)) args s) = true := hE.w 1290 (by decide +kernel) rfl
theorem wd_1291 {s : State} (hE : EX s) {args : Array Value} : (Cond.before (.methodLink RL 191 yX11_listed) args s) = true := hE.w 1291 (by decide +kernel) rfl
theorem wd_1292 {s : State} (hE : EX s) {args : Array Value} : (Cond.before (.instanceMethod yX11_listed) args s) = true := hE.w 1292 (by decide +kernel) rfl
theorem wd_1293 {s : State} (hE : EX s) {args : Array Value} : (Cond.before (.selects RX11 yX11_listed yX11_listed) args s) = true := hE.w 1293 (by decide +kernel) rfl
theorem wd_1294 {s : State} (hE : EX s) {args : Array Value} : (Cond.before (.code yX11_listed cX11_listed 3 (some .long)) args s) = true := hE.w 1294 (by decide +kernel) rfl
theorem wd_1303 {s : State} (hE : EX s) {args : Array Value} : (Cond.before (.methodLink RL 196 yX11_near) args s) = true := hE.w 1303 (by decide +kernel) rfl
theorem wd_1304 {s : State} (hE : EX s) {args : Array Value} : (Cond.before (.instanceMethod yX11_near) args s) = true := hE.w 1304 (by decide +kernel) rfl
theorem wd_1305 {s : State} (hE : EX s) {args : Array Value} : (Cond.before (.selects RX11 yX11_near yX11_near) args s) = true := hE.w 1305 (by decide +kernel) rfl
theorem wd_1306 {s : State} (hE : EX s) {args : Array Value} : (Cond.before (.code yX11_near cX11_near 5 (some .int)) args s) = true := hE.w 1306 (by decide +kernel) rfl
theorem wd_1307 {s : State} (hE : EX s) {args : Array Value} : (Cond.before (.methodLink RL 200 yX11_meet) args s) = true := hE.w 1307 (by decide +kernel) rfl
theorem wd_1308 {s : State} (hE : EX s) {args : Array Value} : (Cond.before (.instanceMethod yX11_meet) args s) = true := hE.w 1308 (by decide +kernel) rfl
theorem wd_1309 {s : State} (hE : EX s) {args : Array Value} : (Cond.before (.selects RX11 yX11_meet yX11_meet) args s) = true := hE.w 1309 (by decide +kernel) rfl
theorem wd_1310 {s : State} (hE : EX s) {args : Array Value} : (Cond.before (.code yX11_meet cX11_meet 4 (some .int)) args s) = true := hE.w 1310 (by decide +kernel) rfl
theorem wd_1313 {s : State} (hE : EX s) {args : Array Value} : (Cond.before (.methodLink RL 204 yX11_tell) args s) = true := hE.w 1313 (by decide +kernel) rfl
theorem wd_1314 {s : State} (hE : EX s) {args : Array Value} : (Cond.before (.instanceMethod yX11_tell) args s) = true := hE.w 1314 (by decide +kernel) rfl
theorem wd_1315 {s : State} (hE : EX s) {args : Array Value} : (Cond.before (.selects RX11 yX11_tell yX11_tell) args s) = true := hE.w 1315 (by decide +kernel) rfl
theorem wd_1316 {s : State} (hE : EX s) {args : Array Value} : (Cond.before (.code yX11_tell cX11_tell 2 (some .int)) args s) = true := hE.w 1316 (by decide +kernel) rfl
theorem wd_1336 {s : State} (hE : EX s) {args : Array Value} : (Cond.before (.methodLink RL 208 yX11_out) args s) = true := hE.w 1336 (by decide +kernel) rfl
theorem wd_1337 {s : State} (hE : EX s) {args : Array Value} : (Cond.before (.instanceMethod yX11_out) args s) = true := hE.w 1337 (by decide +kernel) rfl
theorem wd_1338 {s : State} (hE : EX s) {args : Array Value} : (Cond.before (.selects RX11 yX11_out yX11_out) args s) = true := hE.w 1338 (by decide +kernel) rfl
theorem wd_1339 {s : State} (hE : EX s) {args : Array Value} : (Cond.before (.code yX11_out cX11_out 2 (some .int)) args s) = true := hE.w 1339 (by decide +kernel) rfl
theorem wd_1348 {s : State} (hE : EX s) {args : Array Value} : (Cond.before (.methodLink RL 212 yX11_chi) args s) = true := hE.w 1348 (by decide +kernel) rfl
theorem wd_1349 {s : State} (hE : EX s) {args : Array Value} : (Cond.before (.instanceMethod yX11_chi) args s) = true := hE.w 1349 (by decide +kernel) rfl
theorem wd_1350 {s : State} (hE : EX s) {args : Array Value} : (Cond.before (.selects RX11 yX11_chi yX11_chi) args s) = true := hE.w 1350 (by decide +kernel) rfl
theorem wd_1351 {s : State} (hE : EX s) {args : Array Value} : (Cond.before (.code yX11_chi cX11_chi 2 (some .int)) args s) = true := hE.w 1351 (by decide +kernel) rfl
theorem wd_1476 {s : State} (hE : EX s) {args : Array Value} : (Cond.before (.methodLink RL 17 yX12_status) args s) = true := hE.w 1476 (by decide +kernel) rfl
theorem wd_1477 {s : State} (hE : EX s) {args : Array Value} : (Cond.before (.instanceMethod yX12_status) args s) = true := hE.w 1477 (by decide +kernel) rfl
theorem wd_1478 {s : State} (hE : EX s) {args : Array Value} : (Cond.before (.selects RX12 yX12_status yX12_status) args s) = true := hE.w 1478 (by decide +kernel) rfl
theorem wd_1479 {s : State} (hE : EX s) {args : Array Value} : (Cond.before (.code yX12_status cX12_status 1 (some .int)) args s) = true := hE.w 1479 (by decide +kernel) rfl
theorem wd_1480 {s : State} (hE : EX s) {args : Array Value} : (Cond.before (.methodLink RL 22 yX12_feed) args s) = true := hE.w 1480 (by decide +kernel) rfl
theorem wd_1481 {s : State} (hE : EX s) {args : Array Value} : (Cond.before (.instanceMethod yX12_feed) args s) = true := hE.w 1481 (by decide +kernel) rfl
theorem wd_1482 {s : State} (hE : EX s) {args : Array Value} : (Cond.before (.selects RX12 yX12_feed yX12_feed) args s) = true := hE.w 1482 (by decide +kernel) rfl
theorem wd_1483 {s : State} (hE : EX s) {args : Array Value} : (Cond.before (.code yX12_feed cX12_feed 6 (some .int)) args s) = true := hE.w 1483 (by decide +kernel) rfl
theorem wd_1488 {s : State} (hE : EX s) {args : Array Value} : (Cond.before (.methodLink RL 27 yX12_load) args s) = true := hE.w 1488 (by decide +kernel) rfl
theorem wd_1489 {s : State} (hE : EX s) {args : Array Value} : (Cond.before (.instanceMethod yX12_load) args s) = true := hE.w 1489 (by decide +kernel) rfl
theorem wd_1490 {s : State} (hE : EX s) {args : Array Value} : (Cond.before (.selects RX12 yX12_load yX12_load) args s) = true := hE.w 1490 (by decide +kernel) rfl
theorem wd_1491 {s : State} (hE : EX s) {args : Array Value} : (Cond.before (.code yX12_load cX12_load 3 (some .int)) args s) = true := hE.w 1491 (by decide +kernel) rfl
theorem wd_1622 {s : State} (hE : EX s) {args : Array Value} : (Cond.before (.methodLink RL 31 yX12_fault) args s) = true := hE.w 1622 (by decide +kernel) rfl
theorem wd_1623 {s : State} (hE : EX s) {args : Array Value} : (Cond.before (.instanceMethod yX12_fault) args s) = true := hE.w 1623 (by decide +kernel) rfl
theorem wd_1624 {s : State} (hE : EX s) {args : Array Value} : (Cond.before (.selects RX12 yX12_fault yX12_fault) args s) = true := hE.w 1624 (by decide +kernel) rfl
theorem wd_1625 {s : State} (hE : EX s) {args : Array Value} : (Cond.before (.code yX12_fault cX12_fault 2 (some .int)) args s) = true := hE.w 1625 (by decide +kernel) rfl
theorem wd_1626 {s : State} (hE : EX s) {args : Array Value} : (Cond.before (.methodLink RL 35 yX12_many) args s) = true := hE.w 1626 (by decide +kernel) rfl
theorem wd_1627 {s : State} (hE : EX s) {args : Array Value} : (Cond.before (.instanceMethod yX12_many) args s) = true := hE.w 1627 (by decide +kernel) rfl
theorem wd_1628 {s : State} (hE : EX s) {args : Array Value} : (Cond.before (.selects RX12 yX12_many yX12_many) args s) = true := hE.w 1628 (by decide +kernel) rfl
theorem wd_1629 {s : State} (hE : EX s) {args : Array Value} : (Cond.before (.code yX12_many cX12_many 2 (some .int)) args s) = true := hE.w 1629 (by decide +kernel) rfl
theorem wd_1638 {s : State} (hE : EX s) {args : Array Value} : (Cond.before (.methodLink RL 39 yX12_order) args s) = true := hE.w 1638 (by decide +kernel) rfl
theorem wd_1639 {s : State} (hE : EX s) {args : Array Value} : (Cond.before (.instanceMethod yX12_order) args s) = true := hE.w 1639 (by decide +kernel) rfl
theorem wd_1640 {s : State} (hE : EX s) {args : Array Value} : (Cond.before (.selects RX12 yX12_order yX12_order) args s) = true := hE.w 1640 (by decide +kernel) rfl
theorem wd_1641 {s : State} (hE : EX s) {args : Array Value} : (Cond.before (.code yX12_order cX12_order 2 (some .int)) args s) = true := hE.w 1641 (by decide +kernel) rfl
theorem wd_1642 {s : State} (hE : EX s) {args : Array Value} : (Cond.before (.methodLink RL 44 yX12_edge) args s) = true := hE.w 1642 (by decide +kernel) rfl
theorem wd_1643 {s : State} (hE : EX s) {args : Array Value} : (Cond.before (.instanceMethod yX12_edge) args s) = true := hE.w 1643 (by decide +kernel) rfl
theorem wd_1644 {s : State} (hE : EX s) {args : Array Value} : (Cond.before (.selects RX12 yX12_edge yX12_edge) args s) = true := hE.w 1644 (by decide +kernel) rfl
theorem wd_1645 {s : State} (hE : EX s) {args : Array Value} : (Cond.before (.code yX12_edge cX12_edge 3 (some .int)) args s) = true := hE.w 1645 (by decide +kernel) rfl
theorem wd_1646 {s : State} (hE : EX s) {args : Array Value} : (Cond.before (.methodLink RL 48 yX12_word) args s) = true := hE.w 1646 (by decide +kernel) rfl
theorem wd_1647 {s : State} (hE : EX s) {args : Array Value} : (Cond.before (.instanceMethod yX12_word) args s) = true := hE.w 1647 (by decide +kernel) rfl
theorem wd_1648 {s : State} (hE : EX s) {args : Array Value} : (Cond.before (.selects RX12 yX12_word yX12_word) args s) = true := hE.w 1648 (by decide +kernel) rfl
theorem wd_1649 {s : State} (hE : EX s) {args : Array Value} : (Cond.before (.code yX12_word cX12_word 3 (some .int)) args s) = true := hE.w 1649 (by decide +kernel) rfl
theorem wd_1676 {s : State} (hE : EX s) {args : Array Value} : (Cond.before (.methodLink RL 52 yX12_number_) args s) = true := hE.w 1676 (by decide +kernel) rfl
theorem wd_1677 {s : State} (hE : EX s) {args : Array Value} : (Cond.before (.instanceMethod yX12_number_) args s) = true := hE.w 1677 (by decide +kernel) rfl
theorem wd_1678 {s : State} (hE : EX s) {args : Array Value} : (Cond.before (.selects RX12 yX12_number_ yX12_number_) args s) = true := hE.w 1678 (by decide +kernel) rfl
theorem wd_1679 {s : State} (hE : EX s) {args : Array Value} : (Cond.before (.code yX12_number_ cX12_number_ 3 (some .int)) args s) = true := hE.w 1679 (by decide +kernel) rfl
theorem wd_1680 {s : State} (hE : EX s) {args : Array Value} : (Cond.before (.methodLink RL 56 yX12_step_) args s) = true := hE.w 1680 (by decide +kernel) rfl
theorem wd_1681 {s : State} (hE : EX s) {args : Array Value} : (Cond.before (.instanceMethod yX12_step_) args s) = true := hE.w 1681 (by decide +kernel) rfl
theorem wd_1682 {s : State} (hE : EX s) {args : Array Value} : (Cond.before (.selects RX12 yX12_step_ yX12_step_) args s) = true := hE.w 1682 (by decide +kernel) rfl
theorem wd_1683 {s : State} (hE : EX s) {args : Array Value} : (Cond.before (.code yX12_step_ cX12_step_ 3 (some .int)) args s) = true := hE.w 1683 (by decide +kernel) rfl
theorem wd_1684 {s : State} (hE : EX s) {args : Array Value} : (Cond.before (.methodLink RL 60 yX12_take) args s) = true := hE.w 1684 (by decide +kernel) rfl
theorem wd_1685 {s : State} (hE : EX s) {args : Array Value} : (Cond.before (.instanceMethod yX12_take) args s) = true := hE.w 1685 (by decide +kernel) rfl
theorem wd_1686 {s : State} (hE : EX s) {args : Array Value} : (Cond.before (.selects RX12 yX12_take yX12_take) args s) = true := hE.w 1686 (by decide +kernel) rfl
theorem wd_1687 {s : State} (hE : EX s) {args : Array Value} : (Cond.before (.code yX12_take cX12_take 3 (some .int)) args s) = true := hE.w 1687 (by decide +kernel) rfl
theorem wd_1692 {s : State} (hE : EX s) {args : Array Value} : (Cond.before (.methodLink RL 64 yX12_form) args s) = true := hE.w 1692 (by decide +kernel) rfl
theorem wd_1693 {s : State} (hE : EX s) {args : Array Value} : (Cond.before (.instanceMethod yX12_form) args s) = true := hE.w 1693 (by decide +kernel) rfl
theorem wd_1694 {s : State} (hE : EX s) {args : Array Value} : (Cond.before (.selects RX12 yX12_form yX12_form) args s) = true := hE.w 1694 (by decide +kernel) rfl
theorem wd_1695 {s : State} (hE : EX s) {args : Array Value} : (Cond.before (.code yX12_form cX12_form 3 (some .int)) args s) = true := hE.w 1695 (by decide +kernel) rfl
theorem wd_1696 {s : State} (hE : EX s) {args : Array Value} : (Cond.before (.methodLink RL 68 yX12_times) args s) = true := hE.w 1696 (by decide +kernel) rfl
theorem wd_1697 {s : State} (hE : EX s) {args : Array Value} : (Cond.before (.instanceMethod yX12_times) args s) = true := hE.w 1697 (by decide +kernel) rfl
theorem wd_1698 {s : State} (hE : EX s) {args : Array Value} : (Cond.before (.selects RX12 yX12_times yX12_times) args s) = true := hE.w 1698 (by decide +kernel) rfl
theorem wd_1699 {s : State} (hE : EX s) {args : Array Value} : (Cond.before (.code yX12_times cX12_times 3 (some .int)) args s) = true := hE.w 1699 (by decide +kernel) rfl
theorem wd_1710 {s : State} (hE : EX s) {args : Array Value} : (Cond.before (.methodLink RL 72 yX12_turned) args s) = true := hE.w 1710 (by decide +kernel) rfl
theorem wd_1711 {s : State} (hE : EX s) {args : Array Value} : (Cond.before (.instanceMethod yX12_turned) args s) = true := hE.w 1711 (by decide +kernel) rfl
theorem wd_1712 {s : State} (hE : EX s) {args : Array Value} : (Cond.before (.selects RX12 yX12_turned yX12_turned) args s) = true := hE.w 1712 (by decide +kernel) rfl
theorem wd_1713 {s : State} (hE : EX s) {args : Array Value} : (Cond.before (.code yX12_turned cX12_turned 2 (some .int)) args s) = true := hE.w 1713 (by decide +kernel) rfl
theorem wd_1718 {s : State} (hE : EX s) {args : Array Value} : (Cond.before (.methodLink RL 76 yX12_power) args s) = true := hE.w 1718 (by decide +kernel) rfl
theorem wd_1719 {s : State} (hE : EX s) {args : Array Value} : (Cond.before (.instanceMethod yX12_power) args s) = true := hE.w 1719 (by decide +kernel) rfl
theorem wd_1720 {s : State} (hE : EX s) {args : Array Value} : (Cond.before (.selects RX12 yX12_power yX12_power) args s) = true := hE.w 1720 (by decide +kernel) rfl
theorem wd_1721 {s : State} (hE : EX s) {args : Array Value} : (Cond.before (.code yX12_power cX12_power 4 (some .int)) args s) = true := hE.w 1721 (by decide +kernel) rfl
theorem wd_1726 {s : State} (hE : EX s) {args : Array Value} : (Cond.before (.methodLink RL 80 yX12_core) args s) = true := hE.w 1726 (by decide +kernel) rfl
theorem wd_1727 {s : State} (hE : EX s) {args : Array Value} : (Cond.before (.instanceMethod yX12_core) args s) = true := hE.w 1727 (by decide +kernel) rfl
theorem wd_1728 {s : State} (hE : EX s) {args : Array Value} : (Cond.before (.selects RX12 yX12_core yX12_core) args s) = true := hE.w 1728 (by decide +kernel) rfl
theorem wd_1729 {s : State} (hE : EX s) {args : Array Value} : (Cond.before (.code yX12_core cX12_core 2 (some .int)) args s) = true := hE.w 1729 (by decide +kernel) rfl
theorem wd_1738 {s : State} (hE : EX s) {args : Array Value} : (Cond.before (.methodLink RL 89 yX12_drop) args s) = true := hE.w 1738 (by decide +kernel) rfl
theorem wd_1739 {s : State} (hE : EX s) {args : Array Value} : (Cond.before (.instanceMethod yX12_drop) args s) = true := hE.w 1739 (by decide +kernel) rfl
theorem wd_1740 {s : State} (hE : EX s) {args : Array Value} : (Cond.before (.selects RX12 yX12_drop yX12_drop) args s) = true := hE.w 1740 (by decide +kernel) rfl
theorem wd_1741 {s : State} (hE : EX s) {args : Array Value} : (Cond.before (.code yX12_drop cX12_drop 3 (some .int)) args s) = true := hE.w 1741 (by decide +kernel) rfl
theorem wd_1742 {s : State} (hE : EX s) {args : Array Value} : (Cond.before (.methodLink RL 93 yX12_undo) args s) = true := hE.w 1742 (by decide +kernel) rfl
theorem wd_1743 {s : State} (hE : EX s) {args : Array Value} : (Cond.before (.instanceMethod yX12_undo) args s) = true := hE.w 1743 (by decide +kernel) rfl
theorem wd_1744 {s : State} (hE : EX s) {args : Array Value} : (Cond.before (.selects RX12 yX12_undo yX12_undo) args s) = true := hE.w 1744 (by decide +kernel) rfl
theorem wd_1745 {s : State} (hE : EX s) {args : Array Value} : (Cond.before (.code yX12_undo cX12_undo 1 (some .int)) args s) = true := hE.w 1745 (by decide +kernel) rfl
theorem wd_1746 {s : State} (hE : EX s) {args : Array Value} : (Cond.before (.methodLink RL 97 yX12_mark) args s) = true := hE.w 1746 (by decide +kernel) rfl
theorem wd_1747 {s : State} (hE : EX s) {args : Array Value} : (Cond.before (.instanceMethod yX12_mark) args s) = true := hE.w 1747 (by decide +kernel) rfl
theorem wd_1748 {s : State} (hE : EX s) {args : Array Value} : (Cond.before (.selects RX12 yX12_mark yX12_mark) args s) = true := hE.w 1748 (by decide +kernel) rfl
theorem wd_1749 {s : State} (hE : EX s) {args : Array Value} : (Cond.before (.code yX12_mark cX12_mark 1 (some .int)) args s) = true := hE.w 1749 (by decide +kernel) rfl
theorem wd_1750 {s : State} (hE : EX s) {args : Array Value} : (Cond.before (.methodLink RL 101 yX12_back) args s) = true := hE.w 1750 (by decide +kernel) rfl
theorem wd_1751 {s : State} (hE : EX s) {args : Array Value} : (Cond.before (.instanceMethod yX12_back) args s) = true := hE.w 1751 (by decide +kernel) rfl
theorem wd_1752 {s : State} (hE : EX s) {args : Array Value} : (Cond.before (.selects RX12 yX12_back yX12_back) args s) = true := hE.w 1752 (by decide +kernel) rfl
theorem wd_1753 {s : State} (hE : EX s) {args : Array Value} : (Cond.before (.code yX12_back cX12_back 1 (some .int)) args s) = true := hE.w 1753 (by decide +kernel) rfl
theorem wd_1754 {s : State} (hE : EX s) {args : Array Value} : (Cond.before (.methodLink RL 105 yX12_alike) args s) = true := hE.w 1754 (by decide +kernel) rfl
theorem wd_1755 {s : State} (hE : EX s) {args : Array Value} : (Cond.before (.instanceMethod yX12_alike) args s) = true := hE.w 1755 (by decide +kernel) rfl
theorem wd_1756 {s : State} (hE : EX s) {args : Array Value} : (Cond.before (.selects RX12 yX12_alike yX12_alike) args s) = true := hE.w 1756 (by decide +kernel) rfl
theorem wd_1757 {s : State} (hE : EX s) {args : Array Value} : (Cond.before (.code yX12_alike cX12_alike 3 (some .int)) args s) = true := hE.w 1757 (by decide +kernel) rfl
theorem wd_1762 {s : State} (hE : EX s) {args : Array Value} : (Cond.before (.methodLink RL 157 yX12_alikes) args s) = true := hE.w 1762 (by decide +kernel) rfl
theorem wd_1763 {s : State} (hE : EX s) {args : Array Value} : (Cond.before (.instanceMethod yX12_alikes) args s) = true := hE.w 1763 (by decide +kernel) rfl
theorem wd_1764 {s : State} (hE : EX s) {args : Array Value} : (Cond.before (.selects RX12 yX12_alikes yX12_alikes) args s) = true := hE.w 1764 (by decide +kernel) rfl
theorem wd_1765 {s : State} (hE : EX s) {args : Array Value} : (Cond.before (.code yX12_alikes cX12_alikes 4 (some .int)) args s) = true := hE.w 1765 (by decide +kernel) rfl
theorem wd_1766 {s : State} (hE : EX s) {args : Array Value} : (Cond.before (.methodLink RL 161 yX12_twin) args s) = true := hE.w 1766 (by decide +kernel) rfl
theorem wd_1767 {s : State} (hE : EX s) {args : Array Value} : (Cond.before (.instanceMethod yX12_twin) args s) = true := hE.w 1767 (by decide +kernel) rfl
theorem wd_1768 {s : State} (hE : EX s) {args : Array Value} : (Cond.before (.selects RX12 yX12_twin yX12_twin) args s) = true := hE.w 1768 (by decide +kernel) rfl
theorem wd_1769 {s : State} (hE : EX s) {args : Array Value} : (Cond.before (.code yX12_twin cX12_twin 3 (some .int)) args s) = true := hE.w 1769 (by decide +kernel) rfl
theorem wd_1770 {s : State} (hE : EX s) {args : Array Value} : (Cond.before (.methodLink RL 109 yX12_steps) args s) = true := hE.w 1770 (by decide +kernel) rfl
theorem wd_1771 {s : State} (hE : EX s) {args : Array Value} : (Cond.before (.instanceMethod yX12_steps) args s) = true := hE.w 1771 (by decide +kernel) rfl
theorem wd_1772 {s : State} (hE : EX s) {args : Array Value} : (Cond.before (.selects RX12 yX12_steps yX12_steps) args s) = true := hE.w 1772 (by decide +kernel) rfl
theorem wd_1773 {s : State} (hE : EX s) {args : Array Value} : (Cond.before (.code yX12_steps cX12_steps 2 (some .int)) args s) = true := hE.w 1773 (by decide +kernel) rfl
theorem wd_1774 {s : State} (hE : EX s) {args : Array Value} : (Cond.before (.methodLink RL 113 yX12_length) args s) = true := hE.w 1774 (by decide +kernel) rfl
theorem wd_1775 {s : State} (hE : EX s) {args : Array Value} : (Cond.before (.instanceMethod yX12_length) args s) = true := hE.w 1775 (by decide +kernel) rfl
theorem wd_1776 {s : State} (hE : EX s) {args : Array Value} : (Cond.before (.selects RX12 yX12_length yX12_length) args s) = true := hE.w 1776 (by decide +kernel) rfl
theorem wd_1777 {s : State} (hE : EX s) {args : Array Value} : (Cond.before (.code yX12_length cX12_length 3 (some .int)) args s) = true := hE.w 1777 (by decide +kernel) rfl
theorem wd_1782 {s : State} (hE : EX s) {args : Array Value} : (Cond.before (.methodLink RL 117 yX12_orderOf) args s) = true := hE.w 1782 (by decide +kernel) rfl
theorem wd_1783 {s : State} (hE : EX s) {args : Array Value} : (Cond.before (.instanceMethod yX12_orderOf) args s) = true := hE.w 1783 (by decide +kernel) rfl
theorem wd_1784 {s : State} (hE : EX s) {args : Array Value} : (Cond.before (.selects RX12 yX12_orderOf yX12_orderOf) args s) = true := hE.w 1784 (by decide +kernel) rfl
theorem wd_1785 {s : State} (hE : EX s) {args : Array Value} : (Cond.before (.code yX12_orderOf cX12_orderOf 3 (some .int)) args s) = true := hE.w 1785 (by decide +kernel) rfl
theorem wd_1793 {s : State} (hE : EX s) {args : Array Value} : (Cond.before (.methodLink RL 121 yX12_kin) args s) = true := hE.w 1793 (by decide +kernel) rfl
theorem wd_1794 {s : State} (hE : EX s) {args : Array Value} : (Cond.before (.instanceMethod yX12_kin) args s) = true := hE.w 1794 (by decide +kernel) rfl
theorem wd_1795 {s : State} (hE : EX s) {args : Array Value} : (Cond.before (.selects RX12 yX12_kin yX12_kin) args s) = true := hE.w 1795 (by decide +kernel) rfl
theorem wd_1796 {s : State} (hE : EX s) {args : Array Value} : (Cond.before (.code yX12_kin cX12_kin 4 (some .int)) args s) = true := hE.w 1796 (by decide +kernel) rfl
theorem wd_1813 {s : State} (hE : EX s) {args : Array Value} : (Cond.before (.methodLink RL 125 yX12_kinBy) args s) = true := hE.w 1813 (by decide +kernel) rfl
theorem wd_1814 {s : State} (hE : EX s) {args : Array Value} : (Cond.before (.instanceMethod yX12_kinBy) args s) = true := hE.w 1814 (by decide +kernel) rfl
theorem wd_1815 {s : State} (hE : EX s) {args : Array Value} : (Cond.before (.selects RX12 yX12_kinBy yX12_kinBy) args s) = true := hE.w 1815 (by decide +kernel) rfl
theorem wd_1816 {s : State} (hE : EX s) {args : Array Value} : (Cond.before (.code yX12_kinBy cX12_kinBy 5 (some .int)) args s) = true := hE.w 1816 (by decide +kernel) rfl
theorem wd_1817 {s : State} (hE : EX s) {args : Array Value} : (Cond.before (.methodLink RL 129 yX12_kins) args s) = true := hE.w 1817 (by decide +kernel) rfl
theorem wd_1818 {s : State} (hE : EX s) {args : Array Value} : (Cond.before (.instanceMethod yX12_kins) args s) = true := hE.w 1818 (by decide +kernel) rfl
theorem wd_1819 {s : State} (hE : EX s) {args : Array Value} : (Cond.before (.selects RX12 yX12_kins yX12_kins) args s) = true := hE.w 1819 (by decide +kernel) rfl
theorem wd_1820 {s : State} (hE : EX s) {args : Array Value} : (Cond.before (.code yX12_kins cX12_kins 5 (some .int)) args s) = true := hE.w 1820 (by decide +kernel) rfl
theorem wd_1821 {s : State} (hE : EX s) {args : Array Value} : (Cond.before (.methodLink RL 133 yX12_net) args s) = true := hE.w 1821 (by decide +kernel) rfl
theorem wd_1822 {s : State} (hE : EX s) {args : Array Value} : (Cond.before (.instanceMethod yX12_net) args s) = true := hE.w 1822 (by decide +kernel) rfl
theorem wd_1823 {s : State} (hE : EX s) {args : Array Value} : (Cond.before (.selects RX12 yX12_net yX12_net) args s) = true := hE.w 1823 (by decide +kernel) rfl
theorem wd_1824 {s : State} (hE : EX s) {args : Array Value} : (Cond.before (.code yX12_net cX12_net 5 (some .int)) args s) = true := hE.w 1824 (by decide +kernel) rfl
theorem wd_1825 {s : State} (hE : EX s) {args : Array Value} : (Cond.before (.methodLink RL 137 yX12_central) args s) = true := hE.w 1825 (by decide +kernel) rfl
theorem wd_1826 {s : State} (hE : EX s) {args : Array Value} : (Cond.before (.instanceMethod yX12_central) args s) = true := hE.w 1826 (by decide +kernel) rfl
theorem wd_1827 {s : State} (hE : EX s) {args : Array Value} : (Cond.before (.selects RX12 yX12_central yX12_central) args s) = true := hE.w 1827 (by decide +kernel) rfl
theorem wd_1828 {s : State} (hE : EX s) {args : Array Value} : (Cond.before (.code yX12_central cX12_central 3 (some .int)) args s) = true := hE.w 1828 (by decide +kernel) rfl
theorem wd_1833 {s : State} (hE : EX s) {args : Array Value} : (Cond.before (.methodLink RL 141 yX12_centre) args s) = true := hE.w 1833 (by decide +kernel) rfl
theorem wd_1834 {s : State} (hE : EX s) {args : Array Value} : (Cond.before (.instanceMethod yX12_centre) args s) = true := hE.w 1834 (by decide +kernel) rfl
theorem wd_1835 {s : State} (hE : EX s) {args : Array Value} : (Cond.before (.selects RX12 yX12_centre yX12_centre) args s) = true := hE.w 1835 (by decide +kernel) rfl
theorem wd_1836 {s : State} (hE : EX s) {args : Array Value} : (Cond.before (.code yX12_centre cX12_centre 4 (some .int)) args s) = true := hE.w 1836 (by decide +kernel) rfl
theorem wd_1837 {s : State} (hE : EX s) {args : Array Value} : (Cond.before (.methodLink RL 145 yX12_having) args s) = true := hE.w 1837 (by decide +kernel) rfl
theorem wd_1838 {s : State} (hE : EX s) {args : Array Value} : (Cond.before (.instanceMethod yX12_having) args s) = true := hE.w 1838 (by decide +kernel) rfl
theorem wd_1839 {s : State} (hE : EX s) {args : Array Value} : (Cond.before (.selects RX12 yX12_having yX12_having) args s) = true := hE.w 1839 (by decide +kernel) rfl
theorem wd_1840 {s : State} (hE : EX s) {args : Array Value} : (Cond.before (.code yX12_having cX12_having 5 (some .int)) args s) = true := hE.w 1840 (by decide +kernel) rfl
theorem wd_1841 {s : State} (hE : EX s) {args : Array Value} : (Cond.before (.methodLink RL 149 yX12_root) args s) = true := hE.w 1841 (by decide +kernel) rfl
theorem wd_1842 {s : State} (hE : EX s) {args : Array Value} : (Cond.before (.instanceMethod yX12_root) args s) = true := hE.w 1842 (by decide +kernel) rfl
theorem wd_1843 {s : State} (hE : EX s) {args : Array Value} : (Cond.before (.selects RX12 yX12_root yX12_root) args s) = true := hE.w 1843 (by decide +kernel) rfl
theorem wd_1844 {s : State} (hE : EX s) {args : Array Value} : (Cond.before (.code yX12_root cX12_root 3 (some .int)) args s) = true := hE.w 1844 (by decide +kernel) rfl
theorem wd_1853 {s : State} (hE : EX s) {args : Array Value} : (Cond.before (.methodLink RL 153 yX12_swaps) args s) = true := hE.w 1853 (by decide +kernel) rfl
theorem wd_1854 {s : State} (hE : EX s) {args : Array Value} : (Cond.before (.instanceMethod yX12_swaps) args s) = true := hE.w 1854 (by decide +kernel) rfl
theorem wd_1855 {s : State} (hE : EX s) {args : Array Value} : (Cond.before (.selects RX12 yX12_swaps yX12_swaps) args s) = true := hE.w 1855 (by decide +kernel) rfl
theorem wd_1856 {s : State} (hE : EX s) {args : Array Value} : (Cond.before (.code yX12_swaps cX12_swaps 4 (some .int)) args s) = true := hE.w 1856 (by decide +kernel) rfl
theorem wd_1857 {s : State} (hE : EX s) {args : Array Value} : (Cond.before (.methodLink RL 165 yX12_apart) args s) = true := hE.w 1857 (by decide +kernel) rfl
theorem wd_1858 {s : State} (hE : EX s) {args : Array Value} : (Cond.before (.instanceMethod yX12_apart) args s) = true := hE.w 1858 (by decide +kernel) rfl
theorem wd_1859 {s : State} (hE : EX s) {args : Array Value} : (Cond.before (.selects RX12 yX12_apart yX12_apart) args s) = true := hE.w 1859 (by decide +kernel) rfl
theorem wd_1860 {s : State} (hE : EX s) {args : Array Value} : (Cond.before (.code yX12_apart cX12_apart 4 (some .int)) args s) = true := hE.w 1860 (by decide +kernel) rfl
theorem wd_1869 {s : State} (hE : EX s) {args : Array Value} : (Cond.before (.methodLink RL 169 yX12_moves) args s) = true := hE.w 1869 (by decide +kernel) rfl
theorem wd_1870 {s : State} (hE : EX s) {args : Array Value} : (Cond.before (.instanceMethod yX12_moves) args s) = true := hE.w 1870 (by decide +kernel) rfl
theorem wd_1871 {s : State} (hE : EX s) {args : Array Value} : (Cond.before (.selects RX12 yX12_moves yX12_moves) args s) = true := hE.w 1871 (by decide +kernel) rfl
theorem wd_1872 {s : State} (hE : EX s) {args : Array Value} : (Cond.before (.code yX12_moves cX12_moves 4 (some .int)) args s) = true := hE.w 1872 (by decide +kernel) rfl
theorem wd_1873 {s : State} (hE : EX s) {args : Array Value} : (Cond.before (.methodLink RL 173 yX12_way) args s) = true := hE.w 1873 (by decide +kernel) rfl
theorem wd_1874 {s : State} (hE : EX s) {args : Array Value} : (Cond.before (.instanceMethod yX12_way) args s) = true := hE.w 1874 (by decide +kernel) rfl
theorem wd_1875 {s : State} (hE : EX s) {args : Array Value} : (Cond.before (.selects RX12 yX12_way yX12_way) args s) = true := hE.w 1875 (by decide +kernel) rfl
theorem wd_1876 {s : State} (hE : EX s) {args : Array Value} : (Cond.before (.code yX12_way cX12_way 5 (some .int)) args s) = true := hE.w 1876 (by decide +kernel) rfl
theorem wd_1877 {s : State} (hE : EX s) {args : Array Value} : (Cond.before (.methodLink RL 199 yX12_near) args s) = true := hE.w 1877 (by decide +kernel) rfl
theorem wd_1878 {s : State} (hE : EX s) {args : Array Value} : (Cond.before (.instanceMethod yX12_near) args s) = true := hE.w 1878 (by decide +kernel) rfl
theorem wd_1879 {s : State} (hE : EX s) {args : Array Value} : (Cond.before (.selects RX12 yX12_near yX12_near) args s) = true := hE.w 1879 (by decide +kernel) rfl
theorem wd_1880 {s : State} (hE : EX s) {args : Array Value} : (Cond.before (.code yX12_near cX12_near 5 (some .int)) args s) = true := hE.w 1880 (by decide +kernel) rfl
theorem wd_1881 {s : State} (hE : EX s) {args : Array Value} : (Cond.before (.methodLink RL 178 yX12_holds) args s) = true := hE.w 1881 (by decide +kernel) rfl
theorem wd_1882 {s : State} (hE : EX s) {args : Array Value} : (Cond.before (.instanceMethod yX12_holds) args s) = true := hE.w 1882 (by decide +kernel) rfl
theorem wd_1883 {s : State} (hE : EX s) {args : Array Value} : (Cond.before (.selects RX12 yX12_holds yX12_holds) args s) = true := hE.w 1883 (by decide +kernel) rfl
theorem wd_1884 {s : State} (hE : EX s) {args : Array Value} : (Cond.before (.code yX12_holds cX12_holds 4 (some .long)) args s) = true := hE.w 1884 (by decide +kernel) rfl
theorem wd_1906 {s : State} (hE : EX s) {args : Array Value} : (Cond.before (.methodLink RL 186 yX12_ball) args s) = true := hE.w 1906 (by decide +kernel) rfl
theorem wd_1907 {s : State} (hE : EX s) {args : Array Value} : (Cond.before (.instanceMethod yX12_ball) args s) = true := hE.w 1907 (by decide +kernel) rfl
theorem wd_1908 {s : State} (hE : EX s) {args : Array Value} : (Cond.before (.selects RX12 yX12_ball yX12_ball) args s) = true := hE.w 1908 (by decide +kernel) rfl
theorem wd_1909 {s : State} (hE : EX s) {args : Array Value} : (Cond.before (.code yX12_ball cX12_ball 3 (some .long)) args s) = true := hE.w 1909 (by decide +kernel) rfl
theorem wd_1910 {s : State} (hE : EX s) {args : Array Value} : (Cond.before (.methodLink RL 190 yX12_sphere) args s) = true := hE.w 1910 (by decide +kernel) rfl
theorem wd_1911 {s : State} (hE : EX s) {args : Array Value} : (Cond.before (.instanceMethod yX12_sphere) args s) = true := hE.w 1911 (by decide +kernel) rfl
theorem wd_1912 {s : State} (hE : EX s) {args : Array Value} : (Cond.before (.selects RX12 yX12_sphere yX12_sphere) args s) = true := hE.w 1912 (by decide +kernel) rfl
theorem wd_1913 {s : State} (hE : EX s) {args : Array Value} : (Cond.before (.code yX12_sphere cX12_sphere 3 (some .long)) args s) = true := hE.w 1913 (by decide +kernel) rfl
theorem wd_1922 {s : State} (hE : EX s) {args : Array Value} : (Cond.before (.methodLink RL 85 yX12_spell) args s) = true := hE.w 1922 (by decide +kernel) rfl
theorem wd_1923 {s : State} (hE : EX s) {args : Array Value} : (Cond.before (.instanceMethod yX12_spell) args s) = true := hE.w 1923 (by decide +kernel) rfl
theorem wd_1924 {s : State} (hE : EX s) {args : Array Value} : (Cond.before (.selects RX12 yX12_spell yX12_spell) args s) = true := hE.w 1924 (by decide +kernel) rfl
theorem wd_1925 {s : State} (hE : EX s) {args : Array Value} : (Cond.before (.code yX12_spell cX12_spell 12 (some .int)) args s) = true := hE.w 1925 (by decide +kernel) rfl
theorem wd_1929 {s : State} (hE : EX s) {args : Array Value} : (Cond.before (.methodLink RL 195 yX12_listed) args s) = true := hE.w 1929 (by decide +kernel) rfl
theorem wd_1930 {s : State} (hE : EX s) {args : Array Value} : (Cond.before (.instanceMethod yX12_listed) args s) = true := hE.w 1930 (by decide +kernel) rfl
theorem wd_1931 {s : State} (hE : EX s) {args : Array Value} : (Cond.before (.selects RX12 yX12_listed yX12_listed) args s) = true := hE.w 1931 (by decide +kernel) rfl
theorem wd_1932 {s : State} (hE : EX s) {args : Array Value} : (Cond.before (.code yX12_listed cX12_listed 12 (some .long)) args s) = true := hE.w 1932 (by decide +kernel) rfl
theorem wd_1933 {s : State} (hE : EX s) {args : Array Value} : (Cond.before (.methodLink RL 182 yX12_axis) args s) = true := hE.w 1933 (by decide +kernel) rfl
theorem wd_1934 {s : State} (hE : EX s) {args : Array Value} : (Cond.before (.instanceMethod yX12_axis) args s) = true := hE.w 1934 (by decide +kernel) rfl
theorem wd_1935 {s : State} (hE : EX s) {args : Array Value} : (Cond.before (.selects RX12 yX12_axis yX12_axis) args s) = true := hE.w 1935 (by decide +kernel) rfl
theorem wd_1936 {s : State} (hE : EX s) {args : Array Value} : (Cond.before (.code yX12_axis cX12_axis 4 (some .int)) args s) = true := hE.w 1936 (by decide +kernel) rfl
theorem wd_1937 {s : State} (hE : EX s) {args : Array Value} : (Cond.before (.methodLink RL 203 yX12_meet) args s) = true := hE.w 1937 (by decide +kernel) rfl
theorem wd_1938 {s : State} (hE : EX s) {args : Array Value} : (Cond.before (.instanceMethod yX12_meet) args s) = true := hE.w 1938 (by decide +kernel) rfl
theorem wd_1939 {s : State} (hE : EX s) {args : Array Value} : (Cond.before (.selects RX12 yX12_meet yX12_meet) args s) = true := hE.w 1939 (by decide +kernel) rfl
theorem wd_1940 {s : State} (hE : EX s) {args : Array Value} : (Cond.before (.code yX12_meet cX12_meet 4 (some .int)) args s) = true := hE.w 1940 (by decide +kernel) rfl
theorem wd_1941 {s : State} (hE : EX s) {args : Array Value} : (Cond.before (.methodLink RL 207 yX12_tell) args s) = true := hE.w 1941 (by decide +kernel) rfl
theorem wd_1942 {s : State} (hE : EX s) {args : Array Value} : (Cond.before (.instanceMethod yX12_tell) args s) = true := hE.w 1942 (by decide +kernel) rfl
theorem wd_1943 {s : State} (hE : EX s) {args : Array Value} : (Cond.before (.selects RX12 yX12_tell yX12_tell) args s) = true := hE.w 1943 (by decide +kernel) rfl
theorem wd_1944 {s : State} (hE : EX s) {args : Array Value} : (Cond.before (.code yX12_tell cX12_tell 3 (some .int)) args s) = true := hE.w 1944 (by decide +kernel) rfl
theorem wd_1953 {s : State} (hE : EX s) {args : Array Value} : (Cond.before (.methodLink RL 211 yX12_out) args s) = true := hE.w 1953 (by decide +kernel) rfl
theorem wd_1954 {s : State} (hE : EX s) {args : Array Value} : (Cond.before (.instanceMethod yX12_out) args s) = true := hE.w 1954 (by decide +kernel) rfl
theorem wd_1955 {s : State} (hE : EX s) {args : Array Value} : (Cond.before (.selects RX12 yX12_out yX12_out) args s) = true := hE.w 1955 (by decide +kernel) rfl
theorem wd_1956 {s : State} (hE : EX s) {args : Array Value} : (Cond.before (.code yX12_out cX12_out 2 (some .int)) args s) = true := hE.w 1956 (by decide +kernel) rfl
theorem wd_1957 {s : State} (hE : EX s) {args : Array Value} : (Cond.before (.methodLink RL 215 yX12_chi) args s) = true := hE.w 1957 (by decide +kernel) rfl
theorem wd_1958 {s : State} (hE : EX s) {args : Array Value} : (Cond.before (.instanceMethod yX12_chi) args s) = true := hE.w 1958 (by decide +kernel) rfl
theorem wd_1959 {s : State} (hE : EX s) {args : Array Value} : (Cond.before (.selects RX12 yX12_chi yX12_chi) args s) = true := hE.w 1959 (by decide +kernel) rfl
theorem wd_1960 {s : State} (hE : EX s) {args : Array Value} : (Cond.before (.code yX12_chi cX12_chi 12 (some .int)) args s) = true := hE.w 1960 (by decide +kernel) rfl
