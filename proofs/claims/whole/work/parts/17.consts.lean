/-! constants -/
theorem kb_m4 : (Int8.ofInt (-4)).toInt32 = (-4 : Int32) := by decide
theorem kb_m3 : (Int8.ofInt (-3)).toInt32 = (-3 : Int32) := by decide
theorem kb_m2 : (Int8.ofInt (-2)).toInt32 = (-2 : Int32) := by decide
theorem kb_6 : (Int8.ofInt (6)).toInt32 = (6 : Int32) := by decide
theorem kb_7 : (Int8.ofInt (7)).toInt32 = (7 : Int32) := by decide
theorem kb_8 : (Int8.ofInt (8)).toInt32 = (8 : Int32) := by decide
theorem kb_9 : (Int8.ofInt (9)).toInt32 = (9 : Int32) := by decide
theorem kb_10 : (Int8.ofInt (10)).toInt32 = (10 : Int32) := by decide
theorem kb_11 : (Int8.ofInt (11)).toInt32 = (11 : Int32) := by decide
theorem kb_12 : (Int8.ofInt (12)).toInt32 = (12 : Int32) := by decide
theorem kb_20 : (Int8.ofInt (20)).toInt32 = (20 : Int32) := by decide
theorem kb_30 : (Int8.ofInt (30)).toInt32 = (30 : Int32) := by decide
theorem kb_31 : (Int8.ofInt (31)).toInt32 = (31 : Int32) := by decide
theorem kb_32 : (Int8.ofInt (32)).toInt32 = (32 : Int32) := by decide
theorem kb_35 : (Int8.ofInt (35)).toInt32 = (35 : Int32) := by decide
theorem kb_36 : (Int8.ofInt (36)).toInt32 = (36 : Int32) := by decide
theorem kb_48 : (Int8.ofInt (48)).toInt32 = (48 : Int32) := by decide
theorem kb_60 : (Int8.ofInt (60)).toInt32 = (60 : Int32) := by decide
theorem kb_64 : (Int8.ofInt (64)).toInt32 = (64 : Int32) := by decide
theorem kb_100 : (Int8.ofInt (100)).toInt32 = (100 : Int32) := by decide
theorem ki_m1 : Int32.ofInt (-1) = (-1 : Int32) := by decide
theorem ki_0 : Int32.ofInt (0) = (0 : Int32) := by decide
theorem ki_1 : Int32.ofInt (1) = (1 : Int32) := by decide
theorem ki_2 : Int32.ofInt (2) = (2 : Int32) := by decide
theorem ki_3 : Int32.ofInt (3) = (3 : Int32) := by decide
theorem ki_4 : Int32.ofInt (4) = (4 : Int32) := by decide
theorem ki_5 : Int32.ofInt (5) = (5 : Int32) := by decide
theorem ki_11 : Int32.ofInt (11) = (11 : Int32) := by decide
theorem ks_200 : (Int16.ofInt (200)).toInt32 = (200 : Int32) := by decide
theorem ks_400 : (Int16.ofInt (400)).toInt32 = (400 : Int32) := by decide
theorem ks_999 : (Int16.ofInt (999)).toInt32 = (999 : Int32) := by decide
theorem ks_1488 : (Int16.ofInt (1488)).toInt32 = (1488 : Int32) := by decide
theorem ks_1536 : (Int16.ofInt (1536)).toInt32 = (1536 : Int32) := by decide
theorem ks_8000 : (Int16.ofInt (8000)).toInt32 = (8000 : Int32) := by decide
set_option maxRecDepth 20000 in
theorem fq_9 : alook fldT 9 = some (0, 0, 3, 1) := by decide +kernel
set_option maxRecDepth 20000 in
theorem fq_15 : alook fldT 15 = some (0, 1, 3, 1) := by decide +kernel
set_option maxRecDepth 20000 in
theorem fq_18 : alook fldT 18 = some (0, 2, 3, 1) := by decide +kernel
set_option maxRecDepth 20000 in
theorem fq_21 : alook fldT 21 = some (0, 3, 3, 1) := by decide +kernel
set_option maxRecDepth 20000 in
theorem fq_25 : alook fldT 25 = some (0, 5, 1, 0) := by decide +kernel
set_option maxRecDepth 20000 in
theorem fq_29 : alook fldT 29 = some (0, 8, 3, 1) := by decide +kernel
set_option maxRecDepth 20000 in
theorem fq_32 : alook fldT 32 = some (0, 9, 3, 1) := by decide +kernel
set_option maxRecDepth 20000 in
theorem fq_44 : alook fldT 44 = some (1, 2, 0, 1) := by decide +kernel
set_option maxRecDepth 20000 in
theorem fq_50 : alook fldT 50 = some (1, 4, 0, 1) := by decide +kernel
set_option maxRecDepth 20000 in
theorem fq_53 : alook fldT 53 = some (1, 6, 2, 1) := by decide +kernel
set_option maxRecDepth 20000 in
theorem fq_61 : alook fldT 61 = some (1, 7, 2, 1) := by decide +kernel
set_option maxRecDepth 20000 in
theorem fq_78 : alook fldT 78 = some (0, 4, 0, 0) := by decide +kernel
set_option maxRecDepth 20000 in
theorem fq_81 : alook fldT 81 = some (0, 6, 1, 0) := by decide +kernel
set_option maxRecDepth 20000 in
theorem fq_113 : alook fldT 113 = some (0, 7, 0, 0) := by decide +kernel
set_option maxRecDepth 20000 in
theorem fq_1009 : alook fldT 1009 = some (1, 0, 0, 1) := by decide +kernel
set_option maxRecDepth 20000 in
theorem fq_1015 : alook fldT 1015 = some (1, 1, 0, 1) := by decide +kernel
set_option maxRecDepth 20000 in
theorem fq_1018 : alook fldT 1018 = some (1, 2, 0, 1) := by decide +kernel
set_option maxRecDepth 20000 in
theorem fq_1021 : alook fldT 1021 = some (1, 3, 0, 1) := by decide +kernel
set_option maxRecDepth 20000 in
theorem fq_1024 : alook fldT 1024 = some (1, 4, 0, 1) := by decide +kernel
set_option maxRecDepth 20000 in
theorem fq_1027 : alook fldT 1027 = some (1, 5, 0, 1) := by decide +kernel
set_option maxRecDepth 20000 in
theorem fq_1030 : alook fldT 1030 = some (1, 6, 2, 1) := by decide +kernel
set_option maxRecDepth 20000 in
theorem fq_1034 : alook fldT 1034 = some (1, 7, 2, 1) := by decide +kernel
set_option maxRecDepth 20000 in
theorem fq_1048 : alook fldT 1048 = some (1, 9, 3, 0) := by decide +kernel
set_option maxRecDepth 20000 in
theorem fq_1052 : alook fldT 1052 = some (1, 10, 3, 0) := by decide +kernel
set_option maxRecDepth 20000 in
theorem fq_2009 : alook fldT 2009 = some (2, 0, 3, 1) := by decide +kernel
set_option maxRecDepth 20000 in
theorem fq_2015 : alook fldT 2015 = some (2, 1, 3, 1) := by decide +kernel
set_option maxRecDepth 20000 in
theorem fq_2018 : alook fldT 2018 = some (2, 2, 3, 1) := by decide +kernel
set_option maxRecDepth 20000 in
theorem fq_2021 : alook fldT 2021 = some (1, 2, 0, 1) := by decide +kernel
set_option maxRecDepth 20000 in
theorem fq_2027 : alook fldT 2027 = some (1, 3, 0, 1) := by decide +kernel
set_option maxRecDepth 20000 in
theorem fq_2034 : alook fldT 2034 = some (1, 5, 0, 1) := by decide +kernel
set_option maxRecDepth 20000 in
theorem fq_2036 : alook fldT 2036 = some (1, 7, 2, 1) := by decide +kernel
set_option maxRecDepth 20000 in
theorem fq_2040 : alook fldT 2040 = some (1, 6, 2, 1) := by decide +kernel
set_option maxRecDepth 20000 in
theorem fq_3009 : alook fldT 3009 = some (3, 2, 1, 0) := by decide +kernel
set_option maxRecDepth 20000 in
theorem fq_3015 : alook fldT 3015 = some (3, 3, 0, 0) := by decide +kernel
set_option maxRecDepth 20000 in
theorem fq_3019 : alook fldT 3019 = some (3, 6, 3, 1) := by decide +kernel
set_option maxRecDepth 20000 in
theorem fq_3023 : alook fldT 3023 = some (3, 0, 3, 0) := by decide +kernel
set_option maxRecDepth 20000 in
theorem fq_3027 : alook fldT 3027 = some (1, 0, 0, 1) := by decide +kernel
set_option maxRecDepth 20000 in
theorem fq_3032 : alook fldT 3032 = some (1, 8, 3, 0) := by decide +kernel
set_option maxRecDepth 20000 in
theorem fq_3043 : alook fldT 3043 = some (3, 1, 0, 0) := by decide +kernel
set_option maxRecDepth 20000 in
theorem fq_3046 : alook fldT 3046 = some (1, 1, 0, 1) := by decide +kernel
set_option maxRecDepth 20000 in
theorem fq_3053 : alook fldT 3053 = some (1, 9, 3, 0) := by decide +kernel
set_option maxRecDepth 20000 in
theorem fq_3060 : alook fldT 3060 = some (1, 10, 3, 0) := by decide +kernel
set_option maxRecDepth 20000 in
theorem fq_3063 : alook fldT 3063 = some (1, 11, 0, 0) := by decide +kernel
set_option maxRecDepth 20000 in
theorem fq_3091 : alook fldT 3091 = some (1, 5, 0, 1) := by decide +kernel
set_option maxRecDepth 20000 in
theorem fq_3094 : alook fldT 3094 = some (1, 4, 0, 1) := by decide +kernel
set_option maxRecDepth 20000 in
theorem fq_3097 : alook fldT 3097 = some (1, 2, 0, 1) := by decide +kernel
set_option maxRecDepth 20000 in
theorem fq_3104 : alook fldT 3104 = some (3, 7, 0, 0) := by decide +kernel
set_option maxRecDepth 20000 in
theorem fq_3107 : alook fldT 3107 = some (4, 4, 0, 0) := by decide +kernel
set_option maxRecDepth 20000 in
theorem fq_3110 : alook fldT 3110 = some (4, 1, 3, 1) := by decide +kernel
set_option maxRecDepth 20000 in
theorem fq_4009 : alook fldT 4009 = some (4, 0, 3, 1) := by decide +kernel
set_option maxRecDepth 20000 in
theorem fq_4015 : alook fldT 4015 = some (4, 1, 3, 1) := by decide +kernel
set_option maxRecDepth 20000 in
theorem fq_4018 : alook fldT 4018 = some (4, 2, 3, 1) := by decide +kernel
set_option maxRecDepth 20000 in
theorem fq_4022 : alook fldT 4022 = some (4, 3, 3, 1) := by decide +kernel
set_option maxRecDepth 20000 in
theorem fq_4025 : alook fldT 4025 = some (4, 5, 3, 1) := by decide +kernel
set_option maxRecDepth 20000 in
theorem fq_4034 : alook fldT 4034 = some (4, 4, 0, 0) := by decide +kernel
set_option maxRecDepth 20000 in
theorem fq_4063 : alook fldT 4063 = some (3, 0, 3, 0) := by decide +kernel
set_option maxRecDepth 20000 in
theorem fq_4069 : alook fldT 4069 = some (1, 0, 0, 1) := by decide +kernel
set_option maxRecDepth 20000 in
theorem fq_4086 : alook fldT 4086 = some (1, 8, 3, 0) := by decide +kernel
set_option maxRecDepth 20000 in
theorem fq_4089 : alook fldT 4089 = some (1, 6, 2, 1) := by decide +kernel
set_option maxRecDepth 20000 in
theorem fq_4093 : alook fldT 4093 = some (1, 2, 0, 1) := by decide +kernel
set_option maxRecDepth 20000 in
theorem fq_4096 : alook fldT 4096 = some (1, 7, 2, 1) := by decide +kernel
set_option maxRecDepth 20000 in
theorem fq_4099 : alook fldT 4099 = some (1, 3, 0, 1) := by decide +kernel
set_option maxRecDepth 20000 in
theorem fq_5013 : alook fldT 5013 = some (5, 0, 3, 1) := by decide +kernel
set_option maxRecDepth 20000 in
theorem fq_5020 : alook fldT 5020 = some (5, 1, 3, 1) := by decide +kernel
set_option maxRecDepth 20000 in
theorem fq_5027 : alook fldT 5027 = some (5, 2, 3, 1) := by decide +kernel
set_option maxRecDepth 20000 in
theorem fq_5034 : alook fldT 5034 = some (5, 3, 3, 1) := by decide +kernel
set_option maxRecDepth 20000 in
theorem fq_5038 : alook fldT 5038 = some (5, 4, 3, 1) := by decide +kernel
set_option maxRecDepth 20000 in
theorem fq_5041 : alook fldT 5041 = some (5, 5, 3, 1) := by decide +kernel
set_option maxRecDepth 20000 in
theorem fq_5045 : alook fldT 5045 = some (5, 6, 3, 1) := by decide +kernel
set_option maxRecDepth 20000 in
theorem fq_5048 : alook fldT 5048 = some (5, 8, 0, 0) := by decide +kernel
set_option maxRecDepth 20000 in
theorem fq_5071 : alook fldT 5071 = some (3, 3, 0, 0) := by decide +kernel
set_option maxRecDepth 20000 in
theorem fq_5074 : alook fldT 5074 = some (5, 13, 0, 0) := by decide +kernel
set_option maxRecDepth 20000 in
theorem fq_5081 : alook fldT 5081 = some (3, 1, 0, 0) := by decide +kernel
set_option maxRecDepth 20000 in
theorem fq_5084 : alook fldT 5084 = some (5, 9, 0, 0) := by decide +kernel
set_option maxRecDepth 20000 in
theorem fq_5104 : alook fldT 5104 = some (1, 1, 0, 1) := by decide +kernel
set_option maxRecDepth 20000 in
theorem fq_5107 : alook fldT 5107 = some (1, 2, 0, 1) := by decide +kernel
set_option maxRecDepth 20000 in
theorem fq_5110 : alook fldT 5110 = some (1, 3, 0, 1) := by decide +kernel
set_option maxRecDepth 20000 in
theorem fq_5113 : alook fldT 5113 = some (1, 4, 0, 1) := by decide +kernel
set_option maxRecDepth 20000 in
theorem fq_5116 : alook fldT 5116 = some (1, 5, 0, 1) := by decide +kernel
set_option maxRecDepth 20000 in
theorem fq_5123 : alook fldT 5123 = some (1, 10, 3, 0) := by decide +kernel
set_option maxRecDepth 20000 in
theorem fq_5127 : alook fldT 5127 = some (1, 11, 0, 0) := by decide +kernel
set_option maxRecDepth 20000 in
theorem fq_5130 : alook fldT 5130 = some (1, 0, 0, 1) := by decide +kernel
set_option maxRecDepth 20000 in
theorem fq_5163 : alook fldT 5163 = some (1, 7, 2, 1) := by decide +kernel
set_option maxRecDepth 20000 in
theorem fq_5167 : alook fldT 5167 = some (1, 6, 2, 1) := by decide +kernel
set_option maxRecDepth 20000 in
theorem fq_5170 : alook fldT 5170 = some (0, 2, 3, 1) := by decide +kernel
set_option maxRecDepth 20000 in
theorem fq_5177 : alook fldT 5177 = some (0, 0, 3, 1) := by decide +kernel
set_option maxRecDepth 20000 in
theorem fq_5180 : alook fldT 5180 = some (0, 5, 1, 0) := by decide +kernel
set_option maxRecDepth 20000 in
theorem fq_5184 : alook fldT 5184 = some (0, 1, 3, 1) := by decide +kernel
set_option maxRecDepth 20000 in
theorem fq_5191 : alook fldT 5191 = some (0, 4, 0, 0) := by decide +kernel
set_option maxRecDepth 20000 in
theorem fq_5194 : alook fldT 5194 = some (0, 3, 3, 1) := by decide +kernel
set_option maxRecDepth 20000 in
theorem fq_5208 : alook fldT 5208 = some (0, 7, 0, 0) := by decide +kernel
set_option maxRecDepth 20000 in
theorem fq_5221 : alook fldT 5221 = some (4, 4, 0, 0) := by decide +kernel
set_option maxRecDepth 20000 in
theorem fq_5222 : alook fldT 5222 = some (4, 0, 3, 1) := by decide +kernel
set_option maxRecDepth 20000 in
theorem fq_5225 : alook fldT 5225 = some (4, 2, 3, 1) := by decide +kernel
set_option maxRecDepth 20000 in
theorem fq_5228 : alook fldT 5228 = some (4, 3, 3, 1) := by decide +kernel
set_option maxRecDepth 20000 in
theorem fq_5244 : alook fldT 5244 = some (5, 15, 0, 0) := by decide +kernel
set_option maxRecDepth 20000 in
theorem fq_5255 : alook fldT 5255 = some (5, 7, 0, 0) := by decide +kernel
set_option maxRecDepth 20000 in
theorem fq_5258 : alook fldT 5258 = some (3, 5, 0, 0) := by decide +kernel
set_option maxRecDepth 20000 in
theorem fq_5264 : alook fldT 5264 = some (5, 12, 0, 0) := by decide +kernel
set_option maxRecDepth 20000 in
theorem fq_5267 : alook fldT 5267 = some (0, 6, 1, 0) := by decide +kernel
set_option maxRecDepth 20000 in
theorem fq_5270 : alook fldT 5270 = some (2, 0, 3, 1) := by decide +kernel
set_option maxRecDepth 20000 in
theorem fq_5277 : alook fldT 5277 = some (2, 1, 3, 1) := by decide +kernel
set_option maxRecDepth 20000 in
theorem fq_5289 : alook fldT 5289 = some (5, 10, 0, 0) := by decide +kernel
set_option maxRecDepth 20000 in
theorem fq_5292 : alook fldT 5292 = some (5, 11, 0, 0) := by decide +kernel
set_option maxRecDepth 20000 in
theorem fq_5301 : alook fldT 5301 = some (5, 14, 0, 0) := by decide +kernel
set_option maxRecDepth 20000 in
theorem fq_5338 : alook fldT 5338 = some (3, 4, 0, 0) := by decide +kernel
set_option maxRecDepth 20000 in
theorem fq_6007 : alook fldT 6007 = some (6, 0, 0, 0) := by decide +kernel
set_option maxRecDepth 20000 in
theorem fq_6013 : alook fldT 6013 = some (6, 1, 3, 1) := by decide +kernel
set_option maxRecDepth 20000 in
theorem fq_6017 : alook fldT 6017 = some (6, 2, 3, 1) := by decide +kernel
set_option maxRecDepth 20000 in
theorem fq_6020 : alook fldT 6020 = some (6, 3, 3, 1) := by decide +kernel
set_option maxRecDepth 20000 in
theorem fq_6023 : alook fldT 6023 = some (6, 4, 3, 1) := by decide +kernel
set_option maxRecDepth 20000 in
theorem fq_6026 : alook fldT 6026 = some (6, 5, 3, 1) := by decide +kernel
set_option maxRecDepth 20000 in
theorem fq_6029 : alook fldT 6029 = some (6, 6, 3, 1) := by decide +kernel
set_option maxRecDepth 20000 in
theorem fq_6032 : alook fldT 6032 = some (6, 7, 3, 1) := by decide +kernel
set_option maxRecDepth 20000 in
theorem fq_6035 : alook fldT 6035 = some (6, 8, 3, 1) := by decide +kernel
set_option maxRecDepth 20000 in
theorem fq_6039 : alook fldT 6039 = some (6, 9, 3, 1) := by decide +kernel
set_option maxRecDepth 20000 in
theorem fq_6042 : alook fldT 6042 = some (6, 10, 3, 1) := by decide +kernel
set_option maxRecDepth 20000 in
theorem fq_6045 : alook fldT 6045 = some (6, 11, 3, 1) := by decide +kernel
set_option maxRecDepth 20000 in
theorem fq_6048 : alook fldT 6048 = some (6, 12, 3, 1) := by decide +kernel
set_option maxRecDepth 20000 in
theorem fq_6051 : alook fldT 6051 = some (6, 13, 0, 0) := by decide +kernel
set_option maxRecDepth 20000 in
theorem fq_6054 : alook fldT 6054 = some (6, 14, 0, 0) := by decide +kernel
set_option maxRecDepth 20000 in
theorem fq_6057 : alook fldT 6057 = some (6, 15, 0, 0) := by decide +kernel
set_option maxRecDepth 20000 in
theorem fq_6060 : alook fldT 6060 = some (6, 16, 0, 0) := by decide +kernel
set_option maxRecDepth 20000 in
theorem fq_6063 : alook fldT 6063 = some (6, 17, 0, 0) := by decide +kernel
set_option maxRecDepth 20000 in
theorem fq_6066 : alook fldT 6066 = some (6, 18, 0, 0) := by decide +kernel
set_option maxRecDepth 20000 in
theorem fq_6069 : alook fldT 6069 = some (6, 19, 3, 1) := by decide +kernel
set_option maxRecDepth 20000 in
theorem fq_6072 : alook fldT 6072 = some (6, 20, 3, 1) := by decide +kernel
set_option maxRecDepth 20000 in
theorem fq_6075 : alook fldT 6075 = some (6, 21, 3, 1) := by decide +kernel
set_option maxRecDepth 20000 in
theorem fq_6079 : alook fldT 6079 = some (6, 22, 3, 1) := by decide +kernel
set_option maxRecDepth 20000 in
theorem fq_6082 : alook fldT 6082 = some (6, 23, 3, 1) := by decide +kernel
set_option maxRecDepth 20000 in
theorem fq_6085 : alook fldT 6085 = some (6, 24, 3, 1) := by decide +kernel
set_option maxRecDepth 20000 in
theorem fq_6088 : alook fldT 6088 = some (6, 25, 3, 1) := by decide +kernel
set_option maxRecDepth 20000 in
theorem fq_6091 : alook fldT 6091 = some (6, 26, 3, 1) := by decide +kernel
set_option maxRecDepth 20000 in
theorem fq_6094 : alook fldT 6094 = some (6, 27, 0, 0) := by decide +kernel
set_option maxRecDepth 20000 in
theorem fq_6097 : alook fldT 6097 = some (6, 28, 3, 1) := by decide +kernel
set_option maxRecDepth 20000 in
theorem fq_6100 : alook fldT 6100 = some (6, 29, 3, 1) := by decide +kernel
set_option maxRecDepth 20000 in
theorem fq_6103 : alook fldT 6103 = some (6, 30, 3, 1) := by decide +kernel
set_option maxRecDepth 20000 in
theorem fq_6106 : alook fldT 6106 = some (6, 31, 3, 1) := by decide +kernel
set_option maxRecDepth 20000 in
theorem fq_6109 : alook fldT 6109 = some (6, 32, 3, 1) := by decide +kernel
set_option maxRecDepth 20000 in
theorem fq_6112 : alook fldT 6112 = some (6, 33, 0, 0) := by decide +kernel
set_option maxRecDepth 20000 in
theorem fq_6115 : alook fldT 6115 = some (6, 34, 3, 1) := by decide +kernel
set_option maxRecDepth 20000 in
theorem fq_6118 : alook fldT 6118 = some (6, 35, 3, 1) := by decide +kernel
set_option maxRecDepth 20000 in
theorem fq_6121 : alook fldT 6121 = some (6, 36, 3, 1) := by decide +kernel
set_option maxRecDepth 20000 in
theorem fq_6124 : alook fldT 6124 = some (6, 37, 3, 1) := by decide +kernel
set_option maxRecDepth 20000 in
theorem fq_6127 : alook fldT 6127 = some (6, 38, 0, 0) := by decide +kernel
set_option maxRecDepth 20000 in
theorem fq_6130 : alook fldT 6130 = some (6, 39, 3, 1) := by decide +kernel
set_option maxRecDepth 20000 in
theorem fq_6133 : alook fldT 6133 = some (6, 40, 3, 1) := by decide +kernel
set_option maxRecDepth 20000 in
theorem fq_6136 : alook fldT 6136 = some (6, 41, 3, 1) := by decide +kernel
set_option maxRecDepth 20000 in
theorem fq_6139 : alook fldT 6139 = some (6, 42, 0, 0) := by decide +kernel
set_option maxRecDepth 20000 in
theorem fq_6142 : alook fldT 6142 = some (6, 43, 3, 1) := by decide +kernel
set_option maxRecDepth 20000 in
theorem fq_6145 : alook fldT 6145 = some (6, 44, 3, 1) := by decide +kernel
theorem cq_5011 : alook clkT 5011 = some 3 := by decide +kernel
theorem cq_5017 : alook clkT 5017 = some 2 := by decide +kernel
theorem cq_5024 : alook clkT 5024 = some 0 := by decide +kernel
theorem cq_5031 : alook clkT 5031 = some 4 := by decide +kernel
theorem cq_5087 : alook clkT 5087 = some 1 := by decide +kernel
theorem cq_7007 : alook clkT 7007 = some 5 := by decide +kernel
theorem cq_7010 : alook clkT 7010 = some 6 := by decide +kernel
set_option maxRecDepth 20000 in
theorem lq_3 : alook mlkT 3 = some (6, 0, 0, 0) := by decide +kernel
set_option maxRecDepth 20000 in
theorem lq_38 : alook mlkT 38 = some (2, 167, 8, 2) := by decide +kernel
set_option maxRecDepth 20000 in
theorem lq_57 : alook mlkT 57 = some (2, 3, 0, 3) := by decide +kernel
set_option maxRecDepth 20000 in
theorem lq_64 : alook mlkT 64 = some (7, 0, 0, 0) := by decide +kernel
set_option maxRecDepth 20000 in
theorem lq_70 : alook mlkT 70 = some (0, 5, 0, 2) := by decide +kernel
set_option maxRecDepth 20000 in
theorem lq_74 : alook mlkT 74 = some (0, 6, 0, 0) := by decide +kernel
set_option maxRecDepth 20000 in
theorem lq_84 : alook mlkT 84 = some (2, 7, 0, 4) := by decide +kernel
set_option maxRecDepth 20000 in
theorem lq_88 : alook mlkT 88 = some (0, 8, 0, 2) := by decide +kernel
set_option maxRecDepth 20000 in
theorem lq_92 : alook mlkT 92 = some (0, 9, 0, 2) := by decide +kernel
set_option maxRecDepth 20000 in
theorem lq_96 : alook mlkT 96 = some (0, 11, 0, 1) := by decide +kernel
set_option maxRecDepth 20000 in
theorem lq_104 : alook mlkT 104 = some (9, 0, 0, 0) := by decide +kernel
set_option maxRecDepth 20000 in
theorem lq_110 : alook mlkT 110 = some (8, 0, 0, 0) := by decide +kernel
set_option maxRecDepth 20000 in
theorem lq_1003 : alook mlkT 1003 = some (6, 0, 0, 0) := by decide +kernel
set_option maxRecDepth 20000 in
theorem lq_1037 : alook mlkT 1037 = some (2, 163, 8, 2) := by decide +kernel
set_option maxRecDepth 20000 in
theorem lq_1043 : alook mlkT 1043 = some (2, 164, 8, 2) := by decide +kernel
set_option maxRecDepth 20000 in
theorem lq_2003 : alook mlkT 2003 = some (6, 0, 0, 0) := by decide +kernel
set_option maxRecDepth 20000 in
theorem lq_2030 : alook mlkT 2030 = some (5, 91, 5, 2) := by decide +kernel
set_option maxRecDepth 20000 in
theorem lq_2043 : alook mlkT 2043 = some (2, 27, 2, 1) := by decide +kernel
set_option maxRecDepth 20000 in
theorem lq_2047 : alook mlkT 2047 = some (0, 25, 2, 2) := by decide +kernel
set_option maxRecDepth 20000 in
theorem lq_3003 : alook mlkT 3003 = some (6, 0, 0, 0) := by decide +kernel
set_option maxRecDepth 20000 in
theorem lq_3035 : alook mlkT 3035 = some (0, 17, 1, 1) := by decide +kernel
set_option maxRecDepth 20000 in
theorem lq_3039 : alook mlkT 3039 = some (0, 32, 3, 2) := by decide +kernel
set_option maxRecDepth 20000 in
theorem lq_3049 : alook mlkT 3049 = some (0, 29, 3, 1) := by decide +kernel
set_option maxRecDepth 20000 in
theorem lq_3056 : alook mlkT 3056 = some (2, 35, 3, 1) := by decide +kernel
set_option maxRecDepth 20000 in
theorem lq_3066 : alook mlkT 3066 = some (0, 34, 3, 0) := by decide +kernel
set_option maxRecDepth 20000 in
theorem lq_3069 : alook mlkT 3069 = some (0, 19, 1, 1) := by decide +kernel
set_option maxRecDepth 20000 in
theorem lq_3073 : alook mlkT 3073 = some (0, 20, 1, 0) := by decide +kernel
set_option maxRecDepth 20000 in
theorem lq_3077 : alook mlkT 3077 = some (0, 18, 1, 0) := by decide +kernel
set_option maxRecDepth 20000 in
theorem lq_3080 : alook mlkT 3080 = some (0, 41, 3, 1) := by decide +kernel
set_option maxRecDepth 20000 in
theorem lq_3083 : alook mlkT 3083 = some (0, 21, 1, 0) := by decide +kernel
set_option maxRecDepth 20000 in
theorem lq_3086 : alook mlkT 3086 = some (0, 2, 0, 2) := by decide +kernel
set_option maxRecDepth 20000 in
theorem lq_3100 : alook mlkT 3100 = some (0, 47, 3, 3) := by decide +kernel
set_option maxRecDepth 20000 in
theorem lq_4003 : alook mlkT 4003 = some (6, 0, 0, 0) := by decide +kernel
set_option maxRecDepth 20000 in
theorem lq_4028 : alook mlkT 4028 = some (7, 0, 0, 0) := by decide +kernel
set_option maxRecDepth 20000 in
theorem lq_4038 : alook mlkT 4038 = some (0, 56, 4, 1) := by decide +kernel
set_option maxRecDepth 20000 in
theorem lq_4042 : alook mlkT 4042 = some (0, 55, 4, 1) := by decide +kernel
set_option maxRecDepth 20000 in
theorem lq_4045 : alook mlkT 4045 = some (2, 52, 4, 6) := by decide +kernel
set_option maxRecDepth 20000 in
theorem lq_4049 : alook mlkT 4049 = some (0, 53, 4, 4) := by decide +kernel
set_option maxRecDepth 20000 in
theorem lq_4053 : alook mlkT 4053 = some (0, 57, 4, 3) := by decide +kernel
set_option maxRecDepth 20000 in
theorem lq_4057 : alook mlkT 4057 = some (8, 0, 0, 0) := by decide +kernel
set_option maxRecDepth 20000 in
theorem lq_4074 : alook mlkT 4074 = some (0, 19, 1, 1) := by decide +kernel
set_option maxRecDepth 20000 in
theorem lq_4078 : alook mlkT 4078 = some (0, 22, 1, 0) := by decide +kernel
set_option maxRecDepth 20000 in
theorem lq_4082 : alook mlkT 4082 = some (0, 54, 4, 2) := by decide +kernel
set_option maxRecDepth 20000 in
theorem lq_4102 : alook mlkT 4102 = some (5, 91, 5, 2) := by decide +kernel
set_option maxRecDepth 20000 in
theorem lq_5005 : alook mlkT 5005 = some (6, 0, 0, 0) := by decide +kernel
set_option maxRecDepth 20000 in
theorem lq_5019 : alook mlkT 5019 = some (4, 23, 2, 0) := by decide +kernel
set_option maxRecDepth 20000 in
theorem lq_5026 : alook mlkT 5026 = some (4, 0, 0, 0) := by decide +kernel
set_option maxRecDepth 20000 in
theorem lq_5033 : alook mlkT 5033 = some (4, 50, 4, 0) := by decide +kernel
set_option maxRecDepth 20000 in
theorem lq_5052 : alook mlkT 5052 = some (4, 28, 3, 0) := by decide +kernel
set_option maxRecDepth 20000 in
theorem lq_5053 : alook mlkT 5053 = some (0, 94, 5, 1) := by decide +kernel
set_option maxRecDepth 20000 in
theorem lq_5057 : alook mlkT 5057 = some (2, 87, 5, 1) := by decide +kernel
set_option maxRecDepth 20000 in
theorem lq_5061 : alook mlkT 5061 = some (2, 88, 5, 1) := by decide +kernel
set_option maxRecDepth 20000 in
theorem lq_5064 : alook mlkT 5064 = some (2, 89, 5, 1) := by decide +kernel
set_option maxRecDepth 20000 in
theorem lq_5067 : alook mlkT 5067 = some (2, 90, 5, 2) := by decide +kernel
set_option maxRecDepth 20000 in
theorem lq_5077 : alook mlkT 5077 = some (0, 29, 3, 1) := by decide +kernel
set_option maxRecDepth 20000 in
theorem lq_5089 : alook mlkT 5089 = some (1, 15, 1, 7) := by decide +kernel
set_option maxRecDepth 20000 in
theorem lq_5092 : alook mlkT 5092 = some (0, 96, 5, 2) := by decide +kernel
set_option maxRecDepth 20000 in
theorem lq_5096 : alook mlkT 5096 = some (0, 97, 5, 3) := by decide +kernel
set_option maxRecDepth 20000 in
theorem lq_5100 : alook mlkT 5100 = some (2, 95, 5, 2) := by decide +kernel
set_option maxRecDepth 20000 in
theorem lq_5119 : alook mlkT 5119 = some (0, 18, 1, 0) := by decide +kernel
set_option maxRecDepth 20000 in
theorem lq_5133 : alook mlkT 5133 = some (0, 36, 3, 1) := by decide +kernel
set_option maxRecDepth 20000 in
theorem lq_5137 : alook mlkT 5137 = some (0, 37, 3, 2) := by decide +kernel
set_option maxRecDepth 20000 in
theorem lq_5141 : alook mlkT 5141 = some (2, 92, 5, 1) := by decide +kernel
set_option maxRecDepth 20000 in
theorem lq_5145 : alook mlkT 5145 = some (0, 39, 3, 1) := by decide +kernel
set_option maxRecDepth 20000 in
theorem lq_5148 : alook mlkT 5148 = some (0, 38, 3, 0) := by decide +kernel
set_option maxRecDepth 20000 in
theorem lq_5152 : alook mlkT 5152 = some (0, 40, 3, 0) := by decide +kernel
set_option maxRecDepth 20000 in
theorem lq_5155 : alook mlkT 5155 = some (0, 42, 3, 0) := by decide +kernel
set_option maxRecDepth 20000 in
theorem lq_5158 : alook mlkT 5158 = some (0, 43, 3, 0) := by decide +kernel
set_option maxRecDepth 20000 in
theorem lq_5174 : alook mlkT 5174 = some (0, 98, 5, 0) := by decide +kernel
set_option maxRecDepth 20000 in
theorem lq_5187 : alook mlkT 5187 = some (2, 93, 5, 1) := by decide +kernel
set_option maxRecDepth 20000 in
theorem lq_5197 : alook mlkT 5197 = some (0, 10, 0, 0) := by decide +kernel
set_option maxRecDepth 20000 in
theorem lq_5204 : alook mlkT 5204 = some (0, 12, 0, 2) := by decide +kernel
set_option maxRecDepth 20000 in
theorem lq_5211 : alook mlkT 5211 = some (0, 14, 0, 0) := by decide +kernel
set_option maxRecDepth 20000 in
theorem lq_5214 : alook mlkT 5214 = some (0, 13, 0, 0) := by decide +kernel
set_option maxRecDepth 20000 in
theorem lq_5217 : alook mlkT 5217 = some (0, 51, 4, 3) := by decide +kernel
set_option maxRecDepth 20000 in
theorem lq_5231 : alook mlkT 5231 = some (0, 58, 4, 1) := by decide +kernel
set_option maxRecDepth 20000 in
theorem lq_5237 : alook mlkT 5237 = some (0, 48, 3, 1) := by decide +kernel
set_option maxRecDepth 20000 in
theorem lq_5241 : alook mlkT 5241 = some (0, 101, 5, 2) := by decide +kernel
set_option maxRecDepth 20000 in
theorem lq_5247 : alook mlkT 5247 = some (0, 104, 5, 1) := by decide +kernel
set_option maxRecDepth 20000 in
theorem lq_5251 : alook mlkT 5251 = some (0, 103, 5, 3) := by decide +kernel
set_option maxRecDepth 20000 in
theorem lq_5261 : alook mlkT 5261 = some (0, 33, 3, 0) := by decide +kernel
set_option maxRecDepth 20000 in
theorem lq_5273 : alook mlkT 5273 = some (2, 91, 5, 2) := by decide +kernel
set_option maxRecDepth 20000 in
theorem lq_5279 : alook mlkT 5279 = some (0, 25, 2, 2) := by decide +kernel
set_option maxRecDepth 20000 in
theorem lq_5282 : alook mlkT 5282 = some (0, 26, 2, 2) := by decide +kernel
set_option maxRecDepth 20000 in
theorem lq_5285 : alook mlkT 5285 = some (0, 46, 3, 3) := by decide +kernel
set_option maxRecDepth 20000 in
theorem lq_5295 : alook mlkT 5295 = some (0, 99, 5, 0) := by decide +kernel
set_option maxRecDepth 20000 in
theorem lq_5298 : alook mlkT 5298 = some (0, 100, 5, 0) := by decide +kernel
set_option maxRecDepth 20000 in
theorem lq_5304 : alook mlkT 5304 = some (0, 34, 3, 0) := by decide +kernel
set_option maxRecDepth 20000 in
theorem lq_5307 : alook mlkT 5307 = some (0, 30, 3, 1) := by decide +kernel
set_option maxRecDepth 20000 in
theorem lq_5311 : alook mlkT 5311 = some (0, 24, 2, 2) := by decide +kernel
set_option maxRecDepth 20000 in
theorem lq_5315 : alook mlkT 5315 = some (0, 16, 1, 1) := by decide +kernel
set_option maxRecDepth 20000 in
theorem lq_5318 : alook mlkT 5318 = some (0, 31, 3, 1) := by decide +kernel
set_option maxRecDepth 20000 in
theorem lq_5321 : alook mlkT 5321 = some (0, 1, 0, 0) := by decide +kernel
set_option maxRecDepth 20000 in
theorem lq_5324 : alook mlkT 5324 = some (0, 44, 3, 1) := by decide +kernel
set_option maxRecDepth 20000 in
theorem lq_5328 : alook mlkT 5328 = some (0, 4, 0, 0) := by decide +kernel
set_option maxRecDepth 20000 in
theorem lq_5331 : alook mlkT 5331 = some (0, 45, 3, 0) := by decide +kernel
set_option maxRecDepth 20000 in
theorem lq_5334 : alook mlkT 5334 = some (0, 102, 5, 1) := by decide +kernel
set_option maxRecDepth 20000 in
theorem lq_5341 : alook mlkT 5341 = some (0, 49, 3, 1) := by decide +kernel
set_option maxRecDepth 20000 in
theorem lq_6001 : alook mlkT 6001 = some (6, 0, 0, 0) := by decide +kernel
set_option maxRecDepth 20000 in
theorem lq_6148 : alook mlkT 6148 = some (0, 106, 6, 1) := by decide +kernel
set_option maxRecDepth 20000 in
theorem lq_6152 : alook mlkT 6152 = some (0, 107, 6, 1) := by decide +kernel
set_option maxRecDepth 20000 in
theorem lq_6155 : alook mlkT 6155 = some (0, 108, 6, 1) := by decide +kernel
set_option maxRecDepth 20000 in
theorem lq_6160 : alook mlkT 6160 = some (0, 109, 6, 2) := by decide +kernel
set_option maxRecDepth 20000 in
theorem lq_6164 : alook mlkT 6164 = some (0, 111, 6, 9) := by decide +kernel
set_option maxRecDepth 20000 in
theorem lq_6168 : alook mlkT 6168 = some (0, 112, 6, 1) := by decide +kernel
set_option maxRecDepth 20000 in
theorem lq_6171 : alook mlkT 6171 = some (0, 113, 6, 1) := by decide +kernel
set_option maxRecDepth 20000 in
theorem lq_6174 : alook mlkT 6174 = some (0, 115, 6, 1) := by decide +kernel
set_option maxRecDepth 20000 in
theorem lq_6177 : alook mlkT 6177 = some (0, 117, 6, 2) := by decide +kernel
set_option maxRecDepth 20000 in
theorem lq_6181 : alook mlkT 6181 = some (0, 116, 6, 2) := by decide +kernel
set_option maxRecDepth 20000 in
theorem lq_6184 : alook mlkT 6184 = some (0, 120, 6, 2) := by decide +kernel
set_option maxRecDepth 20000 in
theorem lq_6187 : alook mlkT 6187 = some (0, 114, 6, 1) := by decide +kernel
set_option maxRecDepth 20000 in
theorem lq_6190 : alook mlkT 6190 = some (0, 118, 6, 1) := by decide +kernel
set_option maxRecDepth 20000 in
theorem lq_6193 : alook mlkT 6193 = some (0, 119, 6, 2) := by decide +kernel
set_option maxRecDepth 20000 in
theorem lq_6196 : alook mlkT 6196 = some (0, 121, 6, 2) := by decide +kernel
set_option maxRecDepth 20000 in
theorem lq_6199 : alook mlkT 6199 = some (0, 126, 6, 1) := by decide +kernel
set_option maxRecDepth 20000 in
theorem lq_6202 : alook mlkT 6202 = some (0, 127, 6, 1) := by decide +kernel
set_option maxRecDepth 20000 in
theorem lq_6205 : alook mlkT 6205 = some (0, 128, 6, 3) := by decide +kernel
set_option maxRecDepth 20000 in
theorem lq_6209 : alook mlkT 6209 = some (0, 129, 6, 0) := by decide +kernel
set_option maxRecDepth 20000 in
theorem lq_6214 : alook mlkT 6214 = some (0, 130, 6, 0) := by decide +kernel
set_option maxRecDepth 20000 in
theorem lq_6218 : alook mlkT 6218 = some (0, 133, 6, 2) := by decide +kernel
set_option maxRecDepth 20000 in
theorem lq_6229 : alook mlkT 6229 = some (0, 137, 6, 0) := by decide +kernel
set_option maxRecDepth 20000 in
theorem lq_6233 : alook mlkT 6233 = some (0, 141, 6, 1) := by decide +kernel
set_option maxRecDepth 20000 in
theorem lq_6237 : alook mlkT 6237 = some (0, 140, 6, 1) := by decide +kernel
set_option maxRecDepth 20000 in
theorem lq_6240 : alook mlkT 6240 = some (0, 144, 6, 3) := by decide +kernel
set_option maxRecDepth 20000 in
theorem lq_6244 : alook mlkT 6244 = some (0, 143, 6, 3) := by decide +kernel
set_option maxRecDepth 20000 in
theorem lq_6248 : alook mlkT 6248 = some (0, 145, 6, 1) := by decide +kernel
set_option maxRecDepth 20000 in
theorem lq_6253 : alook mlkT 6253 = some (0, 151, 6, 2) := by decide +kernel
set_option maxRecDepth 20000 in
theorem lq_6258 : alook mlkT 6258 = some (0, 155, 6, 1) := by decide +kernel
set_option maxRecDepth 20000 in
theorem lq_6261 : alook mlkT 6261 = some (0, 157, 6, 3) := by decide +kernel
set_option maxRecDepth 20000 in
theorem lq_6265 : alook mlkT 6265 = some (0, 158, 6, 2) := by decide +kernel
set_option maxRecDepth 20000 in
theorem lq_7009 : alook mlkT 7009 = some (1, 59, 5, 0) := by decide +kernel
set_option maxRecDepth 20000 in
theorem lq_7012 : alook mlkT 7012 = some (1, 105, 6, 0) := by decide +kernel
set_option maxRecDepth 20000 in
theorem lq_7015 : alook mlkT 7015 = some (0, 60, 5, 8) := by decide +kernel
set_option maxRecDepth 20000 in
theorem lq_7019 : alook mlkT 7019 = some (0, 110, 6, 8) := by decide +kernel
set_option maxRecDepth 20000 in
theorem lq_7020 : alook mlkT 7020 = some (0, 61, 5, 1) := by decide +kernel
set_option maxRecDepth 20000 in
theorem lq_7024 : alook mlkT 7024 = some (0, 112, 6, 1) := by decide +kernel
set_option maxRecDepth 20000 in
theorem lq_7025 : alook mlkT 7025 = some (0, 62, 5, 3) := by decide +kernel
set_option maxRecDepth 20000 in
theorem lq_7029 : alook mlkT 7029 = some (0, 122, 6, 3) := by decide +kernel
set_option maxRecDepth 20000 in
theorem lq_7030 : alook mlkT 7030 = some (0, 63, 5, 3) := by decide +kernel
set_option maxRecDepth 20000 in
theorem lq_7033 : alook mlkT 7033 = some (0, 123, 6, 3) := by decide +kernel
set_option maxRecDepth 20000 in
theorem lq_7034 : alook mlkT 7034 = some (0, 64, 5, 2) := by decide +kernel
set_option maxRecDepth 20000 in
theorem lq_7038 : alook mlkT 7038 = some (0, 124, 6, 2) := by decide +kernel
set_option maxRecDepth 20000 in
theorem lq_7039 : alook mlkT 7039 = some (0, 65, 5, 2) := by decide +kernel
set_option maxRecDepth 20000 in
theorem lq_7042 : alook mlkT 7042 = some (0, 125, 6, 2) := by decide +kernel
set_option maxRecDepth 20000 in
theorem lq_7043 : alook mlkT 7043 = some (0, 66, 5, 4) := by decide +kernel
set_option maxRecDepth 20000 in
theorem lq_7047 : alook mlkT 7047 = some (0, 142, 6, 4) := by decide +kernel
set_option maxRecDepth 20000 in
theorem lq_7048 : alook mlkT 7048 = some (0, 67, 5, 2) := by decide +kernel
set_option maxRecDepth 20000 in
theorem lq_7052 : alook mlkT 7052 = some (0, 131, 6, 2) := by decide +kernel
set_option maxRecDepth 20000 in
theorem lq_7053 : alook mlkT 7053 = some (0, 68, 5, 3) := by decide +kernel
set_option maxRecDepth 20000 in
theorem lq_7057 : alook mlkT 7057 = some (0, 132, 6, 3) := by decide +kernel
set_option maxRecDepth 20000 in
theorem lq_7058 : alook mlkT 7058 = some (0, 69, 5, 1) := by decide +kernel
set_option maxRecDepth 20000 in
theorem lq_7061 : alook mlkT 7061 = some (0, 134, 6, 1) := by decide +kernel
set_option maxRecDepth 20000 in
theorem lq_7062 : alook mlkT 7062 = some (0, 70, 5, 0) := by decide +kernel
set_option maxRecDepth 20000 in
theorem lq_7066 : alook mlkT 7066 = some (0, 135, 6, 0) := by decide +kernel
set_option maxRecDepth 20000 in
theorem lq_7067 : alook mlkT 7067 = some (0, 71, 5, 1) := by decide +kernel
set_option maxRecDepth 20000 in
theorem lq_7071 : alook mlkT 7071 = some (0, 136, 6, 1) := by decide +kernel
set_option maxRecDepth 20000 in
theorem lq_7072 : alook mlkT 7072 = some (0, 72, 5, 2) := by decide +kernel
set_option maxRecDepth 20000 in
theorem lq_7076 : alook mlkT 7076 = some (0, 138, 6, 2) := by decide +kernel
set_option maxRecDepth 20000 in
theorem lq_7077 : alook mlkT 7077 = some (0, 73, 5, 0) := by decide +kernel
set_option maxRecDepth 20000 in
theorem lq_7080 : alook mlkT 7080 = some (0, 139, 6, 0) := by decide +kernel
set_option maxRecDepth 20000 in
theorem lq_7081 : alook mlkT 7081 = some (0, 74, 5, 2) := by decide +kernel
set_option maxRecDepth 20000 in
theorem lq_7084 : alook mlkT 7084 = some (0, 146, 6, 2) := by decide +kernel
set_option maxRecDepth 20000 in
theorem lq_7085 : alook mlkT 7085 = some (0, 75, 5, 2) := by decide +kernel
set_option maxRecDepth 20000 in
theorem lq_7088 : alook mlkT 7088 = some (0, 147, 6, 2) := by decide +kernel
set_option maxRecDepth 20000 in
theorem lq_7089 : alook mlkT 7089 = some (0, 76, 5, 2) := by decide +kernel
set_option maxRecDepth 20000 in
theorem lq_7092 : alook mlkT 7092 = some (0, 148, 6, 2) := by decide +kernel
set_option maxRecDepth 20000 in
theorem lq_7093 : alook mlkT 7093 = some (0, 77, 5, 2) := by decide +kernel
set_option maxRecDepth 20000 in
theorem lq_7096 : alook mlkT 7096 = some (0, 149, 6, 2) := by decide +kernel
set_option maxRecDepth 20000 in
theorem lq_7097 : alook mlkT 7097 = some (0, 78, 5, 1) := by decide +kernel
set_option maxRecDepth 20000 in
theorem lq_7100 : alook mlkT 7100 = some (0, 150, 6, 1) := by decide +kernel
set_option maxRecDepth 20000 in
theorem lq_7101 : alook mlkT 7101 = some (0, 79, 5, 1) := by decide +kernel
set_option maxRecDepth 20000 in
theorem lq_7104 : alook mlkT 7104 = some (0, 152, 6, 1) := by decide +kernel
set_option maxRecDepth 20000 in
theorem lq_7105 : alook mlkT 7105 = some (0, 80, 5, 1) := by decide +kernel
set_option maxRecDepth 20000 in
theorem lq_7108 : alook mlkT 7108 = some (0, 153, 6, 1) := by decide +kernel
set_option maxRecDepth 20000 in
theorem lq_7109 : alook mlkT 7109 = some (0, 81, 5, 1) := by decide +kernel
set_option maxRecDepth 20000 in
theorem lq_7112 : alook mlkT 7112 = some (0, 154, 6, 1) := by decide +kernel
set_option maxRecDepth 20000 in
theorem lq_7113 : alook mlkT 7113 = some (0, 82, 5, 1) := by decide +kernel
set_option maxRecDepth 20000 in
theorem lq_7116 : alook mlkT 7116 = some (0, 156, 6, 1) := by decide +kernel
set_option maxRecDepth 20000 in
theorem lq_7117 : alook mlkT 7117 = some (0, 83, 5, 3) := by decide +kernel
set_option maxRecDepth 20000 in
theorem lq_7120 : alook mlkT 7120 = some (0, 159, 6, 3) := by decide +kernel
set_option maxRecDepth 20000 in
theorem lq_7121 : alook mlkT 7121 = some (0, 84, 5, 3) := by decide +kernel
set_option maxRecDepth 20000 in
theorem lq_7124 : alook mlkT 7124 = some (0, 160, 6, 3) := by decide +kernel
set_option maxRecDepth 20000 in
theorem lq_7125 : alook mlkT 7125 = some (0, 85, 5, 3) := by decide +kernel
set_option maxRecDepth 20000 in
theorem lq_7128 : alook mlkT 7128 = some (0, 161, 6, 3) := by decide +kernel
set_option maxRecDepth 20000 in
theorem lq_7129 : alook mlkT 7129 = some (0, 86, 5, 1) := by decide +kernel
set_option maxRecDepth 20000 in
theorem lq_7132 : alook mlkT 7132 = some (0, 162, 6, 1) := by decide +kernel
