/-! the program's tables: methods, classes, links, constants, as the Statement's own words have them; every row is checked against the words -/
def mT_0 : u_T := fun k => match k with
  | 0 => ("HillLeavers", "tape", "LHillLeavers$Tape;", true)
  | 1 => ("HillLeavers", "reader", "LHillLeavers$Reader;", true)
  | 2 => ("HillLeavers", "town", "LHillLeavers$Town;", false)
  | 3 => ("HillLeavers", "state", "LHillLeavers$State;", true)
  | 4 => ("HillLeavers", "trial", "LHillLeavers$State;", true)
  | 5 => ("HillLeavers", "acts", "LHillLeavers$Acts;", true)
  | 6 => ("HillLeavers", "boxes", "[LHillLeavers$State;", true)
  | 7 => ("HillLeavers", "filled", "[Z", true)
  | 8 => ("HillLeavers", "outlook", "LHillLeavers$Outlook;", true)
  | 9 => ("HillLeavers", "pick", "LHillLeavers$Pick;", true)
  | _ => ("HillLeavers", "sights", "LHillLeavers$Sights;", true)
def mT_1 : u_T := fun k => match k with
  | 0 => ("HillLeavers$Acts", "ring", "[LHillLeavers$State;", true)
  | 1 => ("HillLeavers$Acts", "oldest", "I", false)
  | 2 => ("HillLeavers$Acts", "behind", "I", false)
  | _ => ("HillLeavers$Acts", "ahead", "I", false)
def mT_2 : u_T := fun k => match k with
  | 0 => ("HillLeavers$Formula", "code", "[I", true)
  | 1 => ("HillLeavers$Formula", "length", "I", false)
  | 2 => ("HillLeavers$Formula", "units", "I", false)
  | 3 => ("HillLeavers$Formula", "stack", "[I", true)
  | _ => ("HillLeavers$Formula", "height", "I", false)
def mT_3 : u_T := fun k => match k with
  | 0 => ("HillLeavers$Outlook", "ahead", "LHillLeavers$State;", true)
  | 1 => ("HillLeavers$Outlook", "out", "[I", true)
  | 2 => ("HillLeavers$Outlook", "hungry", "[I", true)
  | _ => ("HillLeavers$Outlook", "lost", "[I", true)
def mT_4 : u_T := fun k => match k with
  | 0 => ("HillLeavers$Pick", "found", "Z", false)
  | 1 => ("HillLeavers$Pick", "worth", "I", false)
  | 2 => ("HillLeavers$Pick", "cost", "I", false)
  | _ => ("HillLeavers$Pick", "set", "I", false)
def mT_5 : u_T := fun k => match k with
  | 0 => ("HillLeavers$Reader", "tape", "LHillLeavers$Tape;", true)
  | 1 => ("HillLeavers$Reader", "draft", "LHillLeavers$Town;", false)
  | 2 => ("HillLeavers$Reader", "fault", "I", false)
  | 3 => ("HillLeavers$Reader", "place", "I", false)
  | 4 => ("HillLeavers$Reader", "craftNames", "[J", true)
  | 5 => ("HillLeavers$Reader", "manNames", "[J", true)
  | 6 => ("HillLeavers$Reader", "demandNames", "[J", true)
  | 7 => ("HillLeavers$Reader", "backTold", "Z", false)
  | 8 => ("HillLeavers$Reader", "foesTold", "Z", false)
  | _ => ("HillLeavers$Reader", "drawTold", "Z", false)
def mT_6 : u_T := fun k => match k with
  | 0 => ("HillLeavers$Sights", "kind", "[I", true)
  | 1 => ("HillLeavers$Sights", "which", "[I", true)
  | 2 => ("HillLeavers$Sights", "was", "[Z", true)
  | 3 => ("HillLeavers$Sights", "toldAt", "[I", true)
  | 4 => ("HillLeavers$Sights", "untoldAt", "[I", true)
  | 5 => ("HillLeavers$Sights", "count", "I", false)
  | 6 => ("HillLeavers$Sights", "time", "I", false)
  | 7 => ("HillLeavers$Sights", "fit", "I", false)
  | _ => ("HillLeavers$Sights", "fitOut", "[I", true)
def mT_7 : u_T := fun k => match k with
  | 0 => ("HillLeavers$State", "out", "I", false)
  | 1 => ("HillLeavers$State", "days", "[I", true)
  | 2 => ("HillLeavers$State", "loaves", "[I", true)
  | 3 => ("HillLeavers$State", "lost", "I", false)
  | 4 => ("HillLeavers$State", "foes", "I", false)
  | 5 => ("HillLeavers$State", "granted", "I", false)
  | 6 => ("HillLeavers$State", "day", "I", false)
  | _ => ("HillLeavers$State", "seed", "I", false)
def mT_8 : u_T := fun k => match k with
  | 0 => ("HillLeavers$Tape", "text", "[I", true)
  | 1 => ("HillLeavers$Tape", "length", "I", false)
  | 2 => ("HillLeavers$Tape", "kind", "I", false)
  | 3 => ("HillLeavers$Tape", "start", "I", false)
  | 4 => ("HillLeavers$Tape", "next", "I", false)
  | 5 => ("HillLeavers$Tape", "word", "J", false)
  | _ => ("HillLeavers$Tape", "number", "I", false)
def mT_9 : u_T := fun k => match k with
  | 0 => ("HillLeavers$Town", "crafts", "I", false)
  | 1 => ("HillLeavers$Town", "needs", "[I", true)
  | 2 => ("HillLeavers$Town", "harm", "[I", true)
  | 3 => ("HillLeavers$Town", "members", "[I", true)
  | 4 => ("HillLeavers$Town", "men", "I", false)
  | 5 => ("HillLeavers$Town", "skills", "[I", true)
  | 6 => ("HillLeavers$Town", "loavesAtFirst", "[I", true)
  | 7 => ("HillLeavers$Town", "debt", "[I", true)
  | 8 => ("HillLeavers$Town", "others", "[I", true)
  | 9 => ("HillLeavers$Town", "outAtFirst", "I", false)
  | 10 => ("HillLeavers$Town", "demands", "I", false)
  | 11 => ("HillLeavers$Town", "cost", "[I", true)
  | 12 => ("HillLeavers$Town", "worth", "[I", true)
  | 13 => ("HillLeavers$Town", "formula", "LHillLeavers$Formula;", true)
  | 14 => ("HillLeavers$Town", "foes", "I", false)
  | 15 => ("HillLeavers$Town", "raid", "I", false)
  | 16 => ("HillLeavers$Town", "draw", "I", false)
  | 17 => ("HillLeavers$Town", "shortCrafts", "[I", true)
  | _ => ("HillLeavers$Town", "losses", "[I", true)
def mT_10 : u_T := fun k => match k with
  | 0 => ("HillLeaversModel", "tape", "[B", true)
  | 1 => ("HillLeaversModel", "text", "[B", true)
  | 2 => ("HillLeaversModel", "taped", "I", false)
  | 3 => ("HillLeaversModel", "size", "I", false)
  | 4 => ("HillLeaversModel", "faultKind", "I", false)
  | 5 => ("HillLeaversModel", "faultPlace", "I", false)
  | 6 => ("HillLeaversModel", "at", "I", false)
  | 7 => ("HillLeaversModel", "end", "I", false)
  | 8 => ("HillLeaversModel", "token", "I", false)
  | 9 => ("HillLeaversModel", "number", "I", false)
  | 10 => ("HillLeaversModel", "name", "J", false)
  | 11 => ("HillLeaversModel", "crafts", "[I", true)
  | 12 => ("HillLeaversModel", "men", "[I", true)
  | 13 => ("HillLeaversModel", "demands", "[I", true)
  | 14 => ("HillLeaversModel", "units", "[I", true)
  | 15 => ("HillLeaversModel", "foes", "[I", true)
  | 16 => ("HillLeaversModel", "raid", "[I", true)
  | 17 => ("HillLeaversModel", "draw", "[I", true)
  | 18 => ("HillLeaversModel", "outTold", "[I", true)
  | 19 => ("HillLeaversModel", "needs", "[I", true)
  | 20 => ("HillLeaversModel", "lossOf", "[I", true)
  | 21 => ("HillLeaversModel", "craftsOf", "[I", true)
  | 22 => ("HillLeaversModel", "loafTold", "[I", true)
  | 23 => ("HillLeaversModel", "debt", "[I", true)
  | 24 => ("HillLeaversModel", "others", "[I", true)
  | 25 => ("HillLeaversModel", "cost", "[I", true)
  | 26 => ("HillLeaversModel", "worth", "[I", true)
  | 27 => ("HillLeaversModel", "ruleFrom", "[I", true)
  | 28 => ("HillLeaversModel", "ruleTo", "[I", true)
  | 29 => ("HillLeaversModel", "hasBack", "[Z", true)
  | 30 => ("HillLeaversModel", "hasFoes", "[Z", true)
  | 31 => ("HillLeaversModel", "isDraw", "[Z", true)
  | 32 => ("HillLeaversModel", "cName", "[J", true)
  | 33 => ("HillLeaversModel", "mName", "[J", true)
  | 34 => ("HillLeaversModel", "dName", "[J", true)
  | 35 => ("HillLeaversModel", "code", "[I", true)
  | 36 => ("HillLeaversModel", "codeNumber", "[I", true)
  | 37 => ("HillLeaversModel", "eWhat", "[I", true)
  | 38 => ("HillLeaversModel", "eSign", "[I", true)
  | 39 => ("HillLeaversModel", "pile", "[I", true)
  | 40 => ("HillLeaversModel", "bank", "I", false)
  | 41 => ("HillLeaversModel", "rb", "I", false)
  | 42 => ("HillLeaversModel", "codes", "I", false)
  | 43 => ("HillLeaversModel", "within", "I", false)
  | 44 => ("HillLeaversModel", "piled", "I", false)
  | 45 => ("HillLeaversModel", "unitsInRule", "I", false)
  | 46 => ("HillLeaversModel", "askMan", "I", false)
  | 47 => ("HillLeaversModel", "all", "[I", true)
  | 48 => ("HillLeaversModel", "oddsOfDay", "I", false)
  | 49 => ("HillLeaversModel", "was", "[I", true)
  | 50 => ("HillLeaversModel", "acts", "I", false)
  | 51 => ("HillLeaversModel", "undone", "I", false)
  | 52 => ("HillLeaversModel", "kept", "[I", true)
  | 53 => ("HillLeaversModel", "offerWorth", "I", false)
  | 54 => ("HillLeaversModel", "offerCost", "I", false)
  | 55 => ("HillLeaversModel", "offerSet", "I", false)
  | 56 => ("HillLeaversModel", "sSort", "[I", true)
  | 57 => ("HillLeaversModel", "sOf", "[I", true)
  | 58 => ("HillLeaversModel", "sIs", "[I", true)
  | 59 => ("HillLeaversModel", "sTold", "[I", true)
  | 60 => ("HillLeaversModel", "sUntold", "[I", true)
  | 61 => ("HillLeaversModel", "outIn", "[I", true)
  | 62 => ("HillLeaversModel", "seens", "I", false)
  | 63 => ("HillLeaversModel", "time", "I", false)
  | 64 => ("HillLeaversModel", "fitting", "I", false)
  | 65 => ("HillLeaversModel", "boxAll", "[I", true)
  | _ => ("HillLeaversModel", "isBoxed", "[Z", true)
/-- a word by its number: 1000 times the list, and the place in it -/
def s_wd (w : Nat) : Option Cond := match w / 1000 with
  | 0 => (k2_sels lw_privs)[w]?
  | 1 => tables_1_1[w % 1000]?
  | 2 => tables_1_2[w % 1000]?
  | 3 => tables_1_3[w % 1000]?
  | 4 => tables_1_4[w % 1000]?
  | 5 => tables_1_5[w % 1000]?
  | 6 => tables_1_6[w % 1000]?
  | 7 => tables_1_7[w % 1000]?
  | 8 => tables_1_8[w % 1000]?
  | _ => none
theorem s_wd_mem {w : Nat} {c : Cond} (h : s_wd w = some c) : c ∈ lw_tbl := by
  unfold lw_tbl tables_1
  simp only [List.mem_append]
  unfold s_wd at h
  split at h
  · exact Or.inl (List.mem_of_getElem? h)
  · exact Or.inr (Or.inl (List.mem_of_getElem? h))
  · exact Or.inr (Or.inr (Or.inl (List.mem_of_getElem? h)))
  · exact Or.inr (Or.inr (Or.inr (Or.inl (List.mem_of_getElem? h))))
  · exact Or.inr (Or.inr (Or.inr (Or.inr (Or.inl (List.mem_of_getElem? h)))))
  · exact Or.inr (Or.inr (Or.inr (Or.inr (Or.inr (Or.inl (List.mem_of_getElem? h))))))
  · exact Or.inr (Or.inr (Or.inr (Or.inr (Or.inr (Or.inr (Or.inl (List.mem_of_getElem? h)))))))
  · exact Or.inr (Or.inr (Or.inr (Or.inr (Or.inr (Or.inr (Or.inr (Or.inl (List.mem_of_getElem? h))))))))
  · exact Or.inr (Or.inr (Or.inr (Or.inr (Or.inr (Or.inr (Or.inr (Or.inr (List.mem_of_getElem? h))))))))
  · cases h
def mT (c : Nat) : u_T := match c with
  | 0 => mT_0
  | 1 => mT_1
  | 2 => mT_2
  | 3 => mT_3
  | 4 => mT_4
  | 5 => mT_5
  | 6 => mT_6
  | 7 => mT_7
  | 8 => mT_8
  | 9 => mT_9
  | _ => mT_10
def m_NN : List Nat := [11, 4, 5, 4, 4, 10, 9, 8, 7, 19, 67]
def m_cls : List String := ["HillLeavers", "HillLeavers$Acts", "HillLeavers$Formula", "HillLeavers$Outlook", "HillLeavers$Pick", "HillLeavers$Reader", "HillLeavers$Sights", "HillLeavers$State", "HillLeavers$Tape", "HillLeavers$Town", "HillLeaversModel", "HillLeaversLaw", "java/lang/Object", "java/lang/Character", "java/lang/Integer", "java/lang/Math", "java/lang/String", "java/lang/StringLatin1", "java/lang/StringUTF16", "jdk/internal/util/Preconditions"]
def m_cn (c : Nat) : String := m_cls.getD c ""
def m_classes : List vw_C := (List.range 11).map fun ci => (m_cn ci, mT ci, m_NN.getD ci 0)
/-- the places of a class's field words, of its instantiable word, of its initialized word -/
def m_lay : List (List Nat) := [[2148, 2150, 2152, 2154, 2156, 2158, 2160, 2162, 2164, 2166, 2168], [2045, 2047, 2049, 2051], [1086, 1088, 1090, 1092, 1094], [2066, 2068, 2070, 2072], [2090, 2092, 2094, 2096], [1198, 1200, 1202, 1204, 1206, 1208, 1210, 1212, 1214, 1216], [2118, 2120, 2122, 2124, 2126, 2128, 2130, 2132, 2134], [2013, 2015, 2017, 2019, 2021, 2023, 2025, 2027], [1045, 1047, 1049, 1051, 1053, 1055, 1057], [1147, 1149, 1151, 1153, 1155, 1157, 1159, 1161, 1163, 1165, 1167, 1169, 1171, 1173, 1175, 1177, 1179, 1181, 1183], [6041, 6043, 6045, 6047, 6049, 6051, 6053, 6055, 6057, 6059, 6061, 6063, 6065, 6067, 6069, 6071, 6073, 6075, 6077, 6079, 6081, 6083, 6085, 6087, 6089, 6091, 6093, 6095, 6097, 6099, 6101, 6103, 6105, 6107, 6109, 6111, 6113, 6115, 6117, 6119, 6121, 6123, 6125, 6127, 6129, 6131, 6133, 6135, 6137, 6139, 6141, 6143, 6145, 6147, 6149, 6151, 6153, 6155, 6157, 6159, 6161, 6163, 6165, 6167, 6169, 6171, 6173]]
def m_cw : List (Nat × Nat) := [(1020, 1001), (2031, 1007), (1074, 1005), (2055, 1008), (2077, 1009), (1062, 1003), (2100, 1010), (1223, 1006), (1028, 1002), (1068, 1004), (5197, 1011)]
/-- a method's words: its code, instance or static, selects, initialized -/
def m_wx : List (Nat × Nat × Nat × Nat) := [(1023, 1022, 0, 1001), (1026, 1025, 0, 1000), (1031, 1030, 0, 1002), (1065, 1064, 0, 1003), (1071, 1070, 0, 1004), (1077, 1076, 0, 1005), (1226, 1225, 0, 1006), (2034, 2033, 0, 1007), (2058, 2057, 0, 1008), (2080, 2079, 0, 1009), (2103, 2102, 0, 1010), (2174, 2172, 2173, 1001), (2178, 2176, 2177, 1002), (2182, 2180, 2181, 1001), (2186, 2184, 2185, 1001), (2190, 2188, 2189, 1003), (2194, 2192, 2193, 1004), (2198, 2196, 2197, 1005), (2202, 2200, 2201, 1002), (2206, 2204, 2205, 1002), (2210, 2209, 0, 1002), (2213, 2212, 0, 1002), (2216, 2215, 0, 1002), (2221, 2220, 0, 1002), (2226, 2224, 2225, 1012), (2230, 2228, 2229, 1012), (2234, 2232, 2233, 1012), (3000, 2238, 2239, 1012), (3004, 3002, 3003, 1012), (3007, 3006, 0, 1013), (3010, 3009, 0, 1013), (3013, 3012, 0, 1014), (3016, 3015, 0, 1014), (3019, 3018, 0, 1013), (3022, 3021, 0, 1015), (3028, 3027, 0, 1015), (3031, 3030, 0, 1015), (3034, 3033, 0, 1015), (3037, 3036, 0, 1012), (3042, 3041, 0, 1016), (3045, 3044, 0, 1015), (3048, 3047, 0, 1015), (3057, 3056, 0, 1015), (3060, 3059, 0, 1017), (3063, 3062, 0, 1017), (3067, 3066, 0, 1017), (3073, 3071, 3072, 1002), (3078, 3076, 3077, 1012), (3081, 3080, 0, 1013), (3084, 3083, 0, 1012), (3087, 3086, 0, 1016), (3090, 3089, 0, 1015), (3093, 3092, 0, 1015), (3098, 3097, 1, 1003), (3102, 3101, 2, 1003), (3107, 3106, 3, 1003), (3111, 3109, 3110, 1002), (3115, 3114, 0, 1003), (3120, 3119, 4, 1003), (3124, 3123, 5, 1003), (3130, 3129, 6, 1003), (3135, 3134, 7, 1003), (3144, 3143, 8, 1003), (3151, 3150, 9, 1003), (3155, 3154, 10, 1003), (3159, 3157, 3158, 1002), (3163, 3162, 11, 1003), (3170, 3169, 12, 1003), (3174, 3172, 3173, 1005), (3179, 3178, 13, 1003), (3183, 3182, 14, 1003), (3190, 3188, 3189, 1002), (3199, 3197, 3198, 1004), (3203, 3201, 3202, 1004), (3206, 3205, 0, 1018), (3212, 3211, 0, 1001), (3216, 3214, 3215, 1003), (3220, 3218, 3219, 1006), (3224, 3222, 3223, 1007), (3228, 3226, 3227, 1010), (3233, 3231, 3232, 1001), (3237, 3235, 3236, 1001), (4001, 4000, 15, 1001), (4005, 4003, 4004, 1006), (4009, 4007, 4008, 1004), (4013, 4011, 4012, 1005), (4017, 4015, 4016, 1004), (4021, 4019, 4020, 1005), (4025, 4024, 16, 1005), (4029, 4028, 17, 1005), (4032, 4031, 0, 1005), (4036, 4034, 4035, 1001), (4040, 4039, 18, 1001), (4046, 4044, 4045, 1001), (4050, 4049, 19, 1001), (4054, 4052, 4053, 1004), (4058, 4056, 4057, 1004), (4062, 4060, 4061, 1004), (4066, 4064, 4065, 1001), (4070, 4068, 4069, 1001), (4076, 4074, 4075, 1001), (4080, 4078, 4079, 1001), (4084, 4082, 4083, 1001), (4087, 4086, 0, 1001), (4091, 4089, 4090, 1008), (4095, 4093, 4094, 1006), (4099, 4098, 20, 1008), (4104, 4102, 4103, 1004), (4108, 4106, 4107, 1004), (4112, 4110, 4111, 1006), (4116, 4115, 21, 1004), (4121, 4119, 4120, 1004), (4125, 4124, 22, 1004), (4130, 4128, 4129, 1006), (4134, 4132, 4133, 1008), (4138, 4136, 4137, 1001), (4142, 4140, 4141, 1001), (4146, 4144, 4145, 1007), (4150, 4149, 23, 1007), (4153, 4152, 0, 1014), (4160, 4158, 4159, 1001), (4165, 4163, 4164, 1001), (4169, 4167, 4168, 1006), (4174, 4172, 4173, 1001), (4178, 4176, 4177, 1001), (4183, 4181, 4182, 1001), (4187, 4185, 4186, 1007), (4191, 4189, 4190, 1001), (4195, 4193, 4194, 1007), (4199, 4197, 4198, 1001), (4203, 4202, 24, 1001), (4207, 4205, 4206, 1004), (4211, 4209, 4210, 1001), (4215, 4213, 4214, 1009), (4219, 4218, 25, 1001), (4223, 4221, 4222, 1009), (4227, 4225, 4226, 1009), (4231, 4229, 4230, 1001), (4235, 4233, 4234, 1001), (4239, 4237, 4238, 1001), (5003, 5001, 5002, 1001), (5007, 5005, 5006, 1001), (5011, 5009, 5010, 1001), (5015, 5013, 5014, 1001), (5019, 5017, 5018, 1001), (5025, 5024, 26, 1001), (5028, 5027, 0, 1001), (5031, 5030, 0, 1001), (5035, 5033, 5034, 1001), (5039, 5037, 5038, 1001), (5043, 5041, 5042, 1008), (5047, 5045, 5046, 1001), (5050, 5049, 0, 1001), (5054, 5053, 27, 1001), (5059, 5057, 5058, 1001), (5063, 5061, 5062, 1001), (5067, 5065, 5066, 1008), (5071, 5069, 5070, 1001), (5075, 5073, 5074, 1008), (5079, 5077, 5078, 1001), (5083, 5081, 5082, 1001), (5087, 5085, 5086, 1001), (5091, 5089, 5090, 1001), (5095, 5094, 28, 1001), (5099, 5097, 5098, 1001), (5104, 5103, 29, 1001), (5108, 5106, 5107, 1001), (5112, 5110, 5111, 1008), (5118, 5117, 30, 1001), (5123, 5121, 5122, 1001), (5127, 5125, 5126, 1001), (5134, 5132, 5133, 1001), (5138, 5136, 5137, 1010), (5142, 5140, 5141, 1001), (5146, 5144, 5145, 1001), (5150, 5148, 5149, 1001), (5154, 5152, 5153, 1010), (5158, 5156, 5157, 1001), (5163, 5161, 5162, 1001), (5167, 5165, 5166, 1010), (5172, 5171, 31, 1010), (5176, 5175, 32, 1010), (5182, 5180, 5181, 1001), (5186, 5184, 5185, 1001), (5191, 5189, 5190, 1001), (5195, 5193, 5194, 1001), (5200, 5199, 0, 1011), (5205, 5204, 33, 1011), (5209, 5208, 34, 1011), (5213, 5212, 35, 1011), (6179, 6177, 6178, 1011), (6183, 6182, 36, 1011), (6187, 6186, 37, 1011), (6190, 6189, 0, 1011), (6193, 6192, 0, 1011), (6218, 6217, 0, 1011), (6221, 6220, 0, 1011), (6225, 6224, 38, 1011), (6229, 6228, 39, 1011), (6233, 6232, 40, 1011), (6237, 6236, 41, 1011), (7001, 7000, 42, 1011), (7005, 7004, 43, 1011), (7009, 7008, 44, 1011), (7013, 7012, 45, 1011), (7017, 7016, 46, 1011), (7021, 7020, 47, 1011), (7025, 7024, 48, 1011), (7029, 7028, 49, 1011), (7033, 7032, 50, 1011), (7037, 7036, 51, 1011), (7041, 7040, 52, 1011), (7045, 7044, 53, 1011), (7049, 7048, 54, 1011), (7053, 7052, 55, 1011), (7057, 7056, 56, 1011), (7061, 7060, 57, 1011), (7065, 7064, 58, 1011), (7069, 7068, 59, 1011), (7073, 7072, 60, 1011), (7077, 7076, 61, 1011), (7081, 7080, 62, 1011), (7085, 7084, 63, 1011), (7089, 7087, 7088, 1011), (7093, 7091, 7092, 1011), (7097, 7096, 64, 1011), (7100, 7099, 0, 1011), (7103, 7102, 0, 1011), (7107, 7106, 65, 1011), (7111, 7110, 66, 1011), (7114, 7113, 0, 1011), (7118, 7117, 67, 1011), (7122, 7121, 68, 1011), (7126, 7125, 69, 1011), (7130, 7129, 70, 1011), (7133, 7132, 0, 1011), (7137, 7135, 7136, 1011), (7141, 7140, 71, 1011), (7145, 7143, 7144, 1011), (7149, 7148, 72, 1011), (7153, 7152, 73, 1011), (7157, 7156, 74, 1011), (7161, 7160, 75, 1011), (7165, 7163, 7164, 1011), (7169, 7167, 7168, 1011), (7173, 7171, 7172, 1011), (7177, 7175, 7176, 1011), (7181, 7179, 7180, 1011), (7185, 7183, 7184, 1011), (7189, 7187, 7188, 1011), (7193, 7191, 7192, 1011), (7197, 7195, 7196, 1011), (7201, 7199, 7200, 1011), (7205, 7204, 76, 1011), (7209, 7207, 7208, 1011), (7213, 7212, 77, 1011), (7217, 7215, 7216, 1011), (7220, 7219, 0, 1011), (7224, 7222, 7223, 1011), (7228, 7226, 7227, 1011), (7232, 7231, 78, 1011), (7236, 7235, 79, 1011), (8000, 7239, 80, 1011), (8004, 8002, 8003, 1011), (8008, 8007, 81, 1011), (8012, 8010, 8011, 1011), (8016, 8014, 8015, 1011), (8020, 8019, 82, 1011), (8024, 8023, 83, 1011), (8028, 8026, 8027, 1011), (8032, 8030, 8031, 1011), (8036, 8034, 8035, 1011), (8039, 8038, 0, 1011), (8043, 8042, 84, 1011), (8047, 8046, 85, 1011), (8051, 8050, 86, 1011), (8055, 8053, 8054, 1011), (8059, 8057, 8058, 1011), (8063, 8061, 8062, 1011), (8067, 8065, 8066, 1011), (8071, 8070, 87, 1011), (8075, 8073, 8074, 1011), (8079, 8078, 88, 1011), (8083, 8081, 8082, 1011), (8087, 8085, 8086, 1011), (8091, 8089, 8090, 1011), (8095, 8093, 8094, 1011), (8099, 8097, 8098, 1011), (8103, 8101, 8102, 1011), (8107, 8105, 8106, 1011), (8111, 8109, 8110, 1011), (8115, 8114, 89, 1011), (8119, 8118, 90, 1011), (8123, 8121, 8122, 1011), (8127, 8125, 8126, 1011), (8130, 8129, 0, 1011), (8133, 8132, 0, 1011), (8137, 8135, 8136, 1011), (8141, 8139, 8140, 1011), (8145, 8144, 91, 1011), (8149, 8147, 8148, 1011), (8153, 8151, 8152, 1011), (8157, 8155, 8156, 1011), (8161, 8159, 8160, 1011), (8166, 8164, 8165, 1011), (8170, 8169, 92, 1011), (8174, 8173, 93, 1011), (8178, 8177, 94, 1011), (8182, 8180, 8181, 1011), (8186, 8184, 8185, 1011), (8190, 8188, 8189, 1011), (8194, 8192, 8193, 1011), (8198, 8196, 8197, 1011), (8202, 8200, 8201, 1011), (8206, 8204, 8205, 1011)]
/-- name, code, locals, what it returns, its class -/
def m_tab : List (MethodName × Nat × Option FieldType × Nat) := [
  (⟨"HillLeavers", "<init>", "()V"⟩, 2, none, 0),
  (⟨"java/lang/Object", "<init>", "()V"⟩, 1, none, 12),
  (⟨"HillLeavers$Tape", "<init>", "()V"⟩, 1, none, 8),
  (⟨"HillLeavers$Reader", "<init>", "(LHillLeavers$Tape;)V"⟩, 2, none, 5),
  (⟨"HillLeavers$Town", "<init>", "()V"⟩, 1, none, 9),
  (⟨"HillLeavers$Formula", "<init>", "()V"⟩, 1, none, 2),
  (⟨"HillLeavers$State", "<init>", "()V"⟩, 1, none, 7),
  (⟨"HillLeavers$Acts", "<init>", "()V"⟩, 2, none, 1),
  (⟨"HillLeavers$Outlook", "<init>", "()V"⟩, 1, none, 3),
  (⟨"HillLeavers$Pick", "<init>", "()V"⟩, 1, none, 4),
  (⟨"HillLeavers$Sights", "<init>", "()V"⟩, 1, none, 6),
  (⟨"HillLeavers", "feed", "(IIIII)I"⟩, 6, some (Jvm.ClassFile.FieldType.int), 0),
  (⟨"HillLeavers$Tape", "put", "(I)V"⟩, 3, none, 8),
  (⟨"HillLeavers", "end", "(I)I"⟩, 2, some (Jvm.ClassFile.FieldType.int), 0),
  (⟨"HillLeavers", "city", "()I"⟩, 3, some (Jvm.ClassFile.FieldType.int), 0),
  (⟨"HillLeavers$Reader", "read", "()Z"⟩, 2, some (Jvm.ClassFile.FieldType.boolean), 5),
  (⟨"HillLeavers$Town", "clear", "()V"⟩, 1, none, 9),
  (⟨"HillLeavers$Formula", "clear", "()V"⟩, 1, none, 2),
  (⟨"HillLeavers$Tape", "rewind", "()V"⟩, 1, none, 8),
  (⟨"HillLeavers$Tape", "advance", "()V"⟩, 2, none, 8),
  (⟨"HillLeavers$Tape", "byteAt", "(I)I"⟩, 2, some (Jvm.ClassFile.FieldType.int), 8),
  (⟨"HillLeavers$Tape", "isLetter", "(I)Z"⟩, 1, some (Jvm.ClassFile.FieldType.boolean), 8),
  (⟨"HillLeavers$Tape", "withLetter", "(JI)J"⟩, 3, some (Jvm.ClassFile.FieldType.long), 8),
  (⟨"HillLeavers$Tape", "isDigit", "(I)Z"⟩, 1, some (Jvm.ClassFile.FieldType.boolean), 8),
  (⟨"java/lang/String", "indexOf", "(I)I"⟩, 2, some (Jvm.ClassFile.FieldType.int), 16),
  (⟨"java/lang/String", "indexOf", "(II)I"⟩, 3, some (Jvm.ClassFile.FieldType.int), 16),
  (⟨"java/lang/String", "isLatin1", "()Z"⟩, 1, some (Jvm.ClassFile.FieldType.boolean), 16),
  (⟨"java/lang/String", "length", "()I"⟩, 1, some (Jvm.ClassFile.FieldType.int), 16),
  (⟨"java/lang/String", "coder", "()B"⟩, 1, some (Jvm.ClassFile.FieldType.byte), 16),
  (⟨"java/lang/StringLatin1", "indexOf", "([BIII)I"⟩, 4, some (Jvm.ClassFile.FieldType.int), 17),
  (⟨"java/lang/StringLatin1", "canEncode", "(I)Z"⟩, 1, some (Jvm.ClassFile.FieldType.boolean), 17),
  (⟨"java/lang/Math", "max", "(II)I"⟩, 2, some (Jvm.ClassFile.FieldType.int), 15),
  (⟨"java/lang/Math", "min", "(II)I"⟩, 2, some (Jvm.ClassFile.FieldType.int), 15),
  (⟨"java/lang/StringLatin1", "indexOfChar", "([BIII)I"⟩, 6, some (Jvm.ClassFile.FieldType.int), 17),
  (⟨"java/lang/StringUTF16", "indexOf", "([BIII)I"⟩, 4, some (Jvm.ClassFile.FieldType.int), 18),
  (⟨"java/lang/StringUTF16", "indexOfChar", "([BIII)I"⟩, 4, some (Jvm.ClassFile.FieldType.int), 18),
  (⟨"java/lang/StringUTF16", "checkBoundsBeginEnd", "(II[B)V"⟩, 3, none, 18),
  (⟨"java/lang/StringUTF16", "length", "([B)I"⟩, 1, some (Jvm.ClassFile.FieldType.int), 18),
  (⟨"java/lang/String", "checkBoundsBeginEnd", "(III)V"⟩, 3, none, 16),
  (⟨"jdk/internal/util/Preconditions", "checkFromToIndex", "(IIILjava/util/function/BiFunction;)I"⟩, 4, some (Jvm.ClassFile.FieldType.int), 19),
  (⟨"java/lang/StringUTF16", "indexOfCharUnsafe", "([BIII)I"⟩, 5, some (Jvm.ClassFile.FieldType.int), 18),
  (⟨"java/lang/StringUTF16", "getChar", "([BI)C"⟩, 2, some (Jvm.ClassFile.FieldType.char), 18),
  (⟨"java/lang/StringUTF16", "indexOfSupplementary", "([BIII)I"⟩, 7, some (Jvm.ClassFile.FieldType.int), 18),
  (⟨"java/lang/Character", "isValidCodePoint", "(I)Z"⟩, 2, some (Jvm.ClassFile.FieldType.boolean), 13),
  (⟨"java/lang/Character", "highSurrogate", "(I)C"⟩, 1, some (Jvm.ClassFile.FieldType.char), 13),
  (⟨"java/lang/Character", "lowSurrogate", "(I)C"⟩, 1, some (Jvm.ClassFile.FieldType.char), 13),
  (⟨"HillLeavers$Tape", "wordIs", "(Ljava/lang/String;)Z"⟩, 5, some (Jvm.ClassFile.FieldType.boolean), 8),
  (⟨"java/lang/String", "charAt", "(I)C"⟩, 2, some (Jvm.ClassFile.FieldType.char), 16),
  (⟨"java/lang/StringLatin1", "charAt", "([BI)C"⟩, 2, some (Jvm.ClassFile.FieldType.char), 17),
  (⟨"java/lang/String", "checkIndex", "(II)V"⟩, 2, none, 16),
  (⟨"jdk/internal/util/Preconditions", "checkIndex", "(IILjava/util/function/BiFunction;)I"⟩, 3, some (Jvm.ClassFile.FieldType.int), 19),
  (⟨"java/lang/StringUTF16", "charAt", "([BI)C"⟩, 2, some (Jvm.ClassFile.FieldType.char), 18),
  (⟨"java/lang/StringUTF16", "checkIndex", "(I[B)V"⟩, 2, none, 18),
  (⟨"HillLeavers$Reader", "readCraft", "()V"⟩, 2, none, 5),
  (⟨"HillLeavers$Reader", "refuse", "(I)V"⟩, 2, none, 5),
  (⟨"HillLeavers$Reader", "newName", "([JI)J"⟩, 5, some (Jvm.ClassFile.FieldType.long), 5),
  (⟨"HillLeavers$Tape", "isName", "()Z"⟩, 6, some (Jvm.ClassFile.FieldType.boolean), 8),
  (⟨"HillLeavers$Reader", "placeOf", "(J[JI)I"⟩, 5, some (Jvm.ClassFile.FieldType.int), 5),
  (⟨"HillLeavers$Reader", "numberBehind", "(Ljava/lang/String;I)I"⟩, 4, some (Jvm.ClassFile.FieldType.int), 5),
  (⟨"HillLeavers$Reader", "expectWord", "(Ljava/lang/String;)V"⟩, 2, none, 5),
  (⟨"HillLeavers$Reader", "readMan", "()V"⟩, 4, none, 5),
  (⟨"HillLeavers$Reader", "craftName", "(I)I"⟩, 3, some (Jvm.ClassFile.FieldType.int), 5),
  (⟨"HillLeavers$Reader", "readDemand", "()V"⟩, 2, none, 5),
  (⟨"HillLeavers$Reader", "readLevel", "(II)V"⟩, 6, none, 5),
  (⟨"HillLeavers$Reader", "readUnit", "(I)V"⟩, 4, none, 5),
  (⟨"HillLeavers$Tape", "signIs", "(C)Z"⟩, 2, some (Jvm.ClassFile.FieldType.boolean), 8),
  (⟨"HillLeavers$Reader", "knownUnit", "()I"⟩, 1, some (Jvm.ClassFile.FieldType.int), 5),
  (⟨"HillLeavers$Reader", "expectSign", "(C)V"⟩, 2, none, 5),
  (⟨"HillLeavers$Formula", "add", "(I)V"⟩, 2, none, 2),
  (⟨"HillLeavers$Reader", "readNot", "(I)V"⟩, 2, none, 5),
  (⟨"HillLeavers$Reader", "opHere", "(I)I"⟩, 2, some (Jvm.ClassFile.FieldType.int), 5),
  (⟨"HillLeavers$Tape", "signOneOf", "(Ljava/lang/String;)I"⟩, 3, some (Jvm.ClassFile.FieldType.int), 8),
  (⟨"HillLeavers$Town", "settle", "()V"⟩, 3, none, 9),
  (⟨"HillLeavers$Town", "handsOf", "(II)I"⟩, 3, some (Jvm.ClassFile.FieldType.int), 9),
  (⟨"java/lang/Integer", "bitCount", "(I)I"⟩, 1, some (Jvm.ClassFile.FieldType.int), 14),
  (⟨"HillLeavers", "sumOf", "([II)I"⟩, 4, some (Jvm.ClassFile.FieldType.int), 0),
  (⟨"HillLeavers$Reader", "swap", "(LHillLeavers$Town;)LHillLeavers$Town;"⟩, 3, some ((Jvm.ClassFile.FieldType.object "HillLeavers$Town")), 5),
  (⟨"HillLeavers$State", "begin", "(LHillLeavers$Town;)V"⟩, 3, none, 7),
  (⟨"HillLeavers$Acts", "clear", "()V"⟩, 1, none, 1),
  (⟨"HillLeavers$Sights", "clear", "()V"⟩, 1, none, 6),
  (⟨"HillLeavers", "fault", "(I)I"⟩, 2, some (Jvm.ClassFile.FieldType.int), 0),
  (⟨"HillLeavers", "man", "(II)I"⟩, 4, some (Jvm.ClassFile.FieldType.int), 0),
  (⟨"HillLeavers", "isMan", "(I)Z"⟩, 2, some (Jvm.ClassFile.FieldType.boolean), 0),
  (⟨"HillLeavers$State", "isOut", "(I)Z"⟩, 2, some (Jvm.ClassFile.FieldType.boolean), 7),
  (⟨"HillLeavers$Town", "goesBack", "(LHillLeavers$State;I)Z"⟩, 6, some (Jvm.ClassFile.FieldType.boolean), 9),
  (⟨"HillLeavers$Formula", "isTold", "()Z"⟩, 1, some (Jvm.ClassFile.FieldType.boolean), 2),
  (⟨"HillLeavers$Town", "shortBy", "(I)I"⟩, 2, some (Jvm.ClassFile.FieldType.int), 9),
  (⟨"HillLeavers$Formula", "valueOf", "(IIIIII)I"⟩, 10, some (Jvm.ClassFile.FieldType.int), 2),
  (⟨"HillLeavers$Formula", "push", "(I)V"⟩, 2, none, 2),
  (⟨"HillLeavers$Formula", "pop", "()I"⟩, 1, some (Jvm.ClassFile.FieldType.int), 2),
  (⟨"HillLeavers$Formula", "joined", "(III)I"⟩, 3, some (Jvm.ClassFile.FieldType.int), 2),
  (⟨"HillLeavers", "craft", "(II)I"⟩, 3, some (Jvm.ClassFile.FieldType.int), 0),
  (⟨"HillLeavers", "isCraft", "(I)Z"⟩, 2, some (Jvm.ClassFile.FieldType.boolean), 0),
  (⟨"HillLeavers", "demand", "(II)I"⟩, 4, some (Jvm.ClassFile.FieldType.int), 0),
  (⟨"HillLeavers", "isDemand", "(I)Z"⟩, 2, some (Jvm.ClassFile.FieldType.boolean), 0),
  (⟨"HillLeavers$Town", "canKeep", "(I)Z"⟩, 2, some (Jvm.ClassFile.FieldType.boolean), 9),
  (⟨"HillLeavers$Town", "everyone", "()I"⟩, 1, some (Jvm.ClassFile.FieldType.int), 9),
  (⟨"HillLeavers$Town", "lossBy", "(I)I"⟩, 2, some (Jvm.ClassFile.FieldType.int), 9),
  (⟨"HillLeavers", "out", "()I"⟩, 1, some (Jvm.ClassFile.FieldType.int), 0),
  (⟨"HillLeavers", "loss", "(I)I"⟩, 2, some (Jvm.ClassFile.FieldType.int), 0),
  (⟨"HillLeavers", "broken", "()I"⟩, 3, some (Jvm.ClassFile.FieldType.int), 0),
  (⟨"HillLeavers", "longest", "()I"⟩, 4, some (Jvm.ClassFile.FieldType.int), 0),
  (⟨"HillLeavers", "hands", "(II)I"⟩, 3, some (Jvm.ClassFile.FieldType.int), 0),
  (⟨"HillLeavers", "isAhead", "(I)Z"⟩, 1, some (Jvm.ClassFile.FieldType.boolean), 0),
  (⟨"HillLeavers$Outlook", "look", "(LHillLeavers$Town;LHillLeavers$State;I)V"⟩, 6, none, 3),
  (⟨"HillLeavers$State", "copy", "(LHillLeavers$State;)V"⟩, 3, none, 7),
  (⟨"HillLeavers$Outlook", "note", "(II)V"⟩, 4, none, 3),
  (⟨"HillLeavers$Town", "passDay", "(LHillLeavers$State;)I"⟩, 3, some (Jvm.ClassFile.FieldType.int), 9),
  (⟨"HillLeavers$Town", "followersOf", "(I)I"⟩, 5, some (Jvm.ClassFile.FieldType.int), 9),
  (⟨"HillLeavers$State", "walkOut", "(I)V"⟩, 3, none, 7),
  (⟨"HillLeavers$Town", "eat", "(LHillLeavers$State;)V"⟩, 3, none, 9),
  (⟨"HillLeavers$Town", "foeOdds", "(I)I"⟩, 2, some (Jvm.ClassFile.FieldType.int), 9),
  (⟨"HillLeavers$Town", "endDay", "(LHillLeavers$State;)V"⟩, 4, none, 9),
  (⟨"HillLeavers$State", "goHome", "(I)V"⟩, 2, none, 7),
  (⟨"HillLeavers$Outlook", "outBehind", "(I)I"⟩, 2, some (Jvm.ClassFile.FieldType.int), 3),
  (⟨"HillLeavers", "about", "(I)I"⟩, 2, some (Jvm.ClassFile.FieldType.int), 0),
  (⟨"HillLeavers", "leave", "(I)I"⟩, 2, some (Jvm.ClassFile.FieldType.int), 0),
  (⟨"HillLeavers$Acts", "keep", "(LHillLeavers$State;)V"⟩, 2, none, 1),
  (⟨"HillLeavers$Acts", "here", "()LHillLeavers$State;"⟩, 1, some ((Jvm.ClassFile.FieldType.object "HillLeavers$State")), 1),
  (⟨"java/lang/Math", "floorMod", "(II)I"⟩, 3, some (Jvm.ClassFile.FieldType.int), 15),
  (⟨"HillLeavers", "home", "(I)I"⟩, 3, some (Jvm.ClassFile.FieldType.int), 0),
  (⟨"HillLeavers", "give", "(II)I"⟩, 3, some (Jvm.ClassFile.FieldType.int), 0),
  (⟨"HillLeavers$State", "getLoaves", "(II)V"⟩, 3, none, 7),
  (⟨"HillLeavers", "grant", "(I)I"⟩, 2, some (Jvm.ClassFile.FieldType.int), 0),
  (⟨"HillLeavers", "day", "()I"⟩, 1, some (Jvm.ClassFile.FieldType.int), 0),
  (⟨"HillLeavers", "undo", "()Z"⟩, 1, some (Jvm.ClassFile.FieldType.boolean), 0),
  (⟨"HillLeavers$Acts", "takeBack", "(LHillLeavers$State;)Z"⟩, 2, some (Jvm.ClassFile.FieldType.boolean), 1),
  (⟨"HillLeavers", "redo", "()Z"⟩, 1, some (Jvm.ClassFile.FieldType.boolean), 0),
  (⟨"HillLeavers$Acts", "doAgain", "(LHillLeavers$State;)Z"⟩, 2, some (Jvm.ClassFile.FieldType.boolean), 1),
  (⟨"HillLeavers", "spread", "(I)I"⟩, 2, some (Jvm.ClassFile.FieldType.int), 0),
  (⟨"HillLeavers", "isSetOfMen", "(I)Z"⟩, 2, some (Jvm.ClassFile.FieldType.boolean), 0),
  (⟨"HillLeavers$Town", "spreadOf", "(I)I"⟩, 4, some (Jvm.ClassFile.FieldType.int), 9),
  (⟨"HillLeavers", "spark", "(I)I"⟩, 4, some (Jvm.ClassFile.FieldType.int), 0),
  (⟨"HillLeavers$Pick", "clear", "()V"⟩, 1, none, 4),
  (⟨"HillLeavers", "inCity", "()I"⟩, 1, some (Jvm.ClassFile.FieldType.int), 0),
  (⟨"HillLeavers$Pick", "take", "(III)V"⟩, 4, none, 4),
  (⟨"HillLeavers$Pick", "wants", "(II)Z"⟩, 3, some (Jvm.ClassFile.FieldType.boolean), 4),
  (⟨"HillLeavers", "stop", "(II)I"⟩, 6, some (Jvm.ClassFile.FieldType.int), 0),
  (⟨"HillLeavers", "pillars", "()I"⟩, 5, some (Jvm.ClassFile.FieldType.int), 0),
  (⟨"HillLeavers", "idle", "()I"⟩, 6, some (Jvm.ClassFile.FieldType.int), 0),
  (⟨"HillLeavers", "dearest", "()I"⟩, 6, some (Jvm.ClassFile.FieldType.int), 0),
  (⟨"HillLeavers", "twins", "()I"⟩, 4, some (Jvm.ClassFile.FieldType.int), 0),
  (⟨"HillLeavers", "press", "(II)I"⟩, 6, some (Jvm.ClassFile.FieldType.int), 0),
  (⟨"HillLeavers", "pays", "(I)I"⟩, 4, some (Jvm.ClassFile.FieldType.int), 0),
  (⟨"HillLeavers", "weight", "(II)I"⟩, 4, some (Jvm.ClassFile.FieldType.int), 0),
  (⟨"HillLeavers", "sumOverOrders", "(I)I"⟩, 8, some (Jvm.ClassFile.FieldType.int), 0),
  (⟨"HillLeavers", "inLowestTerms", "(III)I"⟩, 4, some (Jvm.ClassFile.FieldType.int), 0),
  (⟨"HillLeavers", "commonDivisor", "(II)I"⟩, 6, some (Jvm.ClassFile.FieldType.int), 0),
  (⟨"HillLeavers", "stock", "()I"⟩, 4, some (Jvm.ClassFile.FieldType.int), 0),
  (⟨"HillLeavers", "hungry", "(I)I"⟩, 2, some (Jvm.ClassFile.FieldType.int), 0),
  (⟨"HillLeavers$Outlook", "hungryBehind", "(I)I"⟩, 2, some (Jvm.ClassFile.FieldType.int), 3),
  (⟨"HillLeavers", "feeds", "(II)I"⟩, 4, some (Jvm.ClassFile.FieldType.int), 0),
  (⟨"HillLeavers", "isCountOfDays", "(I)Z"⟩, 1, some (Jvm.ClassFile.FieldType.boolean), 0),
  (⟨"HillLeavers", "staysOut", "(III)Z"⟩, 5, some (Jvm.ClassFile.FieldType.boolean), 0),
  (⟨"HillLeavers", "will", "(I)I"⟩, 2, some (Jvm.ClassFile.FieldType.int), 0),
  (⟨"HillLeavers", "lasts", "()I"⟩, 1, some (Jvm.ClassFile.FieldType.int), 0),
  (⟨"HillLeavers$Outlook", "emptyBehind", "()I"⟩, 2, some (Jvm.ClassFile.FieldType.int), 3),
  (⟨"HillLeavers", "costs", "(I)I"⟩, 2, some (Jvm.ClassFile.FieldType.int), 0),
  (⟨"HillLeavers$Outlook", "lostBetween", "(II)I"⟩, 3, some (Jvm.ClassFile.FieldType.int), 3),
  (⟨"HillLeavers", "ever", "(I)I"⟩, 4, some (Jvm.ClassFile.FieldType.int), 0),
  (⟨"HillLeavers", "returns", "(I)I"⟩, 3, some (Jvm.ClassFile.FieldType.int), 0),
  (⟨"HillLeavers", "weakest", "()I"⟩, 4, some (Jvm.ClassFile.FieldType.int), 0),
  (⟨"HillLeavers", "plan", "(II)I"⟩, 6, some (Jvm.ClassFile.FieldType.int), 0),
  (⟨"HillLeavers", "lostIfLeft", "(II)I"⟩, 5, some (Jvm.ClassFile.FieldType.int), 0),
  (⟨"HillLeavers", "bribe", "(II)I"⟩, 5, some (Jvm.ClassFile.FieldType.int), 0),
  (⟨"HillLeavers", "endsIfHome", "(II)Z"⟩, 4, some (Jvm.ClassFile.FieldType.boolean), 0),
  (⟨"HillLeavers", "offer", "(II)I"⟩, 3, some (Jvm.ClassFile.FieldType.int), 0),
  (⟨"HillLeavers$Outlook", "lostFrom", "(I)I"⟩, 3, some (Jvm.ClassFile.FieldType.int), 3),
  (⟨"HillLeavers", "pickOffer", "(I)V"⟩, 5, none, 0),
  (⟨"HillLeavers", "until", "(I)I"⟩, 3, some (Jvm.ClassFile.FieldType.int), 0),
  (⟨"HillLeavers", "odds", "(II)I"⟩, 7, some (Jvm.ClassFile.FieldType.int), 0),
  (⟨"HillLeavers", "seen", "(IZ)I"⟩, 3, some (Jvm.ClassFile.FieldType.int), 0),
  (⟨"HillLeavers$Sights", "tell", "(IIZ)I"⟩, 4, some (Jvm.ClassFile.FieldType.int), 6),
  (⟨"HillLeavers", "lacked", "(IZ)I"⟩, 3, some (Jvm.ClassFile.FieldType.int), 0),
  (⟨"HillLeavers", "counted", "(IZ)I"⟩, 3, some (Jvm.ClassFile.FieldType.int), 0),
  (⟨"HillLeavers", "untell", "(I)Z"⟩, 2, some (Jvm.ClassFile.FieldType.boolean), 0),
  (⟨"HillLeavers$Sights", "takeBack", "(I)Z"⟩, 2, some (Jvm.ClassFile.FieldType.boolean), 6),
  (⟨"HillLeavers", "later", "(I)I"⟩, 2, some (Jvm.ClassFile.FieldType.int), 0),
  (⟨"HillLeavers", "fits", "(I)I"⟩, 2, some (Jvm.ClassFile.FieldType.int), 0),
  (⟨"HillLeavers$Sights", "countFits", "(LHillLeavers$Town;I)V"⟩, 5, none, 6),
  (⟨"HillLeavers$Sights", "canHaveBeen", "(LHillLeavers$Town;II)Z"⟩, 6, some (Jvm.ClassFile.FieldType.boolean), 6),
  (⟨"HillLeavers$Sights", "holds", "(LHillLeavers$Town;II)Z"⟩, 4, some (Jvm.ClassFile.FieldType.boolean), 6),
  (⟨"HillLeavers", "sure", "(II)I"⟩, 3, some (Jvm.ClassFile.FieldType.int), 0),
  (⟨"HillLeavers", "ask", "(II)I"⟩, 5, some (Jvm.ClassFile.FieldType.int), 0),
  (⟨"HillLeavers", "image", "(I)I"⟩, 2, some (Jvm.ClassFile.FieldType.int), 0),
  (⟨"HillLeavers", "back", "(I)I"⟩, 2, some (Jvm.ClassFile.FieldType.int), 0),
  (⟨"HillLeaversModel", "<init>", "()V"⟩, 1, none, 10),
  (⟨"HillLeaversModel", "clearBank", "()V"⟩, 1, none, 10),
  (⟨"HillLeaversModel", "startAnew", "()V"⟩, 2, none, 10),
  (⟨"HillLeaversModel", "many", "()I"⟩, 1, some (Jvm.ClassFile.FieldType.int), 10),
  (⟨"HillLeaversModel", "city", "()I"⟩, 2, some (Jvm.ClassFile.FieldType.int), 10),
  (⟨"HillLeaversModel", "goOn", "()V"⟩, 3, none, 10),
  (⟨"HillLeaversModel", "sign", "(I)I"⟩, 2, some (Jvm.ClassFile.FieldType.int), 10),
  (⟨"HillLeaversModel", "isLetter", "(I)Z"⟩, 1, some (Jvm.ClassFile.FieldType.boolean), 10),
  (⟨"HillLeaversModel", "isKept", "(J)Z"⟩, 3, some (Jvm.ClassFile.FieldType.boolean), 10),
  (⟨"HillLeaversModel", "isDigit", "(I)Z"⟩, 1, some (Jvm.ClassFile.FieldType.boolean), 10),
  (⟨"HillLeaversModel", "isSign", "(I)Z"⟩, 1, some (Jvm.ClassFile.FieldType.boolean), 10),
  (⟨"HillLeaversModel", "isGood", "()Z"⟩, 1, some (Jvm.ClassFile.FieldType.boolean), 10),
  (⟨"HillLeaversModel", "readLine", "()V"⟩, 3, none, 10),
  (⟨"HillLeaversModel", "isFull", "()Z"⟩, 1, some (Jvm.ClassFile.FieldType.boolean), 10),
  (⟨"HillLeaversModel", "isWord", "(J)Z"⟩, 3, some (Jvm.ClassFile.FieldType.boolean), 10),
  (⟨"HillLeaversModel", "misplaced", "()V"⟩, 1, none, 10),
  (⟨"HillLeaversModel", "fails", "(II)V"⟩, 3, none, 10),
  (⟨"HillLeaversModel", "readCraft", "()V"⟩, 2, none, 10),
  (⟨"HillLeaversModel", "craftHere", "()I"⟩, 1, some (Jvm.ClassFile.FieldType.int), 10),
  (⟨"HillLeaversModel", "here", "([JII)I"⟩, 5, some (Jvm.ClassFile.FieldType.int), 10),
  (⟨"HillLeaversModel", "fresh", "(I)J"⟩, 4, some (Jvm.ClassFile.FieldType.long), 10),
  (⟨"HillLeaversModel", "after", "(JII)I"⟩, 5, some (Jvm.ClassFile.FieldType.int), 10),
  (⟨"HillLeaversModel", "must", "(Z)V"⟩, 2, none, 10),
  (⟨"HillLeaversModel", "numeral", "(II)I"⟩, 4, some (Jvm.ClassFile.FieldType.int), 10),
  (⟨"HillLeaversModel", "readMan", "()V"⟩, 4, none, 10),
  (⟨"HillLeaversModel", "known", "(I)I"⟩, 2, some (Jvm.ClassFile.FieldType.int), 10),
  (⟨"HillLeaversModel", "readDemand", "()V"⟩, 2, none, 10),
  (⟨"HillLeaversModel", "readRule", "(I)V"⟩, 2, none, 10),
  (⟨"HillLeaversModel", "e", "()V"⟩, 2, none, 10),
  (⟨"HillLeaversModel", "pushE", "(II)V"⟩, 3, none, 10),
  (⟨"HillLeaversModel", "unit", "()Z"⟩, 7, some (Jvm.ClassFile.FieldType.boolean), 10),
  (⟨"HillLeaversModel", "isSignHere", "(I)Z"⟩, 2, some (Jvm.ClassFile.FieldType.boolean), 10),
  (⟨"HillLeaversModel", "wordHere", "()I"⟩, 1, some (Jvm.ClassFile.FieldType.int), 10),
  (⟨"HillLeaversModel", "emit", "(II)V"⟩, 3, none, 10),
  (⟨"HillLeaversModel", "behindUnit", "()Z"⟩, 2, some (Jvm.ClassFile.FieldType.boolean), 10),
  (⟨"HillLeaversModel", "rankHere", "()I"⟩, 1, some (Jvm.ClassFile.FieldType.int), 10),
  (⟨"HillLeaversModel", "isCompared", "()Z"⟩, 2, some (Jvm.ClassFile.FieldType.boolean), 10),
  (⟨"HillLeaversModel", "fault", "(I)I"⟩, 2, some (Jvm.ClassFile.FieldType.int), 10),
  (⟨"HillLeaversModel", "man", "(II)I"⟩, 3, some (Jvm.ClassFile.FieldType.int), 10),
  (⟨"HillLeaversModel", "isMan", "(I)Z"⟩, 2, some (Jvm.ClassFile.FieldType.boolean), 10),
  (⟨"HillLeaversModel", "isIn", "(III)Z"⟩, 3, some (Jvm.ClassFile.FieldType.boolean), 10),
  (⟨"HillLeaversModel", "has", "(II)Z"⟩, 2, some (Jvm.ClassFile.FieldType.boolean), 10),
  (⟨"HillLeaversModel", "doesGoBack", "(I)Z"⟩, 2, some (Jvm.ClassFile.FieldType.boolean), 10),
  (⟨"HillLeaversModel", "goneFor", "(I)I"⟩, 2, some (Jvm.ClassFile.FieldType.int), 10),
  (⟨"HillLeaversModel", "bitsOf", "(I)I"⟩, 3, some (Jvm.ClassFile.FieldType.int), 10),
  (⟨"HillLeaversModel", "comes", "()I"⟩, 4, some (Jvm.ClassFile.FieldType.int), 10),
  (⟨"HillLeaversModel", "asked", "(II)I"⟩, 3, some (Jvm.ClassFile.FieldType.int), 10),
  (⟨"HillLeaversModel", "shortBy", "(I)I"⟩, 4, some (Jvm.ClassFile.FieldType.int), 10),
  (⟨"HillLeaversModel", "menOf", "(I)I"⟩, 4, some (Jvm.ClassFile.FieldType.int), 10),
  (⟨"HillLeaversModel", "two", "(III)I"⟩, 3, some (Jvm.ClassFile.FieldType.int), 10),
  (⟨"HillLeaversModel", "craft", "(II)I"⟩, 3, some (Jvm.ClassFile.FieldType.int), 10),
  (⟨"HillLeaversModel", "isCraft", "(I)Z"⟩, 2, some (Jvm.ClassFile.FieldType.boolean), 10),
  (⟨"HillLeaversModel", "demand", "(II)I"⟩, 3, some (Jvm.ClassFile.FieldType.int), 10),
  (⟨"HillLeaversModel", "isDemand", "(I)Z"⟩, 2, some (Jvm.ClassFile.FieldType.boolean), 10),
  (⟨"HillLeaversModel", "isKeptOne", "(I)Z"⟩, 2, some (Jvm.ClassFile.FieldType.boolean), 10),
  (⟨"HillLeaversModel", "everybody", "()I"⟩, 1, some (Jvm.ClassFile.FieldType.int), 10),
  (⟨"HillLeaversModel", "lossBy", "(I)I"⟩, 5, some (Jvm.ClassFile.FieldType.int), 10),
  (⟨"HillLeaversModel", "out", "()I"⟩, 1, some (Jvm.ClassFile.FieldType.int), 10),
  (⟨"HillLeaversModel", "loss", "(I)I"⟩, 2, some (Jvm.ClassFile.FieldType.int), 10),
  (⟨"HillLeaversModel", "broken", "()I"⟩, 3, some (Jvm.ClassFile.FieldType.int), 10),
  (⟨"HillLeaversModel", "longest", "()I"⟩, 3, some (Jvm.ClassFile.FieldType.int), 10),
  (⟨"HillLeaversModel", "pillars", "()I"⟩, 3, some (Jvm.ClassFile.FieldType.int), 10),
  (⟨"HillLeaversModel", "idle", "()I"⟩, 3, some (Jvm.ClassFile.FieldType.int), 10),
  (⟨"HillLeaversModel", "dearest", "()I"⟩, 3, some (Jvm.ClassFile.FieldType.int), 10),
  (⟨"HillLeaversModel", "twins", "()I"⟩, 5, some (Jvm.ClassFile.FieldType.int), 10),
  (⟨"HillLeaversModel", "stock", "()I"⟩, 3, some (Jvm.ClassFile.FieldType.int), 10),
  (⟨"HillLeaversModel", "leave", "(I)I"⟩, 2, some (Jvm.ClassFile.FieldType.int), 10),
  (⟨"HillLeaversModel", "keepAct", "()V"⟩, 2, none, 10),
  (⟨"HillLeaversModel", "home", "(I)I"⟩, 3, some (Jvm.ClassFile.FieldType.int), 10),
  (⟨"HillLeaversModel", "goHome", "(I)V"⟩, 3, none, 10),
  (⟨"HillLeaversModel", "give", "(II)I"⟩, 3, some (Jvm.ClassFile.FieldType.int), 10),
  (⟨"HillLeaversModel", "lesser", "(II)I"⟩, 2, some (Jvm.ClassFile.FieldType.int), 10),
  (⟨"HillLeaversModel", "grant", "(I)I"⟩, 2, some (Jvm.ClassFile.FieldType.int), 10),
  (⟨"HillLeaversModel", "day", "()I"⟩, 2, some (Jvm.ClassFile.FieldType.int), 10),
  (⟨"HillLeaversModel", "goDay", "()V"⟩, 3, none, 10),
  (⟨"HillLeaversModel", "followers", "(I)I"⟩, 4, some (Jvm.ClassFile.FieldType.int), 10),
  (⟨"HillLeaversModel", "odd", "()I"⟩, 1, some (Jvm.ClassFile.FieldType.int), 10),
  (⟨"HillLeaversModel", "undo", "()Z"⟩, 1, some (Jvm.ClassFile.FieldType.boolean), 10),
  (⟨"HillLeaversModel", "exchange", "()V"⟩, 3, none, 10),
  (⟨"HillLeaversModel", "redo", "()Z"⟩, 1, some (Jvm.ClassFile.FieldType.boolean), 10),
  (⟨"HillLeaversModel", "spread", "(I)I"⟩, 2, some (Jvm.ClassFile.FieldType.int), 10),
  (⟨"HillLeaversModel", "isSet", "(I)Z"⟩, 2, some (Jvm.ClassFile.FieldType.boolean), 10),
  (⟨"HillLeaversModel", "spreadOf", "(I)I"⟩, 3, some (Jvm.ClassFile.FieldType.int), 10),
  (⟨"HillLeaversModel", "spark", "(I)I"⟩, 4, some (Jvm.ClassFile.FieldType.int), 10),
  (⟨"HillLeaversModel", "stop", "(II)I"⟩, 5, some (Jvm.ClassFile.FieldType.int), 10),
  (⟨"HillLeaversModel", "will", "(I)I"⟩, 3, some (Jvm.ClassFile.FieldType.int), 10),
  (⟨"HillLeaversModel", "isAhead", "(I)Z"⟩, 1, some (Jvm.ClassFile.FieldType.boolean), 10),
  (⟨"HillLeaversModel", "goDays", "(I)V"⟩, 3, none, 10),
  (⟨"HillLeaversModel", "keepNow", "()V"⟩, 2, none, 10),
  (⟨"HillLeaversModel", "bringBack", "()V"⟩, 2, none, 10),
  (⟨"HillLeaversModel", "hands", "(II)I"⟩, 4, some (Jvm.ClassFile.FieldType.int), 10),
  (⟨"HillLeaversModel", "hungry", "(I)I"⟩, 4, some (Jvm.ClassFile.FieldType.int), 10),
  (⟨"HillLeaversModel", "lasts", "()I"⟩, 3, some (Jvm.ClassFile.FieldType.int), 10),
  (⟨"HillLeaversModel", "costs", "(I)I"⟩, 2, some (Jvm.ClassFile.FieldType.int), 10),
  (⟨"HillLeaversModel", "costsIn", "(I)I"⟩, 3, some (Jvm.ClassFile.FieldType.int), 10),
  (⟨"HillLeaversModel", "returns", "(I)I"⟩, 2, some (Jvm.ClassFile.FieldType.int), 10),
  (⟨"HillLeaversModel", "returnsOf", "(I)I"⟩, 4, some (Jvm.ClassFile.FieldType.int), 10),
  (⟨"HillLeaversModel", "weakest", "()I"⟩, 5, some (Jvm.ClassFile.FieldType.int), 10),
  (⟨"HillLeaversModel", "feeds", "(II)I"⟩, 6, some (Jvm.ClassFile.FieldType.int), 10),
  (⟨"HillLeaversModel", "plan", "(II)I"⟩, 8, some (Jvm.ClassFile.FieldType.int), 10),
  (⟨"HillLeaversModel", "bribe", "(II)I"⟩, 6, some (Jvm.ClassFile.FieldType.int), 10),
  (⟨"HillLeaversModel", "ever", "(I)I"⟩, 4, some (Jvm.ClassFile.FieldType.int), 10),
  (⟨"HillLeaversModel", "press", "(II)I"⟩, 7, some (Jvm.ClassFile.FieldType.int), 10),
  (⟨"HillLeaversModel", "pays", "(I)I"⟩, 4, some (Jvm.ClassFile.FieldType.int), 10),
  (⟨"HillLeaversModel", "offer", "(II)I"⟩, 3, some (Jvm.ClassFile.FieldType.int), 10),
  (⟨"HillLeaversModel", "layOffer", "(I)V"⟩, 7, none, 10),
  (⟨"HillLeaversModel", "sumOf", "([II)I"⟩, 5, some (Jvm.ClassFile.FieldType.int), 10),
  (⟨"HillLeaversModel", "until", "(I)I"⟩, 3, some (Jvm.ClassFile.FieldType.int), 10),
  (⟨"HillLeaversModel", "weight", "(II)I"⟩, 6, some (Jvm.ClassFile.FieldType.int), 10),
  (⟨"HillLeaversModel", "factorial", "(I)I"⟩, 3, some (Jvm.ClassFile.FieldType.int), 10),
  (⟨"HillLeaversModel", "divisor", "(II)I"⟩, 5, some (Jvm.ClassFile.FieldType.int), 10),
  (⟨"HillLeaversModel", "odds", "(II)I"⟩, 6, some (Jvm.ClassFile.FieldType.int), 10),
  (⟨"HillLeaversModel", "seen", "(IZ)I"⟩, 3, some (Jvm.ClassFile.FieldType.int), 10),
  (⟨"HillLeaversModel", "tell", "(IIZ)I"⟩, 4, some (Jvm.ClassFile.FieldType.int), 10),
  (⟨"HillLeaversModel", "lacked", "(IZ)I"⟩, 3, some (Jvm.ClassFile.FieldType.int), 10),
  (⟨"HillLeaversModel", "counted", "(IZ)I"⟩, 3, some (Jvm.ClassFile.FieldType.int), 10),
  (⟨"HillLeaversModel", "untell", "(I)Z"⟩, 2, some (Jvm.ClassFile.FieldType.boolean), 10),
  (⟨"HillLeaversModel", "later", "(I)I"⟩, 2, some (Jvm.ClassFile.FieldType.int), 10),
  (⟨"HillLeaversModel", "fits", "(I)I"⟩, 2, some (Jvm.ClassFile.FieldType.int), 10),
  (⟨"HillLeaversModel", "layFits", "(I)V"⟩, 4, none, 10),
  (⟨"HillLeaversModel", "doesFit", "(II)Z"⟩, 5, some (Jvm.ClassFile.FieldType.boolean), 10),
  (⟨"HillLeaversModel", "isSo", "(II)Z"⟩, 3, some (Jvm.ClassFile.FieldType.boolean), 10),
  (⟨"HillLeaversModel", "sure", "(II)I"⟩, 3, some (Jvm.ClassFile.FieldType.int), 10),
  (⟨"HillLeaversModel", "ask", "(II)I"⟩, 7, some (Jvm.ClassFile.FieldType.int), 10),
  (⟨"HillLeaversModel", "image", "(I)I"⟩, 3, some (Jvm.ClassFile.FieldType.int), 10),
  (⟨"HillLeaversModel", "back", "(I)I"⟩, 3, some (Jvm.ClassFile.FieldType.int), 10),
  (⟨"HillLeaversModel", "about", "(I)I"⟩, 2, some (Jvm.ClassFile.FieldType.int), 10),
  (⟨"HillLeaversModel", "feed", "(IIIII)I"⟩, 8, some (Jvm.ClassFile.FieldType.int), 10),
  (⟨"HillLeaversModel", "end", "(I)I"⟩, 2, some (Jvm.ClassFile.FieldType.int), 10),
  (⟨"HillLeaversLaw", "law", "([I)Z"⟩, 4, some .boolean, 11)]
/-- by class: index, (kind, callee, its arguments beside the receiver, the place of the link among the words) -/
def m_lnk : List (List (Nat × Nat × Nat × Nat × Nat)) := [
  [(1, 5, 1, 0, 1024), (9, 3, 2, 0, 1029), (18, 2, 3, 1, 1063), (27, 3, 4, 0, 1221), (34, 3, 6, 0, 1224), (44, 2, 7, 0, 2032), (59, 3, 8, 0, 2056), (66, 3, 9, 0, 2078), (73, 3, 10, 0, 2101), (82, 0, 12, 1, 2175), (86, 0, 15, 0, 2187), (90, 0, 76, 1, 3213), (94, 0, 77, 1, 3217), (98, 0, 78, 0, 3221), (101, 0, 79, 0, 3225), (111, 0, 82, 1, 3238), (115, 0, 83, 1, 4002), (134, 0, 84, 2, 4006), (138, 0, 92, 1, 4037), (147, 0, 73, 2, 4041), (151, 0, 86, 1, 4042), (161, 0, 94, 1, 4047), (173, 0, 95, 1, 4051), (176, 0, 97, 1, 4071), (179, 0, 96, 0, 4072), (183, 1, 103, 1, 4085), (186, 0, 104, 3, 4088), (190, 0, 114, 1, 4131), (232, 0, 117, 1, 4143), (236, 0, 109, 1, 4155), (239, 1, 74, 1, 4156), (244, 0, 113, 1, 4161), (247, 0, 122, 2, 4166), (251, 0, 107, 1, 4179), (255, 0, 126, 1, 4184), (259, 0, 128, 1, 4192), (262, 0, 130, 1, 4200), (265, 0, 131, 1, 4204), (268, 0, 133, 0, 4212), (269, 0, 134, 0, 4216), (272, 0, 135, 3, 4220), (290, 0, 145, 1, 5022), (293, 1, 146, 3, 5026), (367, 1, 147, 2, 5029), (297, 0, 150, 1, 5040), (300, 1, 152, 1, 5048), (303, 0, 153, 3, 5051), (329, 0, 105, 1, 5055), (307, 0, 156, 0, 5064), (310, 0, 158, 2, 5072), (313, 0, 163, 2, 5092), (316, 0, 136, 2, 5100), (320, 0, 165, 2, 5101), (323, 0, 167, 1, 5109), (326, 0, 168, 1, 5115), (363, 1, 75, 2, 5119), (332, 0, 108, 1, 5128), (335, 0, 111, 1, 5129), (338, 7, 32, 2, 5130), (343, 0, 172, 3, 5135), (347, 0, 176, 1, 5151), (350, 0, 179, 2, 5164), (360, 6, 31, 2, 5187)],
  [(3, 5, 1, 0, 2035), (17, 3, 6, 0, 2038), (25, 0, 118, 0, 4147), (36, 1, 119, 2, 4151), (29, 0, 105, 1, 4154)],
  [(3, 5, 1, 0, 1078), (28, 0, 88, 1, 4022), (32, 0, 89, 0, 4026), (36, 1, 90, 3, 4030)],
  [(3, 5, 1, 0, 2059), (11, 3, 6, 0, 2061), (28, 0, 105, 1, 4092), (32, 0, 106, 2, 4096), (45, 0, 83, 1, 4100), (36, 0, 107, 1, 4101), (52, 0, 156, 0, 5113), (56, 0, 158, 2, 5114)],
  [(1, 5, 1, 0, 2081), (23, 0, 136, 2, 4224)],
  [(3, 5, 1, 0, 1066), (11, 3, 4, 0, 1069), (36, 0, 16, 0, 2191), (52, 0, 18, 0, 2199), (62, 0, 46, 1, 3070), (66, 0, 53, 0, 3095), (104, 0, 54, 1, 3099), (81, 0, 19, 0, 3103), (118, 0, 55, 2, 3104), (145, 0, 56, 0, 3108), (185, 1, 57, 3, 3113), (90, 0, 58, 2, 3117), (137, 0, 59, 1, 3121), (71, 0, 60, 0, 3127), (141, 0, 61, 1, 3132), (76, 0, 62, 0, 3141), (84, 0, 63, 2, 3148), (199, 0, 64, 1, 3152), (192, 0, 65, 1, 3156), (233, 0, 66, 0, 3160), (108, 0, 67, 1, 3167), (214, 0, 68, 1, 3171), (204, 0, 69, 1, 3176), (207, 0, 70, 1, 3180), (225, 0, 71, 1, 3187), (112, 0, 72, 0, 3196)],
  [(3, 5, 1, 0, 2104), (41, 0, 96, 0, 5168), (47, 0, 180, 3, 5169), (51, 0, 181, 3, 5173), (54, 0, 86, 1, 5177), (58, 1, 74, 1, 5178)],
  [(3, 5, 1, 0, 1227), (48, 7, 32, 2, 4170)],
  [(3, 5, 1, 0, 1032), (22, 0, 19, 0, 2203), (25, 0, 20, 1, 2207), (35, 1, 21, 1, 2211), (43, 1, 22, 2, 2214), (47, 1, 23, 1, 2219), (55, 0, 24, 1, 2223), (60, 0, 27, 0, 3074), (63, 0, 47, 1, 3075)],
  [(3, 5, 1, 0, 1072), (41, 3, 5, 0, 1075), (65, 0, 17, 0, 2195), (77, 0, 73, 2, 3200), (85, 1, 74, 1, 3204), (81, 4, 75, 2, 3210), (112, 0, 85, 0, 4010), (91, 0, 86, 1, 4014), (119, 0, 87, 6, 4018), (94, 0, 96, 0, 4055), (98, 0, 97, 1, 4059), (101, 0, 108, 1, 4105), (123, 0, 109, 1, 4109), (127, 0, 110, 1, 4113), (144, 0, 83, 1, 4117), (134, 0, 111, 1, 4118), (141, 0, 112, 1, 4122), (148, 0, 84, 2, 4126), (152, 0, 113, 1, 4127)],
  [(1, 5, 1, 0, 5201), (143, 0, 187, 0, 5202), (146, 0, 188, 0, 5206), (363, 0, 189, 0, 5210), (241, 0, 191, 0, 6180), (205, 0, 192, 1, 6184), (212, 1, 193, 1, 6188), (220, 1, 194, 1, 6191), (224, 1, 195, 1, 6216), (230, 1, 196, 1, 6219), (237, 0, 197, 0, 6222), (270, 0, 198, 0, 6226), (273, 0, 199, 0, 6230), (247, 0, 200, 1, 6234), (244, 0, 201, 0, 6238), (233, 0, 202, 2, 7002), (276, 0, 203, 0, 7006), (300, 0, 204, 0, 7010), (296, 0, 205, 3, 7014), (304, 0, 206, 1, 7018), (289, 0, 207, 3, 7022), (250, 0, 208, 1, 7026), (254, 0, 209, 2, 7030), (279, 0, 210, 0, 7034), (308, 0, 211, 1, 7038), (282, 0, 212, 0, 7042), (285, 0, 213, 1, 7046), (314, 0, 214, 0, 7050), (323, 0, 215, 2, 7054), (326, 0, 216, 0, 7058), (293, 0, 217, 1, 7062), (332, 0, 218, 0, 7066), (335, 0, 219, 2, 7070), (329, 0, 220, 0, 7074), (338, 0, 221, 0, 7078), (341, 0, 222, 0, 7082), (410, 0, 225, 1, 7094), (366, 1, 226, 3, 7098), (370, 1, 227, 2, 7101), (404, 0, 228, 1, 7104), (347, 0, 229, 1, 7108), (353, 1, 230, 1, 7112), (377, 0, 231, 0, 7115), (356, 0, 232, 2, 7119), (350, 0, 233, 1, 7123), (374, 0, 234, 1, 7127), (359, 1, 235, 3, 7131), (413, 0, 237, 1, 7138), (419, 0, 239, 1, 7146), (422, 0, 240, 1, 7150), (416, 0, 241, 0, 7154), (395, 0, 242, 1, 7158), (425, 0, 253, 0, 7202), (407, 0, 255, 1, 7210), (389, 1, 257, 2, 7218), (428, 0, 260, 0, 7229), (392, 0, 261, 1, 7233), (398, 0, 262, 0, 7237), (431, 0, 264, 0, 8005), (434, 0, 267, 1, 8017), (437, 0, 268, 1, 8021), (443, 1, 272, 1, 8037), (446, 0, 273, 1, 8040), (440, 0, 274, 0, 8044), (449, 0, 275, 0, 8048), (452, 0, 280, 1, 8068), (455, 0, 282, 1, 8076), (471, 0, 291, 1, 8112), (461, 0, 292, 2, 8116), (474, 1, 295, 1, 8128), (477, 1, 296, 2, 8131), (483, 0, 299, 3, 8142), (497, 0, 305, 1, 8167), (494, 0, 306, 2, 8171), (488, 0, 307, 2, 8175)],
  [(9, 2, 0, 0, 1021), (13, 0, 11, 5, 2171), (18, 0, 13, 1, 2179), (23, 0, 14, 0, 2183), (28, 0, 80, 1, 3230), (32, 0, 81, 2, 3234), (37, 0, 91, 2, 4033), (41, 0, 93, 2, 4043), (45, 0, 98, 0, 4063), (49, 0, 99, 1, 4067), (53, 0, 100, 0, 4073), (57, 0, 101, 0, 4077), (61, 0, 102, 2, 4081), (232, 0, 115, 1, 4135), (65, 0, 116, 1, 4139), (69, 0, 120, 1, 4157), (73, 0, 121, 2, 4162), (77, 0, 123, 1, 4171), (81, 0, 124, 0, 4175), (85, 0, 125, 0, 4180), (90, 0, 127, 0, 4188), (94, 0, 129, 1, 4196), (98, 0, 132, 1, 4208), (102, 0, 137, 2, 4228), (106, 0, 138, 0, 4232), (110, 0, 139, 0, 4236), (114, 0, 140, 0, 5000), (118, 0, 141, 0, 5004), (146, 0, 142, 2, 5008), (150, 0, 143, 1, 5012), (154, 0, 144, 2, 5016), (122, 0, 148, 0, 5032), (126, 0, 149, 1, 5036), (182, 0, 151, 2, 5044), (158, 0, 154, 1, 5056), (162, 0, 155, 0, 5060), (166, 0, 157, 1, 5068), (142, 0, 159, 1, 5076), (130, 0, 160, 1, 5080), (170, 0, 161, 0, 5084), (134, 0, 162, 2, 5088), (138, 0, 164, 2, 5096), (174, 0, 166, 2, 5105), (178, 0, 169, 1, 5120), (186, 0, 170, 2, 5124), (190, 0, 171, 2, 5131), (195, 0, 173, 2, 5139), (199, 0, 174, 2, 5143), (203, 0, 175, 1, 5147), (208, 0, 177, 1, 5155), (212, 0, 178, 1, 5160), (216, 0, 182, 2, 5179), (220, 0, 183, 2, 5183), (224, 0, 184, 1, 5188), (228, 0, 185, 1, 5192), (12, 2, 186, 0, 5198), (27, 0, 190, 0, 6176), (31, 0, 223, 1, 7086), (36, 0, 224, 2, 7090), (40, 0, 236, 2, 7134), (44, 0, 238, 2, 7142), (48, 0, 243, 0, 7162), (52, 0, 244, 1, 7166), (56, 0, 245, 0, 7170), (60, 0, 246, 0, 7174), (109, 0, 247, 0, 7178), (113, 0, 248, 0, 7182), (117, 0, 249, 0, 7186), (121, 0, 250, 0, 7190), (125, 0, 251, 0, 7194), (68, 0, 252, 1, 7198), (72, 0, 254, 1, 7206), (76, 0, 256, 2, 7214), (80, 0, 258, 1, 7221), (84, 0, 259, 0, 7225), (89, 0, 263, 0, 8001), (93, 0, 265, 0, 8009), (97, 0, 266, 1, 8013), (101, 0, 269, 1, 8025), (105, 0, 270, 2, 8029), (161, 0, 271, 1, 8033), (64, 0, 276, 2, 8052), (129, 0, 277, 1, 8056), (165, 0, 278, 0, 8060), (169, 0, 279, 1, 8064), (133, 0, 281, 1, 8072), (173, 0, 283, 0, 8080), (185, 0, 284, 2, 8084), (137, 0, 285, 2, 8088), (141, 0, 286, 2, 8092), (145, 0, 287, 1, 8096), (149, 0, 288, 2, 8100), (153, 0, 289, 1, 8104), (177, 0, 290, 2, 8108), (181, 0, 293, 1, 8120), (157, 0, 294, 2, 8124), (189, 0, 297, 2, 8134), (194, 0, 298, 2, 8138), (198, 0, 300, 2, 8146), (202, 0, 301, 2, 8150), (207, 0, 302, 1, 8154), (211, 0, 303, 1, 8158), (215, 0, 304, 1, 8163), (219, 0, 308, 2, 8179), (223, 0, 309, 2, 8183), (227, 0, 310, 1, 8187), (231, 0, 311, 1, 8191), (235, 0, 312, 1, 8195), (17, 0, 313, 5, 8199), (22, 0, 314, 1, 8203)],
  [],
  [],
  [],
  [],
  [(633, 0, 25, 2, 2227), (492, 0, 26, 0, 2231), (505, 0, 27, 0, 2237), (335, 0, 28, 0, 3001), (637, 1, 29, 4, 3005), (640, 1, 34, 4, 3020), (1062, 1, 39, 4, 3040), (495, 1, 48, 2, 3079), (1059, 1, 50, 3, 3085), (498, 1, 51, 2, 3088)],
  [(88, 1, 30, 1, 3008), (92, 6, 31, 2, 3011), (38, 7, 32, 2, 3014), (95, 1, 33, 4, 3017), (9, 1, 49, 2, 3082)],
  [(224, 6, 31, 2, 3023), (183, 7, 32, 2, 3024), (228, 1, 35, 4, 3026), (96, 1, 36, 3, 3029), (48, 1, 37, 1, 3032), (241, 1, 38, 3, 3035), (244, 1, 40, 4, 3043), (71, 1, 41, 2, 3046), (232, 1, 42, 4, 3055), (164, 1, 43, 1, 3058), (157, 1, 44, 1, 3061), (161, 1, 45, 1, 3065), (67, 1, 52, 2, 3091), (414, 1, 49, 2, 3094)],
  []]
/-- by class: index, (class, place, sort of the field, the word) -/
def m_fld : List (List (Nat × Nat × Nat × Nat × Nat)) := [
  [(78, 8, 1, 0, 1034), (227, 2, 2, 0, 1082), (193, 9, 0, 0, 1099), (141, 9, 1, 2, 1102), (155, 9, 2, 2, 1105), (158, 9, 3, 2, 1107), (102, 9, 4, 0, 1109), (131, 9, 5, 2, 1113), (125, 9, 7, 2, 1119), (128, 9, 8, 2, 1122), (196, 9, 10, 0, 1128), (167, 9, 11, 2, 1131), (170, 9, 12, 2, 1134), (223, 9, 13, 2, 1137), (105, 5, 2, 0, 1189), (108, 5, 3, 0, 1191), (144, 7, 0, 0, 1230), (122, 7, 1, 2, 1233), (118, 7, 2, 2, 1237), (205, 7, 3, 0, 2001), (208, 7, 4, 0, 2004), (164, 7, 5, 0, 2006), (199, 7, 6, 0, 2008), (202, 7, 7, 0, 2012), (211, 1, 2, 0, 2042), (214, 1, 3, 0, 2044), (281, 4, 0, 3, 2083), (285, 4, 1, 0, 2085), (276, 4, 2, 0, 2087), (278, 4, 3, 0, 2089), (217, 6, 5, 0, 2111), (220, 6, 6, 0, 2113), (354, 6, 7, 0, 2115), (357, 6, 8, 2, 2117), (10, 0, 0, 2, 2137), (21, 0, 1, 2, 2138), (28, 0, 2, 2, 2139), (35, 0, 3, 2, 2140), (39, 0, 4, 2, 2141), (45, 0, 5, 2, 2142), (49, 0, 6, 2, 2143), (53, 0, 7, 2, 2144), (60, 0, 8, 2, 2145), (67, 0, 9, 2, 2146), (74, 0, 10, 2, 2147)],
  [(11, 1, 0, 2, 2039), (33, 1, 1, 0, 2040), (18, 1, 2, 0, 2041), (22, 1, 3, 0, 2043)],
  [(9, 2, 0, 2, 1079), (18, 2, 1, 0, 1080), (22, 2, 2, 0, 1081), (15, 2, 3, 2, 1084), (25, 2, 4, 0, 1085)],
  [(42, 7, 0, 0, 1229), (49, 7, 2, 2, 1236), (12, 3, 0, 2, 2062), (18, 3, 1, 2, 2063), (22, 3, 2, 2, 2064), (25, 3, 3, 2, 2065)],
  [(7, 4, 0, 3, 2082), (13, 4, 1, 0, 2084), (17, 4, 2, 0, 2086), (20, 4, 3, 0, 2088)],
  [(57, 8, 2, 0, 1036), (196, 8, 3, 0, 1039), (181, 8, 5, 1, 1042), (189, 8, 6, 0, 1044), (237, 2, 2, 0, 1083), (115, 9, 0, 0, 1098), (122, 9, 1, 2, 1101), (127, 9, 2, 2, 1104), (132, 9, 4, 0, 1110), (149, 9, 5, 2, 1112), (152, 9, 6, 2, 1116), (157, 9, 7, 2, 1118), (161, 9, 8, 2, 1121), (167, 9, 9, 0, 1125), (170, 9, 10, 0, 1127), (173, 9, 11, 2, 1130), (177, 9, 12, 2, 1133), (210, 9, 13, 2, 1136), (94, 9, 14, 0, 1139), (98, 9, 15, 0, 1141), (102, 9, 16, 0, 1144), (32, 5, 0, 2, 1186), (12, 5, 1, 2, 1187), (39, 5, 2, 0, 1188), (18, 5, 3, 0, 1190), (22, 5, 4, 2, 1192), (26, 5, 5, 2, 1193), (29, 5, 6, 2, 1194), (42, 5, 7, 3, 1195), (46, 5, 8, 3, 1196), (49, 5, 9, 3, 1197)],
  [(9, 6, 0, 2, 2105), (15, 6, 1, 2, 2106), (18, 6, 2, 2, 2107), (22, 6, 3, 2, 2108), (25, 6, 4, 2, 2109), (31, 6, 5, 0, 2110), (35, 6, 6, 0, 2112), (38, 6, 7, 0, 2114), (28, 6, 8, 2, 2116)],
  [(27, 9, 6, 2, 1115), (18, 9, 9, 0, 1123), (42, 9, 16, 0, 1143), (24, 7, 0, 0, 1228), (9, 7, 1, 2, 1232), (15, 7, 2, 2, 1235), (30, 7, 3, 0, 1239), (33, 7, 4, 0, 2002), (36, 7, 5, 0, 2005), (39, 7, 6, 0, 2007), (45, 7, 7, 0, 2010)],
  [(9, 8, 0, 2, 1033), (15, 8, 1, 0, 1035), (32, 8, 2, 0, 1037), (29, 8, 3, 0, 1038), (19, 8, 4, 0, 1040), (39, 8, 5, 1, 1041), (50, 8, 6, 0, 1043)],
  [(52, 9, 0, 0, 1097), (9, 9, 1, 2, 1100), (15, 9, 2, 2, 1103), (18, 9, 3, 2, 1106), (56, 9, 4, 0, 1108), (21, 9, 5, 2, 1111), (24, 9, 6, 2, 1114), (27, 9, 7, 2, 1117), (30, 9, 8, 2, 1120), (59, 9, 9, 0, 1124), (62, 9, 10, 0, 1126), (33, 9, 11, 2, 1129), (36, 9, 12, 2, 1132), (42, 9, 13, 2, 1135), (68, 9, 14, 0, 1138), (71, 9, 15, 0, 1140), (74, 9, 16, 0, 1142), (46, 9, 17, 2, 1145), (49, 9, 18, 2, 1146), (104, 7, 0, 0, 1231), (116, 7, 1, 2, 1234), (109, 7, 2, 2, 1238), (138, 7, 3, 0, 2000), (137, 7, 4, 0, 2003), (155, 7, 6, 0, 2009), (131, 7, 7, 0, 2011)],
  [(7, 10, 0, 2, 5214), (13, 10, 1, 2, 5215), (264, 10, 2, 0, 5216), (149, 10, 3, 0, 5217), (152, 10, 4, 0, 5218), (16, 10, 5, 0, 5219), (202, 10, 6, 0, 5220), (199, 10, 7, 0, 5221), (209, 10, 8, 0, 5222), (227, 10, 9, 0, 5223), (216, 10, 10, 1, 5224), (20, 10, 11, 2, 5225), (24, 10, 12, 2, 5226), (27, 10, 13, 2, 5227), (30, 10, 14, 2, 5228), (33, 10, 15, 2, 5229), (36, 10, 16, 2, 5230), (39, 10, 17, 2, 5231), (42, 10, 18, 2, 5232), (45, 10, 19, 2, 5233), (48, 10, 20, 2, 5234), (51, 10, 21, 2, 5235), (54, 10, 22, 2, 5236), (57, 10, 23, 2, 5237), (60, 10, 24, 2, 5238), (63, 10, 25, 2, 5239), (66, 10, 26, 2, 6000), (69, 10, 27, 2, 6001), (72, 10, 28, 2, 6002), (75, 10, 29, 2, 6003), (79, 10, 30, 2, 6004), (82, 10, 31, 2, 6005), (85, 10, 32, 2, 6006), (89, 10, 33, 2, 6007), (92, 10, 34, 2, 6008), (95, 10, 35, 2, 6009), (98, 10, 36, 2, 6010), (101, 10, 37, 2, 6011), (104, 10, 38, 2, 6012), (107, 10, 39, 2, 6013), (267, 10, 40, 0, 6014), (258, 10, 41, 0, 6015), (261, 10, 42, 0, 6016), (320, 10, 43, 0, 6017), (317, 10, 44, 0, 6018), (311, 10, 45, 0, 6019), (344, 10, 46, 0, 6020), (110, 10, 47, 2, 6021), (401, 10, 48, 0, 6022), (113, 10, 49, 2, 6023), (380, 10, 50, 0, 6024), (383, 10, 51, 0, 6025), (116, 10, 52, 2, 6026), (458, 10, 53, 0, 6027), (465, 10, 54, 0, 6028), (468, 10, 55, 0, 6029), (119, 10, 56, 2, 6030), (122, 10, 57, 2, 6031), (125, 10, 58, 2, 6032), (128, 10, 59, 2, 6033), (131, 10, 60, 2, 6034), (134, 10, 61, 2, 6035), (386, 10, 62, 0, 6036), (480, 10, 63, 0, 6037), (491, 10, 64, 0, 6038), (137, 10, 65, 2, 6039), (140, 10, 66, 2, 6040)],
  [],
  [],
  [],
  [],
  [],
  [],
  [],
  [],
  []]
def m_con : List (List (Nat × Int32 × Nat)) := [
  [(349, 100000, 5159)],
  [],
  [],
  [],
  [],
  [],
  [],
  [],
  [],
  [],
  [(487, 100000, 8162)],
  [],
  [],
  [(110, 55232, 3064), (76, 56320, 3068)],
  [(265, 1431655765, 3207), (266, 858993459, 3208), (267, 252645135, 3209)],
  [],
  [],
  [],
  [(227, 65536, 3025)],
  []]
def m_lcon : List (List (Nat × Int64 × Nat)) := [
  [],
  [],
  [],
  [],
  [],
  [],
  [],
  [],
  [(69, 32, 2217), (71, 97, 2218)],
  [],
  [(155, 427120748148, 6194), (157, 474147546227, 6195), (159, 1819243379, 6196), (161, 7168366, 6197), (163, 28518, 6198), (165, 119225632318835, 6199), (167, 1684365940, 6200), (169, 122545758368371, 6201), (171, 7304564, 6202), (173, 110386789576292, 6203), (175, 1668248436, 6204), (177, 512970880104, 6205), (179, 1650549611, 6206), (181, 1718576499, 6207), (183, 1918986596, 6208), (185, 1685217655, 6209), (187, 1735356005, 6210), (189, 1684109683, 6211), (191, 495673373300, 6212), (193, 28530, 6213), (195, 6385252, 6214), (197, 7237492, 6215)],
  [],
  [],
  [],
  [],
  [],
  [],
  [],
  [],
  []]
def m_str : List (List (Nat × Nat)) := [
  [],
  [],
  [],
  [],
  [],
  [(60, 1), (126, 3), (130, 4), (69, 5), (135, 6), (155, 7), (160, 8), (164, 9), (165, 10), (74, 11), (176, 12), (180, 13), (79, 14), (240, 15), (242, 16), (244, 17), (202, 18), (219, 19), (221, 20), (223, 21), (229, 22), (231, 23), (88, 24), (96, 25), (100, 26)],
  [],
  [],
  [(53, 0), (67, 2)],
  [],
  [],
  [],
  [],
  [],
  [],
  [],
  [],
  [],
  [],
  []]
def m_cll : List (List (Nat × Nat × Nat)) := [
  [(7, 8, 1027), (16, 5, 1061), (25, 9, 1220), (32, 7, 1222), (42, 1, 2030), (57, 3, 2054), (64, 4, 2076), (71, 6, 2099)],
  [(9, 7, 2036)],
  [],
  [(9, 7, 2060)],
  [],
  [(9, 9, 1067)],
  [],
  [],
  [],
  [(39, 2, 1073)],
  [],
  [(7, 0, 1019), (10, 10, 5196)],
  [],
  [],
  [],
  [],
  [],
  [],
  [],
  []]
