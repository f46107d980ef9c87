/-! the program's tables: methods, classes, links, constants, as the Statement's own words have them; every row is checked against the words -/
def mT_0 : u_T := fun k => match k with
  | 0 => ("HillLeavers", "tape", "LHillLeavers$Tape;", true)
  | 1 => ("HillLeavers", "reader", "LHillLeavers$Reader;", true)
  | 2 => ("HillLeavers", "town", "LHillLeavers$Town;", false)
  | 3 => ("HillLeavers", "state", "LHillLeavers$State;", true)
  | 4 => ("HillLeavers", "trial", "LHillLeavers$State;", true)
  | 5 => ("HillLeavers", "acts", "LHillLeavers$Acts;", true)
  | 6 => ("HillLeavers", "boxes", "[LHillLeavers$State;", true)
  | 7 => ("HillLeavers", "filled", "[Z", true)
  | 8 => ("HillLeavers", "outlook", "LHillLeavers$Outlook;", true)
  | 9 => ("HillLeavers", "pick", "LHillLeavers$Pick;", true)
  | _ => ("HillLeavers", "sights", "LHillLeavers$Sights;", true)
def mT_1 : u_T := fun k => match k with
  | 0 => ("HillLeavers$Acts", "ring", "[LHillLeavers$State;", true)
  | 1 => ("HillLeavers$Acts", "oldest", "I", false)
  | 2 => ("HillLeavers$Acts", "behind", "I", false)
  | _ => ("HillLeavers$Acts", "ahead", "I", false)
def mT_2 : u_T := fun k => match k with
  | 0 => ("HillLeavers$Formula", "code", "[I", true)
  | 1 => ("HillLeavers$Formula", "length", "I", false)
  | 2 => ("HillLeavers$Formula", "units", "I", false)
  | 3 => ("HillLeavers$Formula", "stack", "[I", true)
  | _ => ("HillLeavers$Formula", "height", "I", false)
def mT_3 : u_T := fun k => match k with
  | 0 => ("HillLeavers$Outlook", "ahead", "LHillLeavers$State;", true)
  | 1 => ("HillLeavers$Outlook", "out", "[I", true)
  | 2 => ("HillLeavers$Outlook", "hungry", "[I", true)
  | _ => ("HillLeavers$Outlook", "lost", "[I", true)
def mT_4 : u_T := fun k => match k with
  | 0 => ("HillLeavers$Pick", "found", "Z", false)
  | 1 => ("HillLeavers$Pick", "worth", "I", false)
  | 2 => ("HillLeavers$Pick", "cost", "I", false)
  | _ => ("HillLeavers$Pick", "set", "I", false)
def mT_5 : u_T := fun k => match k with
  | 0 => ("HillLeavers$Reader", "tape", "LHillLeavers$Tape;", true)
  | 1 => ("HillLeavers$Reader", "draft", "LHillLeavers$Town;", false)
  | 2 => ("HillLeavers$Reader", "fault", "I", false)
  | 3 => ("HillLeavers$Reader", "place", "I", false)
  | 4 => ("HillLeavers$Reader", "craftNames", "[J", true)
  | 5 => ("HillLeavers$Reader", "manNames", "[J", true)
  | 6 => ("HillLeavers$Reader", "demandNames", "[J", true)
  | 7 => ("HillLeavers$Reader", "backTold", "Z", false)
  | 8 => ("HillLeavers$Reader", "foesTold", "Z", false)
  | _ => ("HillLeavers$Reader", "drawTold", "Z", false)
def mT_6 : u_T := fun k => match k with
  | 0 => ("HillLeavers$Sights", "kind", "[I", true)
  | 1 => ("HillLeavers$Sights", "which", "[I", true)
  | 2 => ("HillLeavers$Sights", "was", "[Z", true)
  | 3 => ("HillLeavers$Sights", "toldAt", "[I", true)
  | 4 => ("HillLeavers$Sights", "untoldAt", "[I", true)
  | 5 => ("HillLeavers$Sights", "count", "I", false)
  | 6 => ("HillLeavers$Sights", "time", "I", false)
  | 7 => ("HillLeavers$Sights", "fit", "I", false)
  | _ => ("HillLeavers$Sights", "fitOut", "[I", true)
def mT_7 : u_T := fun k => match k with
  | 0 => ("HillLeavers$State", "out", "I", false)
  | 1 => ("HillLeavers$State", "days", "[I", true)
  | 2 => ("HillLeavers$State", "loaves", "[I", true)
  | 3 => ("HillLeavers$State", "lost", "I", false)
  | 4 => ("HillLeavers$State", "foes", "I", false)
  | 5 => ("HillLeavers$State", "granted", "I", false)
  | 6 => ("HillLeavers$State", "day", "I", false)
  | _ => ("HillLeavers$State", "seed", "I", false)
def mT_8 : u_T := fun k => match k with
  | 0 => ("HillLeavers$Tape", "text", "[I", true)
  | 1 => ("HillLeavers$Tape", "length", "I", false)
  | 2 => ("HillLeavers$Tape", "kind", "I", false)
  | 3 => ("HillLeavers$Tape", "start", "I", false)
  | 4 => ("HillLeavers$Tape", "next", "I", false)
  | 5 => ("HillLeavers$Tape", "word", "J", false)
  | _ => ("HillLeavers$Tape", "number", "I", false)
def mT_9 : u_T := fun k => match k with
  | 0 => ("HillLeavers$Town", "crafts", "I", false)
  | 1 => ("HillLeavers$Town", "needs", "[I", true)
  | 2 => ("HillLeavers$Town", "harm", "[I", true)
  | 3 => ("HillLeavers$Town", "members", "[I", true)
  | 4 => ("HillLeavers$Town", "men", "I", false)
  | 5 => ("HillLeavers$Town", "skills", "[I", true)
  | 6 => ("HillLeavers$Town", "loavesAtFirst", "[I", true)
  | 7 => ("HillLeavers$Town", "debt", "[I", true)
  | 8 => ("HillLeavers$Town", "others", "[I", true)
  | 9 => ("HillLeavers$Town", "outAtFirst", "I", false)
  | 10 => ("HillLeavers$Town", "demands", "I", false)
  | 11 => ("HillLeavers$Town", "cost", "[I", true)
  | 12 => ("HillLeavers$Town", "worth", "[I", true)
  | 13 => ("HillLeavers$Town", "formula", "LHillLeavers$Formula;", true)
  | 14 => ("HillLeavers$Town", "foes", "I", false)
  | 15 => ("HillLeavers$Town", "raid", "I", false)
  | 16 => ("HillLeavers$Town", "draw", "I", false)
  | 17 => ("HillLeavers$Town", "shortCrafts", "[I", true)
  | _ => ("HillLeavers$Town", "losses", "[I", true)
/-- a word by its number: 1000 times the list, and the place in it -/
def s_wd (w : Nat) : Option Cond := match w / 1000 with
  | 0 => (k2_sels lw_privs)[w]?
  | 1 => tables_1_1[w % 1000]?
  | 2 => tables_1_2[w % 1000]?
  | 3 => tables_1_3[w % 1000]?
  | 4 => tables_1_4[w % 1000]?
  | 5 => tables_1_5[w % 1000]?
  | _ => none
theorem s_wd_mem {w : Nat} {c : Cond} (h : s_wd w = some c) : c ∈ lw_tbl := by
  unfold lw_tbl tables_1
  simp only [List.mem_append]
  unfold s_wd at h
  split at h
  · exact Or.inl (List.mem_of_getElem? h)
  · exact Or.inr (Or.inl (List.mem_of_getElem? h))
  · exact Or.inr (Or.inr (Or.inl (List.mem_of_getElem? h)))
  · exact Or.inr (Or.inr (Or.inr (Or.inl (List.mem_of_getElem? h))))
  · exact Or.inr (Or.inr (Or.inr (Or.inr (Or.inl (List.mem_of_getElem? h)))))
  · exact Or.inr (Or.inr (Or.inr (Or.inr (Or.inr (List.mem_of_getElem? h)))))
  · cases h
def mT (c : Nat) : u_T := match c with
  | 0 => mT_0
  | 1 => mT_1
  | 2 => mT_2
  | 3 => mT_3
  | 4 => mT_4
  | 5 => mT_5
  | 6 => mT_6
  | 7 => mT_7
  | 8 => mT_8
  | _ => mT_9
def m_NN : List Nat := [11, 4, 5, 4, 4, 10, 9, 8, 7, 19]
def m_cls : List String := ["HillLeavers", "HillLeavers$Acts", "HillLeavers$Formula", "HillLeavers$Outlook", "HillLeavers$Pick", "HillLeavers$Reader", "HillLeavers$Sights", "HillLeavers$State", "HillLeavers$Tape", "HillLeavers$Town", "HillLeaversModel", "HillLeaversLaw", "java/lang/Object", "java/lang/Character", "java/lang/Integer", "java/lang/Math", "java/lang/String", "java/lang/StringLatin1", "java/lang/StringUTF16", "jdk/internal/util/Preconditions"]
def m_cn (c : Nat) : String := m_cls.getD c ""
def m_classes : List vw_C := (List.range 10).map fun ci => (m_cn ci, mT ci, m_NN.getD ci 0)
/-- the places of a class's field words, of its instantiable word, of its initialized word -/
def m_lay : List (List Nat) := [[2145, 2147, 2149, 2151, 2153, 2155, 2157, 2159, 2161, 2163, 2165], [2042, 2044, 2046, 2048], [1085, 1087, 1089, 1091, 1093], [2063, 2065, 2067, 2069], [2087, 2089, 2091, 2093], [1195, 1197, 1199, 1201, 1203, 1205, 1207, 1209, 1211, 1213], [2115, 2117, 2119, 2121, 2123, 2125, 2127, 2129, 2131], [2010, 2012, 2014, 2016, 2018, 2020, 2022, 2024], [1044, 1046, 1048, 1050, 1052, 1054, 1056], [1146, 1148, 1150, 1152, 1154, 1156, 1158, 1160, 1162, 1164, 1166, 1168, 1170, 1172, 1174, 1176, 1178, 1180, 1182]]
def m_cw : List (Nat × Nat) := [(1019, 1001), (2028, 1007), (1073, 1005), (2052, 1008), (2074, 1009), (1061, 1003), (2097, 1010), (1220, 1006), (1027, 1002), (1067, 1004)]
/-- a method's words: its code, instance or static, selects, initialized -/
def m_wx : List (Nat × Nat × Nat × Nat) := [(1022, 1021, 0, 1001), (1025, 1024, 0, 1000), (1030, 1029, 0, 1002), (1064, 1063, 0, 1003), (1070, 1069, 0, 1004), (1076, 1075, 0, 1005), (1223, 1222, 0, 1006), (2031, 2030, 0, 1007), (2055, 2054, 0, 1008), (2077, 2076, 0, 1009), (2100, 2099, 0, 1010), (4124, 4122, 4123, 1001), (4128, 4126, 4127, 1002), (4132, 4130, 4131, 1001), (4162, 4160, 4161, 1001), (4166, 4164, 4165, 1003), (4170, 4168, 4169, 1004), (4174, 4172, 4173, 1005), (4178, 4176, 4177, 1002), (4182, 4180, 4181, 1002), (4186, 4185, 16, 1002), (4189, 4188, 0, 1002), (4192, 4191, 0, 1002), (4197, 4196, 0, 1002), (4202, 4200, 4201, 1011), (4206, 4204, 4205, 1011), (4086, 4084, 4085, 1011), (4072, 4070, 4071, 1011), (4076, 4074, 4075, 1011), (4210, 4209, 0, 1012), (4213, 4212, 0, 1012), (4046, 4045, 0, 1015), (3008, 3007, 0, 1015), (4218, 4217, 0, 1012), (4221, 4220, 0, 1014), (4227, 4226, 0, 1014), (4230, 4229, 0, 1014), (4106, 4105, 0, 1014), (4233, 4232, 0, 1011), (4236, 4235, 0, 1013), (4239, 4238, 0, 1014), (4110, 4109, 0, 1014), (5002, 5001, 0, 1014), (5005, 5004, 0, 1016), (5008, 5007, 0, 1016), (5012, 5011, 0, 1016), (5018, 5016, 5017, 1002), (4082, 4080, 4081, 1011), (4089, 4088, 0, 1012), (4092, 4091, 0, 1011), (4097, 4096, 0, 1013), (4100, 4099, 0, 1014), (4103, 4102, 0, 1014), (5024, 5023, 17, 1003), (5028, 5027, 18, 1003), (5033, 5032, 19, 1003), (5037, 5035, 5036, 1002), (5041, 5040, 0, 1003), (5046, 5045, 20, 1003), (5050, 5049, 21, 1003), (5056, 5055, 22, 1003), (5061, 5060, 23, 1003), (5070, 5069, 24, 1003), (5077, 5076, 25, 1003), (5081, 5080, 26, 1003), (5085, 5083, 5084, 1002), (5089, 5088, 27, 1003), (5096, 5095, 28, 1003), (5100, 5098, 5099, 1005), (5105, 5104, 29, 1003), (5109, 5108, 30, 1003), (5116, 5114, 5115, 1002), (5125, 5123, 5124, 1004), (5129, 5127, 5128, 1004), (2226, 2225, 0, 1017), (3228, 3227, 0, 1001), (5134, 5132, 5133, 1003), (5138, 5136, 5137, 1006), (4058, 4056, 4057, 1007), (5142, 5140, 5141, 1010), (4061, 4060, 0, 1000), (5185, 5183, 5184, 1001), (2200, 2199, 0, 1001), (2204, 2202, 2203, 1006), (3040, 3038, 3039, 1004), (3044, 3042, 3043, 1005), (2183, 2181, 2182, 1004), (3048, 3046, 3047, 1005), (3052, 3051, 4, 1005), (3056, 3055, 5, 1005), (3059, 3058, 0, 1005), (5190, 5188, 5189, 1001), (5194, 5193, 32, 1001), (5199, 5197, 5198, 1001), (5168, 5167, 31, 1001), (5203, 5201, 5202, 1004), (2187, 2185, 2186, 1004), (2179, 2177, 2178, 1004), (2171, 2169, 2170, 1001), (2175, 2173, 2174, 1001), (5212, 5210, 5211, 1001), (5216, 5214, 5215, 1001), (4064, 4063, 0, 1000), (3151, 3150, 0, 1001), (3155, 3153, 3154, 1008), (2219, 2217, 2218, 1006), (3160, 3159, 10, 1008), (3016, 3014, 3015, 1004), (3020, 3018, 3019, 1004), (2223, 2221, 2222, 1006), (3026, 3025, 2, 1004), (3032, 3030, 3031, 1004), (3036, 3035, 3, 1004), (2237, 2235, 2236, 1006), (3166, 3164, 3165, 1008), (2191, 2189, 2190, 1001), (2196, 2194, 2195, 1001), (2208, 2206, 2207, 1007), (2212, 2211, 1, 1007), (2215, 2214, 0, 1015), (2233, 2231, 2232, 1001), (3001, 2239, 3000, 1001), (3005, 3003, 3004, 1006), (5164, 5162, 5163, 1001), (3012, 3010, 3011, 1001), (3064, 3062, 3063, 1001), (3068, 3066, 3067, 1007), (4068, 4067, 0, 1000), (4119, 4118, 0, 1000), (3072, 3070, 3071, 1001), (3076, 3075, 6, 1001), (3080, 3078, 3079, 1004), (3084, 3082, 3083, 1001), (3088, 3086, 3087, 1009), (3092, 3091, 7, 1001), (3096, 3094, 3095, 1009), (3100, 3098, 3099, 1009), (3104, 3102, 3103, 1001), (3108, 3106, 3107, 1001), (3112, 3110, 3111, 1001), (5220, 5218, 5219, 1001), (5224, 5222, 5223, 1001), (3116, 3114, 3115, 1001), (5208, 5206, 5207, 1001), (3120, 3118, 3119, 1001), (3126, 3125, 8, 1001), (3129, 3128, 0, 1001), (3132, 3131, 0, 1001), (5228, 5226, 5227, 1001), (4135, 4134, 0, 1000), (4140, 4139, 0, 1000), (3136, 3134, 3135, 1001), (3139, 3138, 0, 1001), (3143, 3142, 9, 1001), (3148, 3146, 3147, 1001), (3170, 3168, 3169, 1001), (3174, 3172, 3173, 1008), (3178, 3176, 3177, 1001), (3182, 3180, 3181, 1008), (3186, 3184, 3185, 1001), (3190, 3188, 3189, 1001), (3194, 3192, 3193, 1001), (3198, 3196, 3197, 1001), (3202, 3201, 11, 1001), (3206, 3204, 3205, 1001), (3211, 3210, 12, 1001), (3215, 3213, 3214, 1001), (3219, 3217, 3218, 1008), (3225, 3224, 13, 1001), (3232, 3230, 3231, 1001), (3236, 3234, 3235, 1001), (5146, 5145, 0, 1000), (4007, 4005, 4006, 1010), (5149, 5148, 0, 1000), (4003, 4001, 4002, 1001), (4011, 4009, 4010, 1001), (4015, 4013, 4014, 1010), (4019, 4017, 4018, 1001), (4024, 4022, 4023, 1001), (4028, 4026, 4027, 1010), (4033, 4032, 14, 1010), (4037, 4036, 15, 1010), (5152, 5151, 0, 1000), (4043, 4041, 4042, 1001), (4050, 4048, 4049, 1001), (4054, 4052, 4053, 1001), (5155, 5154, 0, 1000), (5158, 5157, 0, 1000), (5171, 5170, 0, 1000), (5174, 5173, 0, 1000), (5178, 5177, 0, 1000), (5181, 5180, 0, 1000), (1022, 1021, 0, 1001), (1022, 1021, 0, 1001), (1022, 1021, 0, 1001), (1022, 1021, 0, 1001), (1022, 1021, 0, 1001), (1022, 1021, 0, 1001), (1022, 1021, 0, 1001), (1022, 1021, 0, 1001), (1022, 1021, 0, 1001), (1022, 1021, 0, 1001), (1022, 1021, 0, 1001), (1022, 1021, 0, 1001), (1022, 1021, 0, 1001), (1022, 1021, 0, 1001), (1022, 1021, 0, 1001), (1022, 1021, 0, 1001), (1022, 1021, 0, 1001), (1022, 1021, 0, 1001), (1022, 1021, 0, 1001), (1022, 1021, 0, 1001), (1022, 1021, 0, 1001), (1022, 1021, 0, 1001), (1022, 1021, 0, 1001), (1022, 1021, 0, 1001), (1022, 1021, 0, 1001), (1022, 1021, 0, 1001), (1022, 1021, 0, 1001), (1022, 1021, 0, 1001), (1022, 1021, 0, 1001), (1022, 1021, 0, 1001), (1022, 1021, 0, 1001), (1022, 1021, 0, 1001), (1022, 1021, 0, 1001), (1022, 1021, 0, 1001), (1022, 1021, 0, 1001), (1022, 1021, 0, 1001), (1022, 1021, 0, 1001), (1022, 1021, 0, 1001), (1022, 1021, 0, 1001), (1022, 1021, 0, 1001), (1022, 1021, 0, 1001), (1022, 1021, 0, 1001), (1022, 1021, 0, 1001), (1022, 1021, 0, 1001), (1022, 1021, 0, 1001), (1022, 1021, 0, 1001), (1022, 1021, 0, 1001), (1022, 1021, 0, 1001), (1022, 1021, 0, 1001), (1022, 1021, 0, 1001), (1022, 1021, 0, 1001), (1022, 1021, 0, 1001), (1022, 1021, 0, 1001), (1022, 1021, 0, 1001), (1022, 1021, 0, 1001), (1022, 1021, 0, 1001), (1022, 1021, 0, 1001), (1022, 1021, 0, 1001), (1022, 1021, 0, 1001), (1022, 1021, 0, 1001), (1022, 1021, 0, 1001), (1022, 1021, 0, 1001), (1022, 1021, 0, 1001), (1022, 1021, 0, 1001), (1022, 1021, 0, 1001), (1022, 1021, 0, 1001), (1022, 1021, 0, 1001), (1022, 1021, 0, 1001), (1022, 1021, 0, 1001), (1022, 1021, 0, 1001), (1022, 1021, 0, 1001), (1022, 1021, 0, 1001), (1022, 1021, 0, 1001), (1022, 1021, 0, 1001), (1022, 1021, 0, 1001), (1022, 1021, 0, 1001), (1022, 1021, 0, 1001), (1022, 1021, 0, 1001), (1022, 1021, 0, 1001), (1022, 1021, 0, 1001), (1022, 1021, 0, 1001), (1022, 1021, 0, 1001), (1022, 1021, 0, 1001), (1022, 1021, 0, 1001), (1022, 1021, 0, 1001), (1022, 1021, 0, 1001), (1022, 1021, 0, 1001), (1022, 1021, 0, 1001), (1022, 1021, 0, 1001), (1022, 1021, 0, 1001), (1022, 1021, 0, 1001), (1022, 1021, 0, 1001), (1022, 1021, 0, 1001), (1022, 1021, 0, 1001), (1022, 1021, 0, 1001), (1022, 1021, 0, 1001), (1022, 1021, 0, 1001), (1022, 1021, 0, 1001), (1022, 1021, 0, 1001), (1022, 1021, 0, 1001), (1022, 1021, 0, 1001), (1022, 1021, 0, 1001), (1022, 1021, 0, 1001), (1022, 1021, 0, 1001), (1022, 1021, 0, 1001), (1022, 1021, 0, 1001), (1022, 1021, 0, 1001), (1022, 1021, 0, 1001), (1022, 1021, 0, 1001), (1022, 1021, 0, 1001), (1022, 1021, 0, 1001), (1022, 1021, 0, 1001), (1022, 1021, 0, 1001), (1022, 1021, 0, 1001), (1022, 1021, 0, 1001), (1022, 1021, 0, 1001), (1022, 1021, 0, 1001), (1022, 1021, 0, 1001), (1022, 1021, 0, 1001), (1022, 1021, 0, 1001), (1022, 1021, 0, 1001), (1022, 1021, 0, 1001), (1022, 1021, 0, 1001)]
/-- name, code, locals, what it returns, its class -/
def m_tab : List (MethodName × Nat × Option FieldType × Nat) := [
  (⟨"HillLeavers", "<init>", "()V"⟩, 2, none, 0),
  (⟨"java/lang/Object", "<init>", "()V"⟩, 1, none, 12),
  (⟨"HillLeavers$Tape", "<init>", "()V"⟩, 1, none, 8),
  (⟨"HillLeavers$Reader", "<init>", "(LHillLeavers$Tape;)V"⟩, 2, none, 5),
  (⟨"HillLeavers$Town", "<init>", "()V"⟩, 1, none, 9),
  (⟨"HillLeavers$Formula", "<init>", "()V"⟩, 1, none, 2),
  (⟨"HillLeavers$State", "<init>", "()V"⟩, 1, none, 7),
  (⟨"HillLeavers$Acts", "<init>", "()V"⟩, 2, none, 1),
  (⟨"HillLeavers$Outlook", "<init>", "()V"⟩, 1, none, 3),
  (⟨"HillLeavers$Pick", "<init>", "()V"⟩, 1, none, 4),
  (⟨"HillLeavers$Sights", "<init>", "()V"⟩, 1, none, 6),
  (⟨"HillLeavers", "feed", "(IIIII)I"⟩, 6, some (Jvm.ClassFile.FieldType.int), 0),
  (⟨"HillLeavers$Tape", "put", "(I)V"⟩, 3, none, 8),
  (⟨"HillLeavers", "end", "(I)I"⟩, 2, some (Jvm.ClassFile.FieldType.int), 0),
  (⟨"HillLeavers", "city", "()I"⟩, 3, some (Jvm.ClassFile.FieldType.int), 0),
  (⟨"HillLeavers$Reader", "read", "()Z"⟩, 2, some (Jvm.ClassFile.FieldType.boolean), 5),
  (⟨"HillLeavers$Town", "clear", "()V"⟩, 1, none, 9),
  (⟨"HillLeavers$Formula", "clear", "()V"⟩, 1, none, 2),
  (⟨"HillLeavers$Tape", "rewind", "()V"⟩, 1, none, 8),
  (⟨"HillLeavers$Tape", "advance", "()V"⟩, 2, none, 8),
  (⟨"HillLeavers$Tape", "byteAt", "(I)I"⟩, 2, some (Jvm.ClassFile.FieldType.int), 8),
  (⟨"HillLeavers$Tape", "isLetter", "(I)Z"⟩, 1, some (Jvm.ClassFile.FieldType.boolean), 8),
  (⟨"HillLeavers$Tape", "withLetter", "(JI)J"⟩, 3, some (Jvm.ClassFile.FieldType.long), 8),
  (⟨"HillLeavers$Tape", "isDigit", "(I)Z"⟩, 1, some (Jvm.ClassFile.FieldType.boolean), 8),
  (⟨"java/lang/String", "indexOf", "(I)I"⟩, 2, some (Jvm.ClassFile.FieldType.int), 16),
  (⟨"java/lang/String", "indexOf", "(II)I"⟩, 3, some (Jvm.ClassFile.FieldType.int), 16),
  (⟨"java/lang/String", "isLatin1", "()Z"⟩, 1, some (Jvm.ClassFile.FieldType.boolean), 16),
  (⟨"java/lang/String", "length", "()I"⟩, 1, some (Jvm.ClassFile.FieldType.int), 16),
  (⟨"java/lang/String", "coder", "()B"⟩, 1, some (Jvm.ClassFile.FieldType.byte), 16),
  (⟨"java/lang/StringLatin1", "indexOf", "([BIII)I"⟩, 4, some (Jvm.ClassFile.FieldType.int), 17),
  (⟨"java/lang/StringLatin1", "canEncode", "(I)Z"⟩, 1, some (Jvm.ClassFile.FieldType.boolean), 17),
  (⟨"java/lang/Math", "max", "(II)I"⟩, 2, some (Jvm.ClassFile.FieldType.int), 15),
  (⟨"java/lang/Math", "min", "(II)I"⟩, 2, some (Jvm.ClassFile.FieldType.int), 15),
  (⟨"java/lang/StringLatin1", "indexOfChar", "([BIII)I"⟩, 6, some (Jvm.ClassFile.FieldType.int), 17),
  (⟨"java/lang/StringUTF16", "indexOf", "([BIII)I"⟩, 4, some (Jvm.ClassFile.FieldType.int), 18),
  (⟨"java/lang/StringUTF16", "indexOfChar", "([BIII)I"⟩, 4, some (Jvm.ClassFile.FieldType.int), 18),
  (⟨"java/lang/StringUTF16", "checkBoundsBeginEnd", "(II[B)V"⟩, 3, none, 18),
  (⟨"java/lang/StringUTF16", "length", "([B)I"⟩, 1, some (Jvm.ClassFile.FieldType.int), 18),
  (⟨"java/lang/String", "checkBoundsBeginEnd", "(III)V"⟩, 3, none, 16),
  (⟨"jdk/internal/util/Preconditions", "checkFromToIndex", "(IIILjava/util/function/BiFunction;)I"⟩, 4, some (Jvm.ClassFile.FieldType.int), 19),
  (⟨"java/lang/StringUTF16", "indexOfCharUnsafe", "([BIII)I"⟩, 5, some (Jvm.ClassFile.FieldType.int), 18),
  (⟨"java/lang/StringUTF16", "getChar", "([BI)C"⟩, 2, some (Jvm.ClassFile.FieldType.char), 18),
  (⟨"java/lang/StringUTF16", "indexOfSupplementary", "([BIII)I"⟩, 7, some (Jvm.ClassFile.FieldType.int), 18),
  (⟨"java/lang/Character", "isValidCodePoint", "(I)Z"⟩, 2, some (Jvm.ClassFile.FieldType.boolean), 13),
  (⟨"java/lang/Character", "highSurrogate", "(I)C"⟩, 1, some (Jvm.ClassFile.FieldType.char), 13),
  (⟨"java/lang/Character", "lowSurrogate", "(I)C"⟩, 1, some (Jvm.ClassFile.FieldType.char), 13),
  (⟨"HillLeavers$Tape", "wordIs", "(Ljava/lang/String;)Z"⟩, 5, some (Jvm.ClassFile.FieldType.boolean), 8),
  (⟨"java/lang/String", "charAt", "(I)C"⟩, 2, some (Jvm.ClassFile.FieldType.char), 16),
  (⟨"java/lang/StringLatin1", "charAt", "([BI)C"⟩, 2, some (Jvm.ClassFile.FieldType.char), 17),
  (⟨"java/lang/String", "checkIndex", "(II)V"⟩, 2, none, 16),
  (⟨"jdk/internal/util/Preconditions", "checkIndex", "(IILjava/util/function/BiFunction;)I"⟩, 3, some (Jvm.ClassFile.FieldType.int), 19),
  (⟨"java/lang/StringUTF16", "charAt", "([BI)C"⟩, 2, some (Jvm.ClassFile.FieldType.char), 18),
  (⟨"java/lang/StringUTF16", "checkIndex", "(I[B)V"⟩, 2, none, 18),
  (⟨"HillLeavers$Reader", "readCraft", "()V"⟩, 2, none, 5),
  (⟨"HillLeavers$Reader", "refuse", "(I)V"⟩, 2, none, 5),
  (⟨"HillLeavers$Reader", "newName", "([JI)J"⟩, 5, some (Jvm.ClassFile.FieldType.long), 5),
  (⟨"HillLeavers$Tape", "isName", "()Z"⟩, 6, some (Jvm.ClassFile.FieldType.boolean), 8),
  (⟨"HillLeavers$Reader", "placeOf", "(J[JI)I"⟩, 5, some (Jvm.ClassFile.FieldType.int), 5),
  (⟨"HillLeavers$Reader", "numberBehind", "(Ljava/lang/String;I)I"⟩, 4, some (Jvm.ClassFile.FieldType.int), 5),
  (⟨"HillLeavers$Reader", "expectWord", "(Ljava/lang/String;)V"⟩, 2, none, 5),
  (⟨"HillLeavers$Reader", "readMan", "()V"⟩, 4, none, 5),
  (⟨"HillLeavers$Reader", "craftName", "(I)I"⟩, 3, some (Jvm.ClassFile.FieldType.int), 5),
  (⟨"HillLeavers$Reader", "readDemand", "()V"⟩, 2, none, 5),
  (⟨"HillLeavers$Reader", "readLevel", "(II)V"⟩, 6, none, 5),
  (⟨"HillLeavers$Reader", "readUnit", "(I)V"⟩, 4, none, 5),
  (⟨"HillLeavers$Tape", "signIs", "(C)Z"⟩, 2, some (Jvm.ClassFile.FieldType.boolean), 8),
  (⟨"HillLeavers$Reader", "knownUnit", "()I"⟩, 1, some (Jvm.ClassFile.FieldType.int), 5),
  (⟨"HillLeavers$Reader", "expectSign", "(C)V"⟩, 2, none, 5),
  (⟨"HillLeavers$Formula", "add", "(I)V"⟩, 2, none, 2),
  (⟨"HillLeavers$Reader", "readNot", "(I)V"⟩, 2, none, 5),
  (⟨"HillLeavers$Reader", "opHere", "(I)I"⟩, 2, some (Jvm.ClassFile.FieldType.int), 5),
  (⟨"HillLeavers$Tape", "signOneOf", "(Ljava/lang/String;)I"⟩, 3, some (Jvm.ClassFile.FieldType.int), 8),
  (⟨"HillLeavers$Town", "settle", "()V"⟩, 3, none, 9),
  (⟨"HillLeavers$Town", "handsOf", "(II)I"⟩, 3, some (Jvm.ClassFile.FieldType.int), 9),
  (⟨"java/lang/Integer", "bitCount", "(I)I"⟩, 1, some (Jvm.ClassFile.FieldType.int), 14),
  (⟨"HillLeavers", "sumOf", "([II)I"⟩, 4, some (Jvm.ClassFile.FieldType.int), 0),
  (⟨"HillLeavers$Reader", "swap", "(LHillLeavers$Town;)LHillLeavers$Town;"⟩, 3, some ((Jvm.ClassFile.FieldType.object "HillLeavers$Town")), 5),
  (⟨"HillLeavers$State", "begin", "(LHillLeavers$Town;)V"⟩, 3, none, 7),
  (⟨"HillLeavers$Acts", "clear", "()V"⟩, 1, none, 1),
  (⟨"HillLeavers$Sights", "clear", "()V"⟩, 1, none, 6),
  (⟨"HillLeaversLaw", "cell", "([II)I"⟩, 2, some (Jvm.ClassFile.FieldType.int), 11),
  (⟨"HillLeavers", "man", "(II)I"⟩, 4, some (Jvm.ClassFile.FieldType.int), 0),
  (⟨"HillLeavers", "isMan", "(I)Z"⟩, 2, some (Jvm.ClassFile.FieldType.boolean), 0),
  (⟨"HillLeavers$State", "isOut", "(I)Z"⟩, 2, some (Jvm.ClassFile.FieldType.boolean), 7),
  (⟨"HillLeavers$Town", "goesBack", "(LHillLeavers$State;I)Z"⟩, 6, some (Jvm.ClassFile.FieldType.boolean), 9),
  (⟨"HillLeavers$Formula", "isTold", "()Z"⟩, 1, some (Jvm.ClassFile.FieldType.boolean), 2),
  (⟨"HillLeavers$Town", "shortBy", "(I)I"⟩, 2, some (Jvm.ClassFile.FieldType.int), 9),
  (⟨"HillLeavers$Formula", "valueOf", "(IIIIII)I"⟩, 10, some (Jvm.ClassFile.FieldType.int), 2),
  (⟨"HillLeavers$Formula", "push", "(I)V"⟩, 2, none, 2),
  (⟨"HillLeavers$Formula", "pop", "()I"⟩, 1, some (Jvm.ClassFile.FieldType.int), 2),
  (⟨"HillLeavers$Formula", "joined", "(III)I"⟩, 3, some (Jvm.ClassFile.FieldType.int), 2),
  (⟨"HillLeavers", "craft", "(II)I"⟩, 3, some (Jvm.ClassFile.FieldType.int), 0),
  (⟨"HillLeavers", "isCraft", "(I)Z"⟩, 2, some (Jvm.ClassFile.FieldType.boolean), 0),
  (⟨"HillLeavers", "demand", "(II)I"⟩, 4, some (Jvm.ClassFile.FieldType.int), 0),
  (⟨"HillLeavers", "isDemand", "(I)Z"⟩, 2, some (Jvm.ClassFile.FieldType.boolean), 0),
  (⟨"HillLeavers$Town", "canKeep", "(I)Z"⟩, 2, some (Jvm.ClassFile.FieldType.boolean), 9),
  (⟨"HillLeavers$Town", "everyone", "()I"⟩, 1, some (Jvm.ClassFile.FieldType.int), 9),
  (⟨"HillLeavers$Town", "lossBy", "(I)I"⟩, 2, some (Jvm.ClassFile.FieldType.int), 9),
  (⟨"HillLeavers", "out", "()I"⟩, 1, some (Jvm.ClassFile.FieldType.int), 0),
  (⟨"HillLeavers", "loss", "(I)I"⟩, 2, some (Jvm.ClassFile.FieldType.int), 0),
  (⟨"HillLeavers", "broken", "()I"⟩, 3, some (Jvm.ClassFile.FieldType.int), 0),
  (⟨"HillLeavers", "longest", "()I"⟩, 4, some (Jvm.ClassFile.FieldType.int), 0),
  (⟨"HillLeaversLaw", "build", "(LHillLeavers;[I[I)Z"⟩, 9, some (Jvm.ClassFile.FieldType.boolean), 11),
  (⟨"HillLeavers", "isAhead", "(I)Z"⟩, 1, some (Jvm.ClassFile.FieldType.boolean), 0),
  (⟨"HillLeavers$Outlook", "look", "(LHillLeavers$Town;LHillLeavers$State;I)V"⟩, 6, none, 3),
  (⟨"HillLeavers$State", "copy", "(LHillLeavers$State;)V"⟩, 3, none, 7),
  (⟨"HillLeavers$Outlook", "note", "(II)V"⟩, 4, none, 3),
  (⟨"HillLeavers$Town", "passDay", "(LHillLeavers$State;)I"⟩, 3, some (Jvm.ClassFile.FieldType.int), 9),
  (⟨"HillLeavers$Town", "followersOf", "(I)I"⟩, 5, some (Jvm.ClassFile.FieldType.int), 9),
  (⟨"HillLeavers$State", "walkOut", "(I)V"⟩, 3, none, 7),
  (⟨"HillLeavers$Town", "eat", "(LHillLeavers$State;)V"⟩, 3, none, 9),
  (⟨"HillLeavers$Town", "foeOdds", "(I)I"⟩, 2, some (Jvm.ClassFile.FieldType.int), 9),
  (⟨"HillLeavers$Town", "endDay", "(LHillLeavers$State;)V"⟩, 4, none, 9),
  (⟨"HillLeavers$State", "goHome", "(I)V"⟩, 2, none, 7),
  (⟨"HillLeavers$Outlook", "outBehind", "(I)I"⟩, 2, some (Jvm.ClassFile.FieldType.int), 3),
  (⟨"HillLeavers", "about", "(I)I"⟩, 2, some (Jvm.ClassFile.FieldType.int), 0),
  (⟨"HillLeavers", "leave", "(I)I"⟩, 2, some (Jvm.ClassFile.FieldType.int), 0),
  (⟨"HillLeavers$Acts", "keep", "(LHillLeavers$State;)V"⟩, 2, none, 1),
  (⟨"HillLeavers$Acts", "here", "()LHillLeavers$State;"⟩, 1, some ((Jvm.ClassFile.FieldType.object "HillLeavers$State")), 1),
  (⟨"java/lang/Math", "floorMod", "(II)I"⟩, 3, some (Jvm.ClassFile.FieldType.int), 15),
  (⟨"HillLeavers", "home", "(I)I"⟩, 3, some (Jvm.ClassFile.FieldType.int), 0),
  (⟨"HillLeavers", "give", "(II)I"⟩, 3, some (Jvm.ClassFile.FieldType.int), 0),
  (⟨"HillLeavers$State", "getLoaves", "(II)V"⟩, 3, none, 7),
  (⟨"HillLeavers", "grant", "(I)I"⟩, 2, some (Jvm.ClassFile.FieldType.int), 0),
  (⟨"HillLeavers", "day", "()I"⟩, 1, some (Jvm.ClassFile.FieldType.int), 0),
  (⟨"HillLeavers", "undo", "()Z"⟩, 1, some (Jvm.ClassFile.FieldType.boolean), 0),
  (⟨"HillLeavers$Acts", "takeBack", "(LHillLeavers$State;)Z"⟩, 2, some (Jvm.ClassFile.FieldType.boolean), 1),
  (⟨"HillLeaversLaw", "says", "(LHillLeavers;ILjava/lang/String;)I"⟩, 8, some (Jvm.ClassFile.FieldType.int), 11),
  (⟨"HillLeaversLaw", "put", "(LHillLeavers;IJ)I"⟩, 5, some (Jvm.ClassFile.FieldType.int), 11),
  (⟨"HillLeavers", "spread", "(I)I"⟩, 2, some (Jvm.ClassFile.FieldType.int), 0),
  (⟨"HillLeavers", "isSetOfMen", "(I)Z"⟩, 2, some (Jvm.ClassFile.FieldType.boolean), 0),
  (⟨"HillLeavers$Town", "spreadOf", "(I)I"⟩, 4, some (Jvm.ClassFile.FieldType.int), 9),
  (⟨"HillLeavers", "spark", "(I)I"⟩, 4, some (Jvm.ClassFile.FieldType.int), 0),
  (⟨"HillLeavers$Pick", "clear", "()V"⟩, 1, none, 4),
  (⟨"HillLeavers", "inCity", "()I"⟩, 1, some (Jvm.ClassFile.FieldType.int), 0),
  (⟨"HillLeavers$Pick", "take", "(III)V"⟩, 4, none, 4),
  (⟨"HillLeavers$Pick", "wants", "(II)Z"⟩, 3, some (Jvm.ClassFile.FieldType.boolean), 4),
  (⟨"HillLeavers", "stop", "(II)I"⟩, 6, some (Jvm.ClassFile.FieldType.int), 0),
  (⟨"HillLeavers", "pillars", "()I"⟩, 5, some (Jvm.ClassFile.FieldType.int), 0),
  (⟨"HillLeavers", "idle", "()I"⟩, 6, some (Jvm.ClassFile.FieldType.int), 0),
  (⟨"HillLeavers", "dearest", "()I"⟩, 6, some (Jvm.ClassFile.FieldType.int), 0),
  (⟨"HillLeavers", "twins", "()I"⟩, 4, some (Jvm.ClassFile.FieldType.int), 0),
  (⟨"HillLeavers", "press", "(II)I"⟩, 6, some (Jvm.ClassFile.FieldType.int), 0),
  (⟨"HillLeavers", "pays", "(I)I"⟩, 4, some (Jvm.ClassFile.FieldType.int), 0),
  (⟨"HillLeavers", "weight", "(II)I"⟩, 4, some (Jvm.ClassFile.FieldType.int), 0),
  (⟨"HillLeavers", "sumOverOrders", "(I)I"⟩, 8, some (Jvm.ClassFile.FieldType.int), 0),
  (⟨"HillLeavers", "inLowestTerms", "(III)I"⟩, 4, some (Jvm.ClassFile.FieldType.int), 0),
  (⟨"HillLeavers", "commonDivisor", "(II)I"⟩, 6, some (Jvm.ClassFile.FieldType.int), 0),
  (⟨"HillLeavers", "stock", "()I"⟩, 4, some (Jvm.ClassFile.FieldType.int), 0),
  (⟨"HillLeaversLaw", "name", "(LHillLeavers;II)I"⟩, 3, some (Jvm.ClassFile.FieldType.int), 11),
  (⟨"HillLeaversLaw", "digits", "(LHillLeavers;II)I"⟩, 5, some (Jvm.ClassFile.FieldType.int), 11),
  (⟨"HillLeavers", "feeds", "(II)I"⟩, 4, some (Jvm.ClassFile.FieldType.int), 0),
  (⟨"HillLeavers", "isCountOfDays", "(I)Z"⟩, 1, some (Jvm.ClassFile.FieldType.boolean), 0),
  (⟨"HillLeavers", "staysOut", "(III)Z"⟩, 5, some (Jvm.ClassFile.FieldType.boolean), 0),
  (⟨"HillLeavers", "will", "(I)I"⟩, 2, some (Jvm.ClassFile.FieldType.int), 0),
  (⟨"HillLeavers", "lasts", "()I"⟩, 1, some (Jvm.ClassFile.FieldType.int), 0),
  (⟨"HillLeavers$Outlook", "emptyBehind", "()I"⟩, 2, some (Jvm.ClassFile.FieldType.int), 3),
  (⟨"HillLeavers", "costs", "(I)I"⟩, 2, some (Jvm.ClassFile.FieldType.int), 0),
  (⟨"HillLeavers$Outlook", "lostBetween", "(II)I"⟩, 3, some (Jvm.ClassFile.FieldType.int), 3),
  (⟨"HillLeavers", "ever", "(I)I"⟩, 4, some (Jvm.ClassFile.FieldType.int), 0),
  (⟨"HillLeavers", "returns", "(I)I"⟩, 3, some (Jvm.ClassFile.FieldType.int), 0),
  (⟨"HillLeavers", "weakest", "()I"⟩, 4, some (Jvm.ClassFile.FieldType.int), 0),
  (⟨"HillLeavers", "plan", "(II)I"⟩, 6, some (Jvm.ClassFile.FieldType.int), 0),
  (⟨"HillLeavers", "lostIfLeft", "(II)I"⟩, 5, some (Jvm.ClassFile.FieldType.int), 0),
  (⟨"HillLeavers", "bribe", "(II)I"⟩, 5, some (Jvm.ClassFile.FieldType.int), 0),
  (⟨"HillLeavers", "endsIfHome", "(II)Z"⟩, 4, some (Jvm.ClassFile.FieldType.boolean), 0),
  (⟨"HillLeavers", "offer", "(II)I"⟩, 3, some (Jvm.ClassFile.FieldType.int), 0),
  (⟨"HillLeavers$Outlook", "lostFrom", "(I)I"⟩, 3, some (Jvm.ClassFile.FieldType.int), 3),
  (⟨"HillLeavers", "pickOffer", "(I)V"⟩, 5, none, 0),
  (⟨"HillLeavers", "until", "(I)I"⟩, 3, some (Jvm.ClassFile.FieldType.int), 0),
  (⟨"HillLeavers", "odds", "(II)I"⟩, 7, some (Jvm.ClassFile.FieldType.int), 0),
  (⟨"HillLeaversLaw", "begin", "([I)[I"⟩, 3, some ((Jvm.ClassFile.FieldType.array Jvm.ClassFile.FieldType.int)), 11),
  (⟨"HillLeavers$Sights", "tell", "(IIZ)I"⟩, 4, some (Jvm.ClassFile.FieldType.int), 6),
  (⟨"HillLeaversLaw", "brief", "([II)I"⟩, 4, some (Jvm.ClassFile.FieldType.int), 11),
  (⟨"HillLeavers", "counted", "(IZ)I"⟩, 3, some (Jvm.ClassFile.FieldType.int), 0),
  (⟨"HillLeavers", "untell", "(I)Z"⟩, 2, some (Jvm.ClassFile.FieldType.boolean), 0),
  (⟨"HillLeavers$Sights", "takeBack", "(I)Z"⟩, 2, some (Jvm.ClassFile.FieldType.boolean), 6),
  (⟨"HillLeavers", "later", "(I)I"⟩, 2, some (Jvm.ClassFile.FieldType.int), 0),
  (⟨"HillLeavers", "fits", "(I)I"⟩, 2, some (Jvm.ClassFile.FieldType.int), 0),
  (⟨"HillLeavers$Sights", "countFits", "(LHillLeavers$Town;I)V"⟩, 5, none, 6),
  (⟨"HillLeavers$Sights", "canHaveBeen", "(LHillLeavers$Town;II)Z"⟩, 6, some (Jvm.ClassFile.FieldType.boolean), 6),
  (⟨"HillLeavers$Sights", "holds", "(LHillLeavers$Town;II)Z"⟩, 4, some (Jvm.ClassFile.FieldType.boolean), 6),
  (⟨"HillLeaversLaw", "in", "([III)I"⟩, 5, some (Jvm.ClassFile.FieldType.int), 11),
  (⟨"HillLeavers", "ask", "(II)I"⟩, 5, some (Jvm.ClassFile.FieldType.int), 0),
  (⟨"HillLeavers", "image", "(I)I"⟩, 2, some (Jvm.ClassFile.FieldType.int), 0),
  (⟨"HillLeavers", "back", "(I)I"⟩, 2, some (Jvm.ClassFile.FieldType.int), 0),
  (⟨"HillLeaversLaw", "loss", "([II)I"⟩, 4, some (Jvm.ClassFile.FieldType.int), 11),
  (⟨"HillLeaversLaw", "act", "(LHillLeavers;[I[II)Z"⟩, 10, some (Jvm.ClassFile.FieldType.boolean), 11),
  (⟨"HillLeaversLaw", "day", "([I[I)I"⟩, 5, some (Jvm.ClassFile.FieldType.int), 11),
  (⟨"HillLeaversLaw", "follow", "([II)I"⟩, 4, some (Jvm.ClassFile.FieldType.int), 11),
  (⟨"HillLeaversLaw", "back", "([I[II)Z"⟩, 6, some (Jvm.ClassFile.FieldType.boolean), 11),
  (⟨"HillLeaversLaw", "same", "(LHillLeavers;[I[I)Z"⟩, 17, some (Jvm.ClassFile.FieldType.boolean), 11),
  (⟨"HillLeavers", "<init>", "()V"⟩, 2, none, 0),
  (⟨"HillLeavers", "<init>", "()V"⟩, 2, none, 0),
  (⟨"HillLeavers", "<init>", "()V"⟩, 2, none, 0),
  (⟨"HillLeavers", "<init>", "()V"⟩, 2, none, 0),
  (⟨"HillLeavers", "<init>", "()V"⟩, 2, none, 0),
  (⟨"HillLeavers", "<init>", "()V"⟩, 2, none, 0),
  (⟨"HillLeavers", "<init>", "()V"⟩, 2, none, 0),
  (⟨"HillLeavers", "<init>", "()V"⟩, 2, none, 0),
  (⟨"HillLeavers", "<init>", "()V"⟩, 2, none, 0),
  (⟨"HillLeavers", "<init>", "()V"⟩, 2, none, 0),
  (⟨"HillLeavers", "<init>", "()V"⟩, 2, none, 0),
  (⟨"HillLeavers", "<init>", "()V"⟩, 2, none, 0),
  (⟨"HillLeavers", "<init>", "()V"⟩, 2, none, 0),
  (⟨"HillLeavers", "<init>", "()V"⟩, 2, none, 0),
  (⟨"HillLeavers", "<init>", "()V"⟩, 2, none, 0),
  (⟨"HillLeavers", "<init>", "()V"⟩, 2, none, 0),
  (⟨"HillLeavers", "<init>", "()V"⟩, 2, none, 0),
  (⟨"HillLeavers", "<init>", "()V"⟩, 2, none, 0),
  (⟨"HillLeavers", "<init>", "()V"⟩, 2, none, 0),
  (⟨"HillLeavers", "<init>", "()V"⟩, 2, none, 0),
  (⟨"HillLeavers", "<init>", "()V"⟩, 2, none, 0),
  (⟨"HillLeavers", "<init>", "()V"⟩, 2, none, 0),
  (⟨"HillLeavers", "<init>", "()V"⟩, 2, none, 0),
  (⟨"HillLeavers", "<init>", "()V"⟩, 2, none, 0),
  (⟨"HillLeavers", "<init>", "()V"⟩, 2, none, 0),
  (⟨"HillLeavers", "<init>", "()V"⟩, 2, none, 0),
  (⟨"HillLeavers", "<init>", "()V"⟩, 2, none, 0),
  (⟨"HillLeavers", "<init>", "()V"⟩, 2, none, 0),
  (⟨"HillLeavers", "<init>", "()V"⟩, 2, none, 0),
  (⟨"HillLeavers", "<init>", "()V"⟩, 2, none, 0),
  (⟨"HillLeavers", "<init>", "()V"⟩, 2, none, 0),
  (⟨"HillLeavers", "<init>", "()V"⟩, 2, none, 0),
  (⟨"HillLeavers", "<init>", "()V"⟩, 2, none, 0),
  (⟨"HillLeavers", "<init>", "()V"⟩, 2, none, 0),
  (⟨"HillLeavers", "<init>", "()V"⟩, 2, none, 0),
  (⟨"HillLeavers", "<init>", "()V"⟩, 2, none, 0),
  (⟨"HillLeavers", "<init>", "()V"⟩, 2, none, 0),
  (⟨"HillLeavers", "<init>", "()V"⟩, 2, none, 0),
  (⟨"HillLeavers", "<init>", "()V"⟩, 2, none, 0),
  (⟨"HillLeavers", "<init>", "()V"⟩, 2, none, 0),
  (⟨"HillLeavers", "<init>", "()V"⟩, 2, none, 0),
  (⟨"HillLeavers", "<init>", "()V"⟩, 2, none, 0),
  (⟨"HillLeavers", "<init>", "()V"⟩, 2, none, 0),
  (⟨"HillLeavers", "<init>", "()V"⟩, 2, none, 0),
  (⟨"HillLeavers", "<init>", "()V"⟩, 2, none, 0),
  (⟨"HillLeavers", "<init>", "()V"⟩, 2, none, 0),
  (⟨"HillLeavers", "<init>", "()V"⟩, 2, none, 0),
  (⟨"HillLeavers", "<init>", "()V"⟩, 2, none, 0),
  (⟨"HillLeavers", "<init>", "()V"⟩, 2, none, 0),
  (⟨"HillLeavers", "<init>", "()V"⟩, 2, none, 0),
  (⟨"HillLeavers", "<init>", "()V"⟩, 2, none, 0),
  (⟨"HillLeavers", "<init>", "()V"⟩, 2, none, 0),
  (⟨"HillLeavers", "<init>", "()V"⟩, 2, none, 0),
  (⟨"HillLeavers", "<init>", "()V"⟩, 2, none, 0),
  (⟨"HillLeavers", "<init>", "()V"⟩, 2, none, 0),
  (⟨"HillLeavers", "<init>", "()V"⟩, 2, none, 0),
  (⟨"HillLeavers", "<init>", "()V"⟩, 2, none, 0),
  (⟨"HillLeavers", "<init>", "()V"⟩, 2, none, 0),
  (⟨"HillLeavers", "<init>", "()V"⟩, 2, none, 0),
  (⟨"HillLeavers", "<init>", "()V"⟩, 2, none, 0),
  (⟨"HillLeavers", "<init>", "()V"⟩, 2, none, 0),
  (⟨"HillLeavers", "<init>", "()V"⟩, 2, none, 0),
  (⟨"HillLeavers", "<init>", "()V"⟩, 2, none, 0),
  (⟨"HillLeavers", "<init>", "()V"⟩, 2, none, 0),
  (⟨"HillLeavers", "<init>", "()V"⟩, 2, none, 0),
  (⟨"HillLeavers", "<init>", "()V"⟩, 2, none, 0),
  (⟨"HillLeavers", "<init>", "()V"⟩, 2, none, 0),
  (⟨"HillLeavers", "<init>", "()V"⟩, 2, none, 0),
  (⟨"HillLeavers", "<init>", "()V"⟩, 2, none, 0),
  (⟨"HillLeavers", "<init>", "()V"⟩, 2, none, 0),
  (⟨"HillLeavers", "<init>", "()V"⟩, 2, none, 0),
  (⟨"HillLeavers", "<init>", "()V"⟩, 2, none, 0),
  (⟨"HillLeavers", "<init>", "()V"⟩, 2, none, 0),
  (⟨"HillLeavers", "<init>", "()V"⟩, 2, none, 0),
  (⟨"HillLeavers", "<init>", "()V"⟩, 2, none, 0),
  (⟨"HillLeavers", "<init>", "()V"⟩, 2, none, 0),
  (⟨"HillLeavers", "<init>", "()V"⟩, 2, none, 0),
  (⟨"HillLeavers", "<init>", "()V"⟩, 2, none, 0),
  (⟨"HillLeavers", "<init>", "()V"⟩, 2, none, 0),
  (⟨"HillLeavers", "<init>", "()V"⟩, 2, none, 0),
  (⟨"HillLeavers", "<init>", "()V"⟩, 2, none, 0),
  (⟨"HillLeavers", "<init>", "()V"⟩, 2, none, 0),
  (⟨"HillLeavers", "<init>", "()V"⟩, 2, none, 0),
  (⟨"HillLeavers", "<init>", "()V"⟩, 2, none, 0),
  (⟨"HillLeavers", "<init>", "()V"⟩, 2, none, 0),
  (⟨"HillLeavers", "<init>", "()V"⟩, 2, none, 0),
  (⟨"HillLeavers", "<init>", "()V"⟩, 2, none, 0),
  (⟨"HillLeavers", "<init>", "()V"⟩, 2, none, 0),
  (⟨"HillLeavers", "<init>", "()V"⟩, 2, none, 0),
  (⟨"HillLeavers", "<init>", "()V"⟩, 2, none, 0),
  (⟨"HillLeavers", "<init>", "()V"⟩, 2, none, 0),
  (⟨"HillLeavers", "<init>", "()V"⟩, 2, none, 0),
  (⟨"HillLeavers", "<init>", "()V"⟩, 2, none, 0),
  (⟨"HillLeavers", "<init>", "()V"⟩, 2, none, 0),
  (⟨"HillLeavers", "<init>", "()V"⟩, 2, none, 0),
  (⟨"HillLeavers", "<init>", "()V"⟩, 2, none, 0),
  (⟨"HillLeavers", "<init>", "()V"⟩, 2, none, 0),
  (⟨"HillLeavers", "<init>", "()V"⟩, 2, none, 0),
  (⟨"HillLeavers", "<init>", "()V"⟩, 2, none, 0),
  (⟨"HillLeavers", "<init>", "()V"⟩, 2, none, 0),
  (⟨"HillLeavers", "<init>", "()V"⟩, 2, none, 0),
  (⟨"HillLeavers", "<init>", "()V"⟩, 2, none, 0),
  (⟨"HillLeavers", "<init>", "()V"⟩, 2, none, 0),
  (⟨"HillLeavers", "<init>", "()V"⟩, 2, none, 0),
  (⟨"HillLeavers", "<init>", "()V"⟩, 2, none, 0),
  (⟨"HillLeavers", "<init>", "()V"⟩, 2, none, 0),
  (⟨"HillLeavers", "<init>", "()V"⟩, 2, none, 0),
  (⟨"HillLeavers", "<init>", "()V"⟩, 2, none, 0),
  (⟨"HillLeavers", "<init>", "()V"⟩, 2, none, 0),
  (⟨"HillLeavers", "<init>", "()V"⟩, 2, none, 0),
  (⟨"HillLeavers", "<init>", "()V"⟩, 2, none, 0),
  (⟨"HillLeavers", "<init>", "()V"⟩, 2, none, 0),
  (⟨"HillLeavers", "<init>", "()V"⟩, 2, none, 0),
  (⟨"HillLeavers", "<init>", "()V"⟩, 2, none, 0),
  (⟨"HillLeavers", "<init>", "()V"⟩, 2, none, 0),
  (⟨"HillLeavers", "<init>", "()V"⟩, 2, none, 0),
  (⟨"HillLeavers", "<init>", "()V"⟩, 2, none, 0),
  (⟨"HillLeavers", "<init>", "()V"⟩, 2, none, 0),
  (⟨"HillLeavers", "<init>", "()V"⟩, 2, none, 0),
  (⟨"HillLeavers", "<init>", "()V"⟩, 2, none, 0),
  (⟨"HillLeavers", "<init>", "()V"⟩, 2, none, 0),
  (⟨"HillLeavers", "<init>", "()V"⟩, 2, none, 0),
  (⟨"HillLeavers", "<init>", "()V"⟩, 2, none, 0),
  (⟨"HillLeaversLaw", "law", "([I)Z"⟩, 23, some .boolean, 11)]
/-- by class: index, (kind, callee, its arguments beside the receiver, the place of the link among the words) -/
def m_lnk : List (List (Nat × Nat × Nat × Nat × Nat)) := [
  [(1, 5, 1, 0, 1023), (9, 3, 2, 0, 1028), (18, 2, 3, 1, 1062), (27, 3, 4, 0, 1218), (34, 3, 6, 0, 1221), (44, 2, 7, 0, 2029), (59, 3, 8, 0, 2053), (66, 3, 9, 0, 2075), (73, 3, 10, 0, 2098), (176, 0, 97, 1, 2176), (179, 0, 96, 0, 2184), (151, 0, 86, 1, 2192), (111, 0, 82, 1, 2197), (115, 0, 83, 1, 2201), (232, 0, 117, 1, 2205), (236, 0, 109, 1, 2220), (239, 1, 74, 1, 2224), (244, 0, 113, 1, 2234), (247, 0, 122, 2, 3002), (251, 0, 107, 1, 3013), (255, 0, 126, 1, 3065), (262, 0, 130, 1, 3073), (265, 0, 131, 1, 3077), (268, 0, 133, 0, 3085), (269, 0, 134, 0, 3089), (272, 0, 135, 3, 3093), (290, 0, 145, 1, 3123), (293, 1, 146, 3, 3127), (367, 1, 147, 2, 3130), (300, 1, 152, 1, 3137), (303, 0, 153, 3, 3140), (329, 0, 105, 1, 3144), (183, 1, 103, 1, 3149), (186, 0, 104, 3, 3152), (190, 0, 114, 1, 3163), (307, 0, 156, 0, 3171), (310, 0, 158, 2, 3179), (313, 0, 163, 2, 3199), (316, 0, 136, 2, 3207), (320, 0, 165, 2, 3208), (323, 0, 167, 1, 3216), (326, 0, 168, 1, 3222), (363, 1, 75, 2, 3226), (332, 0, 108, 1, 3237), (335, 0, 111, 1, 3238), (338, 7, 32, 2, 3239), (343, 0, 172, 3, 4004), (347, 0, 176, 1, 4012), (350, 0, 179, 2, 4025), (360, 6, 31, 2, 4044), (98, 0, 78, 0, 4055), (82, 0, 12, 1, 4125), (86, 0, 15, 0, 4163), (90, 0, 76, 1, 5131), (94, 0, 77, 1, 5135), (101, 0, 79, 0, 5139), (161, 0, 94, 1, 5165), (134, 0, 84, 2, 5186), (138, 0, 92, 1, 5191), (147, 0, 73, 2, 5195), (173, 0, 95, 1, 5200)],
  [(3, 5, 1, 0, 2032), (17, 3, 6, 0, 2035), (25, 0, 118, 0, 2209), (36, 1, 119, 2, 2213), (29, 0, 105, 1, 2216)],
  [(3, 5, 1, 0, 1077), (28, 0, 88, 1, 3049), (32, 0, 89, 0, 3053), (36, 1, 90, 3, 3057)],
  [(3, 5, 1, 0, 2056), (11, 3, 6, 0, 2058), (28, 0, 105, 1, 3156), (32, 0, 106, 2, 3157), (45, 0, 83, 1, 3161), (36, 0, 107, 1, 3162), (52, 0, 156, 0, 3220), (56, 0, 158, 2, 3221)],
  [(1, 5, 1, 0, 2078), (23, 0, 136, 2, 3097)],
  [(3, 5, 1, 0, 1065), (11, 3, 4, 0, 1068), (36, 0, 16, 0, 4167), (52, 0, 18, 0, 4175), (62, 0, 46, 1, 5015), (66, 0, 53, 0, 5021), (104, 0, 54, 1, 5025), (81, 0, 19, 0, 5029), (118, 0, 55, 2, 5030), (145, 0, 56, 0, 5034), (185, 1, 57, 3, 5039), (90, 0, 58, 2, 5043), (137, 0, 59, 1, 5047), (71, 0, 60, 0, 5053), (141, 0, 61, 1, 5058), (76, 0, 62, 0, 5067), (84, 0, 63, 2, 5074), (199, 0, 64, 1, 5078), (192, 0, 65, 1, 5082), (233, 0, 66, 0, 5086), (108, 0, 67, 1, 5093), (214, 0, 68, 1, 5097), (204, 0, 69, 1, 5102), (207, 0, 70, 1, 5106), (225, 0, 71, 1, 5113), (112, 0, 72, 0, 5122)],
  [(3, 5, 1, 0, 2101), (41, 0, 96, 0, 4029), (47, 0, 180, 3, 4030), (51, 0, 181, 3, 4034), (54, 0, 86, 1, 4038), (58, 1, 74, 1, 4039)],
  [(3, 5, 1, 0, 1224), (48, 7, 32, 2, 3006)],
  [(3, 5, 1, 0, 1031), (22, 0, 19, 0, 4179), (25, 0, 20, 1, 4183), (35, 1, 21, 1, 4187), (43, 1, 22, 2, 4190), (47, 1, 23, 1, 4195), (55, 0, 24, 1, 4199), (60, 0, 27, 0, 5019), (63, 0, 47, 1, 5020)],
  [(3, 5, 1, 0, 1071), (41, 3, 5, 0, 1074), (91, 0, 86, 1, 2180), (101, 0, 108, 1, 3017), (85, 1, 74, 1, 3021), (123, 0, 109, 1, 3022), (127, 0, 110, 1, 3023), (144, 0, 83, 1, 3027), (98, 0, 97, 1, 3028), (134, 0, 111, 1, 3029), (141, 0, 112, 1, 3033), (148, 0, 84, 2, 3037), (112, 0, 85, 0, 3041), (119, 0, 87, 6, 3045), (152, 0, 113, 1, 3060), (65, 0, 17, 0, 4171), (77, 0, 73, 2, 5126), (81, 4, 75, 2, 5130), (94, 0, 96, 0, 5204)],
  [],
  [(184, 2, 0, 0, 1020), (98, 0, 98, 0, 2168), (149, 0, 99, 1, 2172), (95, 0, 115, 1, 2188), (131, 0, 116, 1, 2193), (134, 0, 120, 1, 2230), (137, 0, 121, 2, 2238), (143, 0, 124, 0, 3009), (196, 0, 125, 0, 3061), (215, 0, 129, 1, 3069), (212, 0, 132, 1, 3081), (218, 0, 137, 2, 3101), (169, 0, 138, 0, 3105), (172, 0, 139, 0, 3109), (223, 0, 142, 2, 3113), (247, 0, 144, 2, 3117), (209, 0, 151, 2, 3133), (203, 0, 154, 1, 3145), (226, 0, 155, 0, 3167), (229, 0, 157, 1, 3175), (232, 0, 159, 1, 3183), (200, 0, 160, 1, 3187), (206, 0, 161, 0, 3191), (244, 0, 162, 2, 3195), (241, 0, 164, 2, 3203), (235, 0, 166, 2, 3212), (238, 0, 169, 1, 3229), (250, 0, 170, 2, 3233), (263, 0, 174, 2, 4000), (270, 0, 175, 1, 4008), (267, 0, 177, 1, 4016), (260, 0, 178, 1, 4021), (274, 0, 183, 2, 4040), (193, 0, 184, 1, 4047), (221, 0, 185, 1, 4051), (39, 1, 80, 2, 4059), (185, 1, 102, 3, 4062), (45, 1, 127, 3, 4066), (19, 0, 27, 0, 4069), (25, 0, 47, 1, 4079), (29, 1, 128, 3, 4117), (9, 0, 11, 5, 4121), (15, 0, 13, 1, 4129), (49, 1, 149, 3, 4133), (55, 1, 150, 3, 4138), (92, 0, 14, 0, 4159), (189, 1, 171, 1, 5144), (104, 1, 173, 2, 5147), (100, 1, 182, 3, 5150), (121, 1, 186, 2, 5153), (256, 1, 187, 4, 5156), (107, 1, 74, 1, 5159), (124, 7, 32, 2, 5160), (140, 0, 123, 1, 5161), (146, 1, 188, 2, 5169), (112, 1, 189, 2, 5172), (115, 6, 31, 2, 5175), (127, 1, 190, 3, 5176), (253, 1, 191, 3, 5179), (151, 0, 81, 2, 5182), (154, 0, 91, 2, 5187), (157, 0, 93, 2, 5196), (160, 0, 143, 1, 5205), (163, 0, 100, 0, 5209), (166, 0, 101, 0, 5213), (175, 0, 140, 0, 5217), (178, 0, 141, 0, 5221), (181, 0, 148, 0, 5225)],
  [],
  [],
  [],
  [],
  [(335, 0, 28, 0, 4073), (492, 0, 26, 0, 4083), (495, 1, 48, 2, 4087), (1059, 1, 50, 3, 4095), (498, 1, 51, 2, 4098), (633, 0, 25, 2, 4203), (505, 0, 27, 0, 4207), (637, 1, 29, 4, 4208), (640, 1, 34, 4, 4219), (1062, 1, 39, 4, 4234)],
  [(9, 1, 49, 2, 4090), (88, 1, 30, 1, 4211), (92, 6, 31, 2, 4214), (38, 7, 32, 2, 4215), (95, 1, 33, 4, 4216)],
  [(67, 1, 52, 2, 4101), (48, 1, 37, 1, 4104), (414, 1, 49, 2, 4107), (71, 1, 41, 2, 4108), (224, 6, 31, 2, 4222), (183, 7, 32, 2, 4223), (228, 1, 35, 4, 4225), (96, 1, 36, 3, 4228), (241, 1, 38, 3, 4231), (244, 1, 40, 4, 4237), (232, 1, 42, 4, 5000), (164, 1, 43, 1, 5003), (157, 1, 44, 1, 5006), (161, 1, 45, 1, 5010)],
  []]
/-- by class: index, (class, place, sort of the field, the word) -/
def m_fld : List (List (Nat × Nat × Nat × Nat × Nat)) := [
  [(78, 8, 1, 0, 1033), (227, 2, 2, 0, 1081), (193, 9, 0, 0, 1098), (141, 9, 1, 2, 1101), (155, 9, 2, 2, 1104), (158, 9, 3, 2, 1106), (102, 9, 4, 0, 1108), (131, 9, 5, 2, 1112), (125, 9, 7, 2, 1118), (128, 9, 8, 2, 1121), (196, 9, 10, 0, 1127), (167, 9, 11, 2, 1130), (170, 9, 12, 2, 1133), (223, 9, 13, 2, 1136), (144, 7, 0, 0, 1227), (122, 7, 1, 2, 1230), (118, 7, 2, 2, 1234), (205, 7, 3, 0, 1238), (208, 7, 4, 0, 2001), (164, 7, 5, 0, 2003), (199, 7, 6, 0, 2005), (202, 7, 7, 0, 2009), (211, 1, 2, 0, 2039), (214, 1, 3, 0, 2041), (281, 4, 0, 3, 2080), (285, 4, 1, 0, 2082), (276, 4, 2, 0, 2084), (278, 4, 3, 0, 2086), (217, 6, 5, 0, 2108), (220, 6, 6, 0, 2110), (354, 6, 7, 0, 2112), (357, 6, 8, 2, 2114), (10, 0, 0, 2, 2134), (21, 0, 1, 2, 2135), (28, 0, 2, 2, 2136), (35, 0, 3, 2, 2137), (39, 0, 4, 2, 2138), (45, 0, 5, 2, 2139), (49, 0, 6, 2, 2140), (53, 0, 7, 2, 2141), (60, 0, 8, 2, 2142), (67, 0, 9, 2, 2143), (74, 0, 10, 2, 2144)],
  [(11, 1, 0, 2, 2036), (33, 1, 1, 0, 2037), (18, 1, 2, 0, 2038), (22, 1, 3, 0, 2040)],
  [(9, 2, 0, 2, 1078), (18, 2, 1, 0, 1079), (22, 2, 2, 0, 1080), (15, 2, 3, 2, 1083), (25, 2, 4, 0, 1084)],
  [(42, 7, 0, 0, 1226), (49, 7, 2, 2, 1233), (12, 3, 0, 2, 2059), (18, 3, 1, 2, 2060), (22, 3, 2, 2, 2061), (25, 3, 3, 2, 2062)],
  [(7, 4, 0, 3, 2079), (13, 4, 1, 0, 2081), (17, 4, 2, 0, 2083), (20, 4, 3, 0, 2085)],
  [(57, 8, 2, 0, 1035), (196, 8, 3, 0, 1038), (181, 8, 5, 1, 1041), (189, 8, 6, 0, 1043), (237, 2, 2, 0, 1082), (115, 9, 0, 0, 1097), (122, 9, 1, 2, 1100), (127, 9, 2, 2, 1103), (132, 9, 4, 0, 1109), (149, 9, 5, 2, 1111), (152, 9, 6, 2, 1115), (157, 9, 7, 2, 1117), (161, 9, 8, 2, 1120), (167, 9, 9, 0, 1124), (170, 9, 10, 0, 1126), (173, 9, 11, 2, 1129), (177, 9, 12, 2, 1132), (210, 9, 13, 2, 1135), (94, 9, 14, 0, 1138), (98, 9, 15, 0, 1140), (102, 9, 16, 0, 1143), (32, 5, 0, 2, 1185), (12, 5, 1, 2, 1186), (39, 5, 2, 0, 1187), (18, 5, 3, 0, 1188), (22, 5, 4, 2, 1189), (26, 5, 5, 2, 1190), (29, 5, 6, 2, 1191), (42, 5, 7, 3, 1192), (46, 5, 8, 3, 1193), (49, 5, 9, 3, 1194)],
  [(9, 6, 0, 2, 2102), (15, 6, 1, 2, 2103), (18, 6, 2, 2, 2104), (22, 6, 3, 2, 2105), (25, 6, 4, 2, 2106), (31, 6, 5, 0, 2107), (35, 6, 6, 0, 2109), (38, 6, 7, 0, 2111), (28, 6, 8, 2, 2113)],
  [(27, 9, 6, 2, 1114), (18, 9, 9, 0, 1122), (42, 9, 16, 0, 1142), (24, 7, 0, 0, 1225), (9, 7, 1, 2, 1229), (15, 7, 2, 2, 1232), (30, 7, 3, 0, 1236), (33, 7, 4, 0, 1239), (36, 7, 5, 0, 2002), (39, 7, 6, 0, 2004), (45, 7, 7, 0, 2007)],
  [(9, 8, 0, 2, 1032), (15, 8, 1, 0, 1034), (32, 8, 2, 0, 1036), (29, 8, 3, 0, 1037), (19, 8, 4, 0, 1039), (39, 8, 5, 1, 1040), (50, 8, 6, 0, 1042)],
  [(52, 9, 0, 0, 1096), (9, 9, 1, 2, 1099), (15, 9, 2, 2, 1102), (18, 9, 3, 2, 1105), (56, 9, 4, 0, 1107), (21, 9, 5, 2, 1110), (24, 9, 6, 2, 1113), (27, 9, 7, 2, 1116), (30, 9, 8, 2, 1119), (59, 9, 9, 0, 1123), (62, 9, 10, 0, 1125), (33, 9, 11, 2, 1128), (36, 9, 12, 2, 1131), (42, 9, 13, 2, 1134), (68, 9, 14, 0, 1137), (71, 9, 15, 0, 1139), (74, 9, 16, 0, 1141), (46, 9, 17, 2, 1144), (49, 9, 18, 2, 1145), (104, 7, 0, 0, 1228), (116, 7, 1, 2, 1231), (109, 7, 2, 2, 1235), (138, 7, 3, 0, 1237), (137, 7, 4, 0, 2000), (155, 7, 6, 0, 2006), (131, 7, 7, 0, 2008)],
  [],
  [],
  [],
  [],
  [],
  [],
  [],
  [],
  [],
  []]
def m_con : List (List (Nat × Int32 × Nat)) := [
  [(349, 100000, 4020)],
  [],
  [],
  [],
  [],
  [],
  [],
  [],
  [],
  [],
  [],
  [],
  [],
  [(110, 55232, 5009), (76, 56320, 5013)],
  [(265, 1431655765, 2227), (266, 858993459, 2228), (267, 252645135, 2229)],
  [],
  [],
  [],
  [(227, 65536, 4224)],
  []]
def m_lcon : List (List (Nat × Int64 × Nat)) := [
  [],
  [],
  [],
  [],
  [],
  [],
  [],
  [],
  [(69, 32, 4193), (71, 97, 4194)],
  [],
  [],
  [(7, 255, 4120), (37, 2305843009213693952, 4136), (35, 48, 4141)],
  [],
  [],
  [],
  [],
  [],
  [],
  [],
  []]
def m_str : List (List (Nat × Nat)) := [
  [],
  [],
  [],
  [],
  [],
  [(60, 1), (126, 3), (130, 4), (69, 5), (135, 6), (155, 7), (160, 8), (164, 9), (165, 10), (74, 11), (176, 12), (180, 13), (79, 14), (240, 15), (242, 16), (244, 17), (202, 18), (219, 19), (221, 20), (223, 21), (229, 22), (231, 23), (88, 24), (96, 25), (100, 26)],
  [],
  [],
  [(53, 0), (67, 2)],
  [],
  [],
  [(43, 27), (53, 28), (58, 29), (60, 30), (62, 31), (64, 32), (66, 33), (68, 34), (70, 35), (72, 36), (74, 37), (76, 38), (78, 39), (80, 40), (82, 41), (84, 42), (86, 43), (88, 44), (90, 45)],
  [],
  [],
  [],
  [],
  [],
  [],
  [],
  []]
def m_cll : List (List (Nat × Nat × Nat)) := [
  [(7, 8, 1026), (16, 5, 1060), (25, 9, 1217), (32, 7, 1219), (42, 1, 2027), (57, 3, 2051), (64, 4, 2073), (71, 6, 2096)],
  [(9, 7, 2033)],
  [],
  [(9, 7, 2057)],
  [],
  [(9, 9, 1066)],
  [],
  [],
  [],
  [(39, 2, 1072)],
  [],
  [(10, 0, 1018)],
  [],
  [],
  [],
  [],
  [],
  [],
  [],
  []]
